/-! ===== RowChildrenModel.generationGoes ===== -/
theorem dX12_generationGoes_0 : decode cX12_generationGoes 0 = .ok (.aload_n 0, 1) := by decide +kernel
theorem dX12_generationGoes_1 : decode cX12_generationGoes 1 = .ok (.getfield 107, 3) := by decide +kernel
theorem dX12_generationGoes_4 : decode cX12_generationGoes 4 = .ok (.bipush 37, 2) := by decide +kernel
theorem dX12_generationGoes_6 : decode cX12_generationGoes 6 = .ok (.dup2, 1) := by decide +kernel
theorem dX12_generationGoes_7 : decode cX12_generationGoes 7 = .ok (.iaload, 1) := by decide +kernel
theorem dX12_generationGoes_8 : decode cX12_generationGoes 8 = .ok (.aload_n 0, 1) := by decide +kernel
theorem dX12_generationGoes_9 : decode cX12_generationGoes 9 = .ok (.invokevirtual 389, 3) := by decide +kernel
theorem dX12_generationGoes_12 : decode cX12_generationGoes 12 = .ok (.iadd, 1) := by decide +kernel
theorem dX12_generationGoes_13 : decode cX12_generationGoes 13 = .ok (.iastore, 1) := by decide +kernel
theorem dX12_generationGoes_14 : decode cX12_generationGoes 14 = .ok (.iconst 0, 1) := by decide +kernel
theorem dX12_generationGoes_15 : decode cX12_generationGoes 15 = .ok (.istore_n 1, 1) := by decide +kernel
theorem dX12_generationGoes_16 : decode cX12_generationGoes 16 = .ok (.iload_n 1, 1) := by decide +kernel
theorem dX12_generationGoes_17 : decode cX12_generationGoes 17 = .ok (.aload_n 0, 1) := by decide +kernel
theorem dX12_generationGoes_18 : decode cX12_generationGoes 18 = .ok (.getfield 55, 3) := by decide +kernel
theorem dX12_generationGoes_21 : decode cX12_generationGoes 21 = .ok (.aload_n 0, 1) := by decide +kernel
theorem dX12_generationGoes_22 : decode cX12_generationGoes 22 = .ok (.getfield 249, 3) := by decide +kernel
theorem dX12_generationGoes_25 : decode cX12_generationGoes 25 = .ok (.iaload, 1) := by decide +kernel
theorem dX12_generationGoes_26 : decode cX12_generationGoes 26 = .ok (.if_icmp .ge 14, 3) := by decide +kernel
theorem dX12_generationGoes_29 : decode cX12_generationGoes 29 = .ok (.aload_n 0, 1) := by decide +kernel
theorem dX12_generationGoes_30 : decode cX12_generationGoes 30 = .ok (.iload_n 1, 1) := by decide +kernel
theorem dX12_generationGoes_31 : decode cX12_generationGoes 31 = .ok (.invokevirtual 392, 3) := by decide +kernel
theorem dX12_generationGoes_34 : decode cX12_generationGoes 34 = .ok (.iinc 1 1, 3) := by decide +kernel
theorem dX12_generationGoes_37 : decode cX12_generationGoes 37 = .ok (.goto (-21), 3) := by decide +kernel
theorem dX12_generationGoes_40 : decode cX12_generationGoes 40 = .ok (.aload_n 0, 1) := by decide +kernel
theorem dX12_generationGoes_41 : decode cX12_generationGoes 41 = .ok (.getfield 107, 3) := by decide +kernel
theorem dX12_generationGoes_44 : decode cX12_generationGoes 44 = .ok (.bipush 36, 2) := by decide +kernel
theorem dX12_generationGoes_46 : decode cX12_generationGoes 46 = .ok (.dup2, 1) := by decide +kernel
theorem dX12_generationGoes_47 : decode cX12_generationGoes 47 = .ok (.iaload, 1) := by decide +kernel
theorem dX12_generationGoes_48 : decode cX12_generationGoes 48 = .ok (.iconst 1, 1) := by decide +kernel
theorem dX12_generationGoes_49 : decode cX12_generationGoes 49 = .ok (.iadd, 1) := by decide +kernel
theorem dX12_generationGoes_50 : decode cX12_generationGoes 50 = .ok (.iastore, 1) := by decide +kernel
theorem dX12_generationGoes_51 : decode cX12_generationGoes 51 = .ok (.return_, 1) := by decide +kernel
def xX12_generationGoes : zX := (RX12, cX12_generationGoes, 2, none, false, { frames := 6, cells := 0, slots := 0, locals := 205 }, 0, 0, 0, 0)
theorem rmX12_generationGoes : z_Rm xX12_generationGoes := by unfold z_Rm xX12_generationGoes; exact ⟨by decide, by decide⟩
theorem reX12_generationGoes : z_Re xX12_generationGoes := ⟨rfl, rfl⟩
theorem rlX12_generationGoes : 1 ≤ xX12_generationGoes.2.2.2.2.2.1.frames ∧ 21 ≤ xX12_generationGoes.2.2.2.2.2.1.locals := by unfold xX12_generationGoes; exact ⟨by decide, by decide⟩
theorem meX12_generationGoes : z_Me yX12_generationGoes xX12_generationGoes 0 := ⟨wd1169, wd893, by decide, by decide, by decide +kernel⟩
theorem fitX12_generationGoes_9 : z_Fit xX12_paysAll xX12_generationGoes := by unfold z_Fit; simp only [xX12_paysAll, xX12_generationGoes]; exact ⟨by decide, by decide⟩
theorem fitX12_generationGoes_31 : z_Fit xX12_grows xX12_generationGoes := by unfold z_Fit; simp only [xX12_grows, xX12_generationGoes]; exact ⟨by decide, by decide⟩
noncomputable def kX12_generationGoes_40 : zK zR := (q_aload 0 (q_getR 12 47 (q_push 36 (q_dup2 (q_iald (q_push 1 (q_iadd (q_iast q_vret))))))))
noncomputable def bX12_generationGoes_16 : zK ((zL × zS) ⊕ zR) := (q_iload 1 (q_aload 0 (q_getR 12 26 (q_aload 0 (q_getI 12 18 (q_iald (q_icmp_ge (q_dn kX12_generationGoes_40) (q_aload 0 (q_iload 1 (q_callV 12 fX12_grows 1 (q_iinc 1 1 q_ag)))))))))))
noncomputable def kX12_generationGoes_16 : zK zR := q_lp (bX12_generationGoes_16)
noncomputable def kX12_generationGoes_0 : zK zR := (q_aload 0 (q_getR 12 47 (q_push 37 (q_dup2 (q_iald (q_aload 0 (q_callV 12 fX12_paysAll 0 (q_iadd (q_iast (q_push 0 (q_istore 1 kX12_generationGoes_16)))))))))))
set_option maxRecDepth 100000 in
theorem tX12_generationGoes_40 {l : Launch} {D : zD} {B sz0 : Nat} {post : Option Value → zS → Prop} : zSnd l D B xX12_generationGoes sz0 post 40 kX12_generationGoes_40 (z_Jr post) := (s_aload_n dX12_generationGoes_40 rfl (s_getR (f := 47) dX12_generationGoes_41 clX12 (by decide) rfl wd901 (s_bipush dX12_generationGoes_44 (by decide) (s_dup2 dX12_generationGoes_46 (s_iald dX12_generationGoes_47 (s_iconst dX12_generationGoes_48 (by decide) (s_iadd dX12_generationGoes_49 (s_iast dX12_generationGoes_50 (s_vret dX12_generationGoes_51 rfl)))))))))
set_option maxRecDepth 100000 in
theorem tX12_generationGoes_16 {l : Launch} {D : zD} {B sz0 : Nat} {post : Option Value → zS → Prop} : zSnd l D B xX12_generationGoes sz0 post 16 kX12_generationGoes_16 (z_Jr post) := s_lp (body := bX12_generationGoes_16) (s_iload_n dX12_generationGoes_16 rfl (s_aload_n dX12_generationGoes_17 rfl (s_getR (f := 26) dX12_generationGoes_18 clX12 (by decide) rfl wd887 (s_aload_n dX12_generationGoes_21 rfl (s_getI (f := 18) dX12_generationGoes_22 clX12 (by decide) rfl wd899 (s_iald dX12_generationGoes_25 (s_icmp_ge (tgt := 40) dX12_generationGoes_26 (by decide) (s_dn tX12_generationGoes_40) (s_aload_n dX12_generationGoes_29 rfl (s_iload_n dX12_generationGoes_30 rfl (s_callV (r := (RX12, TX12, 74)) dX12_generationGoes_31 mX12_grows meX12_grows wd1166 wd1167 rfl rfl reX12_grows rmX12_generationGoes (fitX12_generationGoes_31) wd1168 (s_iinc dX12_generationGoes_34 (by decide) (s_goto (tgt := 16) dX12_generationGoes_37 (by decide) s_ag))))))))))))
set_option maxRecDepth 100000 in
theorem tX12_generationGoes_0 {l : Launch} {D : zD} {B sz0 : Nat} {post : Option Value → zS → Prop} : zSnd l D B xX12_generationGoes sz0 post 0 kX12_generationGoes_0 (z_Jr post) := (s_aload_n dX12_generationGoes_0 rfl (s_getR (f := 47) dX12_generationGoes_1 clX12 (by decide) rfl wd901 (s_bipush dX12_generationGoes_4 (by decide) (s_dup2 dX12_generationGoes_6 (s_iald dX12_generationGoes_7 (s_aload_n dX12_generationGoes_8 rfl (s_callV (r := (RX12, TX12, 74)) dX12_generationGoes_9 mX12_paysAll meX12_paysAll wd1163 wd1164 rfl rfl reX12_paysAll rmX12_generationGoes (fitX12_generationGoes_9) wd1165 (s_iadd dX12_generationGoes_12 (s_iast dX12_generationGoes_13 (s_iconst dX12_generationGoes_14 (by decide) (s_istore_n dX12_generationGoes_15 rfl tX12_generationGoes_16)))))))))))
noncomputable def fX12_generationGoes : zF := z_fn 2 kX12_generationGoes_0
theorem mX12_generationGoes {l : Launch} {D : zD} {B : Nat} : z_MF l D B yX12_generationGoes xX12_generationGoes fX12_generationGoes := z_mf (by decide) rfl (fun h => by cases h) rfl (fun as σ r h => ⟨z_fn_len h, kX12_generationGoes_0, z_fn_run h, fun _ => tX12_generationGoes_0⟩)
/-! ===== RowChildrenModel.goes ===== -/
theorem dX12_goes_0 : decode cX12_goes 0 = .ok (.iconst 0, 1) := by decide +kernel
theorem dX12_goes_1 : decode cX12_goes 1 = .ok (.istore_n 2, 1) := by decide +kernel
theorem dX12_goes_2 : decode cX12_goes 2 = .ok (.iload_n 2, 1) := by decide +kernel
theorem dX12_goes_3 : decode cX12_goes 3 = .ok (.iload_n 1, 1) := by decide +kernel
theorem dX12_goes_4 : decode cX12_goes 4 = .ok (.if_icmp .ge 13, 3) := by decide +kernel
theorem dX12_goes_7 : decode cX12_goes 7 = .ok (.aload_n 0, 1) := by decide +kernel
theorem dX12_goes_8 : decode cX12_goes 8 = .ok (.invokevirtual 395, 3) := by decide +kernel
theorem dX12_goes_11 : decode cX12_goes 11 = .ok (.iinc 2 1, 3) := by decide +kernel
theorem dX12_goes_14 : decode cX12_goes 14 = .ok (.goto (-12), 3) := by decide +kernel
theorem dX12_goes_17 : decode cX12_goes 17 = .ok (.return_, 1) := by decide +kernel
def xX12_goes : zX := (RX12, cX12_goes, 3, none, false, { frames := 7, cells := 0, slots := 0, locals := 226 }, 0, 0, 0, 0)
theorem rmX12_goes : z_Rm xX12_goes := by unfold z_Rm xX12_goes; exact ⟨by decide, by decide⟩
theorem reX12_goes : z_Re xX12_goes := ⟨rfl, rfl⟩
theorem rlX12_goes : 1 ≤ xX12_goes.2.2.2.2.2.1.frames ∧ 21 ≤ xX12_goes.2.2.2.2.2.1.locals := by unfold xX12_goes; exact ⟨by decide, by decide⟩
theorem meX12_goes : z_Me yX12_goes xX12_goes 1 := ⟨wd1173, wd893, by decide, by decide, by decide +kernel⟩
theorem fitX12_goes_8 : z_Fit xX12_generationGoes xX12_goes := by unfold z_Fit; simp only [xX12_generationGoes, xX12_goes]; exact ⟨by decide, by decide⟩
noncomputable def kX12_goes_17 : zK zR := q_vret
noncomputable def bX12_goes_2 : zK ((zL × zS) ⊕ zR) := (q_iload 2 (q_iload 1 (q_icmp_ge (q_dn kX12_goes_17) (q_aload 0 (q_callV 12 fX12_generationGoes 0 (q_iinc 2 1 q_ag))))))
noncomputable def kX12_goes_2 : zK zR := q_lp (bX12_goes_2)
noncomputable def kX12_goes_0 : zK zR := (q_push 0 (q_istore 2 kX12_goes_2))
set_option maxRecDepth 100000 in
theorem tX12_goes_17 {l : Launch} {D : zD} {B sz0 : Nat} {post : Option Value → zS → Prop} : zSnd l D B xX12_goes sz0 post 17 kX12_goes_17 (z_Jr post) := (s_vret dX12_goes_17 rfl)
set_option maxRecDepth 100000 in
theorem tX12_goes_2 {l : Launch} {D : zD} {B sz0 : Nat} {post : Option Value → zS → Prop} : zSnd l D B xX12_goes sz0 post 2 kX12_goes_2 (z_Jr post) := s_lp (body := bX12_goes_2) (s_iload_n dX12_goes_2 rfl (s_iload_n dX12_goes_3 rfl (s_icmp_ge (tgt := 17) dX12_goes_4 (by decide) (s_dn tX12_goes_17) (s_aload_n dX12_goes_7 rfl (s_callV (r := (RX12, TX12, 74)) dX12_goes_8 mX12_generationGoes meX12_generationGoes wd1170 wd1171 rfl rfl reX12_generationGoes rmX12_goes (fitX12_goes_8) wd1172 (s_iinc dX12_goes_11 (by decide) (s_goto (tgt := 2) dX12_goes_14 (by decide) s_ag)))))))
set_option maxRecDepth 100000 in
theorem tX12_goes_0 {l : Launch} {D : zD} {B sz0 : Nat} {post : Option Value → zS → Prop} : zSnd l D B xX12_goes sz0 post 0 kX12_goes_0 (z_Jr post) := (s_iconst dX12_goes_0 (by decide) (s_istore_n dX12_goes_1 rfl tX12_goes_2))
noncomputable def fX12_goes : zF := z_fn 3 kX12_goes_0
theorem mX12_goes {l : Launch} {D : zD} {B : Nat} : z_MF l D B yX12_goes xX12_goes fX12_goes := z_mf (by decide) rfl (fun h => by cases h) rfl (fun as σ r h => ⟨z_fn_len h, kX12_goes_0, z_fn_run h, fun _ => tX12_goes_0⟩)
/-! ===== RowChildrenModel.child ===== -/
theorem dX12_child_0 : decode cX12_child 0 = .ok (.aload_n 0, 1) := by decide +kernel
theorem dX12_child_1 : decode cX12_child 1 = .ok (.iload_n 1, 1) := by decide +kernel
theorem dX12_child_2 : decode cX12_child 2 = .ok (.invokevirtual 398, 3) := by decide +kernel
theorem dX12_child_5 : decode cX12_child 5 = .ok (.ifCond .eq 20, 3) := by decide +kernel
theorem dX12_child_8 : decode cX12_child 8 = .ok (.aload_n 0, 1) := by decide +kernel
theorem dX12_child_9 : decode cX12_child 9 = .ok (.iload_n 2, 1) := by decide +kernel
theorem dX12_child_10 : decode cX12_child 10 = .ok (.invokevirtual 398, 3) := by decide +kernel
theorem dX12_child_13 : decode cX12_child 13 = .ok (.ifCond .eq 12, 3) := by decide +kernel
theorem dX12_child_16 : decode cX12_child 16 = .ok (.aload_n 0, 1) := by decide +kernel
theorem dX12_child_17 : decode cX12_child 17 = .ok (.iload_n 1, 1) := by decide +kernel
theorem dX12_child_18 : decode cX12_child 18 = .ok (.iload_n 2, 1) := by decide +kernel
theorem dX12_child_19 : decode cX12_child 19 = .ok (.invokevirtual 346, 3) := by decide +kernel
theorem dX12_child_22 : decode cX12_child 22 = .ok (.goto 4, 3) := by decide +kernel
theorem dX12_child_25 : decode cX12_child 25 = .ok (.iconst (-1), 1) := by decide +kernel
theorem dX12_child_26 : decode cX12_child 26 = .ok (.ireturn, 1) := by decide +kernel
def xX12_child : zX := (RX12, cX12_child, 3, (some .int), false, { frames := 3, cells := 0, slots := 0, locals := 133 }, 0, 0, 0, 0)
theorem rmX12_child : z_Rm xX12_child := by unfold z_Rm xX12_child; exact ⟨by decide, by decide⟩
theorem reX12_child : z_Re xX12_child := ⟨rfl, rfl⟩
theorem rlX12_child : 1 ≤ xX12_child.2.2.2.2.2.1.frames ∧ 21 ≤ xX12_child.2.2.2.2.2.1.locals := by unfold xX12_child; exact ⟨by decide, by decide⟩
theorem meX12_child : z_Me yX12_child xX12_child 2 := ⟨wd1177, wd893, by decide, by decide, by decide +kernel⟩
theorem fitX12_child_2 : z_Fit xX12_isColour xX12_child := by unfold z_Fit; simp only [xX12_isColour, xX12_child]; exact ⟨by decide, by decide⟩
theorem fitX12_child_10 : z_Fit xX12_isColour xX12_child := by unfold z_Fit; simp only [xX12_isColour, xX12_child]; exact ⟨by decide, by decide⟩
theorem fitX12_child_19 : z_Fit xX12_childOf xX12_child := by unfold z_Fit; simp only [xX12_childOf, xX12_child]; exact ⟨by decide, by decide⟩
noncomputable def kX12_child_26 : zK zR := q_iret
noncomputable def kX12_child_25 : zK zR := (q_push (-1) kX12_child_26)
noncomputable def kX12_child_0 : zK zR := (q_aload 0 (q_iload 1 (q_callV 12 fX12_isColour 1 (q_if_eq kX12_child_25 (q_aload 0 (q_iload 2 (q_callV 12 fX12_isColour 1 (q_if_eq kX12_child_25 (q_aload 0 (q_iload 1 (q_iload 2 (q_callV 12 fX12_childOf 2 kX12_child_26))))))))))))
set_option maxRecDepth 100000 in
theorem tX12_child_26 {l : Launch} {D : zD} {B sz0 : Nat} {post : Option Value → zS → Prop} : zSnd l D B xX12_child sz0 post 26 kX12_child_26 (z_Jr post) := (s_iret dX12_child_26 rfl)
set_option maxRecDepth 100000 in
theorem tX12_child_25 {l : Launch} {D : zD} {B sz0 : Nat} {post : Option Value → zS → Prop} : zSnd l D B xX12_child sz0 post 25 kX12_child_25 (z_Jr post) := (s_iconst dX12_child_25 (by decide) tX12_child_26)
set_option maxRecDepth 100000 in
theorem tX12_child_0 {l : Launch} {D : zD} {B sz0 : Nat} {post : Option Value → zS → Prop} : zSnd l D B xX12_child sz0 post 0 kX12_child_0 (z_Jr post) := (s_aload_n dX12_child_0 rfl (s_iload_n dX12_child_1 rfl (s_callV (r := (RX12, TX12, 74)) dX12_child_2 mX12_isColour meX12_isColour wd1174 wd1175 rfl rfl reX12_isColour rmX12_child (fitX12_child_2) wd1176 (s_if_eq (tgt := 25) dX12_child_5 (by decide) tX12_child_25 (s_aload_n dX12_child_8 rfl (s_iload_n dX12_child_9 rfl (s_callV (r := (RX12, TX12, 74)) dX12_child_10 mX12_isColour meX12_isColour wd1174 wd1175 rfl rfl reX12_isColour rmX12_child (fitX12_child_10) wd1176 (s_if_eq (tgt := 25) dX12_child_13 (by decide) tX12_child_25 (s_aload_n dX12_child_16 rfl (s_iload_n dX12_child_17 rfl (s_iload_n dX12_child_18 rfl (s_callV (r := (RX12, TX12, 74)) dX12_child_19 mX12_childOf meX12_childOf wd1102 wd1103 rfl rfl reX12_childOf rmX12_child (fitX12_child_19) wd1104 (s_goto (tgt := 26) dX12_child_22 (by decide) tX12_child_26)))))))))))))
noncomputable def fX12_child : zF := z_fn 3 kX12_child_0
theorem mX12_child {l : Launch} {D : zD} {B : Nat} : z_MF l D B yX12_child xX12_child fX12_child := z_mf (by decide) rfl (fun h => by cases h) rfl (fun as σ r h => ⟨z_fn_len h, kX12_child_0, z_fn_run h, fun _ => tX12_child_0⟩)
/-! ===== RowChildrenModel.row ===== -/
theorem dX12_row_0 : decode cX12_row 0 = .ok (.aload_n 0, 1) := by decide +kernel
theorem dX12_row_1 : decode cX12_row 1 = .ok (.iload_n 1, 1) := by decide +kernel
theorem dX12_row_2 : decode cX12_row 2 = .ok (.invokevirtual 330, 3) := by decide +kernel
theorem dX12_row_5 : decode cX12_row 5 = .ok (.ifCond .ne 5, 3) := by decide +kernel
theorem dX12_row_8 : decode cX12_row 8 = .ok (.iconst (-1), 1) := by decide +kernel
theorem dX12_row_9 : decode cX12_row 9 = .ok (.ireturn, 1) := by decide +kernel
theorem dX12_row_10 : decode cX12_row 10 = .ok (.aload_n 0, 1) := by decide +kernel
theorem dX12_row_11 : decode cX12_row 11 = .ok (.invokevirtual 401, 3) := by decide +kernel
theorem dX12_row_14 : decode cX12_row 14 = .ok (.aload_n 0, 1) := by decide +kernel
theorem dX12_row_15 : decode cX12_row 15 = .ok (.iload_n 1, 1) := by decide +kernel
theorem dX12_row_16 : decode cX12_row 16 = .ok (.invokevirtual 380, 3) := by decide +kernel
theorem dX12_row_19 : decode cX12_row 19 = .ok (.iload_n 2, 1) := by decide +kernel
theorem dX12_row_20 : decode cX12_row 20 = .ok (.tableswitch 99 0 6 #[44, 51, 56, 61, 67, 80, 93], 44) := by decide +kernel
theorem dX12_row_64 : decode cX12_row 64 = .ok (.aload_n 0, 1) := by decide +kernel
theorem dX12_row_65 : decode cX12_row 65 = .ok (.getfield 107, 3) := by decide +kernel
theorem dX12_row_68 : decode cX12_row 68 = .ok (.iload_n 1, 1) := by decide +kernel
theorem dX12_row_69 : decode cX12_row 69 = .ok (.iaload, 1) := by decide +kernel
theorem dX12_row_70 : decode cX12_row 70 = .ok (.ireturn, 1) := by decide +kernel
theorem dX12_row_71 : decode cX12_row 71 = .ok (.aload_n 0, 1) := by decide +kernel
theorem dX12_row_72 : decode cX12_row 72 = .ok (.invokevirtual 404, 3) := by decide +kernel
theorem dX12_row_75 : decode cX12_row 75 = .ok (.ireturn, 1) := by decide +kernel
theorem dX12_row_76 : decode cX12_row 76 = .ok (.aload_n 0, 1) := by decide +kernel
theorem dX12_row_77 : decode cX12_row 77 = .ok (.invokevirtual 407, 3) := by decide +kernel
theorem dX12_row_80 : decode cX12_row 80 = .ok (.ireturn, 1) := by decide +kernel
theorem dX12_row_81 : decode cX12_row 81 = .ok (.aload_n 0, 1) := by decide +kernel
theorem dX12_row_82 : decode cX12_row 82 = .ok (.iload_n 1, 1) := by decide +kernel
theorem dX12_row_83 : decode cX12_row 83 = .ok (.invokevirtual 377, 3) := by decide +kernel
theorem dX12_row_86 : decode cX12_row 86 = .ok (.ireturn, 1) := by decide +kernel
theorem dX12_row_87 : decode cX12_row 87 = .ok (.aload_n 0, 1) := by decide +kernel
theorem dX12_row_88 : decode cX12_row 88 = .ok (.invokevirtual 410, 3) := by decide +kernel
theorem dX12_row_91 : decode cX12_row 91 = .ok (.ifCond .eq 7, 3) := by decide +kernel
theorem dX12_row_94 : decode cX12_row 94 = .ok (.iconst 1, 1) := by decide +kernel
theorem dX12_row_95 : decode cX12_row 95 = .ok (.goto 4, 3) := by decide +kernel
theorem dX12_row_98 : decode cX12_row 98 = .ok (.iconst 0, 1) := by decide +kernel
theorem dX12_row_99 : decode cX12_row 99 = .ok (.ireturn, 1) := by decide +kernel
theorem dX12_row_100 : decode cX12_row 100 = .ok (.aload_n 0, 1) := by decide +kernel
theorem dX12_row_101 : decode cX12_row 101 = .ok (.invokevirtual 414, 3) := by decide +kernel
theorem dX12_row_104 : decode cX12_row 104 = .ok (.ifCond .eq 7, 3) := by decide +kernel
theorem dX12_row_107 : decode cX12_row 107 = .ok (.iconst 1, 1) := by decide +kernel
theorem dX12_row_108 : decode cX12_row 108 = .ok (.goto 4, 3) := by decide +kernel
theorem dX12_row_111 : decode cX12_row 111 = .ok (.iconst 0, 1) := by decide +kernel
theorem dX12_row_112 : decode cX12_row 112 = .ok (.ireturn, 1) := by decide +kernel
theorem dX12_row_113 : decode cX12_row 113 = .ok (.aload_n 0, 1) := by decide +kernel
theorem dX12_row_114 : decode cX12_row 114 = .ok (.iload_n 1, 1) := by decide +kernel
theorem dX12_row_115 : decode cX12_row 115 = .ok (.invokevirtual 417, 3) := by decide +kernel
theorem dX12_row_118 : decode cX12_row 118 = .ok (.ireturn, 1) := by decide +kernel
theorem dX12_row_119 : decode cX12_row 119 = .ok (.iconst (-1), 1) := by decide +kernel
theorem dX12_row_120 : decode cX12_row 120 = .ok (.ireturn, 1) := by decide +kernel
def xX12_row : zX := (RX12, cX12_row, 3, (some .int), false, { frames := 6, cells := 0, slots := 0, locals := 207 }, 0, 0, 0, 0)
theorem rmX12_row : z_Rm xX12_row := by unfold z_Rm xX12_row; exact ⟨by decide, by decide⟩
theorem reX12_row : z_Re xX12_row := ⟨rfl, rfl⟩
theorem rlX12_row : 1 ≤ xX12_row.2.2.2.2.2.1.frames ∧ 21 ≤ xX12_row.2.2.2.2.2.1.locals := by unfold xX12_row; exact ⟨by decide, by decide⟩
theorem meX12_row : z_Me yX12_row xX12_row 2 := ⟨wd1196, wd893, by decide, by decide, by decide +kernel⟩
theorem fitX12_row_2 : z_Fit xX12_isRow xX12_row := by unfold z_Fit; simp only [xX12_isRow, xX12_row]; exact ⟨by decide, by decide⟩
theorem fitX12_row_11 : z_Fit xX12_copies xX12_row := by unfold z_Fit; simp only [xX12_copies, xX12_row]; exact ⟨by decide, by decide⟩
theorem fitX12_row_16 : z_Fit xX12_laysRow xX12_row := by unfold z_Fit; simp only [xX12_laysRow, xX12_row]; exact ⟨by decide, by decide⟩
theorem fitX12_row_72 : z_Fit xX12_numberLaid xX12_row := by unfold z_Fit; simp only [xX12_numberLaid, xX12_row]; exact ⟨by decide, by decide⟩
theorem fitX12_row_77 : z_Fit xX12_lastLaid xX12_row := by unfold z_Fit; simp only [xX12_lastLaid, xX12_row]; exact ⟨by decide, by decide⟩
theorem fitX12_row_83 : z_Fit xX12_paysOf xX12_row := by unfold z_Fit; simp only [xX12_paysOf, xX12_row]; exact ⟨by decide, by decide⟩
theorem fitX12_row_88 : z_Fit xX12_isFair xX12_row := by unfold z_Fit; simp only [xX12_isFair, xX12_row]; exact ⟨by decide, by decide⟩
theorem fitX12_row_101 : z_Fit xX12_isTurned xX12_row := by unfold z_Fit; simp only [xX12_isTurned, xX12_row]; exact ⟨by decide, by decide⟩
theorem fitX12_row_115 : z_Fit xX12_worthAll xX12_row := by unfold z_Fit; simp only [xX12_worthAll, xX12_row]; exact ⟨by decide, by decide⟩
noncomputable def kX12_row_99 : zK zR := q_iret
noncomputable def kX12_row_112 : zK zR := q_iret
noncomputable def kX12_row_0 : zK zR := (q_aload 0 (q_iload 1 (q_callV 12 fX12_isRow 1 (q_if_ne (q_aload 0 (q_callV 12 fX12_copies 0 (q_aload 0 (q_iload 1 (q_callV 12 fX12_laysRow 1 (q_iload 2 (q_sw 0 [(q_aload 0 (q_getR 12 47 (q_iload 1 (q_iald q_iret)))), (q_aload 0 (q_callV 12 fX12_numberLaid 0 q_iret)), (q_aload 0 (q_callV 12 fX12_lastLaid 0 q_iret)), (q_aload 0 (q_iload 1 (q_callV 12 fX12_paysOf 1 q_iret))), (q_aload 0 (q_callV 12 fX12_isFair 0 (q_if_eq (q_push 0 kX12_row_99) (q_push 1 kX12_row_99)))), (q_aload 0 (q_callV 12 fX12_isTurned 0 (q_if_eq (q_push 0 kX12_row_112) (q_push 1 kX12_row_112)))), (q_aload 0 (q_iload 1 (q_callV 12 fX12_worthAll 1 q_iret)))] (q_push (-1) q_iret)))))))) (q_push (-1) q_iret)))))
set_option maxRecDepth 100000 in
theorem tX12_row_99 {l : Launch} {D : zD} {B sz0 : Nat} {post : Option Value → zS → Prop} : zSnd l D B xX12_row sz0 post 99 kX12_row_99 (z_Jr post) := (s_iret dX12_row_99 rfl)
set_option maxRecDepth 100000 in
theorem tX12_row_112 {l : Launch} {D : zD} {B sz0 : Nat} {post : Option Value → zS → Prop} : zSnd l D B xX12_row sz0 post 112 kX12_row_112 (z_Jr post) := (s_iret dX12_row_112 rfl)
set_option maxRecDepth 100000 in
theorem tX12_row_0 {l : Launch} {D : zD} {B sz0 : Nat} {post : Option Value → zS → Prop} : zSnd l D B xX12_row sz0 post 0 kX12_row_0 (z_Jr post) := (s_aload_n dX12_row_0 rfl (s_iload_n dX12_row_1 rfl (s_callV (r := (RX12, TX12, 74)) dX12_row_2 mX12_isRow meX12_isRow wd1087 wd1088 rfl rfl reX12_isRow rmX12_row (fitX12_row_2) wd1089 (s_if_ne (tgt := 10) dX12_row_5 (by decide) (s_aload_n dX12_row_10 rfl (s_callV (r := (RX12, TX12, 74)) dX12_row_11 mX12_copies meX12_copies wd1178 wd1179 rfl rfl reX12_copies rmX12_row (fitX12_row_11) wd1180 (s_aload_n dX12_row_14 rfl (s_iload_n dX12_row_15 rfl (s_callV (r := (RX12, TX12, 74)) dX12_row_16 mX12_laysRow meX12_laysRow wd1153 wd1154 rfl rfl reX12_laysRow rmX12_row (fitX12_row_16) wd1155 (s_iload_n dX12_row_19 rfl (s_swL (tgts := [64, 71, 76, 81, 87, 100, 113]) (td := 119) dX12_row_20 (by decide) (by decide) (by decide) ⟨(s_aload_n dX12_row_64 rfl (s_getR (f := 47) dX12_row_65 clX12 (by decide) rfl wd901 (s_iload_n dX12_row_68 rfl (s_iald dX12_row_69 (s_iret dX12_row_70 rfl))))), ⟨(s_aload_n dX12_row_71 rfl (s_callV (r := (RX12, TX12, 74)) dX12_row_72 mX12_numberLaid meX12_numberLaid wd1181 wd1182 rfl rfl reX12_numberLaid rmX12_row (fitX12_row_72) wd1183 (s_iret dX12_row_75 rfl))), ⟨(s_aload_n dX12_row_76 rfl (s_callV (r := (RX12, TX12, 74)) dX12_row_77 mX12_lastLaid meX12_lastLaid wd1184 wd1185 rfl rfl reX12_lastLaid rmX12_row (fitX12_row_77) wd1186 (s_iret dX12_row_80 rfl))), ⟨(s_aload_n dX12_row_81 rfl (s_iload_n dX12_row_82 rfl (s_callV (r := (RX12, TX12, 74)) dX12_row_83 mX12_paysOf meX12_paysOf wd1149 wd1150 rfl rfl reX12_paysOf rmX12_row (fitX12_row_83) wd1151 (s_iret dX12_row_86 rfl)))), ⟨(s_aload_n dX12_row_87 rfl (s_callV (r := (RX12, TX12, 74)) dX12_row_88 mX12_isFair meX12_isFair wd1187 wd1188 rfl rfl reX12_isFair rmX12_row (fitX12_row_88) wd1189 (s_if_eq (tgt := 98) dX12_row_91 (by decide) (s_iconst dX12_row_98 (by decide) tX12_row_99) (s_iconst dX12_row_94 (by decide) (s_goto (tgt := 99) dX12_row_95 (by decide) tX12_row_99))))), ⟨(s_aload_n dX12_row_100 rfl (s_callV (r := (RX12, TX12, 74)) dX12_row_101 mX12_isTurned meX12_isTurned wd1190 wd1191 rfl rfl reX12_isTurned rmX12_row (fitX12_row_101) wd1192 (s_if_eq (tgt := 111) dX12_row_104 (by decide) (s_iconst dX12_row_111 (by decide) tX12_row_112) (s_iconst dX12_row_107 (by decide) (s_goto (tgt := 112) dX12_row_108 (by decide) tX12_row_112))))), ⟨(s_aload_n dX12_row_113 rfl (s_iload_n dX12_row_114 rfl (s_callV (r := (RX12, TX12, 74)) dX12_row_115 mX12_worthAll meX12_worthAll wd1193 wd1194 rfl rfl reX12_worthAll rmX12_row (fitX12_row_115) wd1195 (s_iret dX12_row_118 rfl)))), True.intro⟩⟩⟩⟩⟩⟩⟩ (s_iconst dX12_row_119 (by decide) (s_iret dX12_row_120 rfl))))))))) (s_iconst dX12_row_8 (by decide) (s_iret dX12_row_9 rfl))))))
noncomputable def fX12_row : zF := z_fn 3 kX12_row_0
theorem mX12_row {l : Launch} {D : zD} {B : Nat} : z_MF l D B yX12_row xX12_row fX12_row := z_mf (by decide) rfl (fun h => by cases h) rfl (fun as σ r h => ⟨z_fn_len h, kX12_row_0, z_fn_run h, fun _ => tX12_row_0⟩)
/-! ===== RowChildrenModel.at ===== -/
theorem dX12_at_0 : decode cX12_at 0 = .ok (.aload_n 0, 1) := by decide +kernel
theorem dX12_at_1 : decode cX12_at 1 = .ok (.iload_n 1, 1) := by decide +kernel
theorem dX12_at_2 : decode cX12_at 2 = .ok (.invokevirtual 330, 3) := by decide +kernel
theorem dX12_at_5 : decode cX12_at 5 = .ok (.ifCond .ne 5, 3) := by decide +kernel
theorem dX12_at_8 : decode cX12_at 8 = .ok (.iconst (-1), 1) := by decide +kernel
theorem dX12_at_9 : decode cX12_at 9 = .ok (.ireturn, 1) := by decide +kernel
theorem dX12_at_10 : decode cX12_at 10 = .ok (.aload_n 0, 1) := by decide +kernel
theorem dX12_at_11 : decode cX12_at 11 = .ok (.invokevirtual 401, 3) := by decide +kernel
theorem dX12_at_14 : decode cX12_at 14 = .ok (.aload_n 0, 1) := by decide +kernel
theorem dX12_at_15 : decode cX12_at 15 = .ok (.iload_n 1, 1) := by decide +kernel
theorem dX12_at_16 : decode cX12_at 16 = .ok (.invokevirtual 380, 3) := by decide +kernel
theorem dX12_at_19 : decode cX12_at 19 = .ok (.aload_n 0, 1) := by decide +kernel
theorem dX12_at_20 : decode cX12_at 20 = .ok (.iload_n 2, 1) := by decide +kernel
theorem dX12_at_21 : decode cX12_at 21 = .ok (.iload_n 3, 1) := by decide +kernel
theorem dX12_at_22 : decode cX12_at 22 = .ok (.invokevirtual 420, 3) := by decide +kernel
theorem dX12_at_25 : decode cX12_at 25 = .ok (.ifCond .eq 12, 3) := by decide +kernel
theorem dX12_at_28 : decode cX12_at 28 = .ok (.aload_n 0, 1) := by decide +kernel
theorem dX12_at_29 : decode cX12_at 29 = .ok (.iload_n 2, 1) := by decide +kernel
theorem dX12_at_30 : decode cX12_at 30 = .ok (.iload_n 3, 1) := by decide +kernel
theorem dX12_at_31 : decode cX12_at 31 = .ok (.invokevirtual 343, 3) := by decide +kernel
theorem dX12_at_34 : decode cX12_at 34 = .ok (.goto 4, 3) := by decide +kernel
theorem dX12_at_37 : decode cX12_at 37 = .ok (.iconst (-1), 1) := by decide +kernel
theorem dX12_at_38 : decode cX12_at 38 = .ok (.ireturn, 1) := by decide +kernel
def xX12_at : zX := (RX12, cX12_at, 4, (some .int), false, { frames := 5, cells := 0, slots := 0, locals := 177 }, 0, 0, 0, 0)
theorem rmX12_at : z_Rm xX12_at := by unfold z_Rm xX12_at; exact ⟨by decide, by decide⟩
theorem reX12_at : z_Re xX12_at := ⟨rfl, rfl⟩
theorem rlX12_at : 1 ≤ xX12_at.2.2.2.2.2.1.frames ∧ 21 ≤ xX12_at.2.2.2.2.2.1.locals := by unfold xX12_at; exact ⟨by decide, by decide⟩
theorem meX12_at : z_Me yX12_at xX12_at 3 := ⟨wd1200, wd893, by decide, by decide, by decide +kernel⟩
theorem fitX12_at_2 : z_Fit xX12_isRow xX12_at := by unfold z_Fit; simp only [xX12_isRow, xX12_at]; exact ⟨by decide, by decide⟩
theorem fitX12_at_11 : z_Fit xX12_copies xX12_at := by unfold z_Fit; simp only [xX12_copies, xX12_at]; exact ⟨by decide, by decide⟩
theorem fitX12_at_16 : z_Fit xX12_laysRow xX12_at := by unfold z_Fit; simp only [xX12_laysRow, xX12_at]; exact ⟨by decide, by decide⟩
theorem fitX12_at_22 : z_Fit xX12_isInside xX12_at := by unfold z_Fit; simp only [xX12_isInside, xX12_at]; exact ⟨by decide, by decide⟩
theorem fitX12_at_31 : z_Fit xX12_laidAt xX12_at := by unfold z_Fit; simp only [xX12_laidAt, xX12_at]; exact ⟨by decide, by decide⟩
noncomputable def kX12_at_38 : zK zR := q_iret
noncomputable def kX12_at_0 : zK zR := (q_aload 0 (q_iload 1 (q_callV 12 fX12_isRow 1 (q_if_ne (q_aload 0 (q_callV 12 fX12_copies 0 (q_aload 0 (q_iload 1 (q_callV 12 fX12_laysRow 1 (q_aload 0 (q_iload 2 (q_iload 3 (q_callV 12 fX12_isInside 2 (q_if_eq (q_push (-1) kX12_at_38) (q_aload 0 (q_iload 2 (q_iload 3 (q_callV 12 fX12_laidAt 2 kX12_at_38)))))))))))))) (q_push (-1) q_iret)))))
set_option maxRecDepth 100000 in
theorem tX12_at_38 {l : Launch} {D : zD} {B sz0 : Nat} {post : Option Value → zS → Prop} : zSnd l D B xX12_at sz0 post 38 kX12_at_38 (z_Jr post) := (s_iret dX12_at_38 rfl)
set_option maxRecDepth 100000 in
theorem tX12_at_0 {l : Launch} {D : zD} {B sz0 : Nat} {post : Option Value → zS → Prop} : zSnd l D B xX12_at sz0 post 0 kX12_at_0 (z_Jr post) := (s_aload_n dX12_at_0 rfl (s_iload_n dX12_at_1 rfl (s_callV (r := (RX12, TX12, 74)) dX12_at_2 mX12_isRow meX12_isRow wd1087 wd1088 rfl rfl reX12_isRow rmX12_at (fitX12_at_2) wd1089 (s_if_ne (tgt := 10) dX12_at_5 (by decide) (s_aload_n dX12_at_10 rfl (s_callV (r := (RX12, TX12, 74)) dX12_at_11 mX12_copies meX12_copies wd1178 wd1179 rfl rfl reX12_copies rmX12_at (fitX12_at_11) wd1180 (s_aload_n dX12_at_14 rfl (s_iload_n dX12_at_15 rfl (s_callV (r := (RX12, TX12, 74)) dX12_at_16 mX12_laysRow meX12_laysRow wd1153 wd1154 rfl rfl reX12_laysRow rmX12_at (fitX12_at_16) wd1155 (s_aload_n dX12_at_19 rfl (s_iload_n dX12_at_20 rfl (s_iload_n dX12_at_21 rfl (s_callV (r := (RX12, TX12, 74)) dX12_at_22 mX12_isInside meX12_isInside wd1197 wd1198 rfl rfl reX12_isInside rmX12_at (fitX12_at_22) wd1199 (s_if_eq (tgt := 37) dX12_at_25 (by decide) (s_iconst dX12_at_37 (by decide) tX12_at_38) (s_aload_n dX12_at_28 rfl (s_iload_n dX12_at_29 rfl (s_iload_n dX12_at_30 rfl (s_callV (r := (RX12, TX12, 74)) dX12_at_31 mX12_laidAt meX12_laidAt wd1099 wd1100 rfl rfl reX12_laidAt rmX12_at (fitX12_at_31) wd1101 (s_goto (tgt := 38) dX12_at_34 (by decide) tX12_at_38))))))))))))))) (s_iconst dX12_at_8 (by decide) (s_iret dX12_at_9 rfl))))))
noncomputable def fX12_at : zF := z_fn 4 kX12_at_0
theorem mX12_at {l : Launch} {D : zD} {B : Nat} : z_MF l D B yX12_at xX12_at fX12_at := z_mf (by decide) rfl (fun h => by cases h) rfl (fun as σ r h => ⟨z_fn_len h, kX12_at_0, z_fn_run h, fun _ => tX12_at_0⟩)
/-! ===== RowChildrenModel.worth ===== -/
theorem dX12_worth_0 : decode cX12_worth 0 = .ok (.aload_n 0, 1) := by decide +kernel
theorem dX12_worth_1 : decode cX12_worth 1 = .ok (.iload_n 1, 1) := by decide +kernel
theorem dX12_worth_2 : decode cX12_worth 2 = .ok (.invokevirtual 330, 3) := by decide +kernel
theorem dX12_worth_5 : decode cX12_worth 5 = .ok (.ifCond .ne 5, 3) := by decide +kernel
theorem dX12_worth_8 : decode cX12_worth 8 = .ok (.iconst (-1), 1) := by decide +kernel
theorem dX12_worth_9 : decode cX12_worth 9 = .ok (.ireturn, 1) := by decide +kernel
theorem dX12_worth_10 : decode cX12_worth 10 = .ok (.aload_n 0, 1) := by decide +kernel
theorem dX12_worth_11 : decode cX12_worth 11 = .ok (.invokevirtual 401, 3) := by decide +kernel
theorem dX12_worth_14 : decode cX12_worth 14 = .ok (.aload_n 0, 1) := by decide +kernel
theorem dX12_worth_15 : decode cX12_worth 15 = .ok (.iload_n 1, 1) := by decide +kernel
theorem dX12_worth_16 : decode cX12_worth 16 = .ok (.invokevirtual 380, 3) := by decide +kernel
theorem dX12_worth_19 : decode cX12_worth 19 = .ok (.aload_n 0, 1) := by decide +kernel
theorem dX12_worth_20 : decode cX12_worth 20 = .ok (.iload_n 2, 1) := by decide +kernel
theorem dX12_worth_21 : decode cX12_worth 21 = .ok (.iload_n 3, 1) := by decide +kernel
theorem dX12_worth_22 : decode cX12_worth 22 = .ok (.invokevirtual 420, 3) := by decide +kernel
theorem dX12_worth_25 : decode cX12_worth 25 = .ok (.ifCond .eq 13, 3) := by decide +kernel
theorem dX12_worth_28 : decode cX12_worth 28 = .ok (.aload_n 0, 1) := by decide +kernel
theorem dX12_worth_29 : decode cX12_worth 29 = .ok (.iload_n 1, 1) := by decide +kernel
theorem dX12_worth_30 : decode cX12_worth 30 = .ok (.iload_n 2, 1) := by decide +kernel
theorem dX12_worth_31 : decode cX12_worth 31 = .ok (.iload_n 3, 1) := by decide +kernel
theorem dX12_worth_32 : decode cX12_worth 32 = .ok (.invokevirtual 374, 3) := by decide +kernel
theorem dX12_worth_35 : decode cX12_worth 35 = .ok (.goto 4, 3) := by decide +kernel
theorem dX12_worth_38 : decode cX12_worth 38 = .ok (.iconst (-1), 1) := by decide +kernel
theorem dX12_worth_39 : decode cX12_worth 39 = .ok (.ireturn, 1) := by decide +kernel
def xX12_worth : zX := (RX12, cX12_worth, 4, (some .int), false, { frames := 5, cells := 0, slots := 0, locals := 183 }, 0, 0, 0, 0)
theorem rmX12_worth : z_Rm xX12_worth := by unfold z_Rm xX12_worth; exact ⟨by decide, by decide⟩
theorem reX12_worth : z_Re xX12_worth := ⟨rfl, rfl⟩
theorem rlX12_worth : 1 ≤ xX12_worth.2.2.2.2.2.1.frames ∧ 21 ≤ xX12_worth.2.2.2.2.2.1.locals := by unfold xX12_worth; exact ⟨by decide, by decide⟩
theorem meX12_worth : z_Me yX12_worth xX12_worth 3 := ⟨wd1201, wd893, by decide, by decide, by decide +kernel⟩
theorem fitX12_worth_2 : z_Fit xX12_isRow xX12_worth := by unfold z_Fit; simp only [xX12_isRow, xX12_worth]; exact ⟨by decide, by decide⟩
theorem fitX12_worth_11 : z_Fit xX12_copies xX12_worth := by unfold z_Fit; simp only [xX12_copies, xX12_worth]; exact ⟨by decide, by decide⟩
theorem fitX12_worth_16 : z_Fit xX12_laysRow xX12_worth := by unfold z_Fit; simp only [xX12_laysRow, xX12_worth]; exact ⟨by decide, by decide⟩
theorem fitX12_worth_22 : z_Fit xX12_isInside xX12_worth := by unfold z_Fit; simp only [xX12_isInside, xX12_worth]; exact ⟨by decide, by decide⟩
theorem fitX12_worth_32 : z_Fit xX12_worthOf xX12_worth := by unfold z_Fit; simp only [xX12_worthOf, xX12_worth]; exact ⟨by decide, by decide⟩
noncomputable def kX12_worth_39 : zK zR := q_iret
noncomputable def kX12_worth_0 : zK zR := (q_aload 0 (q_iload 1 (q_callV 12 fX12_isRow 1 (q_if_ne (q_aload 0 (q_callV 12 fX12_copies 0 (q_aload 0 (q_iload 1 (q_callV 12 fX12_laysRow 1 (q_aload 0 (q_iload 2 (q_iload 3 (q_callV 12 fX12_isInside 2 (q_if_eq (q_push (-1) kX12_worth_39) (q_aload 0 (q_iload 1 (q_iload 2 (q_iload 3 (q_callV 12 fX12_worthOf 3 kX12_worth_39))))))))))))))) (q_push (-1) q_iret)))))
set_option maxRecDepth 100000 in
theorem tX12_worth_39 {l : Launch} {D : zD} {B sz0 : Nat} {post : Option Value → zS → Prop} : zSnd l D B xX12_worth sz0 post 39 kX12_worth_39 (z_Jr post) := (s_iret dX12_worth_39 rfl)
set_option maxRecDepth 100000 in
theorem tX12_worth_0 {l : Launch} {D : zD} {B sz0 : Nat} {post : Option Value → zS → Prop} : zSnd l D B xX12_worth sz0 post 0 kX12_worth_0 (z_Jr post) := (s_aload_n dX12_worth_0 rfl (s_iload_n dX12_worth_1 rfl (s_callV (r := (RX12, TX12, 74)) dX12_worth_2 mX12_isRow meX12_isRow wd1087 wd1088 rfl rfl reX12_isRow rmX12_worth (fitX12_worth_2) wd1089 (s_if_ne (tgt := 10) dX12_worth_5 (by decide) (s_aload_n dX12_worth_10 rfl (s_callV (r := (RX12, TX12, 74)) dX12_worth_11 mX12_copies meX12_copies wd1178 wd1179 rfl rfl reX12_copies rmX12_worth (fitX12_worth_11) wd1180 (s_aload_n dX12_worth_14 rfl (s_iload_n dX12_worth_15 rfl (s_callV (r := (RX12, TX12, 74)) dX12_worth_16 mX12_laysRow meX12_laysRow wd1153 wd1154 rfl rfl reX12_laysRow rmX12_worth (fitX12_worth_16) wd1155 (s_aload_n dX12_worth_19 rfl (s_iload_n dX12_worth_20 rfl (s_iload_n dX12_worth_21 rfl (s_callV (r := (RX12, TX12, 74)) dX12_worth_22 mX12_isInside meX12_isInside wd1197 wd1198 rfl rfl reX12_isInside rmX12_worth (fitX12_worth_22) wd1199 (s_if_eq (tgt := 38) dX12_worth_25 (by decide) (s_iconst dX12_worth_38 (by decide) tX12_worth_39) (s_aload_n dX12_worth_28 rfl (s_iload_n dX12_worth_29 rfl (s_iload_n dX12_worth_30 rfl (s_iload_n dX12_worth_31 rfl (s_callV (r := (RX12, TX12, 74)) dX12_worth_32 mX12_worthOf meX12_worthOf wd1145 wd1146 rfl rfl reX12_worthOf rmX12_worth (fitX12_worth_32) wd1147 (s_goto (tgt := 39) dX12_worth_35 (by decide) tX12_worth_39)))))))))))))))) (s_iconst dX12_worth_8 (by decide) (s_iret dX12_worth_9 rfl))))))
noncomputable def fX12_worth : zF := z_fn 4 kX12_worth_0
theorem mX12_worth {l : Launch} {D : zD} {B : Nat} : z_MF l D B yX12_worth xX12_worth fX12_worth := z_mf (by decide) rfl (fun h => by cases h) rfl (fun as σ r h => ⟨z_fn_len h, kX12_worth_0, z_fn_run h, fun _ => tX12_worth_0⟩)
/-! ===== RowChildrenModel.many ===== -/
theorem dX12_many_0 : decode cX12_many 0 = .ok (.aload_n 0, 1) := by decide +kernel
theorem dX12_many_1 : decode cX12_many 1 = .ok (.iload_n 1, 1) := by decide +kernel
theorem dX12_many_2 : decode cX12_many 2 = .ok (.invokevirtual 330, 3) := by decide +kernel
theorem dX12_many_5 : decode cX12_many 5 = .ok (.ifCond .eq 11, 3) := by decide +kernel
theorem dX12_many_8 : decode cX12_many 8 = .ok (.aload_n 0, 1) := by decide +kernel
theorem dX12_many_9 : decode cX12_many 9 = .ok (.iload_n 2, 1) := by decide +kernel
theorem dX12_many_10 : decode cX12_many 10 = .ok (.invokevirtual 398, 3) := by decide +kernel
theorem dX12_many_13 : decode cX12_many 13 = .ok (.ifCond .ne 5, 3) := by decide +kernel
theorem dX12_many_16 : decode cX12_many 16 = .ok (.iconst (-1), 1) := by decide +kernel
theorem dX12_many_17 : decode cX12_many 17 = .ok (.ireturn, 1) := by decide +kernel
theorem dX12_many_18 : decode cX12_many 18 = .ok (.aload_n 0, 1) := by decide +kernel
theorem dX12_many_19 : decode cX12_many 19 = .ok (.invokevirtual 401, 3) := by decide +kernel
theorem dX12_many_22 : decode cX12_many 22 = .ok (.aload_n 0, 1) := by decide +kernel
theorem dX12_many_23 : decode cX12_many 23 = .ok (.iload_n 1, 1) := by decide +kernel
theorem dX12_many_24 : decode cX12_many 24 = .ok (.invokevirtual 380, 3) := by decide +kernel
theorem dX12_many_27 : decode cX12_many 27 = .ok (.aload_n 0, 1) := by decide +kernel
theorem dX12_many_28 : decode cX12_many 28 = .ok (.iload_n 2, 1) := by decide +kernel
theorem dX12_many_29 : decode cX12_many 29 = .ok (.invokevirtual 355, 3) := by decide +kernel
theorem dX12_many_32 : decode cX12_many 32 = .ok (.ireturn, 1) := by decide +kernel
def xX12_many : zX := (RX12, cX12_many, 3, (some .int), false, { frames := 5, cells := 0, slots := 0, locals := 177 }, 0, 0, 0, 0)
theorem rmX12_many : z_Rm xX12_many := by unfold z_Rm xX12_many; exact ⟨by decide, by decide⟩
theorem reX12_many : z_Re xX12_many := ⟨rfl, rfl⟩
theorem rlX12_many : 1 ≤ xX12_many.2.2.2.2.2.1.frames ∧ 21 ≤ xX12_many.2.2.2.2.2.1.locals := by unfold xX12_many; exact ⟨by decide, by decide⟩
theorem meX12_many : z_Me yX12_many xX12_many 2 := ⟨wd1202, wd893, by decide, by decide, by decide +kernel⟩
theorem fitX12_many_2 : z_Fit xX12_isRow xX12_many := by unfold z_Fit; simp only [xX12_isRow, xX12_many]; exact ⟨by decide, by decide⟩
theorem fitX12_many_10 : z_Fit xX12_isColour xX12_many := by unfold z_Fit; simp only [xX12_isColour, xX12_many]; exact ⟨by decide, by decide⟩
theorem fitX12_many_19 : z_Fit xX12_copies xX12_many := by unfold z_Fit; simp only [xX12_copies, xX12_many]; exact ⟨by decide, by decide⟩
theorem fitX12_many_24 : z_Fit xX12_laysRow xX12_many := by unfold z_Fit; simp only [xX12_laysRow, xX12_many]; exact ⟨by decide, by decide⟩
theorem fitX12_many_29 : z_Fit xX12_manyLaid xX12_many := by unfold z_Fit; simp only [xX12_manyLaid, xX12_many]; exact ⟨by decide, by decide⟩
noncomputable def kX12_many_16 : zK zR := (q_push (-1) q_iret)
noncomputable def kX12_many_0 : zK zR := (q_aload 0 (q_iload 1 (q_callV 12 fX12_isRow 1 (q_if_eq kX12_many_16 (q_aload 0 (q_iload 2 (q_callV 12 fX12_isColour 1 (q_if_ne (q_aload 0 (q_callV 12 fX12_copies 0 (q_aload 0 (q_iload 1 (q_callV 12 fX12_laysRow 1 (q_aload 0 (q_iload 2 (q_callV 12 fX12_manyLaid 1 q_iret)))))))) kX12_many_16))))))))
set_option maxRecDepth 100000 in
theorem tX12_many_16 {l : Launch} {D : zD} {B sz0 : Nat} {post : Option Value → zS → Prop} : zSnd l D B xX12_many sz0 post 16 kX12_many_16 (z_Jr post) := (s_iconst dX12_many_16 (by decide) (s_iret dX12_many_17 rfl))
set_option maxRecDepth 100000 in
theorem tX12_many_0 {l : Launch} {D : zD} {B sz0 : Nat} {post : Option Value → zS → Prop} : zSnd l D B xX12_many sz0 post 0 kX12_many_0 (z_Jr post) := (s_aload_n dX12_many_0 rfl (s_iload_n dX12_many_1 rfl (s_callV (r := (RX12, TX12, 74)) dX12_many_2 mX12_isRow meX12_isRow wd1087 wd1088 rfl rfl reX12_isRow rmX12_many (fitX12_many_2) wd1089 (s_if_eq (tgt := 16) dX12_many_5 (by decide) tX12_many_16 (s_aload_n dX12_many_8 rfl (s_iload_n dX12_many_9 rfl (s_callV (r := (RX12, TX12, 74)) dX12_many_10 mX12_isColour meX12_isColour wd1174 wd1175 rfl rfl reX12_isColour rmX12_many (fitX12_many_10) wd1176 (s_if_ne (tgt := 18) dX12_many_13 (by decide) (s_aload_n dX12_many_18 rfl (s_callV (r := (RX12, TX12, 74)) dX12_many_19 mX12_copies meX12_copies wd1178 wd1179 rfl rfl reX12_copies rmX12_many (fitX12_many_19) wd1180 (s_aload_n dX12_many_22 rfl (s_iload_n dX12_many_23 rfl (s_callV (r := (RX12, TX12, 74)) dX12_many_24 mX12_laysRow meX12_laysRow wd1153 wd1154 rfl rfl reX12_laysRow rmX12_many (fitX12_many_24) wd1155 (s_aload_n dX12_many_27 rfl (s_iload_n dX12_many_28 rfl (s_callV (r := (RX12, TX12, 74)) dX12_many_29 mX12_manyLaid meX12_manyLaid wd1119 wd1120 rfl rfl reX12_manyLaid rmX12_many (fitX12_many_29) wd1121 (s_iret dX12_many_32 rfl))))))))) tX12_many_16))))))))
noncomputable def fX12_many : zF := z_fn 3 kX12_many_0
theorem mX12_many {l : Launch} {D : zD} {B : Nat} : z_MF l D B yX12_many xX12_many fX12_many := z_mf (by decide) rfl (fun h => by cases h) rfl (fun as σ r h => ⟨z_fn_len h, kX12_many_0, z_fn_run h, fun _ => tX12_many_0⟩)
/-! ===== RowChildrenModel.side ===== -/
theorem dX12_side_0 : decode cX12_side 0 = .ok (.aload_n 0, 1) := by decide +kernel
theorem dX12_side_1 : decode cX12_side 1 = .ok (.iload_n 1, 1) := by decide +kernel
theorem dX12_side_2 : decode cX12_side 2 = .ok (.iload_n 3, 1) := by decide +kernel
theorem dX12_side_3 : decode cX12_side 3 = .ok (.invokevirtual 424, 3) := by decide +kernel
theorem dX12_side_6 : decode cX12_side 6 = .ok (.ifCond .eq 12, 3) := by decide +kernel
theorem dX12_side_9 : decode cX12_side 9 = .ok (.iload_n 2, 1) := by decide +kernel
theorem dX12_side_10 : decode cX12_side 10 = .ok (.iconst 0, 1) := by decide +kernel
theorem dX12_side_11 : decode cX12_side 11 = .ok (.iconst 1, 1) := by decide +kernel
theorem dX12_side_12 : decode cX12_side 12 = .ok (.invokestatic 323, 3) := by decide +kernel
theorem dX12_side_15 : decode cX12_side 15 = .ok (.ifCond .ne 5, 3) := by decide +kernel
theorem dX12_side_18 : decode cX12_side 18 = .ok (.iconst (-1), 1) := by decide +kernel
theorem dX12_side_19 : decode cX12_side 19 = .ok (.ireturn, 1) := by decide +kernel
theorem dX12_side_20 : decode cX12_side 20 = .ok (.aload_n 0, 1) := by decide +kernel
theorem dX12_side_21 : decode cX12_side 21 = .ok (.invokevirtual 401, 3) := by decide +kernel
theorem dX12_side_24 : decode cX12_side 24 = .ok (.aload_n 0, 1) := by decide +kernel
theorem dX12_side_25 : decode cX12_side 25 = .ok (.iload_n 1, 1) := by decide +kernel
theorem dX12_side_26 : decode cX12_side 26 = .ok (.invokevirtual 380, 3) := by decide +kernel
theorem dX12_side_29 : decode cX12_side 29 = .ok (.iload_n 2, 1) := by decide +kernel
theorem dX12_side_30 : decode cX12_side 30 = .ok (.ifCond .ne 12, 3) := by decide +kernel
theorem dX12_side_33 : decode cX12_side 33 = .ok (.aload_n 0, 1) := by decide +kernel
theorem dX12_side_34 : decode cX12_side 34 = .ok (.iload_n 3, 1) := by decide +kernel
theorem dX12_side_35 : decode cX12_side 35 = .ok (.iconst 0, 1) := by decide +kernel
theorem dX12_side_36 : decode cX12_side 36 = .ok (.invokevirtual 343, 3) := by decide +kernel
theorem dX12_side_39 : decode cX12_side 39 = .ok (.goto 16, 3) := by decide +kernel
theorem dX12_side_42 : decode cX12_side 42 = .ok (.aload_n 0, 1) := by decide +kernel
theorem dX12_side_43 : decode cX12_side 43 = .ok (.iload_n 3, 1) := by decide +kernel
theorem dX12_side_44 : decode cX12_side 44 = .ok (.aload_n 0, 1) := by decide +kernel
theorem dX12_side_45 : decode cX12_side 45 = .ok (.getfield 340, 3) := by decide +kernel
theorem dX12_side_48 : decode cX12_side 48 = .ok (.iconst 1, 1) := by decide +kernel
theorem dX12_side_49 : decode cX12_side 49 = .ok (.isub, 1) := by decide +kernel
theorem dX12_side_50 : decode cX12_side 50 = .ok (.iload_n 3, 1) := by decide +kernel
theorem dX12_side_51 : decode cX12_side 51 = .ok (.isub, 1) := by decide +kernel
theorem dX12_side_52 : decode cX12_side 52 = .ok (.invokevirtual 343, 3) := by decide +kernel
theorem dX12_side_55 : decode cX12_side 55 = .ok (.ireturn, 1) := by decide +kernel
def xX12_side : zX := (RX12, cX12_side, 4, (some .int), false, { frames := 5, cells := 0, slots := 0, locals := 177 }, 0, 0, 0, 0)
theorem rmX12_side : z_Rm xX12_side := by unfold z_Rm xX12_side; exact ⟨by decide, by decide⟩
theorem reX12_side : z_Re xX12_side := ⟨rfl, rfl⟩
theorem rlX12_side : 1 ≤ xX12_side.2.2.2.2.2.1.frames ∧ 21 ≤ xX12_side.2.2.2.2.2.1.locals := by unfold xX12_side; exact ⟨by decide, by decide⟩
theorem meX12_side : z_Me yX12_side xX12_side 3 := ⟨wd1206, wd893, by decide, by decide, by decide +kernel⟩
theorem fitX12_side_3 : z_Fit xX12_isSeat xX12_side := by unfold z_Fit; simp only [xX12_isSeat, xX12_side]; exact ⟨by decide, by decide⟩
theorem fitX12_side_12 : z_Fit xX12_in xX12_side := by unfold z_Fit; simp only [xX12_in, xX12_side]; exact ⟨by decide, by decide⟩
theorem fitX12_side_21 : z_Fit xX12_copies xX12_side := by unfold z_Fit; simp only [xX12_copies, xX12_side]; exact ⟨by decide, by decide⟩
theorem fitX12_side_26 : z_Fit xX12_laysRow xX12_side := by unfold z_Fit; simp only [xX12_laysRow, xX12_side]; exact ⟨by decide, by decide⟩
theorem fitX12_side_52 : z_Fit xX12_laidAt xX12_side := by unfold z_Fit; simp only [xX12_laidAt, xX12_side]; exact ⟨by decide, by decide⟩
theorem fitX12_side_36 : z_Fit xX12_laidAt xX12_side := by unfold z_Fit; simp only [xX12_laidAt, xX12_side]; exact ⟨by decide, by decide⟩
noncomputable def kX12_side_18 : zK zR := (q_push (-1) q_iret)
noncomputable def kX12_side_55 : zK zR := q_iret
noncomputable def kX12_side_0 : zK zR := (q_aload 0 (q_iload 1 (q_iload 3 (q_callV 12 fX12_isSeat 2 (q_if_eq kX12_side_18 (q_iload 2 (q_push 0 (q_push 1 (q_callS fX12_in 3 (q_if_ne (q_aload 0 (q_callV 12 fX12_copies 0 (q_aload 0 (q_iload 1 (q_callV 12 fX12_laysRow 1 (q_iload 2 (q_if_ne (q_aload 0 (q_iload 3 (q_aload 0 (q_getI 12 50 (q_push 1 (q_isub (q_iload 3 (q_isub (q_callV 12 fX12_laidAt 2 kX12_side_55))))))))) (q_aload 0 (q_iload 3 (q_push 0 (q_callV 12 fX12_laidAt 2 kX12_side_55))))))))))) kX12_side_18))))))))))
set_option maxRecDepth 100000 in
theorem tX12_side_18 {l : Launch} {D : zD} {B sz0 : Nat} {post : Option Value → zS → Prop} : zSnd l D B xX12_side sz0 post 18 kX12_side_18 (z_Jr post) := (s_iconst dX12_side_18 (by decide) (s_iret dX12_side_19 rfl))
set_option maxRecDepth 100000 in
theorem tX12_side_55 {l : Launch} {D : zD} {B sz0 : Nat} {post : Option Value → zS → Prop} : zSnd l D B xX12_side sz0 post 55 kX12_side_55 (z_Jr post) := (s_iret dX12_side_55 rfl)
set_option maxRecDepth 100000 in
theorem tX12_side_0 {l : Launch} {D : zD} {B sz0 : Nat} {post : Option Value → zS → Prop} : zSnd l D B xX12_side sz0 post 0 kX12_side_0 (z_Jr post) := (s_aload_n dX12_side_0 rfl (s_iload_n dX12_side_1 rfl (s_iload_n dX12_side_2 rfl (s_callV (r := (RX12, TX12, 74)) dX12_side_3 mX12_isSeat meX12_isSeat wd1203 wd1204 rfl rfl reX12_isSeat rmX12_side (fitX12_side_3) wd1205 (s_if_eq (tgt := 18) dX12_side_6 (by decide) tX12_side_18 (s_iload_n dX12_side_9 rfl (s_iconst dX12_side_10 (by decide) (s_iconst dX12_side_11 (by decide) (s_callS dX12_side_12 mX12_in meX12_in wd1078 rfl reX12_in rmX12_side (fitX12_side_12) wd1079 (s_if_ne (tgt := 20) dX12_side_15 (by decide) (s_aload_n dX12_side_20 rfl (s_callV (r := (RX12, TX12, 74)) dX12_side_21 mX12_copies meX12_copies wd1178 wd1179 rfl rfl reX12_copies rmX12_side (fitX12_side_21) wd1180 (s_aload_n dX12_side_24 rfl (s_iload_n dX12_side_25 rfl (s_callV (r := (RX12, TX12, 74)) dX12_side_26 mX12_laysRow meX12_laysRow wd1153 wd1154 rfl rfl reX12_laysRow rmX12_side (fitX12_side_26) wd1155 (s_iload_n dX12_side_29 rfl (s_if_ne (tgt := 42) dX12_side_30 (by decide) (s_aload_n dX12_side_42 rfl (s_iload_n dX12_side_43 rfl (s_aload_n dX12_side_44 rfl (s_getI (f := 50) dX12_side_45 clX12 (by decide) rfl wd1098 (s_iconst dX12_side_48 (by decide) (s_isub dX12_side_49 (s_iload_n dX12_side_50 rfl (s_isub dX12_side_51 (s_callV (r := (RX12, TX12, 74)) dX12_side_52 mX12_laidAt meX12_laidAt wd1099 wd1100 rfl rfl reX12_laidAt rmX12_side (fitX12_side_52) wd1101 tX12_side_55))))))))) (s_aload_n dX12_side_33 rfl (s_iload_n dX12_side_34 rfl (s_iconst dX12_side_35 (by decide) (s_callV (r := (RX12, TX12, 74)) dX12_side_36 mX12_laidAt meX12_laidAt wd1099 wd1100 rfl rfl reX12_laidAt rmX12_side (fitX12_side_36) wd1101 (s_goto (tgt := 55) dX12_side_39 (by decide) tX12_side_55)))))))))))) tX12_side_18))))))))))
noncomputable def fX12_side : zF := z_fn 4 kX12_side_0
theorem mX12_side {l : Launch} {D : zD} {B : Nat} : z_MF l D B yX12_side xX12_side fX12_side := z_mf (by decide) rfl (fun h => by cases h) rfl (fun as σ r h => ⟨z_fn_len h, kX12_side_0, z_fn_run h, fun _ => tX12_side_0⟩)
/-! ===== RowChildrenModel.isOther ===== -/
theorem dX12_isOther_0 : decode cX12_isOther 0 = .ok (.aload_n 0, 1) := by decide +kernel
theorem dX12_isOther_1 : decode cX12_isOther 1 = .ok (.iload_n 1, 1) := by decide +kernel
theorem dX12_isOther_2 : decode cX12_isOther 2 = .ok (.iload_n 2, 1) := by decide +kernel
theorem dX12_isOther_3 : decode cX12_isOther 3 = .ok (.invokevirtual 424, 3) := by decide +kernel
theorem dX12_isOther_6 : decode cX12_isOther 6 = .ok (.ifCond .eq 32, 3) := by decide +kernel
theorem dX12_isOther_9 : decode cX12_isOther 9 = .ok (.aload_n 0, 1) := by decide +kernel
theorem dX12_isOther_10 : decode cX12_isOther 10 = .ok (.iload_n 3, 1) := by decide +kernel
theorem dX12_isOther_11 : decode cX12_isOther 11 = .ok (.invokevirtual 398, 3) := by decide +kernel
theorem dX12_isOther_14 : decode cX12_isOther 14 = .ok (.ifCond .eq 24, 3) := by decide +kernel
theorem dX12_isOther_17 : decode cX12_isOther 17 = .ok (.aload_n 0, 1) := by decide +kernel
theorem dX12_isOther_18 : decode cX12_isOther 18 = .ok (.getfield 104, 3) := by decide +kernel
theorem dX12_isOther_21 : decode cX12_isOther 21 = .ok (.iconst 4, 1) := by decide +kernel
theorem dX12_isOther_22 : decode cX12_isOther 22 = .ok (.bipush 8, 2) := by decide +kernel
theorem dX12_isOther_24 : decode cX12_isOther 24 = .ok (.iload_n 1, 1) := by decide +kernel
theorem dX12_isOther_25 : decode cX12_isOther 25 = .ok (.imul, 1) := by decide +kernel
theorem dX12_isOther_26 : decode cX12_isOther 26 = .ok (.iadd, 1) := by decide +kernel
theorem dX12_isOther_27 : decode cX12_isOther 27 = .ok (.iload_n 2, 1) := by decide +kernel
theorem dX12_isOther_28 : decode cX12_isOther 28 = .ok (.iadd, 1) := by decide +kernel
theorem dX12_isOther_29 : decode cX12_isOther 29 = .ok (.iaload, 1) := by decide +kernel
theorem dX12_isOther_30 : decode cX12_isOther 30 = .ok (.iload_n 3, 1) := by decide +kernel
theorem dX12_isOther_31 : decode cX12_isOther 31 = .ok (.if_icmp .eq 7, 3) := by decide +kernel
theorem dX12_isOther_34 : decode cX12_isOther 34 = .ok (.iconst 1, 1) := by decide +kernel
theorem dX12_isOther_35 : decode cX12_isOther 35 = .ok (.goto 4, 3) := by decide +kernel
theorem dX12_isOther_38 : decode cX12_isOther 38 = .ok (.iconst 0, 1) := by decide +kernel
theorem dX12_isOther_39 : decode cX12_isOther 39 = .ok (.ireturn, 1) := by decide +kernel
def xX12_isOther : zX := (RX12, cX12_isOther, 4, (some .boolean), false, { frames := 4, cells := 0, slots := 0, locals := 155 }, 0, 0, 0, 0)
theorem rmX12_isOther : z_Rm xX12_isOther := by unfold z_Rm xX12_isOther; exact ⟨by decide, by decide⟩
theorem reX12_isOther : z_Re xX12_isOther := ⟨rfl, rfl⟩
theorem rlX12_isOther : 1 ≤ xX12_isOther.2.2.2.2.2.1.frames ∧ 21 ≤ xX12_isOther.2.2.2.2.2.1.locals := by unfold xX12_isOther; exact ⟨by decide, by decide⟩
theorem meX12_isOther : z_Me yX12_isOther xX12_isOther 3 := ⟨wd1207, wd893, by decide, by decide, by decide +kernel⟩
theorem fitX12_isOther_3 : z_Fit xX12_isSeat xX12_isOther := by unfold z_Fit; simp only [xX12_isSeat, xX12_isOther]; exact ⟨by decide, by decide⟩
theorem fitX12_isOther_11 : z_Fit xX12_isColour xX12_isOther := by unfold z_Fit; simp only [xX12_isColour, xX12_isOther]; exact ⟨by decide, by decide⟩
noncomputable def kX12_isOther_39 : zK zR := q_zret
noncomputable def kX12_isOther_38 : zK zR := (q_push 0 kX12_isOther_39)
noncomputable def kX12_isOther_0 : zK zR := (q_aload 0 (q_iload 1 (q_iload 2 (q_callV 12 fX12_isSeat 2 (q_if_eq kX12_isOther_38 (q_aload 0 (q_iload 3 (q_callV 12 fX12_isColour 1 (q_if_eq kX12_isOther_38 (q_aload 0 (q_getR 12 46 (q_push 4 (q_push 8 (q_iload 1 (q_imul (q_iadd (q_iload 2 (q_iadd (q_iald (q_iload 3 (q_icmp_eq kX12_isOther_38 (q_push 1 kX12_isOther_39))))))))))))))))))))))
set_option maxRecDepth 100000 in
theorem tX12_isOther_39 {l : Launch} {D : zD} {B sz0 : Nat} {post : Option Value → zS → Prop} : zSnd l D B xX12_isOther sz0 post 39 kX12_isOther_39 (z_Jr post) := (s_zret dX12_isOther_39 rfl)
set_option maxRecDepth 100000 in
theorem tX12_isOther_38 {l : Launch} {D : zD} {B sz0 : Nat} {post : Option Value → zS → Prop} : zSnd l D B xX12_isOther sz0 post 38 kX12_isOther_38 (z_Jr post) := (s_iconst dX12_isOther_38 (by decide) tX12_isOther_39)
set_option maxRecDepth 100000 in
theorem tX12_isOther_0 {l : Launch} {D : zD} {B sz0 : Nat} {post : Option Value → zS → Prop} : zSnd l D B xX12_isOther sz0 post 0 kX12_isOther_0 (z_Jr post) := (s_aload_n dX12_isOther_0 rfl (s_iload_n dX12_isOther_1 rfl (s_iload_n dX12_isOther_2 rfl (s_callV (r := (RX12, TX12, 74)) dX12_isOther_3 mX12_isSeat meX12_isSeat wd1203 wd1204 rfl rfl reX12_isSeat rmX12_isOther (fitX12_isOther_3) wd1205 (s_if_eq (tgt := 38) dX12_isOther_6 (by decide) tX12_isOther_38 (s_aload_n dX12_isOther_9 rfl (s_iload_n dX12_isOther_10 rfl (s_callV (r := (RX12, TX12, 74)) dX12_isOther_11 mX12_isColour meX12_isColour wd1174 wd1175 rfl rfl reX12_isColour rmX12_isOther (fitX12_isOther_11) wd1176 (s_if_eq (tgt := 38) dX12_isOther_14 (by decide) tX12_isOther_38 (s_aload_n dX12_isOther_17 rfl (s_getR (f := 46) dX12_isOther_18 clX12 (by decide) rfl wd905 (s_iconst dX12_isOther_21 (by decide) (s_bipush dX12_isOther_22 (by decide) (s_iload_n dX12_isOther_24 rfl (s_imul dX12_isOther_25 (s_iadd dX12_isOther_26 (s_iload_n dX12_isOther_27 rfl (s_iadd dX12_isOther_28 (s_iald dX12_isOther_29 (s_iload_n dX12_isOther_30 rfl (s_icmp_eq (tgt := 38) dX12_isOther_31 (by decide) tX12_isOther_38 (s_iconst dX12_isOther_34 (by decide) (s_goto (tgt := 39) dX12_isOther_35 (by decide) tX12_isOther_39)))))))))))))))))))))))
noncomputable def fX12_isOther : zF := z_fn 4 kX12_isOther_0
theorem mX12_isOther {l : Launch} {D : zD} {B : Nat} : z_MF l D B yX12_isOther xX12_isOther fX12_isOther := z_mf (by decide) rfl (fun h => by cases h) rfl (fun as σ r h => ⟨z_fn_len h, kX12_isOther_0, z_fn_run h, fun _ => tX12_isOther_0⟩)
/-! ===== RowChildrenModel.costs ===== -/
theorem dX12_costs_0 : decode cX12_costs 0 = .ok (.aload_n 0, 1) := by decide +kernel
theorem dX12_costs_1 : decode cX12_costs 1 = .ok (.iload_n 1, 1) := by decide +kernel
theorem dX12_costs_2 : decode cX12_costs 2 = .ok (.iload_n 2, 1) := by decide +kernel
theorem dX12_costs_3 : decode cX12_costs 3 = .ok (.iload_n 3, 1) := by decide +kernel
theorem dX12_costs_4 : decode cX12_costs 4 = .ok (.invokevirtual 427, 3) := by decide +kernel
theorem dX12_costs_7 : decode cX12_costs 7 = .ok (.ifCond .ne 5, 3) := by decide +kernel
theorem dX12_costs_10 : decode cX12_costs 10 = .ok (.iconst (-1), 1) := by decide +kernel
theorem dX12_costs_11 : decode cX12_costs 11 = .ok (.ireturn, 1) := by decide +kernel
theorem dX12_costs_12 : decode cX12_costs 12 = .ok (.aload_n 0, 1) := by decide +kernel
theorem dX12_costs_13 : decode cX12_costs 13 = .ok (.invokevirtual 401, 3) := by decide +kernel
theorem dX12_costs_16 : decode cX12_costs 16 = .ok (.aload_n 0, 1) := by decide +kernel
theorem dX12_costs_17 : decode cX12_costs 17 = .ok (.iload_n 1, 1) := by decide +kernel
theorem dX12_costs_18 : decode cX12_costs 18 = .ok (.iload_n 2, 1) := by decide +kernel
theorem dX12_costs_19 : decode cX12_costs 19 = .ok (.iload_n 3, 1) := by decide +kernel
theorem dX12_costs_20 : decode cX12_costs 20 = .ok (.invokevirtual 430, 3) := by decide +kernel
theorem dX12_costs_23 : decode cX12_costs 23 = .ok (.ireturn, 1) := by decide +kernel
def xX12_costs : zX := (RX12, cX12_costs, 4, (some .int), false, { frames := 5, cells := 0, slots := 0, locals := 183 }, 0, 0, 0, 0)
theorem rmX12_costs : z_Rm xX12_costs := by unfold z_Rm xX12_costs; exact ⟨by decide, by decide⟩
theorem reX12_costs : z_Re xX12_costs := ⟨rfl, rfl⟩
theorem rlX12_costs : 1 ≤ xX12_costs.2.2.2.2.2.1.frames ∧ 21 ≤ xX12_costs.2.2.2.2.2.1.locals := by unfold xX12_costs; exact ⟨by decide, by decide⟩
theorem meX12_costs : z_Me yX12_costs xX12_costs 3 := ⟨wd1214, wd893, by decide, by decide, by decide +kernel⟩
theorem fitX12_costs_4 : z_Fit xX12_isOther xX12_costs := by unfold z_Fit; simp only [xX12_isOther, xX12_costs]; exact ⟨by decide, by decide⟩
theorem fitX12_costs_13 : z_Fit xX12_copies xX12_costs := by unfold z_Fit; simp only [xX12_copies, xX12_costs]; exact ⟨by decide, by decide⟩
theorem fitX12_costs_20 : z_Fit xX12_costsOf xX12_costs := by unfold z_Fit; simp only [xX12_costsOf, xX12_costs]; exact ⟨by decide, by decide⟩
noncomputable def kX12_costs_0 : zK zR := (q_aload 0 (q_iload 1 (q_iload 2 (q_iload 3 (q_callV 12 fX12_isOther 3 (q_if_ne (q_aload 0 (q_callV 12 fX12_copies 0 (q_aload 0 (q_iload 1 (q_iload 2 (q_iload 3 (q_callV 12 fX12_costsOf 3 q_iret))))))) (q_push (-1) q_iret)))))))
set_option maxRecDepth 100000 in
theorem tX12_costs_0 {l : Launch} {D : zD} {B sz0 : Nat} {post : Option Value → zS → Prop} : zSnd l D B xX12_costs sz0 post 0 kX12_costs_0 (z_Jr post) := (s_aload_n dX12_costs_0 rfl (s_iload_n dX12_costs_1 rfl (s_iload_n dX12_costs_2 rfl (s_iload_n dX12_costs_3 rfl (s_callV (r := (RX12, TX12, 74)) dX12_costs_4 mX12_isOther meX12_isOther wd1208 wd1209 rfl rfl reX12_isOther rmX12_costs (fitX12_costs_4) wd1210 (s_if_ne (tgt := 12) dX12_costs_7 (by decide) (s_aload_n dX12_costs_12 rfl (s_callV (r := (RX12, TX12, 74)) dX12_costs_13 mX12_copies meX12_copies wd1178 wd1179 rfl rfl reX12_copies rmX12_costs (fitX12_costs_13) wd1180 (s_aload_n dX12_costs_16 rfl (s_iload_n dX12_costs_17 rfl (s_iload_n dX12_costs_18 rfl (s_iload_n dX12_costs_19 rfl (s_callV (r := (RX12, TX12, 74)) dX12_costs_20 mX12_costsOf meX12_costsOf wd1211 wd1212 rfl rfl reX12_costsOf rmX12_costs (fitX12_costs_20) wd1213 (s_iret dX12_costs_23 rfl)))))))) (s_iconst dX12_costs_10 (by decide) (s_iret dX12_costs_11 rfl))))))))
noncomputable def fX12_costs : zF := z_fn 4 kX12_costs_0
theorem mX12_costs {l : Launch} {D : zD} {B : Nat} : z_MF l D B yX12_costs xX12_costs fX12_costs := z_mf (by decide) rfl (fun h => by cases h) rfl (fun as σ r h => ⟨z_fn_len h, kX12_costs_0, z_fn_run h, fun _ => tX12_costs_0⟩)
/-! ===== RowChildrenModel.records ===== -/
theorem dX12_records_0 : decode cX12_records 0 = .ok (.aload_n 0, 1) := by decide +kernel
theorem dX12_records_1 : decode cX12_records 1 = .ok (.getfield 271, 3) := by decide +kernel
theorem dX12_records_4 : decode cX12_records 4 = .ok (.bipush 40, 2) := by decide +kernel
theorem dX12_records_6 : decode cX12_records 6 = .ok (.if_icmp .ne 43, 3) := by decide +kernel
theorem dX12_records_9 : decode cX12_records 9 = .ok (.iconst 0, 1) := by decide +kernel
theorem dX12_records_10 : decode cX12_records 10 = .ok (.istore_n 1, 1) := by decide +kernel
theorem dX12_records_11 : decode cX12_records 11 = .ok (.iload_n 1, 1) := by decide +kernel
theorem dX12_records_12 : decode cX12_records 12 = .ok (.sipush 1482, 3) := by decide +kernel
theorem dX12_records_15 : decode cX12_records 15 = .ok (.if_icmp .ge 24, 3) := by decide +kernel
theorem dX12_records_18 : decode cX12_records 18 = .ok (.aload_n 0, 1) := by decide +kernel
theorem dX12_records_19 : decode cX12_records 19 = .ok (.getfield 116, 3) := by decide +kernel
theorem dX12_records_22 : decode cX12_records 22 = .ok (.iload_n 1, 1) := by decide +kernel
theorem dX12_records_23 : decode cX12_records 23 = .ok (.aload_n 0, 1) := by decide +kernel
theorem dX12_records_24 : decode cX12_records 24 = .ok (.getfield 116, 3) := by decide +kernel
theorem dX12_records_27 : decode cX12_records 27 = .ok (.iload_n 1, 1) := by decide +kernel
theorem dX12_records_28 : decode cX12_records 28 = .ok (.bipush 38, 2) := by decide +kernel
theorem dX12_records_30 : decode cX12_records 30 = .ok (.iadd, 1) := by decide +kernel
theorem dX12_records_31 : decode cX12_records 31 = .ok (.iaload, 1) := by decide +kernel
theorem dX12_records_32 : decode cX12_records 32 = .ok (.iastore, 1) := by decide +kernel
theorem dX12_records_33 : decode cX12_records 33 = .ok (.iinc 1 1, 3) := by decide +kernel
theorem dX12_records_36 : decode cX12_records 36 = .ok (.goto (-25), 3) := by decide +kernel
theorem dX12_records_39 : decode cX12_records 39 = .ok (.aload_n 0, 1) := by decide +kernel
theorem dX12_records_40 : decode cX12_records 40 = .ok (.dup, 1) := by decide +kernel
theorem dX12_records_41 : decode cX12_records 41 = .ok (.getfield 271, 3) := by decide +kernel
theorem dX12_records_44 : decode cX12_records 44 = .ok (.iconst 1, 1) := by decide +kernel
theorem dX12_records_45 : decode cX12_records 45 = .ok (.isub, 1) := by decide +kernel
theorem dX12_records_46 : decode cX12_records 46 = .ok (.putfield 271, 3) := by decide +kernel
theorem dX12_records_49 : decode cX12_records 49 = .ok (.iconst 0, 1) := by decide +kernel
theorem dX12_records_50 : decode cX12_records 50 = .ok (.istore_n 1, 1) := by decide +kernel
theorem dX12_records_51 : decode cX12_records 51 = .ok (.iload_n 1, 1) := by decide +kernel
theorem dX12_records_52 : decode cX12_records 52 = .ok (.bipush 38, 2) := by decide +kernel
theorem dX12_records_54 : decode cX12_records 54 = .ok (.if_icmp .ge 29, 3) := by decide +kernel
theorem dX12_records_57 : decode cX12_records 57 = .ok (.aload_n 0, 1) := by decide +kernel
theorem dX12_records_58 : decode cX12_records 58 = .ok (.getfield 116, 3) := by decide +kernel
theorem dX12_records_61 : decode cX12_records 61 = .ok (.bipush 38, 2) := by decide +kernel
theorem dX12_records_63 : decode cX12_records 63 = .ok (.aload_n 0, 1) := by decide +kernel
theorem dX12_records_64 : decode cX12_records 64 = .ok (.getfield 271, 3) := by decide +kernel
theorem dX12_records_67 : decode cX12_records 67 = .ok (.imul, 1) := by decide +kernel
theorem dX12_records_68 : decode cX12_records 68 = .ok (.iload_n 1, 1) := by decide +kernel
theorem dX12_records_69 : decode cX12_records 69 = .ok (.iadd, 1) := by decide +kernel
theorem dX12_records_70 : decode cX12_records 70 = .ok (.aload_n 0, 1) := by decide +kernel
theorem dX12_records_71 : decode cX12_records 71 = .ok (.getfield 104, 3) := by decide +kernel
theorem dX12_records_74 : decode cX12_records 74 = .ok (.iload_n 1, 1) := by decide +kernel
theorem dX12_records_75 : decode cX12_records 75 = .ok (.iaload, 1) := by decide +kernel
theorem dX12_records_76 : decode cX12_records 76 = .ok (.iastore, 1) := by decide +kernel
theorem dX12_records_77 : decode cX12_records 77 = .ok (.iinc 1 1, 3) := by decide +kernel
theorem dX12_records_80 : decode cX12_records 80 = .ok (.goto (-29), 3) := by decide +kernel
theorem dX12_records_83 : decode cX12_records 83 = .ok (.aload_n 0, 1) := by decide +kernel
theorem dX12_records_84 : decode cX12_records 84 = .ok (.dup, 1) := by decide +kernel
theorem dX12_records_85 : decode cX12_records 85 = .ok (.getfield 271, 3) := by decide +kernel
theorem dX12_records_88 : decode cX12_records 88 = .ok (.iconst 1, 1) := by decide +kernel
theorem dX12_records_89 : decode cX12_records 89 = .ok (.iadd, 1) := by decide +kernel
theorem dX12_records_90 : decode cX12_records 90 = .ok (.putfield 271, 3) := by decide +kernel
theorem dX12_records_93 : decode cX12_records 93 = .ok (.aload_n 0, 1) := by decide +kernel
theorem dX12_records_94 : decode cX12_records 94 = .ok (.invokevirtual 179, 3) := by decide +kernel
theorem dX12_records_97 : decode cX12_records 97 = .ok (.return_, 1) := by decide +kernel
def xX12_records : zX := (RX12, cX12_records, 2, none, false, { frames := 2, cells := 0, slots := 0, locals := 111 }, 0, 0, 0, 0)
theorem rmX12_records : z_Rm xX12_records := by unfold z_Rm xX12_records; exact ⟨by decide, by decide⟩
theorem reX12_records : z_Re xX12_records := ⟨rfl, rfl⟩
theorem rlX12_records : 1 ≤ xX12_records.2.2.2.2.2.1.frames ∧ 21 ≤ xX12_records.2.2.2.2.2.1.locals := by unfold xX12_records; exact ⟨by decide, by decide⟩
theorem meX12_records : z_Me yX12_records xX12_records 0 := ⟨wd1215, wd893, by decide, by decide, by decide +kernel⟩
theorem fitX12_records_94 : z_Fit xX12_keepsRow xX12_records := by unfold z_Fit; simp only [xX12_keepsRow, xX12_records]; exact ⟨by decide, by decide⟩
noncomputable def kX12_records_83 : zK zR := (q_aload 0 (q_dup (q_getI 12 52 (q_push 1 (q_iadd (q_putI 12 52 (q_aload 0 (q_callV 12 fX12_keepsRow 0 q_vret))))))))
noncomputable def bX12_records_51 : zK ((zL × zS) ⊕ zR) := (q_iload 1 (q_push 38 (q_icmp_ge (q_dn kX12_records_83) (q_aload 0 (q_getR 12 53 (q_push 38 (q_aload 0 (q_getI 12 52 (q_imul (q_iload 1 (q_iadd (q_aload 0 (q_getR 12 46 (q_iload 1 (q_iald (q_iast (q_iinc 1 1 q_ag)))))))))))))))))
noncomputable def kX12_records_51 : zK zR := q_lp (bX12_records_51)
noncomputable def kX12_records_49 : zK zR := (q_push 0 (q_istore 1 kX12_records_51))
noncomputable def kX12_records_39 : zK zR := (q_aload 0 (q_dup (q_getI 12 52 (q_push 1 (q_isub (q_putI 12 52 kX12_records_49))))))
noncomputable def bX12_records_11 : zK ((zL × zS) ⊕ zR) := (q_iload 1 (q_push 1482 (q_icmp_ge (q_dn kX12_records_39) (q_aload 0 (q_getR 12 53 (q_iload 1 (q_aload 0 (q_getR 12 53 (q_iload 1 (q_push 38 (q_iadd (q_iald (q_iast (q_iinc 1 1 q_ag))))))))))))))
noncomputable def kX12_records_11 : zK zR := q_lp (bX12_records_11)
noncomputable def kX12_records_0 : zK zR := (q_aload 0 (q_getI 12 52 (q_push 40 (q_icmp_ne kX12_records_49 (q_push 0 (q_istore 1 kX12_records_11))))))
set_option maxRecDepth 100000 in
theorem tX12_records_83 {l : Launch} {D : zD} {B sz0 : Nat} {post : Option Value → zS → Prop} : zSnd l D B xX12_records sz0 post 83 kX12_records_83 (z_Jr post) := (s_aload_n dX12_records_83 rfl (s_dup dX12_records_84 (s_getI (f := 52) dX12_records_85 clX12 (by decide) rfl wd1066 (s_iconst dX12_records_88 (by decide) (s_iadd dX12_records_89 (s_putI (f := 52) dX12_records_90 clX12 (by decide) rfl rfl rfl wd1066 (s_aload_n dX12_records_93 rfl (s_callV (r := (RX12, TX12, 74)) dX12_records_94 mX12_keepsRow meX12_keepsRow wd955 wd956 rfl rfl reX12_keepsRow rmX12_records (fitX12_records_94) wd957 (s_vret dX12_records_97 rfl)))))))))
set_option maxRecDepth 100000 in
theorem tX12_records_51 {l : Launch} {D : zD} {B sz0 : Nat} {post : Option Value → zS → Prop} : zSnd l D B xX12_records sz0 post 51 kX12_records_51 (z_Jr post) := s_lp (body := bX12_records_51) (s_iload_n dX12_records_51 rfl (s_bipush dX12_records_52 (by decide) (s_icmp_ge (tgt := 83) dX12_records_54 (by decide) (s_dn tX12_records_83) (s_aload_n dX12_records_57 rfl (s_getR (f := 53) dX12_records_58 clX12 (by decide) rfl wd929 (s_bipush dX12_records_61 (by decide) (s_aload_n dX12_records_63 rfl (s_getI (f := 52) dX12_records_64 clX12 (by decide) rfl wd1066 (s_imul dX12_records_67 (s_iload_n dX12_records_68 rfl (s_iadd dX12_records_69 (s_aload_n dX12_records_70 rfl (s_getR (f := 46) dX12_records_71 clX12 (by decide) rfl wd905 (s_iload_n dX12_records_74 rfl (s_iald dX12_records_75 (s_iast dX12_records_76 (s_iinc dX12_records_77 (by decide) (s_goto (tgt := 51) dX12_records_80 (by decide) s_ag))))))))))))))))))
set_option maxRecDepth 100000 in
theorem tX12_records_49 {l : Launch} {D : zD} {B sz0 : Nat} {post : Option Value → zS → Prop} : zSnd l D B xX12_records sz0 post 49 kX12_records_49 (z_Jr post) := (s_iconst dX12_records_49 (by decide) (s_istore_n dX12_records_50 rfl tX12_records_51))
set_option maxRecDepth 100000 in
theorem tX12_records_39 {l : Launch} {D : zD} {B sz0 : Nat} {post : Option Value → zS → Prop} : zSnd l D B xX12_records sz0 post 39 kX12_records_39 (z_Jr post) := (s_aload_n dX12_records_39 rfl (s_dup dX12_records_40 (s_getI (f := 52) dX12_records_41 clX12 (by decide) rfl wd1066 (s_iconst dX12_records_44 (by decide) (s_isub dX12_records_45 (s_putI (f := 52) dX12_records_46 clX12 (by decide) rfl rfl rfl wd1066 tX12_records_49))))))
set_option maxRecDepth 100000 in
theorem tX12_records_11 {l : Launch} {D : zD} {B sz0 : Nat} {post : Option Value → zS → Prop} : zSnd l D B xX12_records sz0 post 11 kX12_records_11 (z_Jr post) := s_lp (body := bX12_records_11) (s_iload_n dX12_records_11 rfl (s_sipush dX12_records_12 (by decide) (s_icmp_ge (tgt := 39) dX12_records_15 (by decide) (s_dn tX12_records_39) (s_aload_n dX12_records_18 rfl (s_getR (f := 53) dX12_records_19 clX12 (by decide) rfl wd929 (s_iload_n dX12_records_22 rfl (s_aload_n dX12_records_23 rfl (s_getR (f := 53) dX12_records_24 clX12 (by decide) rfl wd929 (s_iload_n dX12_records_27 rfl (s_bipush dX12_records_28 (by decide) (s_iadd dX12_records_30 (s_iald dX12_records_31 (s_iast dX12_records_32 (s_iinc dX12_records_33 (by decide) (s_goto (tgt := 11) dX12_records_36 (by decide) s_ag)))))))))))))))
set_option maxRecDepth 100000 in
theorem tX12_records_0 {l : Launch} {D : zD} {B sz0 : Nat} {post : Option Value → zS → Prop} : zSnd l D B xX12_records sz0 post 0 kX12_records_0 (z_Jr post) := (s_aload_n dX12_records_0 rfl (s_getI (f := 52) dX12_records_1 clX12 (by decide) rfl wd1066 (s_bipush dX12_records_4 (by decide) (s_icmp_ne (tgt := 49) dX12_records_6 (by decide) tX12_records_49 (s_iconst dX12_records_9 (by decide) (s_istore_n dX12_records_10 rfl tX12_records_11))))))
noncomputable def fX12_records : zF := z_fn 2 kX12_records_0
theorem mX12_records {l : Launch} {D : zD} {B : Nat} : z_MF l D B yX12_records xX12_records fX12_records := z_mf (by decide) rfl (fun h => by cases h) rfl (fun as σ r h => ⟨z_fn_len h, kX12_records_0, z_fn_run h, fun _ => tX12_records_0⟩)
/-! ===== RowChildrenModel.paint ===== -/
theorem dX12_paint_0 : decode cX12_paint 0 = .ok (.aload_n 0, 1) := by decide +kernel
theorem dX12_paint_1 : decode cX12_paint 1 = .ok (.iload_n 1, 1) := by decide +kernel
theorem dX12_paint_2 : decode cX12_paint 2 = .ok (.iload_n 2, 1) := by decide +kernel
theorem dX12_paint_3 : decode cX12_paint 3 = .ok (.iload_n 3, 1) := by decide +kernel
theorem dX12_paint_4 : decode cX12_paint 4 = .ok (.invokevirtual 427, 3) := by decide +kernel
theorem dX12_paint_7 : decode cX12_paint 7 = .ok (.ifCond .ne 5, 3) := by decide +kernel
theorem dX12_paint_10 : decode cX12_paint 10 = .ok (.iconst (-1), 1) := by decide +kernel
theorem dX12_paint_11 : decode cX12_paint 11 = .ok (.ireturn, 1) := by decide +kernel
theorem dX12_paint_12 : decode cX12_paint 12 = .ok (.aload_n 0, 1) := by decide +kernel
theorem dX12_paint_13 : decode cX12_paint 13 = .ok (.invokevirtual 401, 3) := by decide +kernel
theorem dX12_paint_16 : decode cX12_paint 16 = .ok (.aload_n 0, 1) := by decide +kernel
theorem dX12_paint_17 : decode cX12_paint 17 = .ok (.iload_n 1, 1) := by decide +kernel
theorem dX12_paint_18 : decode cX12_paint 18 = .ok (.iload_n 2, 1) := by decide +kernel
theorem dX12_paint_19 : decode cX12_paint 19 = .ok (.iload_n 3, 1) := by decide +kernel
theorem dX12_paint_20 : decode cX12_paint 20 = .ok (.invokevirtual 430, 3) := by decide +kernel
theorem dX12_paint_23 : decode cX12_paint 23 = .ok (.istore 4, 2) := by decide +kernel
theorem dX12_paint_25 : decode cX12_paint 25 = .ok (.aload_n 0, 1) := by decide +kernel
theorem dX12_paint_26 : decode cX12_paint 26 = .ok (.getfield 107, 3) := by decide +kernel
theorem dX12_paint_29 : decode cX12_paint 29 = .ok (.iconst 4, 1) := by decide +kernel
theorem dX12_paint_30 : decode cX12_paint 30 = .ok (.bipush 8, 2) := by decide +kernel
theorem dX12_paint_32 : decode cX12_paint 32 = .ok (.iload_n 1, 1) := by decide +kernel
theorem dX12_paint_33 : decode cX12_paint 33 = .ok (.imul, 1) := by decide +kernel
theorem dX12_paint_34 : decode cX12_paint 34 = .ok (.iadd, 1) := by decide +kernel
theorem dX12_paint_35 : decode cX12_paint 35 = .ok (.iload_n 2, 1) := by decide +kernel
theorem dX12_paint_36 : decode cX12_paint 36 = .ok (.iadd, 1) := by decide +kernel
theorem dX12_paint_37 : decode cX12_paint 37 = .ok (.iload_n 3, 1) := by decide +kernel
theorem dX12_paint_38 : decode cX12_paint 38 = .ok (.iastore, 1) := by decide +kernel
theorem dX12_paint_39 : decode cX12_paint 39 = .ok (.aload_n 0, 1) := by decide +kernel
theorem dX12_paint_40 : decode cX12_paint 40 = .ok (.getfield 107, 3) := by decide +kernel
theorem dX12_paint_43 : decode cX12_paint 43 = .ok (.bipush 37, 2) := by decide +kernel
theorem dX12_paint_45 : decode cX12_paint 45 = .ok (.dup2, 1) := by decide +kernel
theorem dX12_paint_46 : decode cX12_paint 46 = .ok (.iaload, 1) := by decide +kernel
theorem dX12_paint_47 : decode cX12_paint 47 = .ok (.iload 4, 2) := by decide +kernel
theorem dX12_paint_49 : decode cX12_paint 49 = .ok (.iadd, 1) := by decide +kernel
theorem dX12_paint_50 : decode cX12_paint 50 = .ok (.iastore, 1) := by decide +kernel
theorem dX12_paint_51 : decode cX12_paint 51 = .ok (.aload_n 0, 1) := by decide +kernel
theorem dX12_paint_52 : decode cX12_paint 52 = .ok (.invokevirtual 433, 3) := by decide +kernel
theorem dX12_paint_55 : decode cX12_paint 55 = .ok (.iload 4, 2) := by decide +kernel
theorem dX12_paint_57 : decode cX12_paint 57 = .ok (.ireturn, 1) := by decide +kernel
def xX12_paint : zX := (RX12, cX12_paint, 5, (some .int), false, { frames := 5, cells := 0, slots := 0, locals := 183 }, 0, 0, 0, 0)
theorem rmX12_paint : z_Rm xX12_paint := by unfold z_Rm xX12_paint; exact ⟨by decide, by decide⟩
theorem reX12_paint : z_Re xX12_paint := ⟨rfl, rfl⟩
theorem rlX12_paint : 1 ≤ xX12_paint.2.2.2.2.2.1.frames ∧ 21 ≤ xX12_paint.2.2.2.2.2.1.locals := by unfold xX12_paint; exact ⟨by decide, by decide⟩
theorem meX12_paint : z_Me yX12_paint xX12_paint 3 := ⟨wd1219, wd893, by decide, by decide, by decide +kernel⟩
theorem fitX12_paint_4 : z_Fit xX12_isOther xX12_paint := by unfold z_Fit; simp only [xX12_isOther, xX12_paint]; exact ⟨by decide, by decide⟩
theorem fitX12_paint_13 : z_Fit xX12_copies xX12_paint := by unfold z_Fit; simp only [xX12_copies, xX12_paint]; exact ⟨by decide, by decide⟩
theorem fitX12_paint_20 : z_Fit xX12_costsOf xX12_paint := by unfold z_Fit; simp only [xX12_costsOf, xX12_paint]; exact ⟨by decide, by decide⟩
theorem fitX12_paint_52 : z_Fit xX12_records xX12_paint := by unfold z_Fit; simp only [xX12_records, xX12_paint]; exact ⟨by decide, by decide⟩
noncomputable def kX12_paint_0 : zK zR := (q_aload 0 (q_iload 1 (q_iload 2 (q_iload 3 (q_callV 12 fX12_isOther 3 (q_if_ne (q_aload 0 (q_callV 12 fX12_copies 0 (q_aload 0 (q_iload 1 (q_iload 2 (q_iload 3 (q_callV 12 fX12_costsOf 3 (q_istore 4 (q_aload 0 (q_getR 12 47 (q_push 4 (q_push 8 (q_iload 1 (q_imul (q_iadd (q_iload 2 (q_iadd (q_iload 3 (q_iast (q_aload 0 (q_getR 12 47 (q_push 37 (q_dup2 (q_iald (q_iload 4 (q_iadd (q_iast (q_aload 0 (q_callV 12 fX12_records 0 (q_iload 4 q_iret)))))))))))))))))))))))))))))) (q_push (-1) q_iret)))))))
set_option maxRecDepth 100000 in
theorem tX12_paint_0 {l : Launch} {D : zD} {B sz0 : Nat} {post : Option Value → zS → Prop} : zSnd l D B xX12_paint sz0 post 0 kX12_paint_0 (z_Jr post) := (s_aload_n dX12_paint_0 rfl (s_iload_n dX12_paint_1 rfl (s_iload_n dX12_paint_2 rfl (s_iload_n dX12_paint_3 rfl (s_callV (r := (RX12, TX12, 74)) dX12_paint_4 mX12_isOther meX12_isOther wd1208 wd1209 rfl rfl reX12_isOther rmX12_paint (fitX12_paint_4) wd1210 (s_if_ne (tgt := 12) dX12_paint_7 (by decide) (s_aload_n dX12_paint_12 rfl (s_callV (r := (RX12, TX12, 74)) dX12_paint_13 mX12_copies meX12_copies wd1178 wd1179 rfl rfl reX12_copies rmX12_paint (fitX12_paint_13) wd1180 (s_aload_n dX12_paint_16 rfl (s_iload_n dX12_paint_17 rfl (s_iload_n dX12_paint_18 rfl (s_iload_n dX12_paint_19 rfl (s_callV (r := (RX12, TX12, 74)) dX12_paint_20 mX12_costsOf meX12_costsOf wd1211 wd1212 rfl rfl reX12_costsOf rmX12_paint (fitX12_paint_20) wd1213 (s_istore dX12_paint_23 (s_aload_n dX12_paint_25 rfl (s_getR (f := 47) dX12_paint_26 clX12 (by decide) rfl wd901 (s_iconst dX12_paint_29 (by decide) (s_bipush dX12_paint_30 (by decide) (s_iload_n dX12_paint_32 rfl (s_imul dX12_paint_33 (s_iadd dX12_paint_34 (s_iload_n dX12_paint_35 rfl (s_iadd dX12_paint_36 (s_iload_n dX12_paint_37 rfl (s_iast dX12_paint_38 (s_aload_n dX12_paint_39 rfl (s_getR (f := 47) dX12_paint_40 clX12 (by decide) rfl wd901 (s_bipush dX12_paint_43 (by decide) (s_dup2 dX12_paint_45 (s_iald dX12_paint_46 (s_iload dX12_paint_47 (s_iadd dX12_paint_49 (s_iast dX12_paint_50 (s_aload_n dX12_paint_51 rfl (s_callV (r := (RX12, TX12, 74)) dX12_paint_52 mX12_records meX12_records wd1216 wd1217 rfl rfl reX12_records rmX12_paint (fitX12_paint_52) wd1218 (s_iload dX12_paint_55 (s_iret dX12_paint_57 rfl))))))))))))))))))))))))))))))) (s_iconst dX12_paint_10 (by decide) (s_iret dX12_paint_11 rfl))))))))
noncomputable def fX12_paint : zF := z_fn 5 kX12_paint_0
theorem mX12_paint {l : Launch} {D : zD} {B : Nat} : z_MF l D B yX12_paint xX12_paint fX12_paint := z_mf (by decide) rfl (fun h => by cases h) rfl (fun as σ r h => ⟨z_fn_len h, kX12_paint_0, z_fn_run h, fun _ => tX12_paint_0⟩)
/-! ===== RowChildrenModel.come ===== -/
theorem dX12_come_0 : decode cX12_come 0 = .ok (.aload_n 0, 1) := by decide +kernel
theorem dX12_come_1 : decode cX12_come 1 = .ok (.iload_n 1, 1) := by decide +kernel
theorem dX12_come_2 : decode cX12_come 2 = .ok (.invokevirtual 330, 3) := by decide +kernel
theorem dX12_come_5 : decode cX12_come 5 = .ok (.ifCond .eq 22, 3) := by decide +kernel
theorem dX12_come_8 : decode cX12_come 8 = .ok (.aload_n 0, 1) := by decide +kernel
theorem dX12_come_9 : decode cX12_come 9 = .ok (.iload_n 2, 1) := by decide +kernel
theorem dX12_come_10 : decode cX12_come 10 = .ok (.invokevirtual 398, 3) := by decide +kernel
theorem dX12_come_13 : decode cX12_come 13 = .ok (.ifCond .eq 14, 3) := by decide +kernel
theorem dX12_come_16 : decode cX12_come 16 = .ok (.aload_n 0, 1) := by decide +kernel
theorem dX12_come_17 : decode cX12_come 17 = .ok (.getfield 104, 3) := by decide +kernel
theorem dX12_come_20 : decode cX12_come 20 = .ok (.iload_n 1, 1) := by decide +kernel
theorem dX12_come_21 : decode cX12_come 21 = .ok (.iaload, 1) := by decide +kernel
theorem dX12_come_22 : decode cX12_come 22 = .ok (.bipush 8, 2) := by decide +kernel
theorem dX12_come_24 : decode cX12_come 24 = .ok (.if_icmp .ne 5, 3) := by decide +kernel
theorem dX12_come_27 : decode cX12_come 27 = .ok (.iconst (-1), 1) := by decide +kernel
theorem dX12_come_28 : decode cX12_come 28 = .ok (.ireturn, 1) := by decide +kernel
theorem dX12_come_29 : decode cX12_come 29 = .ok (.aload_n 0, 1) := by decide +kernel
theorem dX12_come_30 : decode cX12_come 30 = .ok (.invokevirtual 401, 3) := by decide +kernel
theorem dX12_come_33 : decode cX12_come 33 = .ok (.aload_n 0, 1) := by decide +kernel
theorem dX12_come_34 : decode cX12_come 34 = .ok (.getfield 107, 3) := by decide +kernel
theorem dX12_come_37 : decode cX12_come 37 = .ok (.iconst 4, 1) := by decide +kernel
theorem dX12_come_38 : decode cX12_come 38 = .ok (.bipush 8, 2) := by decide +kernel
theorem dX12_come_40 : decode cX12_come 40 = .ok (.iload_n 1, 1) := by decide +kernel
theorem dX12_come_41 : decode cX12_come 41 = .ok (.imul, 1) := by decide +kernel
theorem dX12_come_42 : decode cX12_come 42 = .ok (.iadd, 1) := by decide +kernel
theorem dX12_come_43 : decode cX12_come 43 = .ok (.aload_n 0, 1) := by decide +kernel
theorem dX12_come_44 : decode cX12_come 44 = .ok (.getfield 107, 3) := by decide +kernel
theorem dX12_come_47 : decode cX12_come 47 = .ok (.iload_n 1, 1) := by decide +kernel
theorem dX12_come_48 : decode cX12_come 48 = .ok (.iaload, 1) := by decide +kernel
theorem dX12_come_49 : decode cX12_come 49 = .ok (.iadd, 1) := by decide +kernel
theorem dX12_come_50 : decode cX12_come 50 = .ok (.iload_n 2, 1) := by decide +kernel
theorem dX12_come_51 : decode cX12_come 51 = .ok (.iastore, 1) := by decide +kernel
theorem dX12_come_52 : decode cX12_come 52 = .ok (.aload_n 0, 1) := by decide +kernel
theorem dX12_come_53 : decode cX12_come 53 = .ok (.getfield 107, 3) := by decide +kernel
theorem dX12_come_56 : decode cX12_come 56 = .ok (.iload_n 1, 1) := by decide +kernel
theorem dX12_come_57 : decode cX12_come 57 = .ok (.dup2, 1) := by decide +kernel
theorem dX12_come_58 : decode cX12_come 58 = .ok (.iaload, 1) := by decide +kernel
theorem dX12_come_59 : decode cX12_come 59 = .ok (.iconst 1, 1) := by decide +kernel
theorem dX12_come_60 : decode cX12_come 60 = .ok (.iadd, 1) := by decide +kernel
theorem dX12_come_61 : decode cX12_come 61 = .ok (.iastore, 1) := by decide +kernel
theorem dX12_come_62 : decode cX12_come 62 = .ok (.aload_n 0, 1) := by decide +kernel
theorem dX12_come_63 : decode cX12_come 63 = .ok (.invokevirtual 433, 3) := by decide +kernel
theorem dX12_come_66 : decode cX12_come 66 = .ok (.aload_n 0, 1) := by decide +kernel
theorem dX12_come_67 : decode cX12_come 67 = .ok (.getfield 104, 3) := by decide +kernel
theorem dX12_come_70 : decode cX12_come 70 = .ok (.iload_n 1, 1) := by decide +kernel
theorem dX12_come_71 : decode cX12_come 71 = .ok (.iaload, 1) := by decide +kernel
theorem dX12_come_72 : decode cX12_come 72 = .ok (.ireturn, 1) := by decide +kernel
def xX12_come : zX := (RX12, cX12_come, 3, (some .int), false, { frames := 3, cells := 0, slots := 0, locals := 133 }, 0, 0, 0, 0)
theorem rmX12_come : z_Rm xX12_come := by unfold z_Rm xX12_come; exact ⟨by decide, by decide⟩
theorem reX12_come : z_Re xX12_come := ⟨rfl, rfl⟩
theorem rlX12_come : 1 ≤ xX12_come.2.2.2.2.2.1.frames ∧ 21 ≤ xX12_come.2.2.2.2.2.1.locals := by unfold xX12_come; exact ⟨by decide, by decide⟩
theorem meX12_come : z_Me yX12_come xX12_come 2 := ⟨wd1220, wd893, by decide, by decide, by decide +kernel⟩
theorem fitX12_come_2 : z_Fit xX12_isRow xX12_come := by unfold z_Fit; simp only [xX12_isRow, xX12_come]; exact ⟨by decide, by decide⟩
theorem fitX12_come_10 : z_Fit xX12_isColour xX12_come := by unfold z_Fit; simp only [xX12_isColour, xX12_come]; exact ⟨by decide, by decide⟩
theorem fitX12_come_30 : z_Fit xX12_copies xX12_come := by unfold z_Fit; simp only [xX12_copies, xX12_come]; exact ⟨by decide, by decide⟩
theorem fitX12_come_63 : z_Fit xX12_records xX12_come := by unfold z_Fit; simp only [xX12_records, xX12_come]; exact ⟨by decide, by decide⟩
noncomputable def kX12_come_27 : zK zR := (q_push (-1) q_iret)
noncomputable def kX12_come_0 : zK zR := (q_aload 0 (q_iload 1 (q_callV 12 fX12_isRow 1 (q_if_eq kX12_come_27 (q_aload 0 (q_iload 2 (q_callV 12 fX12_isColour 1 (q_if_eq kX12_come_27 (q_aload 0 (q_getR 12 46 (q_iload 1 (q_iald (q_push 8 (q_icmp_ne (q_aload 0 (q_callV 12 fX12_copies 0 (q_aload 0 (q_getR 12 47 (q_push 4 (q_push 8 (q_iload 1 (q_imul (q_iadd (q_aload 0 (q_getR 12 47 (q_iload 1 (q_iald (q_iadd (q_iload 2 (q_iast (q_aload 0 (q_getR 12 47 (q_iload 1 (q_dup2 (q_iald (q_push 1 (q_iadd (q_iast (q_aload 0 (q_callV 12 fX12_records 0 (q_aload 0 (q_getR 12 46 (q_iload 1 (q_iald q_iret)))))))))))))))))))))))))))))) kX12_come_27))))))))))))))
set_option maxRecDepth 100000 in
theorem tX12_come_27 {l : Launch} {D : zD} {B sz0 : Nat} {post : Option Value → zS → Prop} : zSnd l D B xX12_come sz0 post 27 kX12_come_27 (z_Jr post) := (s_iconst dX12_come_27 (by decide) (s_iret dX12_come_28 rfl))
set_option maxRecDepth 100000 in
theorem tX12_come_0 {l : Launch} {D : zD} {B sz0 : Nat} {post : Option Value → zS → Prop} : zSnd l D B xX12_come sz0 post 0 kX12_come_0 (z_Jr post) := (s_aload_n dX12_come_0 rfl (s_iload_n dX12_come_1 rfl (s_callV (r := (RX12, TX12, 74)) dX12_come_2 mX12_isRow meX12_isRow wd1087 wd1088 rfl rfl reX12_isRow rmX12_come (fitX12_come_2) wd1089 (s_if_eq (tgt := 27) dX12_come_5 (by decide) tX12_come_27 (s_aload_n dX12_come_8 rfl (s_iload_n dX12_come_9 rfl (s_callV (r := (RX12, TX12, 74)) dX12_come_10 mX12_isColour meX12_isColour wd1174 wd1175 rfl rfl reX12_isColour rmX12_come (fitX12_come_10) wd1176 (s_if_eq (tgt := 27) dX12_come_13 (by decide) tX12_come_27 (s_aload_n dX12_come_16 rfl (s_getR (f := 46) dX12_come_17 clX12 (by decide) rfl wd905 (s_iload_n dX12_come_20 rfl (s_iald dX12_come_21 (s_bipush dX12_come_22 (by decide) (s_icmp_ne (tgt := 29) dX12_come_24 (by decide) (s_aload_n dX12_come_29 rfl (s_callV (r := (RX12, TX12, 74)) dX12_come_30 mX12_copies meX12_copies wd1178 wd1179 rfl rfl reX12_copies rmX12_come (fitX12_come_30) wd1180 (s_aload_n dX12_come_33 rfl (s_getR (f := 47) dX12_come_34 clX12 (by decide) rfl wd901 (s_iconst dX12_come_37 (by decide) (s_bipush dX12_come_38 (by decide) (s_iload_n dX12_come_40 rfl (s_imul dX12_come_41 (s_iadd dX12_come_42 (s_aload_n dX12_come_43 rfl (s_getR (f := 47) dX12_come_44 clX12 (by decide) rfl wd901 (s_iload_n dX12_come_47 rfl (s_iald dX12_come_48 (s_iadd dX12_come_49 (s_iload_n dX12_come_50 rfl (s_iast dX12_come_51 (s_aload_n dX12_come_52 rfl (s_getR (f := 47) dX12_come_53 clX12 (by decide) rfl wd901 (s_iload_n dX12_come_56 rfl (s_dup2 dX12_come_57 (s_iald dX12_come_58 (s_iconst dX12_come_59 (by decide) (s_iadd dX12_come_60 (s_iast dX12_come_61 (s_aload_n dX12_come_62 rfl (s_callV (r := (RX12, TX12, 74)) dX12_come_63 mX12_records meX12_records wd1216 wd1217 rfl rfl reX12_records rmX12_come (fitX12_come_63) wd1218 (s_aload_n dX12_come_66 rfl (s_getR (f := 46) dX12_come_67 clX12 (by decide) rfl wd905 (s_iload_n dX12_come_70 rfl (s_iald dX12_come_71 (s_iret dX12_come_72 rfl))))))))))))))))))))))))))))))) tX12_come_27))))))))))))))
noncomputable def fX12_come : zF := z_fn 3 kX12_come_0
theorem mX12_come {l : Launch} {D : zD} {B : Nat} : z_MF l D B yX12_come xX12_come fX12_come := z_mf (by decide) rfl (fun h => by cases h) rfl (fun as σ r h => ⟨z_fn_len h, kX12_come_0, z_fn_run h, fun _ => tX12_come_0⟩)
/-! ===== RowChildrenModel.go ===== -/
theorem dX12_go_0 : decode cX12_go 0 = .ok (.aload_n 0, 1) := by decide +kernel
theorem dX12_go_1 : decode cX12_go 1 = .ok (.iload_n 1, 1) := by decide +kernel
theorem dX12_go_2 : decode cX12_go 2 = .ok (.invokevirtual 330, 3) := by decide +kernel
theorem dX12_go_5 : decode cX12_go 5 = .ok (.ifCond .eq 13, 3) := by decide +kernel
theorem dX12_go_8 : decode cX12_go 8 = .ok (.aload_n 0, 1) := by decide +kernel
theorem dX12_go_9 : decode cX12_go 9 = .ok (.getfield 104, 3) := by decide +kernel
theorem dX12_go_12 : decode cX12_go 12 = .ok (.iload_n 1, 1) := by decide +kernel
theorem dX12_go_13 : decode cX12_go 13 = .ok (.iaload, 1) := by decide +kernel
theorem dX12_go_14 : decode cX12_go 14 = .ok (.iconst 1, 1) := by decide +kernel
theorem dX12_go_15 : decode cX12_go 15 = .ok (.if_icmp .ne 5, 3) := by decide +kernel
theorem dX12_go_18 : decode cX12_go 18 = .ok (.iconst (-1), 1) := by decide +kernel
theorem dX12_go_19 : decode cX12_go 19 = .ok (.ireturn, 1) := by decide +kernel
theorem dX12_go_20 : decode cX12_go 20 = .ok (.aload_n 0, 1) := by decide +kernel
theorem dX12_go_21 : decode cX12_go 21 = .ok (.invokevirtual 401, 3) := by decide +kernel
theorem dX12_go_24 : decode cX12_go 24 = .ok (.aload_n 0, 1) := by decide +kernel
theorem dX12_go_25 : decode cX12_go 25 = .ok (.getfield 107, 3) := by decide +kernel
theorem dX12_go_28 : decode cX12_go 28 = .ok (.iload_n 1, 1) := by decide +kernel
theorem dX12_go_29 : decode cX12_go 29 = .ok (.dup2, 1) := by decide +kernel
theorem dX12_go_30 : decode cX12_go 30 = .ok (.iaload, 1) := by decide +kernel
theorem dX12_go_31 : decode cX12_go 31 = .ok (.iconst 1, 1) := by decide +kernel
theorem dX12_go_32 : decode cX12_go 32 = .ok (.isub, 1) := by decide +kernel
theorem dX12_go_33 : decode cX12_go 33 = .ok (.iastore, 1) := by decide +kernel
theorem dX12_go_34 : decode cX12_go 34 = .ok (.aload_n 0, 1) := by decide +kernel
theorem dX12_go_35 : decode cX12_go 35 = .ok (.getfield 107, 3) := by decide +kernel
theorem dX12_go_38 : decode cX12_go 38 = .ok (.iconst 4, 1) := by decide +kernel
theorem dX12_go_39 : decode cX12_go 39 = .ok (.bipush 8, 2) := by decide +kernel
theorem dX12_go_41 : decode cX12_go 41 = .ok (.iload_n 1, 1) := by decide +kernel
theorem dX12_go_42 : decode cX12_go 42 = .ok (.imul, 1) := by decide +kernel
theorem dX12_go_43 : decode cX12_go 43 = .ok (.iadd, 1) := by decide +kernel
theorem dX12_go_44 : decode cX12_go 44 = .ok (.aload_n 0, 1) := by decide +kernel
theorem dX12_go_45 : decode cX12_go 45 = .ok (.getfield 107, 3) := by decide +kernel
theorem dX12_go_48 : decode cX12_go 48 = .ok (.iload_n 1, 1) := by decide +kernel
theorem dX12_go_49 : decode cX12_go 49 = .ok (.iaload, 1) := by decide +kernel
theorem dX12_go_50 : decode cX12_go 50 = .ok (.iadd, 1) := by decide +kernel
theorem dX12_go_51 : decode cX12_go 51 = .ok (.iconst 0, 1) := by decide +kernel
theorem dX12_go_52 : decode cX12_go 52 = .ok (.iastore, 1) := by decide +kernel
theorem dX12_go_53 : decode cX12_go 53 = .ok (.aload_n 0, 1) := by decide +kernel
theorem dX12_go_54 : decode cX12_go 54 = .ok (.invokevirtual 433, 3) := by decide +kernel
theorem dX12_go_57 : decode cX12_go 57 = .ok (.aload_n 0, 1) := by decide +kernel
theorem dX12_go_58 : decode cX12_go 58 = .ok (.getfield 104, 3) := by decide +kernel
theorem dX12_go_61 : decode cX12_go 61 = .ok (.iload_n 1, 1) := by decide +kernel
theorem dX12_go_62 : decode cX12_go 62 = .ok (.iaload, 1) := by decide +kernel
theorem dX12_go_63 : decode cX12_go 63 = .ok (.ireturn, 1) := by decide +kernel
def xX12_go : zX := (RX12, cX12_go, 2, (some .int), false, { frames := 3, cells := 0, slots := 0, locals := 133 }, 0, 0, 0, 0)
theorem rmX12_go : z_Rm xX12_go := by unfold z_Rm xX12_go; exact ⟨by decide, by decide⟩
theorem reX12_go : z_Re xX12_go := ⟨rfl, rfl⟩
theorem rlX12_go : 1 ≤ xX12_go.2.2.2.2.2.1.frames ∧ 21 ≤ xX12_go.2.2.2.2.2.1.locals := by unfold xX12_go; exact ⟨by decide, by decide⟩
theorem meX12_go : z_Me yX12_go xX12_go 1 := ⟨wd1221, wd893, by decide, by decide, by decide +kernel⟩
theorem fitX12_go_2 : z_Fit xX12_isRow xX12_go := by unfold z_Fit; simp only [xX12_isRow, xX12_go]; exact ⟨by decide, by decide⟩
theorem fitX12_go_21 : z_Fit xX12_copies xX12_go := by unfold z_Fit; simp only [xX12_copies, xX12_go]; exact ⟨by decide, by decide⟩
theorem fitX12_go_54 : z_Fit xX12_records xX12_go := by unfold z_Fit; simp only [xX12_records, xX12_go]; exact ⟨by decide, by decide⟩
noncomputable def kX12_go_18 : zK zR := (q_push (-1) q_iret)
noncomputable def kX12_go_0 : zK zR := (q_aload 0 (q_iload 1 (q_callV 12 fX12_isRow 1 (q_if_eq kX12_go_18 (q_aload 0 (q_getR 12 46 (q_iload 1 (q_iald (q_push 1 (q_icmp_ne (q_aload 0 (q_callV 12 fX12_copies 0 (q_aload 0 (q_getR 12 47 (q_iload 1 (q_dup2 (q_iald (q_push 1 (q_isub (q_iast (q_aload 0 (q_getR 12 47 (q_push 4 (q_push 8 (q_iload 1 (q_imul (q_iadd (q_aload 0 (q_getR 12 47 (q_iload 1 (q_iald (q_iadd (q_push 0 (q_iast (q_aload 0 (q_callV 12 fX12_records 0 (q_aload 0 (q_getR 12 46 (q_iload 1 (q_iald q_iret)))))))))))))))))))))))))))))) kX12_go_18))))))))))
set_option maxRecDepth 100000 in
theorem tX12_go_18 {l : Launch} {D : zD} {B sz0 : Nat} {post : Option Value → zS → Prop} : zSnd l D B xX12_go sz0 post 18 kX12_go_18 (z_Jr post) := (s_iconst dX12_go_18 (by decide) (s_iret dX12_go_19 rfl))
set_option maxRecDepth 100000 in
theorem tX12_go_0 {l : Launch} {D : zD} {B sz0 : Nat} {post : Option Value → zS → Prop} : zSnd l D B xX12_go sz0 post 0 kX12_go_0 (z_Jr post) := (s_aload_n dX12_go_0 rfl (s_iload_n dX12_go_1 rfl (s_callV (r := (RX12, TX12, 74)) dX12_go_2 mX12_isRow meX12_isRow wd1087 wd1088 rfl rfl reX12_isRow rmX12_go (fitX12_go_2) wd1089 (s_if_eq (tgt := 18) dX12_go_5 (by decide) tX12_go_18 (s_aload_n dX12_go_8 rfl (s_getR (f := 46) dX12_go_9 clX12 (by decide) rfl wd905 (s_iload_n dX12_go_12 rfl (s_iald dX12_go_13 (s_iconst dX12_go_14 (by decide) (s_icmp_ne (tgt := 20) dX12_go_15 (by decide) (s_aload_n dX12_go_20 rfl (s_callV (r := (RX12, TX12, 74)) dX12_go_21 mX12_copies meX12_copies wd1178 wd1179 rfl rfl reX12_copies rmX12_go (fitX12_go_21) wd1180 (s_aload_n dX12_go_24 rfl (s_getR (f := 47) dX12_go_25 clX12 (by decide) rfl wd901 (s_iload_n dX12_go_28 rfl (s_dup2 dX12_go_29 (s_iald dX12_go_30 (s_iconst dX12_go_31 (by decide) (s_isub dX12_go_32 (s_iast dX12_go_33 (s_aload_n dX12_go_34 rfl (s_getR (f := 47) dX12_go_35 clX12 (by decide) rfl wd901 (s_iconst dX12_go_38 (by decide) (s_bipush dX12_go_39 (by decide) (s_iload_n dX12_go_41 rfl (s_imul dX12_go_42 (s_iadd dX12_go_43 (s_aload_n dX12_go_44 rfl (s_getR (f := 47) dX12_go_45 clX12 (by decide) rfl wd901 (s_iload_n dX12_go_48 rfl (s_iald dX12_go_49 (s_iadd dX12_go_50 (s_iconst dX12_go_51 (by decide) (s_iast dX12_go_52 (s_aload_n dX12_go_53 rfl (s_callV (r := (RX12, TX12, 74)) dX12_go_54 mX12_records meX12_records wd1216 wd1217 rfl rfl reX12_records rmX12_go (fitX12_go_54) wd1218 (s_aload_n dX12_go_57 rfl (s_getR (f := 46) dX12_go_58 clX12 (by decide) rfl wd905 (s_iload_n dX12_go_61 rfl (s_iald dX12_go_62 (s_iret dX12_go_63 rfl))))))))))))))))))))))))))))))) tX12_go_18))))))))))
noncomputable def fX12_go : zF := z_fn 2 kX12_go_0
theorem mX12_go {l : Launch} {D : zD} {B : Nat} : z_MF l D B yX12_go xX12_go fX12_go := z_mf (by decide) rfl (fun h => by cases h) rfl (fun as σ r h => ⟨z_fn_len h, kX12_go_0, z_fn_run h, fun _ => tX12_go_0⟩)
/-! ===== RowChildrenModel.isShort ===== -/
theorem dX12_isShort_0 : decode cX12_isShort 0 = .ok (.iload_n 0, 1) := by decide +kernel
theorem dX12_isShort_1 : decode cX12_isShort 1 = .ok (.iconst 0, 1) := by decide +kernel
theorem dX12_isShort_2 : decode cX12_isShort 2 = .ok (.bipush 20, 2) := by decide +kernel
theorem dX12_isShort_4 : decode cX12_isShort 4 = .ok (.invokestatic 323, 3) := by decide +kernel
theorem dX12_isShort_7 : decode cX12_isShort 7 = .ok (.ireturn, 1) := by decide +kernel
def xX12_isShort : zX := (RX12, cX12_isShort, 1, (some .boolean), false, { frames := 2, cells := 0, slots := 0, locals := 112 }, 0, 0, 0, 0)
theorem rmX12_isShort : z_Rm xX12_isShort := by unfold z_Rm xX12_isShort; exact ⟨by decide, by decide⟩
theorem reX12_isShort : z_Re xX12_isShort := ⟨rfl, rfl⟩
theorem rlX12_isShort : 1 ≤ xX12_isShort.2.2.2.2.2.1.frames ∧ 21 ≤ xX12_isShort.2.2.2.2.2.1.locals := by unfold xX12_isShort; exact ⟨by decide, by decide⟩
theorem meX12_isShort : z_Me yX12_isShort xX12_isShort 1 := ⟨wd1222, wd893, by decide, by decide, by decide +kernel⟩
theorem fitX12_isShort_4 : z_Fit xX12_in xX12_isShort := by unfold z_Fit; simp only [xX12_in, xX12_isShort]; exact ⟨by decide, by decide⟩
noncomputable def kX12_isShort_0 : zK zR := (q_iload 0 (q_push 0 (q_push 20 (q_callS fX12_in 3 q_zret))))
set_option maxRecDepth 100000 in
theorem tX12_isShort_0 {l : Launch} {D : zD} {B sz0 : Nat} {post : Option Value → zS → Prop} : zSnd l D B xX12_isShort sz0 post 0 kX12_isShort_0 (z_Jr post) := (s_iload_n dX12_isShort_0 rfl (s_iconst dX12_isShort_1 (by decide) (s_bipush dX12_isShort_2 (by decide) (s_callS dX12_isShort_4 mX12_in meX12_in wd1078 rfl reX12_in rmX12_isShort (fitX12_isShort_4) wd1079 (s_zret dX12_isShort_7 rfl)))))
noncomputable def fX12_isShort : zF := z_fn 1 kX12_isShort_0
theorem mX12_isShort {l : Launch} {D : zD} {B : Nat} : z_MF l D B yX12_isShort xX12_isShort fX12_isShort := z_mf (by decide) rfl (fun h => by cases h) rfl (fun as σ r h => ⟨z_fn_len h, kX12_isShort_0, z_fn_run h, fun _ => tX12_isShort_0⟩)
/-! ===== RowChildrenModel.times ===== -/
theorem dX12_times_0 : decode cX12_times 0 = .ok (.iload_n 1, 1) := by decide +kernel
theorem dX12_times_1 : decode cX12_times 1 = .ok (.invokestatic 436, 3) := by decide +kernel
theorem dX12_times_4 : decode cX12_times 4 = .ok (.ifCond .ne 5, 3) := by decide +kernel
theorem dX12_times_7 : decode cX12_times 7 = .ok (.iconst (-1), 1) := by decide +kernel
theorem dX12_times_8 : decode cX12_times 8 = .ok (.ireturn, 1) := by decide +kernel
theorem dX12_times_9 : decode cX12_times 9 = .ok (.iload_n 1, 1) := by decide +kernel
theorem dX12_times_10 : decode cX12_times 10 = .ok (.ifCond .ne 11, 3) := by decide +kernel
theorem dX12_times_13 : decode cX12_times 13 = .ok (.aload_n 0, 1) := by decide +kernel
theorem dX12_times_14 : decode cX12_times 14 = .ok (.getfield 104, 3) := by decide +kernel
theorem dX12_times_17 : decode cX12_times 17 = .ok (.bipush 36, 2) := by decide +kernel
theorem dX12_times_19 : decode cX12_times 19 = .ok (.iaload, 1) := by decide +kernel
theorem dX12_times_20 : decode cX12_times 20 = .ok (.ireturn, 1) := by decide +kernel
theorem dX12_times_21 : decode cX12_times 21 = .ok (.aload_n 0, 1) := by decide +kernel
theorem dX12_times_22 : decode cX12_times 22 = .ok (.invokevirtual 401, 3) := by decide +kernel
theorem dX12_times_25 : decode cX12_times 25 = .ok (.aload_n 0, 1) := by decide +kernel
theorem dX12_times_26 : decode cX12_times 26 = .ok (.iload_n 1, 1) := by decide +kernel
theorem dX12_times_27 : decode cX12_times 27 = .ok (.invokevirtual 439, 3) := by decide +kernel
theorem dX12_times_30 : decode cX12_times 30 = .ok (.aload_n 0, 1) := by decide +kernel
theorem dX12_times_31 : decode cX12_times 31 = .ok (.invokevirtual 433, 3) := by decide +kernel
theorem dX12_times_34 : decode cX12_times 34 = .ok (.aload_n 0, 1) := by decide +kernel
theorem dX12_times_35 : decode cX12_times 35 = .ok (.getfield 104, 3) := by decide +kernel
theorem dX12_times_38 : decode cX12_times 38 = .ok (.bipush 36, 2) := by decide +kernel
theorem dX12_times_40 : decode cX12_times 40 = .ok (.iaload, 1) := by decide +kernel
theorem dX12_times_41 : decode cX12_times 41 = .ok (.ireturn, 1) := by decide +kernel
def xX12_times : zX := (RX12, cX12_times, 2, (some .int), false, { frames := 8, cells := 0, slots := 0, locals := 248 }, 0, 0, 0, 0)
theorem rmX12_times : z_Rm xX12_times := by unfold z_Rm xX12_times; exact ⟨by decide, by decide⟩
theorem reX12_times : z_Re xX12_times := ⟨rfl, rfl⟩
theorem rlX12_times : 1 ≤ xX12_times.2.2.2.2.2.1.frames ∧ 21 ≤ xX12_times.2.2.2.2.2.1.locals := by unfold xX12_times; exact ⟨by decide, by decide⟩
theorem meX12_times : z_Me yX12_times xX12_times 1 := ⟨wd1228, wd893, by decide, by decide, by decide +kernel⟩
theorem fitX12_times_1 : z_Fit xX12_isShort xX12_times := by unfold z_Fit; simp only [xX12_isShort, xX12_times]; exact ⟨by decide, by decide⟩
theorem fitX12_times_22 : z_Fit xX12_copies xX12_times := by unfold z_Fit; simp only [xX12_copies, xX12_times]; exact ⟨by decide, by decide⟩
theorem fitX12_times_27 : z_Fit xX12_goes xX12_times := by unfold z_Fit; simp only [xX12_goes, xX12_times]; exact ⟨by decide, by decide⟩
theorem fitX12_times_31 : z_Fit xX12_records xX12_times := by unfold z_Fit; simp only [xX12_records, xX12_times]; exact ⟨by decide, by decide⟩
noncomputable def kX12_times_0 : zK zR := (q_iload 1 (q_callS fX12_isShort 1 (q_if_ne (q_iload 1 (q_if_ne (q_aload 0 (q_callV 12 fX12_copies 0 (q_aload 0 (q_iload 1 (q_callV 12 fX12_goes 1 (q_aload 0 (q_callV 12 fX12_records 0 (q_aload 0 (q_getR 12 46 (q_push 36 (q_iald q_iret))))))))))) (q_aload 0 (q_getR 12 46 (q_push 36 (q_iald q_iret)))))) (q_push (-1) q_iret))))
set_option maxRecDepth 100000 in
theorem tX12_times_0 {l : Launch} {D : zD} {B sz0 : Nat} {post : Option Value → zS → Prop} : zSnd l D B xX12_times sz0 post 0 kX12_times_0 (z_Jr post) := (s_iload_n dX12_times_0 rfl (s_callS dX12_times_1 mX12_isShort meX12_isShort wd1223 rfl reX12_isShort rmX12_times (fitX12_times_1) wd1224 (s_if_ne (tgt := 9) dX12_times_4 (by decide) (s_iload_n dX12_times_9 rfl (s_if_ne (tgt := 21) dX12_times_10 (by decide) (s_aload_n dX12_times_21 rfl (s_callV (r := (RX12, TX12, 74)) dX12_times_22 mX12_copies meX12_copies wd1178 wd1179 rfl rfl reX12_copies rmX12_times (fitX12_times_22) wd1180 (s_aload_n dX12_times_25 rfl (s_iload_n dX12_times_26 rfl (s_callV (r := (RX12, TX12, 74)) dX12_times_27 mX12_goes meX12_goes wd1225 wd1226 rfl rfl reX12_goes rmX12_times (fitX12_times_27) wd1227 (s_aload_n dX12_times_30 rfl (s_callV (r := (RX12, TX12, 74)) dX12_times_31 mX12_records meX12_records wd1216 wd1217 rfl rfl reX12_records rmX12_times (fitX12_times_31) wd1218 (s_aload_n dX12_times_34 rfl (s_getR (f := 46) dX12_times_35 clX12 (by decide) rfl wd905 (s_bipush dX12_times_38 (by decide) (s_iald dX12_times_40 (s_iret dX12_times_41 rfl)))))))))))) (s_aload_n dX12_times_13 rfl (s_getR (f := 46) dX12_times_14 clX12 (by decide) rfl wd905 (s_bipush dX12_times_17 (by decide) (s_iald dX12_times_19 (s_iret dX12_times_20 rfl))))))) (s_iconst dX12_times_7 (by decide) (s_iret dX12_times_8 rfl)))))
noncomputable def fX12_times : zF := z_fn 2 kX12_times_0
theorem mX12_times {l : Launch} {D : zD} {B : Nat} : z_MF l D B yX12_times xX12_times fX12_times := z_mf (by decide) rfl (fun h => by cases h) rfl (fun as σ r h => ⟨z_fn_len h, kX12_times_0, z_fn_run h, fun _ => tX12_times_0⟩)
/-! ===== RowChildrenModel.undo ===== -/
theorem dX12_undo_0 : decode cX12_undo 0 = .ok (.aload_n 0, 1) := by decide +kernel
theorem dX12_undo_1 : decode cX12_undo 1 = .ok (.getfield 271, 3) := by decide +kernel
theorem dX12_undo_4 : decode cX12_undo 4 = .ok (.ifCond .ne 5, 3) := by decide +kernel
theorem dX12_undo_7 : decode cX12_undo 7 = .ok (.iconst 0, 1) := by decide +kernel
theorem dX12_undo_8 : decode cX12_undo 8 = .ok (.ireturn, 1) := by decide +kernel
theorem dX12_undo_9 : decode cX12_undo 9 = .ok (.aload_n 0, 1) := by decide +kernel
theorem dX12_undo_10 : decode cX12_undo 10 = .ok (.dup, 1) := by decide +kernel
theorem dX12_undo_11 : decode cX12_undo 11 = .ok (.getfield 271, 3) := by decide +kernel
theorem dX12_undo_14 : decode cX12_undo 14 = .ok (.iconst 1, 1) := by decide +kernel
theorem dX12_undo_15 : decode cX12_undo 15 = .ok (.isub, 1) := by decide +kernel
theorem dX12_undo_16 : decode cX12_undo 16 = .ok (.putfield 271, 3) := by decide +kernel
theorem dX12_undo_19 : decode cX12_undo 19 = .ok (.iconst 0, 1) := by decide +kernel
theorem dX12_undo_20 : decode cX12_undo 20 = .ok (.istore_n 1, 1) := by decide +kernel
theorem dX12_undo_21 : decode cX12_undo 21 = .ok (.iload_n 1, 1) := by decide +kernel
theorem dX12_undo_22 : decode cX12_undo 22 = .ok (.bipush 38, 2) := by decide +kernel
theorem dX12_undo_24 : decode cX12_undo 24 = .ok (.if_icmp .ge 29, 3) := by decide +kernel
theorem dX12_undo_27 : decode cX12_undo 27 = .ok (.aload_n 0, 1) := by decide +kernel
theorem dX12_undo_28 : decode cX12_undo 28 = .ok (.getfield 104, 3) := by decide +kernel
theorem dX12_undo_31 : decode cX12_undo 31 = .ok (.iload_n 1, 1) := by decide +kernel
theorem dX12_undo_32 : decode cX12_undo 32 = .ok (.aload_n 0, 1) := by decide +kernel
theorem dX12_undo_33 : decode cX12_undo 33 = .ok (.getfield 116, 3) := by decide +kernel
theorem dX12_undo_36 : decode cX12_undo 36 = .ok (.bipush 38, 2) := by decide +kernel
theorem dX12_undo_38 : decode cX12_undo 38 = .ok (.aload_n 0, 1) := by decide +kernel
theorem dX12_undo_39 : decode cX12_undo 39 = .ok (.getfield 271, 3) := by decide +kernel
theorem dX12_undo_42 : decode cX12_undo 42 = .ok (.imul, 1) := by decide +kernel
theorem dX12_undo_43 : decode cX12_undo 43 = .ok (.iload_n 1, 1) := by decide +kernel
theorem dX12_undo_44 : decode cX12_undo 44 = .ok (.iadd, 1) := by decide +kernel
theorem dX12_undo_45 : decode cX12_undo 45 = .ok (.iaload, 1) := by decide +kernel
theorem dX12_undo_46 : decode cX12_undo 46 = .ok (.iastore, 1) := by decide +kernel
theorem dX12_undo_47 : decode cX12_undo 47 = .ok (.iinc 1 1, 3) := by decide +kernel
theorem dX12_undo_50 : decode cX12_undo 50 = .ok (.goto (-29), 3) := by decide +kernel
theorem dX12_undo_53 : decode cX12_undo 53 = .ok (.iconst 1, 1) := by decide +kernel
theorem dX12_undo_54 : decode cX12_undo 54 = .ok (.ireturn, 1) := by decide +kernel
def xX12_undo : zX := (RX12, cX12_undo, 2, (some .boolean), false, { frames := 1, cells := 0, slots := 0, locals := 90 }, 0, 0, 0, 0)
theorem rmX12_undo : z_Rm xX12_undo := by unfold z_Rm xX12_undo; exact ⟨by decide, by decide⟩
theorem reX12_undo : z_Re xX12_undo := ⟨rfl, rfl⟩
theorem rlX12_undo : 1 ≤ xX12_undo.2.2.2.2.2.1.frames ∧ 21 ≤ xX12_undo.2.2.2.2.2.1.locals := by unfold xX12_undo; exact ⟨by decide, by decide⟩
theorem meX12_undo : z_Me yX12_undo xX12_undo 0 := ⟨wd1229, wd893, by decide, by decide, by decide +kernel⟩
noncomputable def kX12_undo_53 : zK zR := (q_push 1 q_zret)
noncomputable def bX12_undo_21 : zK ((zL × zS) ⊕ zR) := (q_iload 1 (q_push 38 (q_icmp_ge (q_dn kX12_undo_53) (q_aload 0 (q_getR 12 46 (q_iload 1 (q_aload 0 (q_getR 12 53 (q_push 38 (q_aload 0 (q_getI 12 52 (q_imul (q_iload 1 (q_iadd (q_iald (q_iast (q_iinc 1 1 q_ag)))))))))))))))))
noncomputable def kX12_undo_21 : zK zR := q_lp (bX12_undo_21)
noncomputable def kX12_undo_0 : zK zR := (q_aload 0 (q_getI 12 52 (q_if_ne (q_aload 0 (q_dup (q_getI 12 52 (q_push 1 (q_isub (q_putI 12 52 (q_push 0 (q_istore 1 kX12_undo_21)))))))) (q_push 0 q_zret))))
set_option maxRecDepth 100000 in
theorem tX12_undo_53 {l : Launch} {D : zD} {B sz0 : Nat} {post : Option Value → zS → Prop} : zSnd l D B xX12_undo sz0 post 53 kX12_undo_53 (z_Jr post) := (s_iconst dX12_undo_53 (by decide) (s_zret dX12_undo_54 rfl))
set_option maxRecDepth 100000 in
theorem tX12_undo_21 {l : Launch} {D : zD} {B sz0 : Nat} {post : Option Value → zS → Prop} : zSnd l D B xX12_undo sz0 post 21 kX12_undo_21 (z_Jr post) := s_lp (body := bX12_undo_21) (s_iload_n dX12_undo_21 rfl (s_bipush dX12_undo_22 (by decide) (s_icmp_ge (tgt := 53) dX12_undo_24 (by decide) (s_dn tX12_undo_53) (s_aload_n dX12_undo_27 rfl (s_getR (f := 46) dX12_undo_28 clX12 (by decide) rfl wd905 (s_iload_n dX12_undo_31 rfl (s_aload_n dX12_undo_32 rfl (s_getR (f := 53) dX12_undo_33 clX12 (by decide) rfl wd929 (s_bipush dX12_undo_36 (by decide) (s_aload_n dX12_undo_38 rfl (s_getI (f := 52) dX12_undo_39 clX12 (by decide) rfl wd1066 (s_imul dX12_undo_42 (s_iload_n dX12_undo_43 rfl (s_iadd dX12_undo_44 (s_iald dX12_undo_45 (s_iast dX12_undo_46 (s_iinc dX12_undo_47 (by decide) (s_goto (tgt := 21) dX12_undo_50 (by decide) s_ag))))))))))))))))))
set_option maxRecDepth 100000 in
theorem tX12_undo_0 {l : Launch} {D : zD} {B sz0 : Nat} {post : Option Value → zS → Prop} : zSnd l D B xX12_undo sz0 post 0 kX12_undo_0 (z_Jr post) := (s_aload_n dX12_undo_0 rfl (s_getI (f := 52) dX12_undo_1 clX12 (by decide) rfl wd1066 (s_if_ne (tgt := 9) dX12_undo_4 (by decide) (s_aload_n dX12_undo_9 rfl (s_dup dX12_undo_10 (s_getI (f := 52) dX12_undo_11 clX12 (by decide) rfl wd1066 (s_iconst dX12_undo_14 (by decide) (s_isub dX12_undo_15 (s_putI (f := 52) dX12_undo_16 clX12 (by decide) rfl rfl rfl wd1066 (s_iconst dX12_undo_19 (by decide) (s_istore_n dX12_undo_20 rfl tX12_undo_21)))))))) (s_iconst dX12_undo_7 (by decide) (s_zret dX12_undo_8 rfl)))))
noncomputable def fX12_undo : zF := z_fn 2 kX12_undo_0
theorem mX12_undo {l : Launch} {D : zD} {B : Nat} : z_MF l D B yX12_undo xX12_undo fX12_undo := z_mf (by decide) rfl (fun h => by cases h) rfl (fun as σ r h => ⟨z_fn_len h, kX12_undo_0, z_fn_run h, fun _ => tX12_undo_0⟩)
/-! ===== RowChildrenModel.isLength ===== -/
theorem dX12_isLength_0 : decode cX12_isLength 0 = .ok (.iload_n 0, 1) := by decide +kernel
theorem dX12_isLength_1 : decode cX12_isLength 1 = .ok (.iconst 1, 1) := by decide +kernel
theorem dX12_isLength_2 : decode cX12_isLength 2 = .ok (.bipush 8, 2) := by decide +kernel
theorem dX12_isLength_4 : decode cX12_isLength 4 = .ok (.invokestatic 323, 3) := by decide +kernel
theorem dX12_isLength_7 : decode cX12_isLength 7 = .ok (.ireturn, 1) := by decide +kernel
def xX12_isLength : zX := (RX12, cX12_isLength, 1, (some .boolean), false, { frames := 2, cells := 0, slots := 0, locals := 112 }, 0, 0, 0, 0)
theorem rmX12_isLength : z_Rm xX12_isLength := by unfold z_Rm xX12_isLength; exact ⟨by decide, by decide⟩
theorem reX12_isLength : z_Re xX12_isLength := ⟨rfl, rfl⟩
theorem rlX12_isLength : 1 ≤ xX12_isLength.2.2.2.2.2.1.frames ∧ 21 ≤ xX12_isLength.2.2.2.2.2.1.locals := by unfold xX12_isLength; exact ⟨by decide, by decide⟩
theorem meX12_isLength : z_Me yX12_isLength xX12_isLength 1 := ⟨wd1230, wd893, by decide, by decide, by decide +kernel⟩
theorem fitX12_isLength_4 : z_Fit xX12_in xX12_isLength := by unfold z_Fit; simp only [xX12_in, xX12_isLength]; exact ⟨by decide, by decide⟩
noncomputable def kX12_isLength_0 : zK zR := (q_iload 0 (q_push 1 (q_push 8 (q_callS fX12_in 3 q_zret))))
set_option maxRecDepth 100000 in
theorem tX12_isLength_0 {l : Launch} {D : zD} {B sz0 : Nat} {post : Option Value → zS → Prop} : zSnd l D B xX12_isLength sz0 post 0 kX12_isLength_0 (z_Jr post) := (s_iload_n dX12_isLength_0 rfl (s_iconst dX12_isLength_1 (by decide) (s_bipush dX12_isLength_2 (by decide) (s_callS dX12_isLength_4 mX12_in meX12_in wd1078 rfl reX12_in rmX12_isLength (fitX12_isLength_4) wd1079 (s_zret dX12_isLength_7 rfl)))))
noncomputable def fX12_isLength : zF := z_fn 1 kX12_isLength_0
theorem mX12_isLength {l : Launch} {D : zD} {B : Nat} : z_MF l D B yX12_isLength xX12_isLength fX12_isLength := z_mf (by decide) rfl (fun h => by cases h) rfl (fun as σ r h => ⟨z_fn_len h, kX12_isLength_0, z_fn_run h, fun _ => tX12_isLength_0⟩)
/-! ===== RowChildrenModel.makes ===== -/
theorem dX12_makes_0 : decode cX12_makes 0 = .ok (.aload_n 0, 1) := by decide +kernel
theorem dX12_makes_1 : decode cX12_makes 1 = .ok (.iload_n 1, 1) := by decide +kernel
theorem dX12_makes_2 : decode cX12_makes 2 = .ok (.invokevirtual 398, 3) := by decide +kernel
theorem dX12_makes_5 : decode cX12_makes 5 = .ok (.ifCond .eq 19, 3) := by decide +kernel
theorem dX12_makes_8 : decode cX12_makes 8 = .ok (.iload_n 2, 1) := by decide +kernel
theorem dX12_makes_9 : decode cX12_makes 9 = .ok (.invokestatic 442, 3) := by decide +kernel
theorem dX12_makes_12 : decode cX12_makes 12 = .ok (.ifCond .eq 12, 3) := by decide +kernel
theorem dX12_makes_15 : decode cX12_makes 15 = .ok (.iload_n 3, 1) := by decide +kernel
theorem dX12_makes_16 : decode cX12_makes 16 = .ok (.iconst 0, 1) := by decide +kernel
theorem dX12_makes_17 : decode cX12_makes 17 = .ok (.iconst 1, 1) := by decide +kernel
theorem dX12_makes_18 : decode cX12_makes 18 = .ok (.invokestatic 323, 3) := by decide +kernel
theorem dX12_makes_21 : decode cX12_makes 21 = .ok (.ifCond .ne 5, 3) := by decide +kernel
theorem dX12_makes_24 : decode cX12_makes 24 = .ok (.iconst (-1), 1) := by decide +kernel
theorem dX12_makes_25 : decode cX12_makes 25 = .ok (.ireturn, 1) := by decide +kernel
theorem dX12_makes_26 : decode cX12_makes 26 = .ok (.iconst 0, 1) := by decide +kernel
theorem dX12_makes_27 : decode cX12_makes 27 = .ok (.istore 4, 2) := by decide +kernel
theorem dX12_makes_29 : decode cX12_makes 29 = .ok (.bipush (-2), 2) := by decide +kernel
theorem dX12_makes_31 : decode cX12_makes 31 = .ok (.istore 5, 2) := by decide +kernel
theorem dX12_makes_33 : decode cX12_makes 33 = .ok (.aload_n 0, 1) := by decide +kernel
theorem dX12_makes_34 : decode cX12_makes 34 = .ok (.iload_n 2, 1) := by decide +kernel
theorem dX12_makes_35 : decode cX12_makes 35 = .ok (.invokevirtual 445, 3) := by decide +kernel
theorem dX12_makes_38 : decode cX12_makes 38 = .ok (.iconst 1, 1) := by decide +kernel
theorem dX12_makes_39 : decode cX12_makes 39 = .ok (.isub, 1) := by decide +kernel
theorem dX12_makes_40 : decode cX12_makes 40 = .ok (.istore 6, 2) := by decide +kernel
theorem dX12_makes_42 : decode cX12_makes 42 = .ok (.iload 6, 2) := by decide +kernel
theorem dX12_makes_44 : decode cX12_makes 44 = .ok (.ifCond .lt 34, 3) := by decide +kernel
theorem dX12_makes_47 : decode cX12_makes 47 = .ok (.aload_n 0, 1) := by decide +kernel
theorem dX12_makes_48 : decode cX12_makes 48 = .ok (.iload 6, 2) := by decide +kernel
theorem dX12_makes_50 : decode cX12_makes 50 = .ok (.iload_n 2, 1) := by decide +kernel
theorem dX12_makes_51 : decode cX12_makes 51 = .ok (.invokevirtual 448, 3) := by decide +kernel
theorem dX12_makes_54 : decode cX12_makes 54 = .ok (.aload_n 0, 1) := by decide +kernel
theorem dX12_makes_55 : decode cX12_makes 55 = .ok (.invokevirtual 407, 3) := by decide +kernel
theorem dX12_makes_58 : decode cX12_makes 58 = .ok (.iload_n 1, 1) := by decide +kernel
theorem dX12_makes_59 : decode cX12_makes 59 = .ok (.if_icmp .eq 6, 3) := by decide +kernel
theorem dX12_makes_62 : decode cX12_makes 62 = .ok (.goto 10, 3) := by decide +kernel
theorem dX12_makes_65 : decode cX12_makes 65 = .ok (.iinc 4 1, 3) := by decide +kernel
theorem dX12_makes_68 : decode cX12_makes 68 = .ok (.iload 6, 2) := by decide +kernel
theorem dX12_makes_70 : decode cX12_makes 70 = .ok (.istore 5, 2) := by decide +kernel
theorem dX12_makes_72 : decode cX12_makes 72 = .ok (.iinc 6 (-1), 3) := by decide +kernel
theorem dX12_makes_75 : decode cX12_makes 75 = .ok (.goto (-33), 3) := by decide +kernel
theorem dX12_makes_78 : decode cX12_makes 78 = .ok (.iload_n 3, 1) := by decide +kernel
theorem dX12_makes_79 : decode cX12_makes 79 = .ok (.ifCond .ne 8, 3) := by decide +kernel
theorem dX12_makes_82 : decode cX12_makes 82 = .ok (.iload 4, 2) := by decide +kernel
theorem dX12_makes_84 : decode cX12_makes 84 = .ok (.goto 5, 3) := by decide +kernel
theorem dX12_makes_87 : decode cX12_makes 87 = .ok (.iload 5, 2) := by decide +kernel
theorem dX12_makes_89 : decode cX12_makes 89 = .ok (.ireturn, 1) := by decide +kernel
def xX12_makes : zX := (RX12, cX12_makes, 7, (some .int), false, { frames := 5, cells := 0, slots := 0, locals := 179 }, 0, 0, 0, 0)
theorem rmX12_makes : z_Rm xX12_makes := by unfold z_Rm xX12_makes; exact ⟨by decide, by decide⟩
theorem reX12_makes : z_Re xX12_makes := ⟨rfl, rfl⟩
theorem rlX12_makes : 1 ≤ xX12_makes.2.2.2.2.2.1.frames ∧ 21 ≤ xX12_makes.2.2.2.2.2.1.locals := by unfold xX12_makes; exact ⟨by decide, by decide⟩
theorem meX12_makes : z_Me yX12_makes xX12_makes 3 := ⟨wd1239, wd893, by decide, by decide, by decide +kernel⟩
theorem fitX12_makes_2 : z_Fit xX12_isColour xX12_makes := by unfold z_Fit; simp only [xX12_isColour, xX12_makes]; exact ⟨by decide, by decide⟩
theorem fitX12_makes_9 : z_Fit xX12_isLength xX12_makes := by unfold z_Fit; simp only [xX12_isLength, xX12_makes]; exact ⟨by decide, by decide⟩
theorem fitX12_makes_18 : z_Fit xX12_in xX12_makes := by unfold z_Fit; simp only [xX12_in, xX12_makes]; exact ⟨by decide, by decide⟩
theorem fitX12_makes_35 : z_Fit xX12_rowsOf xX12_makes := by unfold z_Fit; simp only [xX12_rowsOf, xX12_makes]; exact ⟨by decide, by decide⟩
theorem fitX12_makes_51 : z_Fit xX12_laysNumber xX12_makes := by unfold z_Fit; simp only [xX12_laysNumber, xX12_makes]; exact ⟨by decide, by decide⟩
theorem fitX12_makes_55 : z_Fit xX12_lastLaid xX12_makes := by unfold z_Fit; simp only [xX12_lastLaid, xX12_makes]; exact ⟨by decide, by decide⟩
noncomputable def kX12_makes_24 : zK zR := (q_push (-1) q_iret)
noncomputable def kX12_makes_89 : zK zR := q_iret
noncomputable def kX12_makes_78 : zK zR := (q_iload 3 (q_if_ne (q_iload 5 kX12_makes_89) (q_iload 4 kX12_makes_89)))
noncomputable def kX12_makes_72 : zK ((zL × zS) ⊕ zR) := (q_iinc 6 (-1) q_ag)
noncomputable def bX12_makes_42 : zK ((zL × zS) ⊕ zR) := (q_iload 6 (q_if_lt (q_dn kX12_makes_78) (q_aload 0 (q_iload 6 (q_iload 2 (q_callV 12 fX12_laysNumber 2 (q_aload 0 (q_callV 12 fX12_lastLaid 0 (q_iload 1 (q_icmp_eq (q_iinc 4 1 (q_iload 6 (q_istore 5 kX12_makes_72))) kX12_makes_72))))))))))
noncomputable def kX12_makes_42 : zK zR := q_lp (bX12_makes_42)
noncomputable def kX12_makes_0 : zK zR := (q_aload 0 (q_iload 1 (q_callV 12 fX12_isColour 1 (q_if_eq kX12_makes_24 (q_iload 2 (q_callS fX12_isLength 1 (q_if_eq kX12_makes_24 (q_iload 3 (q_push 0 (q_push 1 (q_callS fX12_in 3 (q_if_ne (q_push 0 (q_istore 4 (q_push (-2) (q_istore 5 (q_aload 0 (q_iload 2 (q_callV 12 fX12_rowsOf 1 (q_push 1 (q_isub (q_istore 6 kX12_makes_42)))))))))) kX12_makes_24))))))))))))
set_option maxRecDepth 100000 in
theorem tX12_makes_24 {l : Launch} {D : zD} {B sz0 : Nat} {post : Option Value → zS → Prop} : zSnd l D B xX12_makes sz0 post 24 kX12_makes_24 (z_Jr post) := (s_iconst dX12_makes_24 (by decide) (s_iret dX12_makes_25 rfl))
set_option maxRecDepth 100000 in
theorem tX12_makes_89 {l : Launch} {D : zD} {B sz0 : Nat} {post : Option Value → zS → Prop} : zSnd l D B xX12_makes sz0 post 89 kX12_makes_89 (z_Jr post) := (s_iret dX12_makes_89 rfl)
set_option maxRecDepth 100000 in
theorem tX12_makes_78 {l : Launch} {D : zD} {B sz0 : Nat} {post : Option Value → zS → Prop} : zSnd l D B xX12_makes sz0 post 78 kX12_makes_78 (z_Jr post) := (s_iload_n dX12_makes_78 rfl (s_if_ne (tgt := 87) dX12_makes_79 (by decide) (s_iload dX12_makes_87 tX12_makes_89) (s_iload dX12_makes_82 (s_goto (tgt := 89) dX12_makes_84 (by decide) tX12_makes_89))))
set_option maxRecDepth 100000 in
theorem tX12_makes_72 {l : Launch} {D : zD} {B sz0 : Nat} {post : Option Value → zS → Prop} : zSnd l D B xX12_makes sz0 post 72 kX12_makes_72 (z_Jl l D B xX12_makes sz0 post 42 (z_Jr post)) := (s_iinc dX12_makes_72 (by decide) (s_goto (tgt := 42) dX12_makes_75 (by decide) s_ag))
set_option maxRecDepth 100000 in
theorem tX12_makes_42 {l : Launch} {D : zD} {B sz0 : Nat} {post : Option Value → zS → Prop} : zSnd l D B xX12_makes sz0 post 42 kX12_makes_42 (z_Jr post) := s_lp (body := bX12_makes_42) (s_iload dX12_makes_42 (s_if_lt (tgt := 78) dX12_makes_44 (by decide) (s_dn tX12_makes_78) (s_aload_n dX12_makes_47 rfl (s_iload dX12_makes_48 (s_iload_n dX12_makes_50 rfl (s_callV (r := (RX12, TX12, 74)) dX12_makes_51 mX12_laysNumber meX12_laysNumber wd1236 wd1237 rfl rfl reX12_laysNumber rmX12_makes (fitX12_makes_51) wd1238 (s_aload_n dX12_makes_54 rfl (s_callV (r := (RX12, TX12, 74)) dX12_makes_55 mX12_lastLaid meX12_lastLaid wd1184 wd1185 rfl rfl reX12_lastLaid rmX12_makes (fitX12_makes_55) wd1186 (s_iload_n dX12_makes_58 rfl (s_icmp_eq (tgt := 65) dX12_makes_59 (by decide) (s_iinc dX12_makes_65 (by decide) (s_iload dX12_makes_68 (s_istore dX12_makes_70 tX12_makes_72))) (s_goto (tgt := 72) dX12_makes_62 (by decide) tX12_makes_72)))))))))))
set_option maxRecDepth 100000 in
theorem tX12_makes_0 {l : Launch} {D : zD} {B sz0 : Nat} {post : Option Value → zS → Prop} : zSnd l D B xX12_makes sz0 post 0 kX12_makes_0 (z_Jr post) := (s_aload_n dX12_makes_0 rfl (s_iload_n dX12_makes_1 rfl (s_callV (r := (RX12, TX12, 74)) dX12_makes_2 mX12_isColour meX12_isColour wd1174 wd1175 rfl rfl reX12_isColour rmX12_makes (fitX12_makes_2) wd1176 (s_if_eq (tgt := 24) dX12_makes_5 (by decide) tX12_makes_24 (s_iload_n dX12_makes_8 rfl (s_callS dX12_makes_9 mX12_isLength meX12_isLength wd1231 rfl reX12_isLength rmX12_makes (fitX12_makes_9) wd1232 (s_if_eq (tgt := 24) dX12_makes_12 (by decide) tX12_makes_24 (s_iload_n dX12_makes_15 rfl (s_iconst dX12_makes_16 (by decide) (s_iconst dX12_makes_17 (by decide) (s_callS dX12_makes_18 mX12_in meX12_in wd1078 rfl reX12_in rmX12_makes (fitX12_makes_18) wd1079 (s_if_ne (tgt := 26) dX12_makes_21 (by decide) (s_iconst dX12_makes_26 (by decide) (s_istore dX12_makes_27 (s_bipush dX12_makes_29 (by decide) (s_istore dX12_makes_31 (s_aload_n dX12_makes_33 rfl (s_iload_n dX12_makes_34 rfl (s_callV (r := (RX12, TX12, 74)) dX12_makes_35 mX12_rowsOf meX12_rowsOf wd1233 wd1234 rfl rfl reX12_rowsOf rmX12_makes (fitX12_makes_35) wd1235 (s_iconst dX12_makes_38 (by decide) (s_isub dX12_makes_39 (s_istore dX12_makes_40 tX12_makes_42)))))))))) tX12_makes_24))))))))))))
noncomputable def fX12_makes : zF := z_fn 7 kX12_makes_0
theorem mX12_makes {l : Launch} {D : zD} {B : Nat} : z_MF l D B yX12_makes xX12_makes fX12_makes := z_mf (by decide) rfl (fun h => by cases h) rfl (fun as σ r h => ⟨z_fn_len h, kX12_makes_0, z_fn_run h, fun _ => tX12_makes_0⟩)
/-! ===== RowChildrenModel.fillsCosts ===== -/
theorem dX12_fillsCosts_0 : decode cX12_fillsCosts 0 = .ok (.iconst 0, 1) := by decide +kernel
theorem dX12_fillsCosts_1 : decode cX12_fillsCosts 1 = .ok (.istore_n 2, 1) := by decide +kernel
theorem dX12_fillsCosts_2 : decode cX12_fillsCosts 2 = .ok (.iload_n 2, 1) := by decide +kernel
theorem dX12_fillsCosts_3 : decode cX12_fillsCosts 3 = .ok (.aload_n 0, 1) := by decide +kernel
theorem dX12_fillsCosts_4 : decode cX12_fillsCosts 4 = .ok (.getfield 107, 3) := by decide +kernel
theorem dX12_fillsCosts_7 : decode cX12_fillsCosts 7 = .ok (.iload_n 1, 1) := by decide +kernel
theorem dX12_fillsCosts_8 : decode cX12_fillsCosts 8 = .ok (.iaload, 1) := by decide +kernel
theorem dX12_fillsCosts_9 : decode cX12_fillsCosts 9 = .ok (.if_icmp .ge 56, 3) := by decide +kernel
theorem dX12_fillsCosts_12 : decode cX12_fillsCosts 12 = .ok (.iconst 0, 1) := by decide +kernel
theorem dX12_fillsCosts_13 : decode cX12_fillsCosts 13 = .ok (.istore_n 3, 1) := by decide +kernel
theorem dX12_fillsCosts_14 : decode cX12_fillsCosts 14 = .ok (.iload_n 3, 1) := by decide +kernel
theorem dX12_fillsCosts_15 : decode cX12_fillsCosts 15 = .ok (.aload_n 0, 1) := by decide +kernel
theorem dX12_fillsCosts_16 : decode cX12_fillsCosts 16 = .ok (.invokevirtual 327, 3) := by decide +kernel
theorem dX12_fillsCosts_19 : decode cX12_fillsCosts 19 = .ok (.if_icmp .ge 40, 3) := by decide +kernel
theorem dX12_fillsCosts_22 : decode cX12_fillsCosts 22 = .ok (.aload_n 0, 1) := by decide +kernel
theorem dX12_fillsCosts_23 : decode cX12_fillsCosts 23 = .ok (.getfield 119, 3) := by decide +kernel
theorem dX12_fillsCosts_26 : decode cX12_fillsCosts 26 = .ok (.iconst 4, 1) := by decide +kernel
theorem dX12_fillsCosts_27 : decode cX12_fillsCosts 27 = .ok (.iload_n 2, 1) := by decide +kernel
theorem dX12_fillsCosts_28 : decode cX12_fillsCosts 28 = .ok (.imul, 1) := by decide +kernel
theorem dX12_fillsCosts_29 : decode cX12_fillsCosts 29 = .ok (.iload_n 3, 1) := by decide +kernel
theorem dX12_fillsCosts_30 : decode cX12_fillsCosts 30 = .ok (.iadd, 1) := by decide +kernel
theorem dX12_fillsCosts_31 : decode cX12_fillsCosts 31 = .ok (.aload_n 0, 1) := by decide +kernel
theorem dX12_fillsCosts_32 : decode cX12_fillsCosts 32 = .ok (.iload_n 1, 1) := by decide +kernel
theorem dX12_fillsCosts_33 : decode cX12_fillsCosts 33 = .ok (.iload_n 2, 1) := by decide +kernel
theorem dX12_fillsCosts_34 : decode cX12_fillsCosts 34 = .ok (.invokevirtual 349, 3) := by decide +kernel
theorem dX12_fillsCosts_37 : decode cX12_fillsCosts 37 = .ok (.iload_n 3, 1) := by decide +kernel
theorem dX12_fillsCosts_38 : decode cX12_fillsCosts 38 = .ok (.if_icmp .ne 7, 3) := by decide +kernel
theorem dX12_fillsCosts_41 : decode cX12_fillsCosts 41 = .ok (.iconst 0, 1) := by decide +kernel
theorem dX12_fillsCosts_42 : decode cX12_fillsCosts 42 = .ok (.goto 10, 3) := by decide +kernel
theorem dX12_fillsCosts_45 : decode cX12_fillsCosts 45 = .ok (.aload_n 0, 1) := by decide +kernel
theorem dX12_fillsCosts_46 : decode cX12_fillsCosts 46 = .ok (.iload_n 1, 1) := by decide +kernel
theorem dX12_fillsCosts_47 : decode cX12_fillsCosts 47 = .ok (.iload_n 2, 1) := by decide +kernel
theorem dX12_fillsCosts_48 : decode cX12_fillsCosts 48 = .ok (.iload_n 3, 1) := by decide +kernel
theorem dX12_fillsCosts_49 : decode cX12_fillsCosts 49 = .ok (.invokevirtual 430, 3) := by decide +kernel
theorem dX12_fillsCosts_52 : decode cX12_fillsCosts 52 = .ok (.iastore, 1) := by decide +kernel
theorem dX12_fillsCosts_53 : decode cX12_fillsCosts 53 = .ok (.iinc 3 1, 3) := by decide +kernel
theorem dX12_fillsCosts_56 : decode cX12_fillsCosts 56 = .ok (.goto (-42), 3) := by decide +kernel
theorem dX12_fillsCosts_59 : decode cX12_fillsCosts 59 = .ok (.iinc 2 1, 3) := by decide +kernel
theorem dX12_fillsCosts_62 : decode cX12_fillsCosts 62 = .ok (.goto (-60), 3) := by decide +kernel
theorem dX12_fillsCosts_65 : decode cX12_fillsCosts 65 = .ok (.return_, 1) := by decide +kernel
def xX12_fillsCosts : zX := (RX12, cX12_fillsCosts, 4, none, false, { frames := 5, cells := 0, slots := 0, locals := 183 }, 0, 0, 0, 0)
theorem rmX12_fillsCosts : z_Rm xX12_fillsCosts := by unfold z_Rm xX12_fillsCosts; exact ⟨by decide, by decide⟩
theorem reX12_fillsCosts : z_Re xX12_fillsCosts := ⟨rfl, rfl⟩
theorem rlX12_fillsCosts : 1 ≤ xX12_fillsCosts.2.2.2.2.2.1.frames ∧ 21 ≤ xX12_fillsCosts.2.2.2.2.2.1.locals := by unfold xX12_fillsCosts; exact ⟨by decide, by decide⟩
theorem meX12_fillsCosts : z_Me yX12_fillsCosts xX12_fillsCosts 1 := ⟨wd1240, wd893, by decide, by decide, by decide +kernel⟩
theorem fitX12_fillsCosts_16 : z_Fit xX12_base xX12_fillsCosts := by unfold z_Fit; simp only [xX12_base, xX12_fillsCosts]; exact ⟨by decide, by decide⟩
theorem fitX12_fillsCosts_34 : z_Fit xX12_seatAt xX12_fillsCosts := by unfold z_Fit; simp only [xX12_seatAt, xX12_fillsCosts]; exact ⟨by decide, by decide⟩
theorem fitX12_fillsCosts_49 : z_Fit xX12_costsOf xX12_fillsCosts := by unfold z_Fit; simp only [xX12_costsOf, xX12_fillsCosts]; exact ⟨by decide, by decide⟩
noncomputable def kX12_fillsCosts_65 : zK zR := q_vret
noncomputable def kX12_fillsCosts_59 : zK ((zL × zS) ⊕ zR) := (q_iinc 2 1 q_ag)
noncomputable def kX12_fillsCosts_52 : zK ((zL × zS) ⊕ ((zL × zS) ⊕ zR)) := (q_iast (q_iinc 3 1 q_ag))
noncomputable def bX12_fillsCosts_14 : zK ((zL × zS) ⊕ ((zL × zS) ⊕ zR)) := (q_iload 3 (q_aload 0 (q_callV 12 fX12_base 0 (q_icmp_ge (q_dn kX12_fillsCosts_59) (q_aload 0 (q_getR 12 54 (q_push 4 (q_iload 2 (q_imul (q_iload 3 (q_iadd (q_aload 0 (q_iload 1 (q_iload 2 (q_callV 12 fX12_seatAt 2 (q_iload 3 (q_icmp_ne (q_aload 0 (q_iload 1 (q_iload 2 (q_iload 3 (q_callV 12 fX12_costsOf 3 kX12_fillsCosts_52))))) (q_push 0 kX12_fillsCosts_52))))))))))))))))))
noncomputable def kX12_fillsCosts_14 : zK ((zL × zS) ⊕ zR) := q_lp (bX12_fillsCosts_14)
noncomputable def bX12_fillsCosts_2 : zK ((zL × zS) ⊕ zR) := (q_iload 2 (q_aload 0 (q_getR 12 47 (q_iload 1 (q_iald (q_icmp_ge (q_dn kX12_fillsCosts_65) (q_push 0 (q_istore 3 kX12_fillsCosts_14))))))))
noncomputable def kX12_fillsCosts_2 : zK zR := q_lp (bX12_fillsCosts_2)
noncomputable def kX12_fillsCosts_0 : zK zR := (q_push 0 (q_istore 2 kX12_fillsCosts_2))
set_option maxRecDepth 100000 in
theorem tX12_fillsCosts_65 {l : Launch} {D : zD} {B sz0 : Nat} {post : Option Value → zS → Prop} : zSnd l D B xX12_fillsCosts sz0 post 65 kX12_fillsCosts_65 (z_Jr post) := (s_vret dX12_fillsCosts_65 rfl)
set_option maxRecDepth 100000 in
theorem tX12_fillsCosts_59 {l : Launch} {D : zD} {B sz0 : Nat} {post : Option Value → zS → Prop} : zSnd l D B xX12_fillsCosts sz0 post 59 kX12_fillsCosts_59 (z_Jl l D B xX12_fillsCosts sz0 post 2 (z_Jr post)) := (s_iinc dX12_fillsCosts_59 (by decide) (s_goto (tgt := 2) dX12_fillsCosts_62 (by decide) s_ag))
set_option maxRecDepth 100000 in
theorem tX12_fillsCosts_52 {l : Launch} {D : zD} {B sz0 : Nat} {post : Option Value → zS → Prop} : zSnd l D B xX12_fillsCosts sz0 post 52 kX12_fillsCosts_52 (z_Jl l D B xX12_fillsCosts sz0 post 14 (z_Jl l D B xX12_fillsCosts sz0 post 2 (z_Jr post))) := (s_iast dX12_fillsCosts_52 (s_iinc dX12_fillsCosts_53 (by decide) (s_goto (tgt := 14) dX12_fillsCosts_56 (by decide) s_ag)))
set_option maxRecDepth 100000 in
theorem tX12_fillsCosts_14 {l : Launch} {D : zD} {B sz0 : Nat} {post : Option Value → zS → Prop} : zSnd l D B xX12_fillsCosts sz0 post 14 kX12_fillsCosts_14 (z_Jl l D B xX12_fillsCosts sz0 post 2 (z_Jr post)) := s_lp (body := bX12_fillsCosts_14) (s_iload_n dX12_fillsCosts_14 rfl (s_aload_n dX12_fillsCosts_15 rfl (s_callV (r := (RX12, TX12, 74)) dX12_fillsCosts_16 mX12_base meX12_base wd1081 wd1082 rfl rfl reX12_base rmX12_fillsCosts (fitX12_fillsCosts_16) wd1083 (s_icmp_ge (tgt := 59) dX12_fillsCosts_19 (by decide) (s_dn tX12_fillsCosts_59) (s_aload_n dX12_fillsCosts_22 rfl (s_getR (f := 54) dX12_fillsCosts_23 clX12 (by decide) rfl wd930 (s_iconst dX12_fillsCosts_26 (by decide) (s_iload_n dX12_fillsCosts_27 rfl (s_imul dX12_fillsCosts_28 (s_iload_n dX12_fillsCosts_29 rfl (s_iadd dX12_fillsCosts_30 (s_aload_n dX12_fillsCosts_31 rfl (s_iload_n dX12_fillsCosts_32 rfl (s_iload_n dX12_fillsCosts_33 rfl (s_callV (r := (RX12, TX12, 74)) dX12_fillsCosts_34 mX12_seatAt meX12_seatAt wd1109 wd1110 rfl rfl reX12_seatAt rmX12_fillsCosts (fitX12_fillsCosts_34) wd1111 (s_iload_n dX12_fillsCosts_37 rfl (s_icmp_ne (tgt := 45) dX12_fillsCosts_38 (by decide) (s_aload_n dX12_fillsCosts_45 rfl (s_iload_n dX12_fillsCosts_46 rfl (s_iload_n dX12_fillsCosts_47 rfl (s_iload_n dX12_fillsCosts_48 rfl (s_callV (r := (RX12, TX12, 74)) dX12_fillsCosts_49 mX12_costsOf meX12_costsOf wd1211 wd1212 rfl rfl reX12_costsOf rmX12_fillsCosts (fitX12_fillsCosts_49) wd1213 tX12_fillsCosts_52))))) (s_iconst dX12_fillsCosts_41 (by decide) (s_goto (tgt := 52) dX12_fillsCosts_42 (by decide) tX12_fillsCosts_52)))))))))))))))))))
set_option maxRecDepth 100000 in
theorem tX12_fillsCosts_2 {l : Launch} {D : zD} {B sz0 : Nat} {post : Option Value → zS → Prop} : zSnd l D B xX12_fillsCosts sz0 post 2 kX12_fillsCosts_2 (z_Jr post) := s_lp (body := bX12_fillsCosts_2) (s_iload_n dX12_fillsCosts_2 rfl (s_aload_n dX12_fillsCosts_3 rfl (s_getR (f := 47) dX12_fillsCosts_4 clX12 (by decide) rfl wd901 (s_iload_n dX12_fillsCosts_7 rfl (s_iald dX12_fillsCosts_8 (s_icmp_ge (tgt := 65) dX12_fillsCosts_9 (by decide) (s_dn tX12_fillsCosts_65) (s_iconst dX12_fillsCosts_12 (by decide) (s_istore_n dX12_fillsCosts_13 rfl tX12_fillsCosts_14))))))))
set_option maxRecDepth 100000 in
theorem tX12_fillsCosts_0 {l : Launch} {D : zD} {B sz0 : Nat} {post : Option Value → zS → Prop} : zSnd l D B xX12_fillsCosts sz0 post 0 kX12_fillsCosts_0 (z_Jr post) := (s_iconst dX12_fillsCosts_0 (by decide) (s_istore_n dX12_fillsCosts_1 rfl tX12_fillsCosts_2))
noncomputable def fX12_fillsCosts : zF := z_fn 4 kX12_fillsCosts_0
theorem mX12_fillsCosts {l : Launch} {D : zD} {B : Nat} : z_MF l D B yX12_fillsCosts xX12_fillsCosts fX12_fillsCosts := z_mf (by decide) rfl (fun h => by cases h) rfl (fun as σ r h => ⟨z_fn_len h, kX12_fillsCosts_0, z_fn_run h, fun _ => tX12_fillsCosts_0⟩)
/-! ===== RowChildrenModel.costLaid ===== -/
theorem dX12_costLaid_0 : decode cX12_costLaid 0 = .ok (.iconst 0, 1) := by decide +kernel
theorem dX12_costLaid_1 : decode cX12_costLaid 1 = .ok (.istore_n 1, 1) := by decide +kernel
theorem dX12_costLaid_2 : decode cX12_costLaid 2 = .ok (.iconst 0, 1) := by decide +kernel
theorem dX12_costLaid_3 : decode cX12_costLaid 3 = .ok (.istore_n 2, 1) := by decide +kernel
theorem dX12_costLaid_4 : decode cX12_costLaid 4 = .ok (.iload_n 2, 1) := by decide +kernel
theorem dX12_costLaid_5 : decode cX12_costLaid 5 = .ok (.aload_n 0, 1) := by decide +kernel
theorem dX12_costLaid_6 : decode cX12_costLaid 6 = .ok (.getfield 340, 3) := by decide +kernel
theorem dX12_costLaid_9 : decode cX12_costLaid 9 = .ok (.if_icmp .ge 27, 3) := by decide +kernel
theorem dX12_costLaid_12 : decode cX12_costLaid 12 = .ok (.iload_n 1, 1) := by decide +kernel
theorem dX12_costLaid_13 : decode cX12_costLaid 13 = .ok (.aload_n 0, 1) := by decide +kernel
theorem dX12_costLaid_14 : decode cX12_costLaid 14 = .ok (.getfield 119, 3) := by decide +kernel
theorem dX12_costLaid_17 : decode cX12_costLaid 17 = .ok (.iconst 4, 1) := by decide +kernel
theorem dX12_costLaid_18 : decode cX12_costLaid 18 = .ok (.iload_n 2, 1) := by decide +kernel
theorem dX12_costLaid_19 : decode cX12_costLaid 19 = .ok (.imul, 1) := by decide +kernel
theorem dX12_costLaid_20 : decode cX12_costLaid 20 = .ok (.aload_n 0, 1) := by decide +kernel
theorem dX12_costLaid_21 : decode cX12_costLaid 21 = .ok (.getfield 110, 3) := by decide +kernel
theorem dX12_costLaid_24 : decode cX12_costLaid 24 = .ok (.iload_n 2, 1) := by decide +kernel
theorem dX12_costLaid_25 : decode cX12_costLaid 25 = .ok (.iaload, 1) := by decide +kernel
theorem dX12_costLaid_26 : decode cX12_costLaid 26 = .ok (.iadd, 1) := by decide +kernel
theorem dX12_costLaid_27 : decode cX12_costLaid 27 = .ok (.iaload, 1) := by decide +kernel
theorem dX12_costLaid_28 : decode cX12_costLaid 28 = .ok (.iadd, 1) := by decide +kernel
theorem dX12_costLaid_29 : decode cX12_costLaid 29 = .ok (.istore_n 1, 1) := by decide +kernel
theorem dX12_costLaid_30 : decode cX12_costLaid 30 = .ok (.iinc 2 1, 3) := by decide +kernel
theorem dX12_costLaid_33 : decode cX12_costLaid 33 = .ok (.goto (-29), 3) := by decide +kernel
theorem dX12_costLaid_36 : decode cX12_costLaid 36 = .ok (.iload_n 1, 1) := by decide +kernel
theorem dX12_costLaid_37 : decode cX12_costLaid 37 = .ok (.ireturn, 1) := by decide +kernel
def xX12_costLaid : zX := (RX12, cX12_costLaid, 3, (some .int), false, { frames := 1, cells := 0, slots := 0, locals := 90 }, 0, 0, 0, 0)
theorem rmX12_costLaid : z_Rm xX12_costLaid := by unfold z_Rm xX12_costLaid; exact ⟨by decide, by decide⟩
theorem reX12_costLaid : z_Re xX12_costLaid := ⟨rfl, rfl⟩
theorem rlX12_costLaid : 1 ≤ xX12_costLaid.2.2.2.2.2.1.frames ∧ 21 ≤ xX12_costLaid.2.2.2.2.2.1.locals := by unfold xX12_costLaid; exact ⟨by decide, by decide⟩
theorem meX12_costLaid : z_Me yX12_costLaid xX12_costLaid 0 := ⟨wd1241, wd893, by decide, by decide, by decide +kernel⟩
noncomputable def kX12_costLaid_36 : zK zR := (q_iload 1 q_iret)
noncomputable def bX12_costLaid_4 : zK ((zL × zS) ⊕ zR) := (q_iload 2 (q_aload 0 (q_getI 12 50 (q_icmp_ge (q_dn kX12_costLaid_36) (q_iload 1 (q_aload 0 (q_getR 12 54 (q_push 4 (q_iload 2 (q_imul (q_aload 0 (q_getR 12 49 (q_iload 2 (q_iald (q_iadd (q_iald (q_iadd (q_istore 1 (q_iinc 2 1 q_ag)))))))))))))))))))
noncomputable def kX12_costLaid_4 : zK zR := q_lp (bX12_costLaid_4)
noncomputable def kX12_costLaid_0 : zK zR := (q_push 0 (q_istore 1 (q_push 0 (q_istore 2 kX12_costLaid_4))))
set_option maxRecDepth 100000 in
theorem tX12_costLaid_36 {l : Launch} {D : zD} {B sz0 : Nat} {post : Option Value → zS → Prop} : zSnd l D B xX12_costLaid sz0 post 36 kX12_costLaid_36 (z_Jr post) := (s_iload_n dX12_costLaid_36 rfl (s_iret dX12_costLaid_37 rfl))
set_option maxRecDepth 100000 in
theorem tX12_costLaid_4 {l : Launch} {D : zD} {B sz0 : Nat} {post : Option Value → zS → Prop} : zSnd l D B xX12_costLaid sz0 post 4 kX12_costLaid_4 (z_Jr post) := s_lp (body := bX12_costLaid_4) (s_iload_n dX12_costLaid_4 rfl (s_aload_n dX12_costLaid_5 rfl (s_getI (f := 50) dX12_costLaid_6 clX12 (by decide) rfl wd1098 (s_icmp_ge (tgt := 36) dX12_costLaid_9 (by decide) (s_dn tX12_costLaid_36) (s_iload_n dX12_costLaid_12 rfl (s_aload_n dX12_costLaid_13 rfl (s_getR (f := 54) dX12_costLaid_14 clX12 (by decide) rfl wd930 (s_iconst dX12_costLaid_17 (by decide) (s_iload_n dX12_costLaid_18 rfl (s_imul dX12_costLaid_19 (s_aload_n dX12_costLaid_20 rfl (s_getR (f := 49) dX12_costLaid_21 clX12 (by decide) rfl wd927 (s_iload_n dX12_costLaid_24 rfl (s_iald dX12_costLaid_25 (s_iadd dX12_costLaid_26 (s_iald dX12_costLaid_27 (s_iadd dX12_costLaid_28 (s_istore_n dX12_costLaid_29 rfl (s_iinc dX12_costLaid_30 (by decide) (s_goto (tgt := 4) dX12_costLaid_33 (by decide) s_ag))))))))))))))))))))
set_option maxRecDepth 100000 in
theorem tX12_costLaid_0 {l : Launch} {D : zD} {B sz0 : Nat} {post : Option Value → zS → Prop} : zSnd l D B xX12_costLaid sz0 post 0 kX12_costLaid_0 (z_Jr post) := (s_iconst dX12_costLaid_0 (by decide) (s_istore_n dX12_costLaid_1 rfl (s_iconst dX12_costLaid_2 (by decide) (s_istore_n dX12_costLaid_3 rfl tX12_costLaid_4))))
noncomputable def fX12_costLaid : zF := z_fn 3 kX12_costLaid_0
theorem mX12_costLaid {l : Launch} {D : zD} {B : Nat} : z_MF l D B yX12_costLaid xX12_costLaid fX12_costLaid := z_mf (by decide) rfl (fun h => by cases h) rfl (fun as σ r h => ⟨z_fn_len h, kX12_costLaid_0, z_fn_run h, fun _ => tX12_costLaid_0⟩)
/-! ===== RowChildrenModel.repaint ===== -/
theorem dX12_repaint_0 : decode cX12_repaint 0 = .ok (.aload_n 0, 1) := by decide +kernel
theorem dX12_repaint_1 : decode cX12_repaint 1 = .ok (.iload_n 1, 1) := by decide +kernel
theorem dX12_repaint_2 : decode cX12_repaint 2 = .ok (.invokevirtual 330, 3) := by decide +kernel
theorem dX12_repaint_5 : decode cX12_repaint 5 = .ok (.ifCond .eq 20, 3) := by decide +kernel
theorem dX12_repaint_8 : decode cX12_repaint 8 = .ok (.aload_n 0, 1) := by decide +kernel
theorem dX12_repaint_9 : decode cX12_repaint 9 = .ok (.iload_n 2, 1) := by decide +kernel
theorem dX12_repaint_10 : decode cX12_repaint 10 = .ok (.invokevirtual 398, 3) := by decide +kernel
theorem dX12_repaint_13 : decode cX12_repaint 13 = .ok (.ifCond .eq 12, 3) := by decide +kernel
theorem dX12_repaint_16 : decode cX12_repaint 16 = .ok (.iload_n 3, 1) := by decide +kernel
theorem dX12_repaint_17 : decode cX12_repaint 17 = .ok (.iconst 0, 1) := by decide +kernel
theorem dX12_repaint_18 : decode cX12_repaint 18 = .ok (.iconst 1, 1) := by decide +kernel
theorem dX12_repaint_19 : decode cX12_repaint 19 = .ok (.invokestatic 323, 3) := by decide +kernel
theorem dX12_repaint_22 : decode cX12_repaint 22 = .ok (.ifCond .ne 5, 3) := by decide +kernel
theorem dX12_repaint_25 : decode cX12_repaint 25 = .ok (.iconst (-1), 1) := by decide +kernel
theorem dX12_repaint_26 : decode cX12_repaint 26 = .ok (.ireturn, 1) := by decide +kernel
theorem dX12_repaint_27 : decode cX12_repaint 27 = .ok (.aload_n 0, 1) := by decide +kernel
theorem dX12_repaint_28 : decode cX12_repaint 28 = .ok (.invokevirtual 401, 3) := by decide +kernel
theorem dX12_repaint_31 : decode cX12_repaint 31 = .ok (.aload_n 0, 1) := by decide +kernel
theorem dX12_repaint_32 : decode cX12_repaint 32 = .ok (.iload_n 1, 1) := by decide +kernel
theorem dX12_repaint_33 : decode cX12_repaint 33 = .ok (.invokevirtual 451, 3) := by decide +kernel
theorem dX12_repaint_36 : decode cX12_repaint 36 = .ok (.bipush (-2), 2) := by decide +kernel
theorem dX12_repaint_38 : decode cX12_repaint 38 = .ok (.istore 4, 2) := by decide +kernel
theorem dX12_repaint_40 : decode cX12_repaint 40 = .ok (.bipush (-2), 2) := by decide +kernel
theorem dX12_repaint_42 : decode cX12_repaint 42 = .ok (.istore 5, 2) := by decide +kernel
theorem dX12_repaint_44 : decode cX12_repaint 44 = .ok (.iconst 0, 1) := by decide +kernel
theorem dX12_repaint_45 : decode cX12_repaint 45 = .ok (.istore 6, 2) := by decide +kernel
theorem dX12_repaint_47 : decode cX12_repaint 47 = .ok (.iload 6, 2) := by decide +kernel
theorem dX12_repaint_49 : decode cX12_repaint 49 = .ok (.aload_n 0, 1) := by decide +kernel
theorem dX12_repaint_50 : decode cX12_repaint 50 = .ok (.aload_n 0, 1) := by decide +kernel
theorem dX12_repaint_51 : decode cX12_repaint 51 = .ok (.getfield 107, 3) := by decide +kernel
theorem dX12_repaint_54 : decode cX12_repaint 54 = .ok (.iload_n 1, 1) := by decide +kernel
theorem dX12_repaint_55 : decode cX12_repaint 55 = .ok (.iaload, 1) := by decide +kernel
theorem dX12_repaint_56 : decode cX12_repaint 56 = .ok (.invokevirtual 445, 3) := by decide +kernel
theorem dX12_repaint_59 : decode cX12_repaint 59 = .ok (.if_icmp .ge 56, 3) := by decide +kernel
theorem dX12_repaint_62 : decode cX12_repaint 62 = .ok (.aload_n 0, 1) := by decide +kernel
theorem dX12_repaint_63 : decode cX12_repaint 63 = .ok (.iload 6, 2) := by decide +kernel
theorem dX12_repaint_65 : decode cX12_repaint 65 = .ok (.aload_n 0, 1) := by decide +kernel
theorem dX12_repaint_66 : decode cX12_repaint 66 = .ok (.getfield 107, 3) := by decide +kernel
theorem dX12_repaint_69 : decode cX12_repaint 69 = .ok (.iload_n 1, 1) := by decide +kernel
theorem dX12_repaint_70 : decode cX12_repaint 70 = .ok (.iaload, 1) := by decide +kernel
theorem dX12_repaint_71 : decode cX12_repaint 71 = .ok (.invokevirtual 448, 3) := by decide +kernel
theorem dX12_repaint_74 : decode cX12_repaint 74 = .ok (.aload_n 0, 1) := by decide +kernel
theorem dX12_repaint_75 : decode cX12_repaint 75 = .ok (.invokevirtual 407, 3) := by decide +kernel
theorem dX12_repaint_78 : decode cX12_repaint 78 = .ok (.iload_n 2, 1) := by decide +kernel
theorem dX12_repaint_79 : decode cX12_repaint 79 = .ok (.if_icmp .ne 30, 3) := by decide +kernel
theorem dX12_repaint_82 : decode cX12_repaint 82 = .ok (.iload 4, 2) := by decide +kernel
theorem dX12_repaint_84 : decode cX12_repaint 84 = .ok (.ifCond .lt 15, 3) := by decide +kernel
theorem dX12_repaint_87 : decode cX12_repaint 87 = .ok (.aload_n 0, 1) := by decide +kernel
theorem dX12_repaint_88 : decode cX12_repaint 88 = .ok (.invokevirtual 454, 3) := by decide +kernel
theorem dX12_repaint_91 : decode cX12_repaint 91 = .ok (.iload 5, 2) := by decide +kernel
theorem dX12_repaint_93 : decode cX12_repaint 93 = .ok (.if_icmp .lt 6, 3) := by decide +kernel
theorem dX12_repaint_96 : decode cX12_repaint 96 = .ok (.goto 13, 3) := by decide +kernel
theorem dX12_repaint_99 : decode cX12_repaint 99 = .ok (.iload 6, 2) := by decide +kernel
theorem dX12_repaint_101 : decode cX12_repaint 101 = .ok (.istore 4, 2) := by decide +kernel
theorem dX12_repaint_103 : decode cX12_repaint 103 = .ok (.aload_n 0, 1) := by decide +kernel
theorem dX12_repaint_104 : decode cX12_repaint 104 = .ok (.invokevirtual 454, 3) := by decide +kernel
theorem dX12_repaint_107 : decode cX12_repaint 107 = .ok (.istore 5, 2) := by decide +kernel
theorem dX12_repaint_109 : decode cX12_repaint 109 = .ok (.iinc 6 1, 3) := by decide +kernel
theorem dX12_repaint_112 : decode cX12_repaint 112 = .ok (.goto (-65), 3) := by decide +kernel
theorem dX12_repaint_115 : decode cX12_repaint 115 = .ok (.iload_n 3, 1) := by decide +kernel
theorem dX12_repaint_116 : decode cX12_repaint 116 = .ok (.ifCond .ne 8, 3) := by decide +kernel
theorem dX12_repaint_119 : decode cX12_repaint 119 = .ok (.iload 5, 2) := by decide +kernel
theorem dX12_repaint_121 : decode cX12_repaint 121 = .ok (.goto 5, 3) := by decide +kernel
theorem dX12_repaint_124 : decode cX12_repaint 124 = .ok (.iload 4, 2) := by decide +kernel
theorem dX12_repaint_126 : decode cX12_repaint 126 = .ok (.ireturn, 1) := by decide +kernel
def xX12_repaint : zX := (RX12, cX12_repaint, 7, (some .int), false, { frames := 6, cells := 0, slots := 0, locals := 206 }, 0, 0, 0, 0)
theorem rmX12_repaint : z_Rm xX12_repaint := by unfold z_Rm xX12_repaint; exact ⟨by decide, by decide⟩
theorem reX12_repaint : z_Re xX12_repaint := ⟨rfl, rfl⟩
theorem rlX12_repaint : 1 ≤ xX12_repaint.2.2.2.2.2.1.frames ∧ 21 ≤ xX12_repaint.2.2.2.2.2.1.locals := by unfold xX12_repaint; exact ⟨by decide, by decide⟩
theorem meX12_repaint : z_Me yX12_repaint xX12_repaint 3 := ⟨wd1248, wd893, by decide, by decide, by decide +kernel⟩
theorem fitX12_repaint_2 : z_Fit xX12_isRow xX12_repaint := by unfold z_Fit; simp only [xX12_isRow, xX12_repaint]; exact ⟨by decide, by decide⟩
theorem fitX12_repaint_10 : z_Fit xX12_isColour xX12_repaint := by unfold z_Fit; simp only [xX12_isColour, xX12_repaint]; exact ⟨by decide, by decide⟩
theorem fitX12_repaint_19 : z_Fit xX12_in xX12_repaint := by unfold z_Fit; simp only [xX12_in, xX12_repaint]; exact ⟨by decide, by decide⟩
theorem fitX12_repaint_28 : z_Fit xX12_copies xX12_repaint := by unfold z_Fit; simp only [xX12_copies, xX12_repaint]; exact ⟨by decide, by decide⟩
theorem fitX12_repaint_33 : z_Fit xX12_fillsCosts xX12_repaint := by unfold z_Fit; simp only [xX12_fillsCosts, xX12_repaint]; exact ⟨by decide, by decide⟩
theorem fitX12_repaint_56 : z_Fit xX12_rowsOf xX12_repaint := by unfold z_Fit; simp only [xX12_rowsOf, xX12_repaint]; exact ⟨by decide, by decide⟩
theorem fitX12_repaint_71 : z_Fit xX12_laysNumber xX12_repaint := by unfold z_Fit; simp only [xX12_laysNumber, xX12_repaint]; exact ⟨by decide, by decide⟩
theorem fitX12_repaint_75 : z_Fit xX12_lastLaid xX12_repaint := by unfold z_Fit; simp only [xX12_lastLaid, xX12_repaint]; exact ⟨by decide, by decide⟩
theorem fitX12_repaint_104 : z_Fit xX12_costLaid xX12_repaint := by unfold z_Fit; simp only [xX12_costLaid, xX12_repaint]; exact ⟨by decide, by decide⟩
theorem fitX12_repaint_88 : z_Fit xX12_costLaid xX12_repaint := by unfold z_Fit; simp only [xX12_costLaid, xX12_repaint]; exact ⟨by decide, by decide⟩
noncomputable def kX12_repaint_25 : zK zR := (q_push (-1) q_iret)
noncomputable def kX12_repaint_126 : zK zR := q_iret
noncomputable def kX12_repaint_115 : zK zR := (q_iload 3 (q_if_ne (q_iload 4 kX12_repaint_126) (q_iload 5 kX12_repaint_126)))
noncomputable def kX12_repaint_109 : zK ((zL × zS) ⊕ zR) := (q_iinc 6 1 q_ag)
noncomputable def kX12_repaint_99 : zK ((zL × zS) ⊕ zR) := (q_iload 6 (q_istore 4 (q_aload 0 (q_callV 12 fX12_costLaid 0 (q_istore 5 kX12_repaint_109)))))
noncomputable def bX12_repaint_47 : zK ((zL × zS) ⊕ zR) := (q_iload 6 (q_aload 0 (q_aload 0 (q_getR 12 47 (q_iload 1 (q_iald (q_callV 12 fX12_rowsOf 1 (q_icmp_ge (q_dn kX12_repaint_115) (q_aload 0 (q_iload 6 (q_aload 0 (q_getR 12 47 (q_iload 1 (q_iald (q_callV 12 fX12_laysNumber 2 (q_aload 0 (q_callV 12 fX12_lastLaid 0 (q_iload 2 (q_icmp_ne kX12_repaint_109 (q_iload 4 (q_if_lt kX12_repaint_99 (q_aload 0 (q_callV 12 fX12_costLaid 0 (q_iload 5 (q_icmp_lt kX12_repaint_99 kX12_repaint_109)))))))))))))))))))))))))
noncomputable def kX12_repaint_47 : zK zR := q_lp (bX12_repaint_47)
noncomputable def kX12_repaint_0 : zK zR := (q_aload 0 (q_iload 1 (q_callV 12 fX12_isRow 1 (q_if_eq kX12_repaint_25 (q_aload 0 (q_iload 2 (q_callV 12 fX12_isColour 1 (q_if_eq kX12_repaint_25 (q_iload 3 (q_push 0 (q_push 1 (q_callS fX12_in 3 (q_if_ne (q_aload 0 (q_callV 12 fX12_copies 0 (q_aload 0 (q_iload 1 (q_callV 12 fX12_fillsCosts 1 (q_push (-2) (q_istore 4 (q_push (-2) (q_istore 5 (q_push 0 (q_istore 6 kX12_repaint_47))))))))))) kX12_repaint_25)))))))))))))
set_option maxRecDepth 100000 in
theorem tX12_repaint_25 {l : Launch} {D : zD} {B sz0 : Nat} {post : Option Value → zS → Prop} : zSnd l D B xX12_repaint sz0 post 25 kX12_repaint_25 (z_Jr post) := (s_iconst dX12_repaint_25 (by decide) (s_iret dX12_repaint_26 rfl))
set_option maxRecDepth 100000 in
theorem tX12_repaint_126 {l : Launch} {D : zD} {B sz0 : Nat} {post : Option Value → zS → Prop} : zSnd l D B xX12_repaint sz0 post 126 kX12_repaint_126 (z_Jr post) := (s_iret dX12_repaint_126 rfl)
set_option maxRecDepth 100000 in
theorem tX12_repaint_115 {l : Launch} {D : zD} {B sz0 : Nat} {post : Option Value → zS → Prop} : zSnd l D B xX12_repaint sz0 post 115 kX12_repaint_115 (z_Jr post) := (s_iload_n dX12_repaint_115 rfl (s_if_ne (tgt := 124) dX12_repaint_116 (by decide) (s_iload dX12_repaint_124 tX12_repaint_126) (s_iload dX12_repaint_119 (s_goto (tgt := 126) dX12_repaint_121 (by decide) tX12_repaint_126))))
set_option maxRecDepth 100000 in
theorem tX12_repaint_109 {l : Launch} {D : zD} {B sz0 : Nat} {post : Option Value → zS → Prop} : zSnd l D B xX12_repaint sz0 post 109 kX12_repaint_109 (z_Jl l D B xX12_repaint sz0 post 47 (z_Jr post)) := (s_iinc dX12_repaint_109 (by decide) (s_goto (tgt := 47) dX12_repaint_112 (by decide) s_ag))
set_option maxRecDepth 100000 in
theorem tX12_repaint_99 {l : Launch} {D : zD} {B sz0 : Nat} {post : Option Value → zS → Prop} : zSnd l D B xX12_repaint sz0 post 99 kX12_repaint_99 (z_Jl l D B xX12_repaint sz0 post 47 (z_Jr post)) := (s_iload dX12_repaint_99 (s_istore dX12_repaint_101 (s_aload_n dX12_repaint_103 rfl (s_callV (r := (RX12, TX12, 74)) dX12_repaint_104 mX12_costLaid meX12_costLaid wd1245 wd1246 rfl rfl reX12_costLaid rmX12_repaint (fitX12_repaint_104) wd1247 (s_istore dX12_repaint_107 tX12_repaint_109)))))
set_option maxRecDepth 100000 in
theorem tX12_repaint_47 {l : Launch} {D : zD} {B sz0 : Nat} {post : Option Value → zS → Prop} : zSnd l D B xX12_repaint sz0 post 47 kX12_repaint_47 (z_Jr post) := s_lp (body := bX12_repaint_47) (s_iload dX12_repaint_47 (s_aload_n dX12_repaint_49 rfl (s_aload_n dX12_repaint_50 rfl (s_getR (f := 47) dX12_repaint_51 clX12 (by decide) rfl wd901 (s_iload_n dX12_repaint_54 rfl (s_iald dX12_repaint_55 (s_callV (r := (RX12, TX12, 74)) dX12_repaint_56 mX12_rowsOf meX12_rowsOf wd1233 wd1234 rfl rfl reX12_rowsOf rmX12_repaint (fitX12_repaint_56) wd1235 (s_icmp_ge (tgt := 115) dX12_repaint_59 (by decide) (s_dn tX12_repaint_115) (s_aload_n dX12_repaint_62 rfl (s_iload dX12_repaint_63 (s_aload_n dX12_repaint_65 rfl (s_getR (f := 47) dX12_repaint_66 clX12 (by decide) rfl wd901 (s_iload_n dX12_repaint_69 rfl (s_iald dX12_repaint_70 (s_callV (r := (RX12, TX12, 74)) dX12_repaint_71 mX12_laysNumber meX12_laysNumber wd1236 wd1237 rfl rfl reX12_laysNumber rmX12_repaint (fitX12_repaint_71) wd1238 (s_aload_n dX12_repaint_74 rfl (s_callV (r := (RX12, TX12, 74)) dX12_repaint_75 mX12_lastLaid meX12_lastLaid wd1184 wd1185 rfl rfl reX12_lastLaid rmX12_repaint (fitX12_repaint_75) wd1186 (s_iload_n dX12_repaint_78 rfl (s_icmp_ne (tgt := 109) dX12_repaint_79 (by decide) tX12_repaint_109 (s_iload dX12_repaint_82 (s_if_lt (tgt := 99) dX12_repaint_84 (by decide) tX12_repaint_99 (s_aload_n dX12_repaint_87 rfl (s_callV (r := (RX12, TX12, 74)) dX12_repaint_88 mX12_costLaid meX12_costLaid wd1245 wd1246 rfl rfl reX12_costLaid rmX12_repaint (fitX12_repaint_88) wd1247 (s_iload dX12_repaint_91 (s_icmp_lt (tgt := 99) dX12_repaint_93 (by decide) tX12_repaint_99 (s_goto (tgt := 109) dX12_repaint_96 (by decide) tX12_repaint_109))))))))))))))))))))))))))
set_option maxRecDepth 100000 in
theorem tX12_repaint_0 {l : Launch} {D : zD} {B sz0 : Nat} {post : Option Value → zS → Prop} : zSnd l D B xX12_repaint sz0 post 0 kX12_repaint_0 (z_Jr post) := (s_aload_n dX12_repaint_0 rfl (s_iload_n dX12_repaint_1 rfl (s_callV (r := (RX12, TX12, 74)) dX12_repaint_2 mX12_isRow meX12_isRow wd1087 wd1088 rfl rfl reX12_isRow rmX12_repaint (fitX12_repaint_2) wd1089 (s_if_eq (tgt := 25) dX12_repaint_5 (by decide) tX12_repaint_25 (s_aload_n dX12_repaint_8 rfl (s_iload_n dX12_repaint_9 rfl (s_callV (r := (RX12, TX12, 74)) dX12_repaint_10 mX12_isColour meX12_isColour wd1174 wd1175 rfl rfl reX12_isColour rmX12_repaint (fitX12_repaint_10) wd1176 (s_if_eq (tgt := 25) dX12_repaint_13 (by decide) tX12_repaint_25 (s_iload_n dX12_repaint_16 rfl (s_iconst dX12_repaint_17 (by decide) (s_iconst dX12_repaint_18 (by decide) (s_callS dX12_repaint_19 mX12_in meX12_in wd1078 rfl reX12_in rmX12_repaint (fitX12_repaint_19) wd1079 (s_if_ne (tgt := 27) dX12_repaint_22 (by decide) (s_aload_n dX12_repaint_27 rfl (s_callV (r := (RX12, TX12, 74)) dX12_repaint_28 mX12_copies meX12_copies wd1178 wd1179 rfl rfl reX12_copies rmX12_repaint (fitX12_repaint_28) wd1180 (s_aload_n dX12_repaint_31 rfl (s_iload_n dX12_repaint_32 rfl (s_callV (r := (RX12, TX12, 74)) dX12_repaint_33 mX12_fillsCosts meX12_fillsCosts wd1242 wd1243 rfl rfl reX12_fillsCosts rmX12_repaint (fitX12_repaint_33) wd1244 (s_bipush dX12_repaint_36 (by decide) (s_istore dX12_repaint_38 (s_bipush dX12_repaint_40 (by decide) (s_istore dX12_repaint_42 (s_iconst dX12_repaint_44 (by decide) (s_istore dX12_repaint_45 tX12_repaint_47))))))))))) tX12_repaint_25)))))))))))))
noncomputable def fX12_repaint : zF := z_fn 7 kX12_repaint_0
theorem mX12_repaint {l : Launch} {D : zD} {B : Nat} : z_MF l D B yX12_repaint xX12_repaint fX12_repaint := z_mf (by decide) rfl (fun h => by cases h) rfl (fun as σ r h => ⟨z_fn_len h, kX12_repaint_0, z_fn_run h, fun _ => tX12_repaint_0⟩)
/-! ===== RowChildrenModel.unlikeLaid ===== -/
theorem dX12_unlikeLaid_0 : decode cX12_unlikeLaid 0 = .ok (.iconst 0, 1) := by decide +kernel
theorem dX12_unlikeLaid_1 : decode cX12_unlikeLaid 1 = .ok (.istore_n 2, 1) := by decide +kernel
theorem dX12_unlikeLaid_2 : decode cX12_unlikeLaid 2 = .ok (.iconst 0, 1) := by decide +kernel
theorem dX12_unlikeLaid_3 : decode cX12_unlikeLaid 3 = .ok (.istore_n 3, 1) := by decide +kernel
theorem dX12_unlikeLaid_4 : decode cX12_unlikeLaid 4 = .ok (.iload_n 3, 1) := by decide +kernel
theorem dX12_unlikeLaid_5 : decode cX12_unlikeLaid 5 = .ok (.aload_n 0, 1) := by decide +kernel
theorem dX12_unlikeLaid_6 : decode cX12_unlikeLaid 6 = .ok (.getfield 340, 3) := by decide +kernel
theorem dX12_unlikeLaid_9 : decode cX12_unlikeLaid 9 = .ok (.if_icmp .ge 27, 3) := by decide +kernel
theorem dX12_unlikeLaid_12 : decode cX12_unlikeLaid 12 = .ok (.aload_n 0, 1) := by decide +kernel
theorem dX12_unlikeLaid_13 : decode cX12_unlikeLaid 13 = .ok (.getfield 110, 3) := by decide +kernel
theorem dX12_unlikeLaid_16 : decode cX12_unlikeLaid 16 = .ok (.iload_n 3, 1) := by decide +kernel
theorem dX12_unlikeLaid_17 : decode cX12_unlikeLaid 17 = .ok (.iaload, 1) := by decide +kernel
theorem dX12_unlikeLaid_18 : decode cX12_unlikeLaid 18 = .ok (.aload_n 0, 1) := by decide +kernel
theorem dX12_unlikeLaid_19 : decode cX12_unlikeLaid 19 = .ok (.iload_n 1, 1) := by decide +kernel
theorem dX12_unlikeLaid_20 : decode cX12_unlikeLaid 20 = .ok (.iload_n 3, 1) := by decide +kernel
theorem dX12_unlikeLaid_21 : decode cX12_unlikeLaid 21 = .ok (.invokevirtual 349, 3) := by decide +kernel
theorem dX12_unlikeLaid_24 : decode cX12_unlikeLaid 24 = .ok (.if_icmp .eq 6, 3) := by decide +kernel
theorem dX12_unlikeLaid_27 : decode cX12_unlikeLaid 27 = .ok (.iinc 2 1, 3) := by decide +kernel
theorem dX12_unlikeLaid_30 : decode cX12_unlikeLaid 30 = .ok (.iinc 3 1, 3) := by decide +kernel
theorem dX12_unlikeLaid_33 : decode cX12_unlikeLaid 33 = .ok (.goto (-29), 3) := by decide +kernel
theorem dX12_unlikeLaid_36 : decode cX12_unlikeLaid 36 = .ok (.iload_n 2, 1) := by decide +kernel
theorem dX12_unlikeLaid_37 : decode cX12_unlikeLaid 37 = .ok (.ireturn, 1) := by decide +kernel
def xX12_unlikeLaid : zX := (RX12, cX12_unlikeLaid, 4, (some .int), false, { frames := 2, cells := 0, slots := 0, locals := 112 }, 0, 0, 0, 0)
theorem rmX12_unlikeLaid : z_Rm xX12_unlikeLaid := by unfold z_Rm xX12_unlikeLaid; exact ⟨by decide, by decide⟩
theorem reX12_unlikeLaid : z_Re xX12_unlikeLaid := ⟨rfl, rfl⟩
theorem rlX12_unlikeLaid : 1 ≤ xX12_unlikeLaid.2.2.2.2.2.1.frames ∧ 21 ≤ xX12_unlikeLaid.2.2.2.2.2.1.locals := by unfold xX12_unlikeLaid; exact ⟨by decide, by decide⟩
theorem meX12_unlikeLaid : z_Me yX12_unlikeLaid xX12_unlikeLaid 1 := ⟨wd1249, wd893, by decide, by decide, by decide +kernel⟩
theorem fitX12_unlikeLaid_21 : z_Fit xX12_seatAt xX12_unlikeLaid := by unfold z_Fit; simp only [xX12_seatAt, xX12_unlikeLaid]; exact ⟨by decide, by decide⟩
noncomputable def kX12_unlikeLaid_36 : zK zR := (q_iload 2 q_iret)
noncomputable def kX12_unlikeLaid_30 : zK ((zL × zS) ⊕ zR) := (q_iinc 3 1 q_ag)
noncomputable def bX12_unlikeLaid_4 : zK ((zL × zS) ⊕ zR) := (q_iload 3 (q_aload 0 (q_getI 12 50 (q_icmp_ge (q_dn kX12_unlikeLaid_36) (q_aload 0 (q_getR 12 49 (q_iload 3 (q_iald (q_aload 0 (q_iload 1 (q_iload 3 (q_callV 12 fX12_seatAt 2 (q_icmp_eq kX12_unlikeLaid_30 (q_iinc 2 1 kX12_unlikeLaid_30))))))))))))))
noncomputable def kX12_unlikeLaid_4 : zK zR := q_lp (bX12_unlikeLaid_4)
noncomputable def kX12_unlikeLaid_0 : zK zR := (q_push 0 (q_istore 2 (q_push 0 (q_istore 3 kX12_unlikeLaid_4))))
set_option maxRecDepth 100000 in
theorem tX12_unlikeLaid_36 {l : Launch} {D : zD} {B sz0 : Nat} {post : Option Value → zS → Prop} : zSnd l D B xX12_unlikeLaid sz0 post 36 kX12_unlikeLaid_36 (z_Jr post) := (s_iload_n dX12_unlikeLaid_36 rfl (s_iret dX12_unlikeLaid_37 rfl))
set_option maxRecDepth 100000 in
theorem tX12_unlikeLaid_30 {l : Launch} {D : zD} {B sz0 : Nat} {post : Option Value → zS → Prop} : zSnd l D B xX12_unlikeLaid sz0 post 30 kX12_unlikeLaid_30 (z_Jl l D B xX12_unlikeLaid sz0 post 4 (z_Jr post)) := (s_iinc dX12_unlikeLaid_30 (by decide) (s_goto (tgt := 4) dX12_unlikeLaid_33 (by decide) s_ag))
set_option maxRecDepth 100000 in
theorem tX12_unlikeLaid_4 {l : Launch} {D : zD} {B sz0 : Nat} {post : Option Value → zS → Prop} : zSnd l D B xX12_unlikeLaid sz0 post 4 kX12_unlikeLaid_4 (z_Jr post) := s_lp (body := bX12_unlikeLaid_4) (s_iload_n dX12_unlikeLaid_4 rfl (s_aload_n dX12_unlikeLaid_5 rfl (s_getI (f := 50) dX12_unlikeLaid_6 clX12 (by decide) rfl wd1098 (s_icmp_ge (tgt := 36) dX12_unlikeLaid_9 (by decide) (s_dn tX12_unlikeLaid_36) (s_aload_n dX12_unlikeLaid_12 rfl (s_getR (f := 49) dX12_unlikeLaid_13 clX12 (by decide) rfl wd927 (s_iload_n dX12_unlikeLaid_16 rfl (s_iald dX12_unlikeLaid_17 (s_aload_n dX12_unlikeLaid_18 rfl (s_iload_n dX12_unlikeLaid_19 rfl (s_iload_n dX12_unlikeLaid_20 rfl (s_callV (r := (RX12, TX12, 74)) dX12_unlikeLaid_21 mX12_seatAt meX12_seatAt wd1109 wd1110 rfl rfl reX12_seatAt rmX12_unlikeLaid (fitX12_unlikeLaid_21) wd1111 (s_icmp_eq (tgt := 30) dX12_unlikeLaid_24 (by decide) tX12_unlikeLaid_30 (s_iinc dX12_unlikeLaid_27 (by decide) tX12_unlikeLaid_30))))))))))))))
set_option maxRecDepth 100000 in
theorem tX12_unlikeLaid_0 {l : Launch} {D : zD} {B sz0 : Nat} {post : Option Value → zS → Prop} : zSnd l D B xX12_unlikeLaid sz0 post 0 kX12_unlikeLaid_0 (z_Jr post) := (s_iconst dX12_unlikeLaid_0 (by decide) (s_istore_n dX12_unlikeLaid_1 rfl (s_iconst dX12_unlikeLaid_2 (by decide) (s_istore_n dX12_unlikeLaid_3 rfl tX12_unlikeLaid_4))))
noncomputable def fX12_unlikeLaid : zF := z_fn 4 kX12_unlikeLaid_0
theorem mX12_unlikeLaid {l : Launch} {D : zD} {B : Nat} : z_MF l D B yX12_unlikeLaid xX12_unlikeLaid fX12_unlikeLaid := z_mf (by decide) rfl (fun h => by cases h) rfl (fun as σ r h => ⟨z_fn_len h, kX12_unlikeLaid_0, z_fn_run h, fun _ => tX12_unlikeLaid_0⟩)
/-! ===== RowChildrenModel.fairly ===== -/
theorem dX12_fairly_0 : decode cX12_fairly 0 = .ok (.aload_n 0, 1) := by decide +kernel
theorem dX12_fairly_1 : decode cX12_fairly 1 = .ok (.iload_n 1, 1) := by decide +kernel
theorem dX12_fairly_2 : decode cX12_fairly 2 = .ok (.invokevirtual 330, 3) := by decide +kernel
theorem dX12_fairly_5 : decode cX12_fairly 5 = .ok (.ifCond .eq 12, 3) := by decide +kernel
theorem dX12_fairly_8 : decode cX12_fairly 8 = .ok (.iload_n 2, 1) := by decide +kernel
theorem dX12_fairly_9 : decode cX12_fairly 9 = .ok (.iconst 0, 1) := by decide +kernel
theorem dX12_fairly_10 : decode cX12_fairly 10 = .ok (.iconst 1, 1) := by decide +kernel
theorem dX12_fairly_11 : decode cX12_fairly 11 = .ok (.invokestatic 323, 3) := by decide +kernel
theorem dX12_fairly_14 : decode cX12_fairly 14 = .ok (.ifCond .ne 5, 3) := by decide +kernel
theorem dX12_fairly_17 : decode cX12_fairly 17 = .ok (.iconst (-1), 1) := by decide +kernel
theorem dX12_fairly_18 : decode cX12_fairly 18 = .ok (.ireturn, 1) := by decide +kernel
theorem dX12_fairly_19 : decode cX12_fairly 19 = .ok (.aload_n 0, 1) := by decide +kernel
theorem dX12_fairly_20 : decode cX12_fairly 20 = .ok (.invokevirtual 401, 3) := by decide +kernel
theorem dX12_fairly_23 : decode cX12_fairly 23 = .ok (.bipush (-2), 2) := by decide +kernel
theorem dX12_fairly_25 : decode cX12_fairly 25 = .ok (.istore_n 3, 1) := by decide +kernel
theorem dX12_fairly_26 : decode cX12_fairly 26 = .ok (.bipush (-2), 2) := by decide +kernel
theorem dX12_fairly_28 : decode cX12_fairly 28 = .ok (.istore 4, 2) := by decide +kernel
theorem dX12_fairly_30 : decode cX12_fairly 30 = .ok (.iconst 0, 1) := by decide +kernel
theorem dX12_fairly_31 : decode cX12_fairly 31 = .ok (.istore 5, 2) := by decide +kernel
theorem dX12_fairly_33 : decode cX12_fairly 33 = .ok (.iload 5, 2) := by decide +kernel
theorem dX12_fairly_35 : decode cX12_fairly 35 = .ok (.aload_n 0, 1) := by decide +kernel
theorem dX12_fairly_36 : decode cX12_fairly 36 = .ok (.aload_n 0, 1) := by decide +kernel
theorem dX12_fairly_37 : decode cX12_fairly 37 = .ok (.getfield 107, 3) := by decide +kernel
theorem dX12_fairly_40 : decode cX12_fairly 40 = .ok (.iload_n 1, 1) := by decide +kernel
theorem dX12_fairly_41 : decode cX12_fairly 41 = .ok (.iaload, 1) := by decide +kernel
theorem dX12_fairly_42 : decode cX12_fairly 42 = .ok (.invokevirtual 445, 3) := by decide +kernel
theorem dX12_fairly_45 : decode cX12_fairly 45 = .ok (.if_icmp .ge 55, 3) := by decide +kernel
theorem dX12_fairly_48 : decode cX12_fairly 48 = .ok (.aload_n 0, 1) := by decide +kernel
theorem dX12_fairly_49 : decode cX12_fairly 49 = .ok (.iload 5, 2) := by decide +kernel
theorem dX12_fairly_51 : decode cX12_fairly 51 = .ok (.aload_n 0, 1) := by decide +kernel
theorem dX12_fairly_52 : decode cX12_fairly 52 = .ok (.getfield 107, 3) := by decide +kernel
theorem dX12_fairly_55 : decode cX12_fairly 55 = .ok (.iload_n 1, 1) := by decide +kernel
theorem dX12_fairly_56 : decode cX12_fairly 56 = .ok (.iaload, 1) := by decide +kernel
theorem dX12_fairly_57 : decode cX12_fairly 57 = .ok (.invokevirtual 448, 3) := by decide +kernel
theorem dX12_fairly_60 : decode cX12_fairly 60 = .ok (.iload_n 3, 1) := by decide +kernel
theorem dX12_fairly_61 : decode cX12_fairly 61 = .ok (.ifCond .lt 13, 3) := by decide +kernel
theorem dX12_fairly_64 : decode cX12_fairly 64 = .ok (.aload_n 0, 1) := by decide +kernel
theorem dX12_fairly_65 : decode cX12_fairly 65 = .ok (.iload_n 1, 1) := by decide +kernel
theorem dX12_fairly_66 : decode cX12_fairly 66 = .ok (.invokevirtual 457, 3) := by decide +kernel
theorem dX12_fairly_69 : decode cX12_fairly 69 = .ok (.iload 4, 2) := by decide +kernel
theorem dX12_fairly_71 : decode cX12_fairly 71 = .ok (.if_icmp .ge 23, 3) := by decide +kernel
theorem dX12_fairly_74 : decode cX12_fairly 74 = .ok (.aload_n 0, 1) := by decide +kernel
theorem dX12_fairly_75 : decode cX12_fairly 75 = .ok (.invokevirtual 410, 3) := by decide +kernel
theorem dX12_fairly_78 : decode cX12_fairly 78 = .ok (.ifCond .ne 6, 3) := by decide +kernel
theorem dX12_fairly_81 : decode cX12_fairly 81 = .ok (.goto 13, 3) := by decide +kernel
theorem dX12_fairly_84 : decode cX12_fairly 84 = .ok (.iload 5, 2) := by decide +kernel
theorem dX12_fairly_86 : decode cX12_fairly 86 = .ok (.istore_n 3, 1) := by decide +kernel
theorem dX12_fairly_87 : decode cX12_fairly 87 = .ok (.aload_n 0, 1) := by decide +kernel
theorem dX12_fairly_88 : decode cX12_fairly 88 = .ok (.iload_n 1, 1) := by decide +kernel
theorem dX12_fairly_89 : decode cX12_fairly 89 = .ok (.invokevirtual 457, 3) := by decide +kernel
theorem dX12_fairly_92 : decode cX12_fairly 92 = .ok (.istore 4, 2) := by decide +kernel
theorem dX12_fairly_94 : decode cX12_fairly 94 = .ok (.iinc 5 1, 3) := by decide +kernel
theorem dX12_fairly_97 : decode cX12_fairly 97 = .ok (.goto (-64), 3) := by decide +kernel
theorem dX12_fairly_100 : decode cX12_fairly 100 = .ok (.iload_n 2, 1) := by decide +kernel
theorem dX12_fairly_101 : decode cX12_fairly 101 = .ok (.ifCond .ne 8, 3) := by decide +kernel
theorem dX12_fairly_104 : decode cX12_fairly 104 = .ok (.iload 4, 2) := by decide +kernel
theorem dX12_fairly_106 : decode cX12_fairly 106 = .ok (.goto 4, 3) := by decide +kernel
theorem dX12_fairly_109 : decode cX12_fairly 109 = .ok (.iload_n 3, 1) := by decide +kernel
theorem dX12_fairly_110 : decode cX12_fairly 110 = .ok (.ireturn, 1) := by decide +kernel
def xX12_fairly : zX := (RX12, cX12_fairly, 6, (some .int), false, { frames := 5, cells := 0, slots := 0, locals := 179 }, 0, 0, 0, 0)
theorem rmX12_fairly : z_Rm xX12_fairly := by unfold z_Rm xX12_fairly; exact ⟨by decide, by decide⟩
theorem reX12_fairly : z_Re xX12_fairly := ⟨rfl, rfl⟩
theorem rlX12_fairly : 1 ≤ xX12_fairly.2.2.2.2.2.1.frames ∧ 21 ≤ xX12_fairly.2.2.2.2.2.1.locals := by unfold xX12_fairly; exact ⟨by decide, by decide⟩
theorem meX12_fairly : z_Me yX12_fairly xX12_fairly 2 := ⟨wd1253, wd893, by decide, by decide, by decide +kernel⟩
theorem fitX12_fairly_2 : z_Fit xX12_isRow xX12_fairly := by unfold z_Fit; simp only [xX12_isRow, xX12_fairly]; exact ⟨by decide, by decide⟩
theorem fitX12_fairly_11 : z_Fit xX12_in xX12_fairly := by unfold z_Fit; simp only [xX12_in, xX12_fairly]; exact ⟨by decide, by decide⟩
theorem fitX12_fairly_20 : z_Fit xX12_copies xX12_fairly := by unfold z_Fit; simp only [xX12_copies, xX12_fairly]; exact ⟨by decide, by decide⟩
theorem fitX12_fairly_42 : z_Fit xX12_rowsOf xX12_fairly := by unfold z_Fit; simp only [xX12_rowsOf, xX12_fairly]; exact ⟨by decide, by decide⟩
theorem fitX12_fairly_57 : z_Fit xX12_laysNumber xX12_fairly := by unfold z_Fit; simp only [xX12_laysNumber, xX12_fairly]; exact ⟨by decide, by decide⟩
theorem fitX12_fairly_75 : z_Fit xX12_isFair xX12_fairly := by unfold z_Fit; simp only [xX12_isFair, xX12_fairly]; exact ⟨by decide, by decide⟩
theorem fitX12_fairly_89 : z_Fit xX12_unlikeLaid xX12_fairly := by unfold z_Fit; simp only [xX12_unlikeLaid, xX12_fairly]; exact ⟨by decide, by decide⟩
theorem fitX12_fairly_66 : z_Fit xX12_unlikeLaid xX12_fairly := by unfold z_Fit; simp only [xX12_unlikeLaid, xX12_fairly]; exact ⟨by decide, by decide⟩
noncomputable def kX12_fairly_17 : zK zR := (q_push (-1) q_iret)
noncomputable def kX12_fairly_110 : zK zR := q_iret
noncomputable def kX12_fairly_100 : zK zR := (q_iload 2 (q_if_ne (q_iload 3 kX12_fairly_110) (q_iload 4 kX12_fairly_110)))
noncomputable def kX12_fairly_94 : zK ((zL × zS) ⊕ zR) := (q_iinc 5 1 q_ag)
noncomputable def kX12_fairly_74 : zK ((zL × zS) ⊕ zR) := (q_aload 0 (q_callV 12 fX12_isFair 0 (q_if_ne (q_iload 5 (q_istore 3 (q_aload 0 (q_iload 1 (q_callV 12 fX12_unlikeLaid 1 (q_istore 4 kX12_fairly_94)))))) kX12_fairly_94)))
noncomputable def bX12_fairly_33 : zK ((zL × zS) ⊕ zR) := (q_iload 5 (q_aload 0 (q_aload 0 (q_getR 12 47 (q_iload 1 (q_iald (q_callV 12 fX12_rowsOf 1 (q_icmp_ge (q_dn kX12_fairly_100) (q_aload 0 (q_iload 5 (q_aload 0 (q_getR 12 47 (q_iload 1 (q_iald (q_callV 12 fX12_laysNumber 2 (q_iload 3 (q_if_lt kX12_fairly_74 (q_aload 0 (q_iload 1 (q_callV 12 fX12_unlikeLaid 1 (q_iload 4 (q_icmp_ge kX12_fairly_94 kX12_fairly_74))))))))))))))))))))))
noncomputable def kX12_fairly_33 : zK zR := q_lp (bX12_fairly_33)
noncomputable def kX12_fairly_0 : zK zR := (q_aload 0 (q_iload 1 (q_callV 12 fX12_isRow 1 (q_if_eq kX12_fairly_17 (q_iload 2 (q_push 0 (q_push 1 (q_callS fX12_in 3 (q_if_ne (q_aload 0 (q_callV 12 fX12_copies 0 (q_push (-2) (q_istore 3 (q_push (-2) (q_istore 4 (q_push 0 (q_istore 5 kX12_fairly_33)))))))) kX12_fairly_17)))))))))
set_option maxRecDepth 100000 in
theorem tX12_fairly_17 {l : Launch} {D : zD} {B sz0 : Nat} {post : Option Value → zS → Prop} : zSnd l D B xX12_fairly sz0 post 17 kX12_fairly_17 (z_Jr post) := (s_iconst dX12_fairly_17 (by decide) (s_iret dX12_fairly_18 rfl))
set_option maxRecDepth 100000 in
theorem tX12_fairly_110 {l : Launch} {D : zD} {B sz0 : Nat} {post : Option Value → zS → Prop} : zSnd l D B xX12_fairly sz0 post 110 kX12_fairly_110 (z_Jr post) := (s_iret dX12_fairly_110 rfl)
set_option maxRecDepth 100000 in
theorem tX12_fairly_100 {l : Launch} {D : zD} {B sz0 : Nat} {post : Option Value → zS → Prop} : zSnd l D B xX12_fairly sz0 post 100 kX12_fairly_100 (z_Jr post) := (s_iload_n dX12_fairly_100 rfl (s_if_ne (tgt := 109) dX12_fairly_101 (by decide) (s_iload_n dX12_fairly_109 rfl tX12_fairly_110) (s_iload dX12_fairly_104 (s_goto (tgt := 110) dX12_fairly_106 (by decide) tX12_fairly_110))))
set_option maxRecDepth 100000 in
theorem tX12_fairly_94 {l : Launch} {D : zD} {B sz0 : Nat} {post : Option Value → zS → Prop} : zSnd l D B xX12_fairly sz0 post 94 kX12_fairly_94 (z_Jl l D B xX12_fairly sz0 post 33 (z_Jr post)) := (s_iinc dX12_fairly_94 (by decide) (s_goto (tgt := 33) dX12_fairly_97 (by decide) s_ag))
set_option maxRecDepth 100000 in
theorem tX12_fairly_74 {l : Launch} {D : zD} {B sz0 : Nat} {post : Option Value → zS → Prop} : zSnd l D B xX12_fairly sz0 post 74 kX12_fairly_74 (z_Jl l D B xX12_fairly sz0 post 33 (z_Jr post)) := (s_aload_n dX12_fairly_74 rfl (s_callV (r := (RX12, TX12, 74)) dX12_fairly_75 mX12_isFair meX12_isFair wd1187 wd1188 rfl rfl reX12_isFair rmX12_fairly (fitX12_fairly_75) wd1189 (s_if_ne (tgt := 84) dX12_fairly_78 (by decide) (s_iload dX12_fairly_84 (s_istore_n dX12_fairly_86 rfl (s_aload_n dX12_fairly_87 rfl (s_iload_n dX12_fairly_88 rfl (s_callV (r := (RX12, TX12, 74)) dX12_fairly_89 mX12_unlikeLaid meX12_unlikeLaid wd1250 wd1251 rfl rfl reX12_unlikeLaid rmX12_fairly (fitX12_fairly_89) wd1252 (s_istore dX12_fairly_92 tX12_fairly_94)))))) (s_goto (tgt := 94) dX12_fairly_81 (by decide) tX12_fairly_94))))
set_option maxRecDepth 100000 in
theorem tX12_fairly_33 {l : Launch} {D : zD} {B sz0 : Nat} {post : Option Value → zS → Prop} : zSnd l D B xX12_fairly sz0 post 33 kX12_fairly_33 (z_Jr post) := s_lp (body := bX12_fairly_33) (s_iload dX12_fairly_33 (s_aload_n dX12_fairly_35 rfl (s_aload_n dX12_fairly_36 rfl (s_getR (f := 47) dX12_fairly_37 clX12 (by decide) rfl wd901 (s_iload_n dX12_fairly_40 rfl (s_iald dX12_fairly_41 (s_callV (r := (RX12, TX12, 74)) dX12_fairly_42 mX12_rowsOf meX12_rowsOf wd1233 wd1234 rfl rfl reX12_rowsOf rmX12_fairly (fitX12_fairly_42) wd1235 (s_icmp_ge (tgt := 100) dX12_fairly_45 (by decide) (s_dn tX12_fairly_100) (s_aload_n dX12_fairly_48 rfl (s_iload dX12_fairly_49 (s_aload_n dX12_fairly_51 rfl (s_getR (f := 47) dX12_fairly_52 clX12 (by decide) rfl wd901 (s_iload_n dX12_fairly_55 rfl (s_iald dX12_fairly_56 (s_callV (r := (RX12, TX12, 74)) dX12_fairly_57 mX12_laysNumber meX12_laysNumber wd1236 wd1237 rfl rfl reX12_laysNumber rmX12_fairly (fitX12_fairly_57) wd1238 (s_iload_n dX12_fairly_60 rfl (s_if_lt (tgt := 74) dX12_fairly_61 (by decide) tX12_fairly_74 (s_aload_n dX12_fairly_64 rfl (s_iload_n dX12_fairly_65 rfl (s_callV (r := (RX12, TX12, 74)) dX12_fairly_66 mX12_unlikeLaid meX12_unlikeLaid wd1250 wd1251 rfl rfl reX12_unlikeLaid rmX12_fairly (fitX12_fairly_66) wd1252 (s_iload dX12_fairly_69 (s_icmp_ge (tgt := 94) dX12_fairly_71 (by decide) tX12_fairly_94 tX12_fairly_74))))))))))))))))))))))
set_option maxRecDepth 100000 in
theorem tX12_fairly_0 {l : Launch} {D : zD} {B sz0 : Nat} {post : Option Value → zS → Prop} : zSnd l D B xX12_fairly sz0 post 0 kX12_fairly_0 (z_Jr post) := (s_aload_n dX12_fairly_0 rfl (s_iload_n dX12_fairly_1 rfl (s_callV (r := (RX12, TX12, 74)) dX12_fairly_2 mX12_isRow meX12_isRow wd1087 wd1088 rfl rfl reX12_isRow rmX12_fairly (fitX12_fairly_2) wd1089 (s_if_eq (tgt := 17) dX12_fairly_5 (by decide) tX12_fairly_17 (s_iload_n dX12_fairly_8 rfl (s_iconst dX12_fairly_9 (by decide) (s_iconst dX12_fairly_10 (by decide) (s_callS dX12_fairly_11 mX12_in meX12_in wd1078 rfl reX12_in rmX12_fairly (fitX12_fairly_11) wd1079 (s_if_ne (tgt := 19) dX12_fairly_14 (by decide) (s_aload_n dX12_fairly_19 rfl (s_callV (r := (RX12, TX12, 74)) dX12_fairly_20 mX12_copies meX12_copies wd1178 wd1179 rfl rfl reX12_copies rmX12_fairly (fitX12_fairly_20) wd1180 (s_bipush dX12_fairly_23 (by decide) (s_istore_n dX12_fairly_25 rfl (s_bipush dX12_fairly_26 (by decide) (s_istore dX12_fairly_28 (s_iconst dX12_fairly_30 (by decide) (s_istore dX12_fairly_31 tX12_fairly_33)))))))) tX12_fairly_17)))))))))
noncomputable def fX12_fairly : zF := z_fn 6 kX12_fairly_0
theorem mX12_fairly {l : Launch} {D : zD} {B : Nat} : z_MF l D B yX12_fairly xX12_fairly fX12_fairly := z_mf (by decide) rfl (fun h => by cases h) rfl (fun as σ r h => ⟨z_fn_len h, kX12_fairly_0, z_fn_run h, fun _ => tX12_fairly_0⟩)
