/-! ===== RowChildrenModel.copies ===== -/
theorem dX12_copies_0 : decode cX12_copies 0 = .ok (.iconst 0, 1) := by decide +kernel
theorem dX12_copies_1 : decode cX12_copies 1 = .ok (.istore_n 1, 1) := by decide +kernel
theorem dX12_copies_2 : decode cX12_copies 2 = .ok (.iload_n 1, 1) := by decide +kernel
theorem dX12_copies_3 : decode cX12_copies 3 = .ok (.bipush 38, 2) := by decide +kernel
theorem dX12_copies_5 : decode cX12_copies 5 = .ok (.if_icmp .ge 21, 3) := by decide +kernel
theorem dX12_copies_8 : decode cX12_copies 8 = .ok (.aload_n 0, 1) := by decide +kernel
theorem dX12_copies_9 : decode cX12_copies 9 = .ok (.getfield 107, 3) := by decide +kernel
theorem dX12_copies_12 : decode cX12_copies 12 = .ok (.iload_n 1, 1) := by decide +kernel
theorem dX12_copies_13 : decode cX12_copies 13 = .ok (.aload_n 0, 1) := by decide +kernel
theorem dX12_copies_14 : decode cX12_copies 14 = .ok (.getfield 104, 3) := by decide +kernel
theorem dX12_copies_17 : decode cX12_copies 17 = .ok (.iload_n 1, 1) := by decide +kernel
theorem dX12_copies_18 : decode cX12_copies 18 = .ok (.iaload, 1) := by decide +kernel
theorem dX12_copies_19 : decode cX12_copies 19 = .ok (.iastore, 1) := by decide +kernel
theorem dX12_copies_20 : decode cX12_copies 20 = .ok (.iinc 1 1, 3) := by decide +kernel
theorem dX12_copies_23 : decode cX12_copies 23 = .ok (.goto (-21), 3) := by decide +kernel
theorem dX12_copies_26 : decode cX12_copies 26 = .ok (.aload_n 0, 1) := by decide +kernel
theorem dX12_copies_27 : decode cX12_copies 27 = .ok (.aload_n 0, 1) := by decide +kernel
theorem dX12_copies_28 : decode cX12_copies 28 = .ok (.getfield 64, 3) := by decide +kernel
theorem dX12_copies_31 : decode cX12_copies 31 = .ok (.aload_n 0, 1) := by decide +kernel
theorem dX12_copies_32 : decode cX12_copies 32 = .ok (.getfield 249, 3) := by decide +kernel
theorem dX12_copies_35 : decode cX12_copies 35 = .ok (.iaload, 1) := by decide +kernel
theorem dX12_copies_36 : decode cX12_copies 36 = .ok (.putfield 333, 3) := by decide +kernel
theorem dX12_copies_39 : decode cX12_copies 39 = .ok (.return_, 1) := by decide +kernel
def xX12_copies : zX := (RX12, cX12_copies, 2, none, false, { frames := 1, cells := 0, slots := 0, locals := 90 }, 0, 0, 0, 0)
theorem rmX12_copies : z_Rm xX12_copies := by unfold z_Rm xX12_copies; exact ⟨by decide, by decide⟩
theorem reX12_copies : z_Re xX12_copies := ⟨rfl, rfl⟩
theorem rlX12_copies : 1 ≤ xX12_copies.2.2.2.2.2.1.frames ∧ 21 ≤ xX12_copies.2.2.2.2.2.1.locals := by unfold xX12_copies; exact ⟨by decide, by decide⟩
theorem meX12_copies : z_Me yX12_copies xX12_copies 0 := ⟨wd1091, wd893, by decide, by decide, by decide +kernel⟩
noncomputable def kX12_copies_26 : zK zR := (q_aload 0 (q_aload 0 (q_getR 12 29 (q_aload 0 (q_getI 12 18 (q_iald (q_putI 12 48 q_vret)))))))
noncomputable def bX12_copies_2 : zK ((zL × zS) ⊕ zR) := (q_iload 1 (q_push 38 (q_icmp_ge (q_dn kX12_copies_26) (q_aload 0 (q_getR 12 47 (q_iload 1 (q_aload 0 (q_getR 12 46 (q_iload 1 (q_iald (q_iast (q_iinc 1 1 q_ag))))))))))))
noncomputable def kX12_copies_2 : zK zR := q_lp (bX12_copies_2)
noncomputable def kX12_copies_0 : zK zR := (q_push 0 (q_istore 1 kX12_copies_2))
set_option maxRecDepth 100000 in
theorem tX12_copies_26 {l : Launch} {D : zD} {B sz0 : Nat} {post : Option Value → zS → Prop} : zSnd l D B xX12_copies sz0 post 26 kX12_copies_26 (z_Jr post) := (s_aload_n dX12_copies_26 rfl (s_aload_n dX12_copies_27 rfl (s_getR (f := 29) dX12_copies_28 clX12 (by decide) rfl wd888 (s_aload_n dX12_copies_31 rfl (s_getI (f := 18) dX12_copies_32 clX12 (by decide) rfl wd899 (s_iald dX12_copies_35 (s_putI (f := 48) dX12_copies_36 clX12 (by decide) rfl rfl rfl wd900 (s_vret dX12_copies_39 rfl))))))))
set_option maxRecDepth 100000 in
theorem tX12_copies_2 {l : Launch} {D : zD} {B sz0 : Nat} {post : Option Value → zS → Prop} : zSnd l D B xX12_copies sz0 post 2 kX12_copies_2 (z_Jr post) := s_lp (body := bX12_copies_2) (s_iload_n dX12_copies_2 rfl (s_bipush dX12_copies_3 (by decide) (s_icmp_ge (tgt := 26) dX12_copies_5 (by decide) (s_dn tX12_copies_26) (s_aload_n dX12_copies_8 rfl (s_getR (f := 47) dX12_copies_9 clX12 (by decide) rfl wd901 (s_iload_n dX12_copies_12 rfl (s_aload_n dX12_copies_13 rfl (s_getR (f := 46) dX12_copies_14 clX12 (by decide) rfl wd905 (s_iload_n dX12_copies_17 rfl (s_iald dX12_copies_18 (s_iast dX12_copies_19 (s_iinc dX12_copies_20 (by decide) (s_goto (tgt := 2) dX12_copies_23 (by decide) s_ag)))))))))))))
set_option maxRecDepth 100000 in
theorem tX12_copies_0 {l : Launch} {D : zD} {B sz0 : Nat} {post : Option Value → zS → Prop} : zSnd l D B xX12_copies sz0 post 0 kX12_copies_0 (z_Jr post) := (s_iconst dX12_copies_0 (by decide) (s_istore_n dX12_copies_1 rfl tX12_copies_2))
noncomputable def fX12_copies : zF := z_fn 2 kX12_copies_0
theorem mX12_copies {l : Launch} {D : zD} {B : Nat} : z_MF l D B yX12_copies xX12_copies fX12_copies := z_mf (by decide) rfl (fun h => by cases h) rfl (fun as σ r h => ⟨z_fn_len h, kX12_copies_0, z_fn_run h, fun _ => tX12_copies_0⟩)
/-! ===== RowChildrenModel.mixed ===== -/
theorem dX12_mixed_0 : decode cX12_mixed 0 = .ok (.iload_n 0, 1) := by decide +kernel
theorem dX12_mixed_1 : decode cX12_mixed 1 = .ok (.iload_n 1, 1) := by decide +kernel
theorem dX12_mixed_2 : decode cX12_mixed 2 = .ok (.ixor, 1) := by decide +kernel
theorem dX12_mixed_3 : decode cX12_mixed 3 = .ok (.ldc_w 336, 3) := by decide +kernel
theorem dX12_mixed_6 : decode cX12_mixed 6 = .ok (.imul, 1) := by decide +kernel
theorem dX12_mixed_7 : decode cX12_mixed 7 = .ok (.sipush 12345, 3) := by decide +kernel
theorem dX12_mixed_10 : decode cX12_mixed 10 = .ok (.iadd, 1) := by decide +kernel
theorem dX12_mixed_11 : decode cX12_mixed 11 = .ok (.istore_n 2, 1) := by decide +kernel
theorem dX12_mixed_12 : decode cX12_mixed 12 = .ok (.iload_n 2, 1) := by decide +kernel
theorem dX12_mixed_13 : decode cX12_mixed 13 = .ok (.iload_n 2, 1) := by decide +kernel
theorem dX12_mixed_14 : decode cX12_mixed 14 = .ok (.bipush 15, 2) := by decide +kernel
theorem dX12_mixed_16 : decode cX12_mixed 16 = .ok (.iushr, 1) := by decide +kernel
theorem dX12_mixed_17 : decode cX12_mixed 17 = .ok (.ixor, 1) := by decide +kernel
theorem dX12_mixed_18 : decode cX12_mixed 18 = .ok (.ireturn, 1) := by decide +kernel
def xX12_mixed : zX := (RX12, cX12_mixed, 3, (some .int), false, { frames := 1, cells := 0, slots := 0, locals := 90 }, 0, 0, 0, 0)
theorem rmX12_mixed : z_Rm xX12_mixed := by unfold z_Rm xX12_mixed; exact ⟨by decide, by decide⟩
theorem reX12_mixed : z_Re xX12_mixed := ⟨rfl, rfl⟩
theorem rlX12_mixed : 1 ≤ xX12_mixed.2.2.2.2.2.1.frames ∧ 21 ≤ xX12_mixed.2.2.2.2.2.1.locals := by unfold xX12_mixed; exact ⟨by decide, by decide⟩
theorem meX12_mixed : z_Me yX12_mixed xX12_mixed 2 := ⟨wd1093, wd893, by decide, by decide, by decide +kernel⟩
noncomputable def kX12_mixed_0 : zK zR := (q_iload 0 (q_iload 1 (q_ixor (q_push 1103515245 (q_imul (q_push 12345 (q_iadd (q_istore 2 (q_iload 2 (q_iload 2 (q_push 15 (q_iushr (q_ixor q_iret)))))))))))))
set_option maxRecDepth 100000 in
theorem tX12_mixed_0 {l : Launch} {D : zD} {B sz0 : Nat} {post : Option Value → zS → Prop} : zSnd l D B xX12_mixed sz0 post 0 kX12_mixed_0 (z_Jr post) := (s_iload_n dX12_mixed_0 rfl (s_iload_n dX12_mixed_1 rfl (s_ixor dX12_mixed_2 (s_ldcw dX12_mixed_3 wd1092 (s_imul dX12_mixed_6 (s_sipush dX12_mixed_7 (by decide) (s_iadd dX12_mixed_10 (s_istore_n dX12_mixed_11 rfl (s_iload_n dX12_mixed_12 rfl (s_iload_n dX12_mixed_13 rfl (s_bipush dX12_mixed_14 (by decide) (s_iushr dX12_mixed_16 (s_ixor dX12_mixed_17 (s_iret dX12_mixed_18 rfl))))))))))))))
noncomputable def fX12_mixed : zF := z_fn 3 kX12_mixed_0
theorem mX12_mixed {l : Launch} {D : zD} {B : Nat} : z_MF l D B yX12_mixed xX12_mixed fX12_mixed := z_mf (by decide) rfl (fun h => by cases h) rfl (fun as σ r h => ⟨z_fn_len h, kX12_mixed_0, z_fn_run h, fun _ => tX12_mixed_0⟩)
/-! ===== RowChildrenModel.lotOf ===== -/
theorem dX12_lotOf_0 : decode cX12_lotOf 0 = .ok (.aload_n 0, 1) := by decide +kernel
theorem dX12_lotOf_1 : decode cX12_lotOf 1 = .ok (.getfield 333, 3) := by decide +kernel
theorem dX12_lotOf_4 : decode cX12_lotOf 4 = .ok (.sipush 213, 3) := by decide +kernel
theorem dX12_lotOf_7 : decode cX12_lotOf 7 = .ok (.invokestatic 337, 3) := by decide +kernel
theorem dX12_lotOf_10 : decode cX12_lotOf 10 = .ok (.iload_n 1, 1) := by decide +kernel
theorem dX12_lotOf_11 : decode cX12_lotOf 11 = .ok (.invokestatic 337, 3) := by decide +kernel
theorem dX12_lotOf_14 : decode cX12_lotOf 14 = .ok (.iconst 1, 1) := by decide +kernel
theorem dX12_lotOf_15 : decode cX12_lotOf 15 = .ok (.iushr, 1) := by decide +kernel
theorem dX12_lotOf_16 : decode cX12_lotOf 16 = .ok (.bipush 100, 2) := by decide +kernel
theorem dX12_lotOf_18 : decode cX12_lotOf 18 = .ok (.irem, 1) := by decide +kernel
theorem dX12_lotOf_19 : decode cX12_lotOf 19 = .ok (.ireturn, 1) := by decide +kernel
def xX12_lotOf : zX := (RX12, cX12_lotOf, 2, (some .int), false, { frames := 2, cells := 0, slots := 0, locals := 112 }, 0, 0, 0, 0)
theorem rmX12_lotOf : z_Rm xX12_lotOf := by unfold z_Rm xX12_lotOf; exact ⟨by decide, by decide⟩
theorem reX12_lotOf : z_Re xX12_lotOf := ⟨rfl, rfl⟩
theorem rlX12_lotOf : 1 ≤ xX12_lotOf.2.2.2.2.2.1.frames ∧ 21 ≤ xX12_lotOf.2.2.2.2.2.1.locals := by unfold xX12_lotOf; exact ⟨by decide, by decide⟩
theorem meX12_lotOf : z_Me yX12_lotOf xX12_lotOf 1 := ⟨wd1096, wd893, by decide, by decide, by decide +kernel⟩
theorem fitX12_lotOf_7 : z_Fit xX12_mixed xX12_lotOf := by unfold z_Fit; simp only [xX12_mixed, xX12_lotOf]; exact ⟨by decide, by decide⟩
theorem fitX12_lotOf_11 : z_Fit xX12_mixed xX12_lotOf := by unfold z_Fit; simp only [xX12_mixed, xX12_lotOf]; exact ⟨by decide, by decide⟩
noncomputable def kX12_lotOf_0 : zK zR := (q_aload 0 (q_getI 12 48 (q_push 213 (q_callS fX12_mixed 2 (q_iload 1 (q_callS fX12_mixed 2 (q_push 1 (q_iushr (q_push 100 (q_irem q_iret))))))))))
set_option maxRecDepth 100000 in
theorem tX12_lotOf_0 {l : Launch} {D : zD} {B sz0 : Nat} {post : Option Value → zS → Prop} : zSnd l D B xX12_lotOf sz0 post 0 kX12_lotOf_0 (z_Jr post) := (s_aload_n dX12_lotOf_0 rfl (s_getI (f := 48) dX12_lotOf_1 clX12 (by decide) rfl wd900 (s_sipush dX12_lotOf_4 (by decide) (s_callS dX12_lotOf_7 mX12_mixed meX12_mixed wd1094 rfl reX12_mixed rmX12_lotOf (fitX12_lotOf_7) wd1095 (s_iload_n dX12_lotOf_10 rfl (s_callS dX12_lotOf_11 mX12_mixed meX12_mixed wd1094 rfl reX12_mixed rmX12_lotOf (fitX12_lotOf_11) wd1095 (s_iconst dX12_lotOf_14 (by decide) (s_iushr dX12_lotOf_15 (s_bipush dX12_lotOf_16 (by decide) (s_irem dX12_lotOf_18 (s_iret dX12_lotOf_19 rfl)))))))))))
noncomputable def fX12_lotOf : zF := z_fn 2 kX12_lotOf_0
theorem mX12_lotOf {l : Launch} {D : zD} {B : Nat} : z_MF l D B yX12_lotOf xX12_lotOf fX12_lotOf := z_mf (by decide) rfl (fun h => by cases h) rfl (fun as σ r h => ⟨z_fn_len h, kX12_lotOf_0, z_fn_run h, fun _ => tX12_lotOf_0⟩)
/-! ===== RowChildrenModel.laidAt ===== -/
theorem dX12_laidAt_0 : decode cX12_laidAt 0 = .ok (.aload_n 0, 1) := by decide +kernel
theorem dX12_laidAt_1 : decode cX12_laidAt 1 = .ok (.getfield 110, 3) := by decide +kernel
theorem dX12_laidAt_4 : decode cX12_laidAt 4 = .ok (.bipush 8, 2) := by decide +kernel
theorem dX12_laidAt_6 : decode cX12_laidAt 6 = .ok (.iload_n 1, 1) := by decide +kernel
theorem dX12_laidAt_7 : decode cX12_laidAt 7 = .ok (.imul, 1) := by decide +kernel
theorem dX12_laidAt_8 : decode cX12_laidAt 8 = .ok (.iload_n 2, 1) := by decide +kernel
theorem dX12_laidAt_9 : decode cX12_laidAt 9 = .ok (.iadd, 1) := by decide +kernel
theorem dX12_laidAt_10 : decode cX12_laidAt 10 = .ok (.iaload, 1) := by decide +kernel
theorem dX12_laidAt_11 : decode cX12_laidAt 11 = .ok (.ireturn, 1) := by decide +kernel
def xX12_laidAt : zX := (RX12, cX12_laidAt, 3, (some .int), false, { frames := 1, cells := 0, slots := 0, locals := 90 }, 0, 0, 0, 0)
theorem rmX12_laidAt : z_Rm xX12_laidAt := by unfold z_Rm xX12_laidAt; exact ⟨by decide, by decide⟩
theorem reX12_laidAt : z_Re xX12_laidAt := ⟨rfl, rfl⟩
theorem rlX12_laidAt : 1 ≤ xX12_laidAt.2.2.2.2.2.1.frames ∧ 21 ≤ xX12_laidAt.2.2.2.2.2.1.locals := by unfold xX12_laidAt; exact ⟨by decide, by decide⟩
theorem meX12_laidAt : z_Me yX12_laidAt xX12_laidAt 2 := ⟨wd1097, wd893, by decide, by decide, by decide +kernel⟩
noncomputable def kX12_laidAt_0 : zK zR := (q_aload 0 (q_getR 12 49 (q_push 8 (q_iload 1 (q_imul (q_iload 2 (q_iadd (q_iald q_iret))))))))
set_option maxRecDepth 100000 in
theorem tX12_laidAt_0 {l : Launch} {D : zD} {B sz0 : Nat} {post : Option Value → zS → Prop} : zSnd l D B xX12_laidAt sz0 post 0 kX12_laidAt_0 (z_Jr post) := (s_aload_n dX12_laidAt_0 rfl (s_getR (f := 49) dX12_laidAt_1 clX12 (by decide) rfl wd927 (s_bipush dX12_laidAt_4 (by decide) (s_iload_n dX12_laidAt_6 rfl (s_imul dX12_laidAt_7 (s_iload_n dX12_laidAt_8 rfl (s_iadd dX12_laidAt_9 (s_iald dX12_laidAt_10 (s_iret dX12_laidAt_11 rfl)))))))))
noncomputable def fX12_laidAt : zF := z_fn 3 kX12_laidAt_0
theorem mX12_laidAt {l : Launch} {D : zD} {B : Nat} : z_MF l D B yX12_laidAt xX12_laidAt fX12_laidAt := z_mf (by decide) rfl (fun h => by cases h) rfl (fun as σ r h => ⟨z_fn_len h, kX12_laidAt_0, z_fn_run h, fun _ => tX12_laidAt_0⟩)
/-! ===== RowChildrenModel.laysDown ===== -/
theorem dX12_laysDown_0 : decode cX12_laysDown 0 = .ok (.iconst 1, 1) := by decide +kernel
theorem dX12_laysDown_1 : decode cX12_laysDown 1 = .ok (.istore_n 1, 1) := by decide +kernel
theorem dX12_laysDown_2 : decode cX12_laysDown 2 = .ok (.iload_n 1, 1) := by decide +kernel
theorem dX12_laysDown_3 : decode cX12_laysDown 3 = .ok (.aload_n 0, 1) := by decide +kernel
theorem dX12_laysDown_4 : decode cX12_laysDown 4 = .ok (.getfield 340, 3) := by decide +kernel
theorem dX12_laysDown_7 : decode cX12_laysDown 7 = .ok (.if_icmp .ge 60, 3) := by decide +kernel
theorem dX12_laysDown_10 : decode cX12_laysDown 10 = .ok (.iconst 0, 1) := by decide +kernel
theorem dX12_laysDown_11 : decode cX12_laysDown 11 = .ok (.istore_n 2, 1) := by decide +kernel
theorem dX12_laysDown_12 : decode cX12_laysDown 12 = .ok (.iload_n 2, 1) := by decide +kernel
theorem dX12_laysDown_13 : decode cX12_laysDown 13 = .ok (.aload_n 0, 1) := by decide +kernel
theorem dX12_laysDown_14 : decode cX12_laysDown 14 = .ok (.getfield 340, 3) := by decide +kernel
theorem dX12_laysDown_17 : decode cX12_laysDown 17 = .ok (.iload_n 1, 1) := by decide +kernel
theorem dX12_laysDown_18 : decode cX12_laysDown 18 = .ok (.isub, 1) := by decide +kernel
theorem dX12_laysDown_19 : decode cX12_laysDown 19 = .ok (.if_icmp .ge 42, 3) := by decide +kernel
theorem dX12_laysDown_22 : decode cX12_laysDown 22 = .ok (.aload_n 0, 1) := by decide +kernel
theorem dX12_laysDown_23 : decode cX12_laysDown 23 = .ok (.getfield 110, 3) := by decide +kernel
theorem dX12_laysDown_26 : decode cX12_laysDown 26 = .ok (.bipush 8, 2) := by decide +kernel
theorem dX12_laysDown_28 : decode cX12_laysDown 28 = .ok (.iload_n 1, 1) := by decide +kernel
theorem dX12_laysDown_29 : decode cX12_laysDown 29 = .ok (.imul, 1) := by decide +kernel
theorem dX12_laysDown_30 : decode cX12_laysDown 30 = .ok (.iload_n 2, 1) := by decide +kernel
theorem dX12_laysDown_31 : decode cX12_laysDown 31 = .ok (.iadd, 1) := by decide +kernel
theorem dX12_laysDown_32 : decode cX12_laysDown 32 = .ok (.aload_n 0, 1) := by decide +kernel
theorem dX12_laysDown_33 : decode cX12_laysDown 33 = .ok (.aload_n 0, 1) := by decide +kernel
theorem dX12_laysDown_34 : decode cX12_laysDown 34 = .ok (.iload_n 1, 1) := by decide +kernel
theorem dX12_laysDown_35 : decode cX12_laysDown 35 = .ok (.iconst 1, 1) := by decide +kernel
theorem dX12_laysDown_36 : decode cX12_laysDown 36 = .ok (.isub, 1) := by decide +kernel
theorem dX12_laysDown_37 : decode cX12_laysDown 37 = .ok (.iload_n 2, 1) := by decide +kernel
theorem dX12_laysDown_38 : decode cX12_laysDown 38 = .ok (.invokevirtual 343, 3) := by decide +kernel
theorem dX12_laysDown_41 : decode cX12_laysDown 41 = .ok (.aload_n 0, 1) := by decide +kernel
theorem dX12_laysDown_42 : decode cX12_laysDown 42 = .ok (.iload_n 1, 1) := by decide +kernel
theorem dX12_laysDown_43 : decode cX12_laysDown 43 = .ok (.iconst 1, 1) := by decide +kernel
theorem dX12_laysDown_44 : decode cX12_laysDown 44 = .ok (.isub, 1) := by decide +kernel
theorem dX12_laysDown_45 : decode cX12_laysDown 45 = .ok (.iload_n 2, 1) := by decide +kernel
theorem dX12_laysDown_46 : decode cX12_laysDown 46 = .ok (.iconst 1, 1) := by decide +kernel
theorem dX12_laysDown_47 : decode cX12_laysDown 47 = .ok (.iadd, 1) := by decide +kernel
theorem dX12_laysDown_48 : decode cX12_laysDown 48 = .ok (.invokevirtual 343, 3) := by decide +kernel
theorem dX12_laysDown_51 : decode cX12_laysDown 51 = .ok (.invokevirtual 346, 3) := by decide +kernel
theorem dX12_laysDown_54 : decode cX12_laysDown 54 = .ok (.iastore, 1) := by decide +kernel
theorem dX12_laysDown_55 : decode cX12_laysDown 55 = .ok (.iinc 2 1, 3) := by decide +kernel
theorem dX12_laysDown_58 : decode cX12_laysDown 58 = .ok (.goto (-46), 3) := by decide +kernel
theorem dX12_laysDown_61 : decode cX12_laysDown 61 = .ok (.iinc 1 1, 3) := by decide +kernel
theorem dX12_laysDown_64 : decode cX12_laysDown 64 = .ok (.goto (-62), 3) := by decide +kernel
theorem dX12_laysDown_67 : decode cX12_laysDown 67 = .ok (.return_, 1) := by decide +kernel
def xX12_laysDown : zX := (RX12, cX12_laysDown, 3, none, false, { frames := 3, cells := 0, slots := 0, locals := 133 }, 0, 0, 0, 0)
theorem rmX12_laysDown : z_Rm xX12_laysDown := by unfold z_Rm xX12_laysDown; exact ⟨by decide, by decide⟩
theorem reX12_laysDown : z_Re xX12_laysDown := ⟨rfl, rfl⟩
theorem rlX12_laysDown : 1 ≤ xX12_laysDown.2.2.2.2.2.1.frames ∧ 21 ≤ xX12_laysDown.2.2.2.2.2.1.locals := by unfold xX12_laysDown; exact ⟨by decide, by decide⟩
theorem meX12_laysDown : z_Me yX12_laysDown xX12_laysDown 0 := ⟨wd1105, wd893, by decide, by decide, by decide +kernel⟩
theorem fitX12_laysDown_38 : z_Fit xX12_laidAt xX12_laysDown := by unfold z_Fit; simp only [xX12_laidAt, xX12_laysDown]; exact ⟨by decide, by decide⟩
theorem fitX12_laysDown_48 : z_Fit xX12_laidAt xX12_laysDown := by unfold z_Fit; simp only [xX12_laidAt, xX12_laysDown]; exact ⟨by decide, by decide⟩
theorem fitX12_laysDown_51 : z_Fit xX12_childOf xX12_laysDown := by unfold z_Fit; simp only [xX12_childOf, xX12_laysDown]; exact ⟨by decide, by decide⟩
noncomputable def kX12_laysDown_67 : zK zR := q_vret
noncomputable def kX12_laysDown_61 : zK ((zL × zS) ⊕ zR) := (q_iinc 1 1 q_ag)
noncomputable def bX12_laysDown_12 : zK ((zL × zS) ⊕ ((zL × zS) ⊕ zR)) := (q_iload 2 (q_aload 0 (q_getI 12 50 (q_iload 1 (q_isub (q_icmp_ge (q_dn kX12_laysDown_61) (q_aload 0 (q_getR 12 49 (q_push 8 (q_iload 1 (q_imul (q_iload 2 (q_iadd (q_aload 0 (q_aload 0 (q_iload 1 (q_push 1 (q_isub (q_iload 2 (q_callV 12 fX12_laidAt 2 (q_aload 0 (q_iload 1 (q_push 1 (q_isub (q_iload 2 (q_push 1 (q_iadd (q_callV 12 fX12_laidAt 2 (q_callV 12 fX12_childOf 2 (q_iast (q_iinc 2 1 q_ag)))))))))))))))))))))))))))))))
noncomputable def kX12_laysDown_12 : zK ((zL × zS) ⊕ zR) := q_lp (bX12_laysDown_12)
noncomputable def bX12_laysDown_2 : zK ((zL × zS) ⊕ zR) := (q_iload 1 (q_aload 0 (q_getI 12 50 (q_icmp_ge (q_dn kX12_laysDown_67) (q_push 0 (q_istore 2 kX12_laysDown_12))))))
noncomputable def kX12_laysDown_2 : zK zR := q_lp (bX12_laysDown_2)
noncomputable def kX12_laysDown_0 : zK zR := (q_push 1 (q_istore 1 kX12_laysDown_2))
set_option maxRecDepth 100000 in
theorem tX12_laysDown_67 {l : Launch} {D : zD} {B sz0 : Nat} {post : Option Value → zS → Prop} : zSnd l D B xX12_laysDown sz0 post 67 kX12_laysDown_67 (z_Jr post) := (s_vret dX12_laysDown_67 rfl)
set_option maxRecDepth 100000 in
theorem tX12_laysDown_61 {l : Launch} {D : zD} {B sz0 : Nat} {post : Option Value → zS → Prop} : zSnd l D B xX12_laysDown sz0 post 61 kX12_laysDown_61 (z_Jl l D B xX12_laysDown sz0 post 2 (z_Jr post)) := (s_iinc dX12_laysDown_61 (by decide) (s_goto (tgt := 2) dX12_laysDown_64 (by decide) s_ag))
set_option maxRecDepth 100000 in
theorem tX12_laysDown_12 {l : Launch} {D : zD} {B sz0 : Nat} {post : Option Value → zS → Prop} : zSnd l D B xX12_laysDown sz0 post 12 kX12_laysDown_12 (z_Jl l D B xX12_laysDown sz0 post 2 (z_Jr post)) := s_lp (body := bX12_laysDown_12) (s_iload_n dX12_laysDown_12 rfl (s_aload_n dX12_laysDown_13 rfl (s_getI (f := 50) dX12_laysDown_14 clX12 (by decide) rfl wd1098 (s_iload_n dX12_laysDown_17 rfl (s_isub dX12_laysDown_18 (s_icmp_ge (tgt := 61) dX12_laysDown_19 (by decide) (s_dn tX12_laysDown_61) (s_aload_n dX12_laysDown_22 rfl (s_getR (f := 49) dX12_laysDown_23 clX12 (by decide) rfl wd927 (s_bipush dX12_laysDown_26 (by decide) (s_iload_n dX12_laysDown_28 rfl (s_imul dX12_laysDown_29 (s_iload_n dX12_laysDown_30 rfl (s_iadd dX12_laysDown_31 (s_aload_n dX12_laysDown_32 rfl (s_aload_n dX12_laysDown_33 rfl (s_iload_n dX12_laysDown_34 rfl (s_iconst dX12_laysDown_35 (by decide) (s_isub dX12_laysDown_36 (s_iload_n dX12_laysDown_37 rfl (s_callV (r := (RX12, TX12, 74)) dX12_laysDown_38 mX12_laidAt meX12_laidAt wd1099 wd1100 rfl rfl reX12_laidAt rmX12_laysDown (fitX12_laysDown_38) wd1101 (s_aload_n dX12_laysDown_41 rfl (s_iload_n dX12_laysDown_42 rfl (s_iconst dX12_laysDown_43 (by decide) (s_isub dX12_laysDown_44 (s_iload_n dX12_laysDown_45 rfl (s_iconst dX12_laysDown_46 (by decide) (s_iadd dX12_laysDown_47 (s_callV (r := (RX12, TX12, 74)) dX12_laysDown_48 mX12_laidAt meX12_laidAt wd1099 wd1100 rfl rfl reX12_laidAt rmX12_laysDown (fitX12_laysDown_48) wd1101 (s_callV (r := (RX12, TX12, 74)) dX12_laysDown_51 mX12_childOf meX12_childOf wd1102 wd1103 rfl rfl reX12_childOf rmX12_laysDown (fitX12_laysDown_51) wd1104 (s_iast dX12_laysDown_54 (s_iinc dX12_laysDown_55 (by decide) (s_goto (tgt := 12) dX12_laysDown_58 (by decide) s_ag))))))))))))))))))))))))))))))))
set_option maxRecDepth 100000 in
theorem tX12_laysDown_2 {l : Launch} {D : zD} {B sz0 : Nat} {post : Option Value → zS → Prop} : zSnd l D B xX12_laysDown sz0 post 2 kX12_laysDown_2 (z_Jr post) := s_lp (body := bX12_laysDown_2) (s_iload_n dX12_laysDown_2 rfl (s_aload_n dX12_laysDown_3 rfl (s_getI (f := 50) dX12_laysDown_4 clX12 (by decide) rfl wd1098 (s_icmp_ge (tgt := 67) dX12_laysDown_7 (by decide) (s_dn tX12_laysDown_67) (s_iconst dX12_laysDown_10 (by decide) (s_istore_n dX12_laysDown_11 rfl tX12_laysDown_12))))))
set_option maxRecDepth 100000 in
theorem tX12_laysDown_0 {l : Launch} {D : zD} {B sz0 : Nat} {post : Option Value → zS → Prop} : zSnd l D B xX12_laysDown sz0 post 0 kX12_laysDown_0 (z_Jr post) := (s_iconst dX12_laysDown_0 (by decide) (s_istore_n dX12_laysDown_1 rfl tX12_laysDown_2))
noncomputable def fX12_laysDown : zF := z_fn 3 kX12_laysDown_0
theorem mX12_laysDown {l : Launch} {D : zD} {B : Nat} : z_MF l D B yX12_laysDown xX12_laysDown fX12_laysDown := z_mf (by decide) rfl (fun h => by cases h) rfl (fun as σ r h => ⟨z_fn_len h, kX12_laysDown_0, z_fn_run h, fun _ => tX12_laysDown_0⟩)
/-! ===== RowChildrenModel.laysRow ===== -/
theorem dX12_laysRow_0 : decode cX12_laysRow 0 = .ok (.aload_n 0, 1) := by decide +kernel
theorem dX12_laysRow_1 : decode cX12_laysRow 1 = .ok (.aload_n 0, 1) := by decide +kernel
theorem dX12_laysRow_2 : decode cX12_laysRow 2 = .ok (.getfield 107, 3) := by decide +kernel
theorem dX12_laysRow_5 : decode cX12_laysRow 5 = .ok (.iload_n 1, 1) := by decide +kernel
theorem dX12_laysRow_6 : decode cX12_laysRow 6 = .ok (.iaload, 1) := by decide +kernel
theorem dX12_laysRow_7 : decode cX12_laysRow 7 = .ok (.putfield 340, 3) := by decide +kernel
theorem dX12_laysRow_10 : decode cX12_laysRow 10 = .ok (.iconst 0, 1) := by decide +kernel
theorem dX12_laysRow_11 : decode cX12_laysRow 11 = .ok (.istore_n 2, 1) := by decide +kernel
theorem dX12_laysRow_12 : decode cX12_laysRow 12 = .ok (.iload_n 2, 1) := by decide +kernel
theorem dX12_laysRow_13 : decode cX12_laysRow 13 = .ok (.aload_n 0, 1) := by decide +kernel
theorem dX12_laysRow_14 : decode cX12_laysRow 14 = .ok (.getfield 340, 3) := by decide +kernel
theorem dX12_laysRow_17 : decode cX12_laysRow 17 = .ok (.if_icmp .ge 21, 3) := by decide +kernel
theorem dX12_laysRow_20 : decode cX12_laysRow 20 = .ok (.aload_n 0, 1) := by decide +kernel
theorem dX12_laysRow_21 : decode cX12_laysRow 21 = .ok (.getfield 110, 3) := by decide +kernel
theorem dX12_laysRow_24 : decode cX12_laysRow 24 = .ok (.iload_n 2, 1) := by decide +kernel
theorem dX12_laysRow_25 : decode cX12_laysRow 25 = .ok (.aload_n 0, 1) := by decide +kernel
theorem dX12_laysRow_26 : decode cX12_laysRow 26 = .ok (.iload_n 1, 1) := by decide +kernel
theorem dX12_laysRow_27 : decode cX12_laysRow 27 = .ok (.iload_n 2, 1) := by decide +kernel
theorem dX12_laysRow_28 : decode cX12_laysRow 28 = .ok (.invokevirtual 349, 3) := by decide +kernel
theorem dX12_laysRow_31 : decode cX12_laysRow 31 = .ok (.iastore, 1) := by decide +kernel
theorem dX12_laysRow_32 : decode cX12_laysRow 32 = .ok (.iinc 2 1, 3) := by decide +kernel
theorem dX12_laysRow_35 : decode cX12_laysRow 35 = .ok (.goto (-23), 3) := by decide +kernel
theorem dX12_laysRow_38 : decode cX12_laysRow 38 = .ok (.aload_n 0, 1) := by decide +kernel
theorem dX12_laysRow_39 : decode cX12_laysRow 39 = .ok (.invokevirtual 352, 3) := by decide +kernel
theorem dX12_laysRow_42 : decode cX12_laysRow 42 = .ok (.return_, 1) := by decide +kernel
def xX12_laysRow : zX := (RX12, cX12_laysRow, 3, none, false, { frames := 4, cells := 0, slots := 0, locals := 155 }, 0, 0, 0, 0)
theorem rmX12_laysRow : z_Rm xX12_laysRow := by unfold z_Rm xX12_laysRow; exact ⟨by decide, by decide⟩
theorem reX12_laysRow : z_Re xX12_laysRow := ⟨rfl, rfl⟩
theorem rlX12_laysRow : 1 ≤ xX12_laysRow.2.2.2.2.2.1.frames ∧ 21 ≤ xX12_laysRow.2.2.2.2.2.1.locals := by unfold xX12_laysRow; exact ⟨by decide, by decide⟩
theorem meX12_laysRow : z_Me yX12_laysRow xX12_laysRow 1 := ⟨wd1112, wd893, by decide, by decide, by decide +kernel⟩
theorem fitX12_laysRow_39 : z_Fit xX12_laysDown xX12_laysRow := by unfold z_Fit; simp only [xX12_laysDown, xX12_laysRow]; exact ⟨by decide, by decide⟩
theorem fitX12_laysRow_28 : z_Fit xX12_seatAt xX12_laysRow := by unfold z_Fit; simp only [xX12_seatAt, xX12_laysRow]; exact ⟨by decide, by decide⟩
noncomputable def kX12_laysRow_38 : zK zR := (q_aload 0 (q_callV 12 fX12_laysDown 0 q_vret))
noncomputable def bX12_laysRow_12 : zK ((zL × zS) ⊕ zR) := (q_iload 2 (q_aload 0 (q_getI 12 50 (q_icmp_ge (q_dn kX12_laysRow_38) (q_aload 0 (q_getR 12 49 (q_iload 2 (q_aload 0 (q_iload 1 (q_iload 2 (q_callV 12 fX12_seatAt 2 (q_iast (q_iinc 2 1 q_ag)))))))))))))
noncomputable def kX12_laysRow_12 : zK zR := q_lp (bX12_laysRow_12)
noncomputable def kX12_laysRow_0 : zK zR := (q_aload 0 (q_aload 0 (q_getR 12 47 (q_iload 1 (q_iald (q_putI 12 50 (q_push 0 (q_istore 2 kX12_laysRow_12))))))))
set_option maxRecDepth 100000 in
theorem tX12_laysRow_38 {l : Launch} {D : zD} {B sz0 : Nat} {post : Option Value → zS → Prop} : zSnd l D B xX12_laysRow sz0 post 38 kX12_laysRow_38 (z_Jr post) := (s_aload_n dX12_laysRow_38 rfl (s_callV (r := (RX12, TX12, 74)) dX12_laysRow_39 mX12_laysDown meX12_laysDown wd1106 wd1107 rfl rfl reX12_laysDown rmX12_laysRow (fitX12_laysRow_39) wd1108 (s_vret dX12_laysRow_42 rfl)))
set_option maxRecDepth 100000 in
theorem tX12_laysRow_12 {l : Launch} {D : zD} {B sz0 : Nat} {post : Option Value → zS → Prop} : zSnd l D B xX12_laysRow sz0 post 12 kX12_laysRow_12 (z_Jr post) := s_lp (body := bX12_laysRow_12) (s_iload_n dX12_laysRow_12 rfl (s_aload_n dX12_laysRow_13 rfl (s_getI (f := 50) dX12_laysRow_14 clX12 (by decide) rfl wd1098 (s_icmp_ge (tgt := 38) dX12_laysRow_17 (by decide) (s_dn tX12_laysRow_38) (s_aload_n dX12_laysRow_20 rfl (s_getR (f := 49) dX12_laysRow_21 clX12 (by decide) rfl wd927 (s_iload_n dX12_laysRow_24 rfl (s_aload_n dX12_laysRow_25 rfl (s_iload_n dX12_laysRow_26 rfl (s_iload_n dX12_laysRow_27 rfl (s_callV (r := (RX12, TX12, 74)) dX12_laysRow_28 mX12_seatAt meX12_seatAt wd1109 wd1110 rfl rfl reX12_seatAt rmX12_laysRow (fitX12_laysRow_28) wd1111 (s_iast dX12_laysRow_31 (s_iinc dX12_laysRow_32 (by decide) (s_goto (tgt := 12) dX12_laysRow_35 (by decide) s_ag))))))))))))))
set_option maxRecDepth 100000 in
theorem tX12_laysRow_0 {l : Launch} {D : zD} {B sz0 : Nat} {post : Option Value → zS → Prop} : zSnd l D B xX12_laysRow sz0 post 0 kX12_laysRow_0 (z_Jr post) := (s_aload_n dX12_laysRow_0 rfl (s_aload_n dX12_laysRow_1 rfl (s_getR (f := 47) dX12_laysRow_2 clX12 (by decide) rfl wd901 (s_iload_n dX12_laysRow_5 rfl (s_iald dX12_laysRow_6 (s_putI (f := 50) dX12_laysRow_7 clX12 (by decide) rfl rfl rfl wd1098 (s_iconst dX12_laysRow_10 (by decide) (s_istore_n dX12_laysRow_11 rfl tX12_laysRow_12))))))))
noncomputable def fX12_laysRow : zF := z_fn 3 kX12_laysRow_0
theorem mX12_laysRow {l : Launch} {D : zD} {B : Nat} : z_MF l D B yX12_laysRow xX12_laysRow fX12_laysRow := z_mf (by decide) rfl (fun h => by cases h) rfl (fun as σ r h => ⟨z_fn_len h, kX12_laysRow_0, z_fn_run h, fun _ => tX12_laysRow_0⟩)
/-! ===== RowChildrenModel.laysNumber ===== -/
theorem dX12_laysNumber_0 : decode cX12_laysNumber 0 = .ok (.aload_n 0, 1) := by decide +kernel
theorem dX12_laysNumber_1 : decode cX12_laysNumber 1 = .ok (.iload_n 2, 1) := by decide +kernel
theorem dX12_laysNumber_2 : decode cX12_laysNumber 2 = .ok (.putfield 340, 3) := by decide +kernel
theorem dX12_laysNumber_5 : decode cX12_laysNumber 5 = .ok (.iload_n 1, 1) := by decide +kernel
theorem dX12_laysNumber_6 : decode cX12_laysNumber 6 = .ok (.istore_n 3, 1) := by decide +kernel
theorem dX12_laysNumber_7 : decode cX12_laysNumber 7 = .ok (.iload_n 2, 1) := by decide +kernel
theorem dX12_laysNumber_8 : decode cX12_laysNumber 8 = .ok (.iconst 1, 1) := by decide +kernel
theorem dX12_laysNumber_9 : decode cX12_laysNumber 9 = .ok (.isub, 1) := by decide +kernel
theorem dX12_laysNumber_10 : decode cX12_laysNumber 10 = .ok (.istore 4, 2) := by decide +kernel
theorem dX12_laysNumber_12 : decode cX12_laysNumber 12 = .ok (.iload 4, 2) := by decide +kernel
theorem dX12_laysNumber_14 : decode cX12_laysNumber 14 = .ok (.ifCond .lt 29, 3) := by decide +kernel
theorem dX12_laysNumber_17 : decode cX12_laysNumber 17 = .ok (.aload_n 0, 1) := by decide +kernel
theorem dX12_laysNumber_18 : decode cX12_laysNumber 18 = .ok (.getfield 110, 3) := by decide +kernel
theorem dX12_laysNumber_21 : decode cX12_laysNumber 21 = .ok (.iload 4, 2) := by decide +kernel
theorem dX12_laysNumber_23 : decode cX12_laysNumber 23 = .ok (.iload_n 3, 1) := by decide +kernel
theorem dX12_laysNumber_24 : decode cX12_laysNumber 24 = .ok (.aload_n 0, 1) := by decide +kernel
theorem dX12_laysNumber_25 : decode cX12_laysNumber 25 = .ok (.invokevirtual 327, 3) := by decide +kernel
theorem dX12_laysNumber_28 : decode cX12_laysNumber 28 = .ok (.irem, 1) := by decide +kernel
theorem dX12_laysNumber_29 : decode cX12_laysNumber 29 = .ok (.iastore, 1) := by decide +kernel
theorem dX12_laysNumber_30 : decode cX12_laysNumber 30 = .ok (.iload_n 3, 1) := by decide +kernel
theorem dX12_laysNumber_31 : decode cX12_laysNumber 31 = .ok (.aload_n 0, 1) := by decide +kernel
theorem dX12_laysNumber_32 : decode cX12_laysNumber 32 = .ok (.invokevirtual 327, 3) := by decide +kernel
theorem dX12_laysNumber_35 : decode cX12_laysNumber 35 = .ok (.idiv, 1) := by decide +kernel
theorem dX12_laysNumber_36 : decode cX12_laysNumber 36 = .ok (.istore_n 3, 1) := by decide +kernel
theorem dX12_laysNumber_37 : decode cX12_laysNumber 37 = .ok (.iinc 4 (-1), 3) := by decide +kernel
theorem dX12_laysNumber_40 : decode cX12_laysNumber 40 = .ok (.goto (-28), 3) := by decide +kernel
theorem dX12_laysNumber_43 : decode cX12_laysNumber 43 = .ok (.aload_n 0, 1) := by decide +kernel
theorem dX12_laysNumber_44 : decode cX12_laysNumber 44 = .ok (.invokevirtual 352, 3) := by decide +kernel
theorem dX12_laysNumber_47 : decode cX12_laysNumber 47 = .ok (.return_, 1) := by decide +kernel
def xX12_laysNumber : zX := (RX12, cX12_laysNumber, 5, none, false, { frames := 4, cells := 0, slots := 0, locals := 155 }, 0, 0, 0, 0)
theorem rmX12_laysNumber : z_Rm xX12_laysNumber := by unfold z_Rm xX12_laysNumber; exact ⟨by decide, by decide⟩
theorem reX12_laysNumber : z_Re xX12_laysNumber := ⟨rfl, rfl⟩
theorem rlX12_laysNumber : 1 ≤ xX12_laysNumber.2.2.2.2.2.1.frames ∧ 21 ≤ xX12_laysNumber.2.2.2.2.2.1.locals := by unfold xX12_laysNumber; exact ⟨by decide, by decide⟩
theorem meX12_laysNumber : z_Me yX12_laysNumber xX12_laysNumber 2 := ⟨wd1113, wd893, by decide, by decide, by decide +kernel⟩
theorem fitX12_laysNumber_44 : z_Fit xX12_laysDown xX12_laysNumber := by unfold z_Fit; simp only [xX12_laysDown, xX12_laysNumber]; exact ⟨by decide, by decide⟩
theorem fitX12_laysNumber_25 : z_Fit xX12_base xX12_laysNumber := by unfold z_Fit; simp only [xX12_base, xX12_laysNumber]; exact ⟨by decide, by decide⟩
theorem fitX12_laysNumber_32 : z_Fit xX12_base xX12_laysNumber := by unfold z_Fit; simp only [xX12_base, xX12_laysNumber]; exact ⟨by decide, by decide⟩
noncomputable def kX12_laysNumber_43 : zK zR := (q_aload 0 (q_callV 12 fX12_laysDown 0 q_vret))
noncomputable def bX12_laysNumber_12 : zK ((zL × zS) ⊕ zR) := (q_iload 4 (q_if_lt (q_dn kX12_laysNumber_43) (q_aload 0 (q_getR 12 49 (q_iload 4 (q_iload 3 (q_aload 0 (q_callV 12 fX12_base 0 (q_irem (q_iast (q_iload 3 (q_aload 0 (q_callV 12 fX12_base 0 (q_idiv (q_istore 3 (q_iinc 4 (-1) q_ag))))))))))))))))
noncomputable def kX12_laysNumber_12 : zK zR := q_lp (bX12_laysNumber_12)
noncomputable def kX12_laysNumber_0 : zK zR := (q_aload 0 (q_iload 2 (q_putI 12 50 (q_iload 1 (q_istore 3 (q_iload 2 (q_push 1 (q_isub (q_istore 4 kX12_laysNumber_12)))))))))
set_option maxRecDepth 100000 in
theorem tX12_laysNumber_43 {l : Launch} {D : zD} {B sz0 : Nat} {post : Option Value → zS → Prop} : zSnd l D B xX12_laysNumber sz0 post 43 kX12_laysNumber_43 (z_Jr post) := (s_aload_n dX12_laysNumber_43 rfl (s_callV (r := (RX12, TX12, 74)) dX12_laysNumber_44 mX12_laysDown meX12_laysDown wd1106 wd1107 rfl rfl reX12_laysDown rmX12_laysNumber (fitX12_laysNumber_44) wd1108 (s_vret dX12_laysNumber_47 rfl)))
set_option maxRecDepth 100000 in
theorem tX12_laysNumber_12 {l : Launch} {D : zD} {B sz0 : Nat} {post : Option Value → zS → Prop} : zSnd l D B xX12_laysNumber sz0 post 12 kX12_laysNumber_12 (z_Jr post) := s_lp (body := bX12_laysNumber_12) (s_iload dX12_laysNumber_12 (s_if_lt (tgt := 43) dX12_laysNumber_14 (by decide) (s_dn tX12_laysNumber_43) (s_aload_n dX12_laysNumber_17 rfl (s_getR (f := 49) dX12_laysNumber_18 clX12 (by decide) rfl wd927 (s_iload dX12_laysNumber_21 (s_iload_n dX12_laysNumber_23 rfl (s_aload_n dX12_laysNumber_24 rfl (s_callV (r := (RX12, TX12, 74)) dX12_laysNumber_25 mX12_base meX12_base wd1081 wd1082 rfl rfl reX12_base rmX12_laysNumber (fitX12_laysNumber_25) wd1083 (s_irem dX12_laysNumber_28 (s_iast dX12_laysNumber_29 (s_iload_n dX12_laysNumber_30 rfl (s_aload_n dX12_laysNumber_31 rfl (s_callV (r := (RX12, TX12, 74)) dX12_laysNumber_32 mX12_base meX12_base wd1081 wd1082 rfl rfl reX12_base rmX12_laysNumber (fitX12_laysNumber_32) wd1083 (s_idiv dX12_laysNumber_35 (s_istore_n dX12_laysNumber_36 rfl (s_iinc dX12_laysNumber_37 (by decide) (s_goto (tgt := 12) dX12_laysNumber_40 (by decide) s_ag)))))))))))))))))
set_option maxRecDepth 100000 in
theorem tX12_laysNumber_0 {l : Launch} {D : zD} {B sz0 : Nat} {post : Option Value → zS → Prop} : zSnd l D B xX12_laysNumber sz0 post 0 kX12_laysNumber_0 (z_Jr post) := (s_aload_n dX12_laysNumber_0 rfl (s_iload_n dX12_laysNumber_1 rfl (s_putI (f := 50) dX12_laysNumber_2 clX12 (by decide) rfl rfl rfl wd1098 (s_iload_n dX12_laysNumber_5 rfl (s_istore_n dX12_laysNumber_6 rfl (s_iload_n dX12_laysNumber_7 rfl (s_iconst dX12_laysNumber_8 (by decide) (s_isub dX12_laysNumber_9 (s_istore dX12_laysNumber_10 tX12_laysNumber_12)))))))))
noncomputable def fX12_laysNumber : zF := z_fn 5 kX12_laysNumber_0
theorem mX12_laysNumber {l : Launch} {D : zD} {B : Nat} : z_MF l D B yX12_laysNumber xX12_laysNumber fX12_laysNumber := z_mf (by decide) rfl (fun h => by cases h) rfl (fun as σ r h => ⟨z_fn_len h, kX12_laysNumber_0, z_fn_run h, fun _ => tX12_laysNumber_0⟩)
/-! ===== RowChildrenModel.lastLaid ===== -/
theorem dX12_lastLaid_0 : decode cX12_lastLaid 0 = .ok (.aload_n 0, 1) := by decide +kernel
theorem dX12_lastLaid_1 : decode cX12_lastLaid 1 = .ok (.aload_n 0, 1) := by decide +kernel
theorem dX12_lastLaid_2 : decode cX12_lastLaid 2 = .ok (.getfield 340, 3) := by decide +kernel
theorem dX12_lastLaid_5 : decode cX12_lastLaid 5 = .ok (.iconst 1, 1) := by decide +kernel
theorem dX12_lastLaid_6 : decode cX12_lastLaid 6 = .ok (.isub, 1) := by decide +kernel
theorem dX12_lastLaid_7 : decode cX12_lastLaid 7 = .ok (.iconst 0, 1) := by decide +kernel
theorem dX12_lastLaid_8 : decode cX12_lastLaid 8 = .ok (.invokevirtual 343, 3) := by decide +kernel
theorem dX12_lastLaid_11 : decode cX12_lastLaid 11 = .ok (.ireturn, 1) := by decide +kernel
def xX12_lastLaid : zX := (RX12, cX12_lastLaid, 1, (some .int), false, { frames := 2, cells := 0, slots := 0, locals := 112 }, 0, 0, 0, 0)
theorem rmX12_lastLaid : z_Rm xX12_lastLaid := by unfold z_Rm xX12_lastLaid; exact ⟨by decide, by decide⟩
theorem reX12_lastLaid : z_Re xX12_lastLaid := ⟨rfl, rfl⟩
theorem rlX12_lastLaid : 1 ≤ xX12_lastLaid.2.2.2.2.2.1.frames ∧ 21 ≤ xX12_lastLaid.2.2.2.2.2.1.locals := by unfold xX12_lastLaid; exact ⟨by decide, by decide⟩
theorem meX12_lastLaid : z_Me yX12_lastLaid xX12_lastLaid 0 := ⟨wd1114, wd893, by decide, by decide, by decide +kernel⟩
theorem fitX12_lastLaid_8 : z_Fit xX12_laidAt xX12_lastLaid := by unfold z_Fit; simp only [xX12_laidAt, xX12_lastLaid]; exact ⟨by decide, by decide⟩
noncomputable def kX12_lastLaid_0 : zK zR := (q_aload 0 (q_aload 0 (q_getI 12 50 (q_push 1 (q_isub (q_push 0 (q_callV 12 fX12_laidAt 2 q_iret)))))))
set_option maxRecDepth 100000 in
theorem tX12_lastLaid_0 {l : Launch} {D : zD} {B sz0 : Nat} {post : Option Value → zS → Prop} : zSnd l D B xX12_lastLaid sz0 post 0 kX12_lastLaid_0 (z_Jr post) := (s_aload_n dX12_lastLaid_0 rfl (s_aload_n dX12_lastLaid_1 rfl (s_getI (f := 50) dX12_lastLaid_2 clX12 (by decide) rfl wd1098 (s_iconst dX12_lastLaid_5 (by decide) (s_isub dX12_lastLaid_6 (s_iconst dX12_lastLaid_7 (by decide) (s_callV (r := (RX12, TX12, 74)) dX12_lastLaid_8 mX12_laidAt meX12_laidAt wd1099 wd1100 rfl rfl reX12_laidAt rmX12_lastLaid (fitX12_lastLaid_8) wd1101 (s_iret dX12_lastLaid_11 rfl))))))))
noncomputable def fX12_lastLaid : zF := z_fn 1 kX12_lastLaid_0
theorem mX12_lastLaid {l : Launch} {D : zD} {B : Nat} : z_MF l D B yX12_lastLaid xX12_lastLaid fX12_lastLaid := z_mf (by decide) rfl (fun h => by cases h) rfl (fun as σ r h => ⟨z_fn_len h, kX12_lastLaid_0, z_fn_run h, fun _ => tX12_lastLaid_0⟩)
/-! ===== RowChildrenModel.rowsOf ===== -/
theorem dX12_rowsOf_0 : decode cX12_rowsOf 0 = .ok (.iconst 1, 1) := by decide +kernel
theorem dX12_rowsOf_1 : decode cX12_rowsOf 1 = .ok (.istore_n 2, 1) := by decide +kernel
theorem dX12_rowsOf_2 : decode cX12_rowsOf 2 = .ok (.iconst 0, 1) := by decide +kernel
theorem dX12_rowsOf_3 : decode cX12_rowsOf 3 = .ok (.istore_n 3, 1) := by decide +kernel
theorem dX12_rowsOf_4 : decode cX12_rowsOf 4 = .ok (.iload_n 3, 1) := by decide +kernel
theorem dX12_rowsOf_5 : decode cX12_rowsOf 5 = .ok (.iload_n 1, 1) := by decide +kernel
theorem dX12_rowsOf_6 : decode cX12_rowsOf 6 = .ok (.if_icmp .ge 16, 3) := by decide +kernel
theorem dX12_rowsOf_9 : decode cX12_rowsOf 9 = .ok (.iload_n 2, 1) := by decide +kernel
theorem dX12_rowsOf_10 : decode cX12_rowsOf 10 = .ok (.aload_n 0, 1) := by decide +kernel
theorem dX12_rowsOf_11 : decode cX12_rowsOf 11 = .ok (.invokevirtual 327, 3) := by decide +kernel
theorem dX12_rowsOf_14 : decode cX12_rowsOf 14 = .ok (.imul, 1) := by decide +kernel
theorem dX12_rowsOf_15 : decode cX12_rowsOf 15 = .ok (.istore_n 2, 1) := by decide +kernel
theorem dX12_rowsOf_16 : decode cX12_rowsOf 16 = .ok (.iinc 3 1, 3) := by decide +kernel
theorem dX12_rowsOf_19 : decode cX12_rowsOf 19 = .ok (.goto (-15), 3) := by decide +kernel
theorem dX12_rowsOf_22 : decode cX12_rowsOf 22 = .ok (.iload_n 2, 1) := by decide +kernel
theorem dX12_rowsOf_23 : decode cX12_rowsOf 23 = .ok (.ireturn, 1) := by decide +kernel
def xX12_rowsOf : zX := (RX12, cX12_rowsOf, 4, (some .int), false, { frames := 2, cells := 0, slots := 0, locals := 110 }, 0, 0, 0, 0)
theorem rmX12_rowsOf : z_Rm xX12_rowsOf := by unfold z_Rm xX12_rowsOf; exact ⟨by decide, by decide⟩
theorem reX12_rowsOf : z_Re xX12_rowsOf := ⟨rfl, rfl⟩
theorem rlX12_rowsOf : 1 ≤ xX12_rowsOf.2.2.2.2.2.1.frames ∧ 21 ≤ xX12_rowsOf.2.2.2.2.2.1.locals := by unfold xX12_rowsOf; exact ⟨by decide, by decide⟩
theorem meX12_rowsOf : z_Me yX12_rowsOf xX12_rowsOf 1 := ⟨wd1115, wd893, by decide, by decide, by decide +kernel⟩
theorem fitX12_rowsOf_11 : z_Fit xX12_base xX12_rowsOf := by unfold z_Fit; simp only [xX12_base, xX12_rowsOf]; exact ⟨by decide, by decide⟩
noncomputable def kX12_rowsOf_22 : zK zR := (q_iload 2 q_iret)
noncomputable def bX12_rowsOf_4 : zK ((zL × zS) ⊕ zR) := (q_iload 3 (q_iload 1 (q_icmp_ge (q_dn kX12_rowsOf_22) (q_iload 2 (q_aload 0 (q_callV 12 fX12_base 0 (q_imul (q_istore 2 (q_iinc 3 1 q_ag)))))))))
noncomputable def kX12_rowsOf_4 : zK zR := q_lp (bX12_rowsOf_4)
noncomputable def kX12_rowsOf_0 : zK zR := (q_push 1 (q_istore 2 (q_push 0 (q_istore 3 kX12_rowsOf_4))))
set_option maxRecDepth 100000 in
theorem tX12_rowsOf_22 {l : Launch} {D : zD} {B sz0 : Nat} {post : Option Value → zS → Prop} : zSnd l D B xX12_rowsOf sz0 post 22 kX12_rowsOf_22 (z_Jr post) := (s_iload_n dX12_rowsOf_22 rfl (s_iret dX12_rowsOf_23 rfl))
set_option maxRecDepth 100000 in
theorem tX12_rowsOf_4 {l : Launch} {D : zD} {B sz0 : Nat} {post : Option Value → zS → Prop} : zSnd l D B xX12_rowsOf sz0 post 4 kX12_rowsOf_4 (z_Jr post) := s_lp (body := bX12_rowsOf_4) (s_iload_n dX12_rowsOf_4 rfl (s_iload_n dX12_rowsOf_5 rfl (s_icmp_ge (tgt := 22) dX12_rowsOf_6 (by decide) (s_dn tX12_rowsOf_22) (s_iload_n dX12_rowsOf_9 rfl (s_aload_n dX12_rowsOf_10 rfl (s_callV (r := (RX12, TX12, 74)) dX12_rowsOf_11 mX12_base meX12_base wd1081 wd1082 rfl rfl reX12_base rmX12_rowsOf (fitX12_rowsOf_11) wd1083 (s_imul dX12_rowsOf_14 (s_istore_n dX12_rowsOf_15 rfl (s_iinc dX12_rowsOf_16 (by decide) (s_goto (tgt := 4) dX12_rowsOf_19 (by decide) s_ag))))))))))
set_option maxRecDepth 100000 in
theorem tX12_rowsOf_0 {l : Launch} {D : zD} {B sz0 : Nat} {post : Option Value → zS → Prop} : zSnd l D B xX12_rowsOf sz0 post 0 kX12_rowsOf_0 (z_Jr post) := (s_iconst dX12_rowsOf_0 (by decide) (s_istore_n dX12_rowsOf_1 rfl (s_iconst dX12_rowsOf_2 (by decide) (s_istore_n dX12_rowsOf_3 rfl tX12_rowsOf_4))))
noncomputable def fX12_rowsOf : zF := z_fn 4 kX12_rowsOf_0
theorem mX12_rowsOf {l : Launch} {D : zD} {B : Nat} : z_MF l D B yX12_rowsOf xX12_rowsOf fX12_rowsOf := z_mf (by decide) rfl (fun h => by cases h) rfl (fun as σ r h => ⟨z_fn_len h, kX12_rowsOf_0, z_fn_run h, fun _ => tX12_rowsOf_0⟩)
/-! ===== RowChildrenModel.numberLaid ===== -/
theorem dX12_numberLaid_0 : decode cX12_numberLaid 0 = .ok (.iconst 0, 1) := by decide +kernel
theorem dX12_numberLaid_1 : decode cX12_numberLaid 1 = .ok (.istore_n 1, 1) := by decide +kernel
theorem dX12_numberLaid_2 : decode cX12_numberLaid 2 = .ok (.iconst 0, 1) := by decide +kernel
theorem dX12_numberLaid_3 : decode cX12_numberLaid 3 = .ok (.istore_n 2, 1) := by decide +kernel
theorem dX12_numberLaid_4 : decode cX12_numberLaid 4 = .ok (.iload_n 2, 1) := by decide +kernel
theorem dX12_numberLaid_5 : decode cX12_numberLaid 5 = .ok (.aload_n 0, 1) := by decide +kernel
theorem dX12_numberLaid_6 : decode cX12_numberLaid 6 = .ok (.getfield 340, 3) := by decide +kernel
theorem dX12_numberLaid_9 : decode cX12_numberLaid 9 = .ok (.if_icmp .ge 23, 3) := by decide +kernel
theorem dX12_numberLaid_12 : decode cX12_numberLaid 12 = .ok (.iload_n 1, 1) := by decide +kernel
theorem dX12_numberLaid_13 : decode cX12_numberLaid 13 = .ok (.aload_n 0, 1) := by decide +kernel
theorem dX12_numberLaid_14 : decode cX12_numberLaid 14 = .ok (.invokevirtual 327, 3) := by decide +kernel
theorem dX12_numberLaid_17 : decode cX12_numberLaid 17 = .ok (.imul, 1) := by decide +kernel
theorem dX12_numberLaid_18 : decode cX12_numberLaid 18 = .ok (.aload_n 0, 1) := by decide +kernel
theorem dX12_numberLaid_19 : decode cX12_numberLaid 19 = .ok (.getfield 110, 3) := by decide +kernel
theorem dX12_numberLaid_22 : decode cX12_numberLaid 22 = .ok (.iload_n 2, 1) := by decide +kernel
theorem dX12_numberLaid_23 : decode cX12_numberLaid 23 = .ok (.iaload, 1) := by decide +kernel
theorem dX12_numberLaid_24 : decode cX12_numberLaid 24 = .ok (.iadd, 1) := by decide +kernel
theorem dX12_numberLaid_25 : decode cX12_numberLaid 25 = .ok (.istore_n 1, 1) := by decide +kernel
theorem dX12_numberLaid_26 : decode cX12_numberLaid 26 = .ok (.iinc 2 1, 3) := by decide +kernel
theorem dX12_numberLaid_29 : decode cX12_numberLaid 29 = .ok (.goto (-25), 3) := by decide +kernel
theorem dX12_numberLaid_32 : decode cX12_numberLaid 32 = .ok (.iload_n 1, 1) := by decide +kernel
theorem dX12_numberLaid_33 : decode cX12_numberLaid 33 = .ok (.ireturn, 1) := by decide +kernel
def xX12_numberLaid : zX := (RX12, cX12_numberLaid, 3, (some .int), false, { frames := 2, cells := 0, slots := 0, locals := 110 }, 0, 0, 0, 0)
theorem rmX12_numberLaid : z_Rm xX12_numberLaid := by unfold z_Rm xX12_numberLaid; exact ⟨by decide, by decide⟩
theorem reX12_numberLaid : z_Re xX12_numberLaid := ⟨rfl, rfl⟩
theorem rlX12_numberLaid : 1 ≤ xX12_numberLaid.2.2.2.2.2.1.frames ∧ 21 ≤ xX12_numberLaid.2.2.2.2.2.1.locals := by unfold xX12_numberLaid; exact ⟨by decide, by decide⟩
theorem meX12_numberLaid : z_Me yX12_numberLaid xX12_numberLaid 0 := ⟨wd1116, wd893, by decide, by decide, by decide +kernel⟩
theorem fitX12_numberLaid_14 : z_Fit xX12_base xX12_numberLaid := by unfold z_Fit; simp only [xX12_base, xX12_numberLaid]; exact ⟨by decide, by decide⟩
noncomputable def kX12_numberLaid_32 : zK zR := (q_iload 1 q_iret)
noncomputable def bX12_numberLaid_4 : zK ((zL × zS) ⊕ zR) := (q_iload 2 (q_aload 0 (q_getI 12 50 (q_icmp_ge (q_dn kX12_numberLaid_32) (q_iload 1 (q_aload 0 (q_callV 12 fX12_base 0 (q_imul (q_aload 0 (q_getR 12 49 (q_iload 2 (q_iald (q_iadd (q_istore 1 (q_iinc 2 1 q_ag)))))))))))))))
noncomputable def kX12_numberLaid_4 : zK zR := q_lp (bX12_numberLaid_4)
noncomputable def kX12_numberLaid_0 : zK zR := (q_push 0 (q_istore 1 (q_push 0 (q_istore 2 kX12_numberLaid_4))))
set_option maxRecDepth 100000 in
theorem tX12_numberLaid_32 {l : Launch} {D : zD} {B sz0 : Nat} {post : Option Value → zS → Prop} : zSnd l D B xX12_numberLaid sz0 post 32 kX12_numberLaid_32 (z_Jr post) := (s_iload_n dX12_numberLaid_32 rfl (s_iret dX12_numberLaid_33 rfl))
set_option maxRecDepth 100000 in
theorem tX12_numberLaid_4 {l : Launch} {D : zD} {B sz0 : Nat} {post : Option Value → zS → Prop} : zSnd l D B xX12_numberLaid sz0 post 4 kX12_numberLaid_4 (z_Jr post) := s_lp (body := bX12_numberLaid_4) (s_iload_n dX12_numberLaid_4 rfl (s_aload_n dX12_numberLaid_5 rfl (s_getI (f := 50) dX12_numberLaid_6 clX12 (by decide) rfl wd1098 (s_icmp_ge (tgt := 32) dX12_numberLaid_9 (by decide) (s_dn tX12_numberLaid_32) (s_iload_n dX12_numberLaid_12 rfl (s_aload_n dX12_numberLaid_13 rfl (s_callV (r := (RX12, TX12, 74)) dX12_numberLaid_14 mX12_base meX12_base wd1081 wd1082 rfl rfl reX12_base rmX12_numberLaid (fitX12_numberLaid_14) wd1083 (s_imul dX12_numberLaid_17 (s_aload_n dX12_numberLaid_18 rfl (s_getR (f := 49) dX12_numberLaid_19 clX12 (by decide) rfl wd927 (s_iload_n dX12_numberLaid_22 rfl (s_iald dX12_numberLaid_23 (s_iadd dX12_numberLaid_24 (s_istore_n dX12_numberLaid_25 rfl (s_iinc dX12_numberLaid_26 (by decide) (s_goto (tgt := 4) dX12_numberLaid_29 (by decide) s_ag))))))))))))))))
set_option maxRecDepth 100000 in
theorem tX12_numberLaid_0 {l : Launch} {D : zD} {B sz0 : Nat} {post : Option Value → zS → Prop} : zSnd l D B xX12_numberLaid sz0 post 0 kX12_numberLaid_0 (z_Jr post) := (s_iconst dX12_numberLaid_0 (by decide) (s_istore_n dX12_numberLaid_1 rfl (s_iconst dX12_numberLaid_2 (by decide) (s_istore_n dX12_numberLaid_3 rfl tX12_numberLaid_4))))
noncomputable def fX12_numberLaid : zF := z_fn 3 kX12_numberLaid_0
theorem mX12_numberLaid {l : Launch} {D : zD} {B : Nat} : z_MF l D B yX12_numberLaid xX12_numberLaid fX12_numberLaid := z_mf (by decide) rfl (fun h => by cases h) rfl (fun as σ r h => ⟨z_fn_len h, kX12_numberLaid_0, z_fn_run h, fun _ => tX12_numberLaid_0⟩)
/-! ===== RowChildrenModel.isInside ===== -/
theorem dX12_isInside_0 : decode cX12_isInside 0 = .ok (.iload_n 1, 1) := by decide +kernel
theorem dX12_isInside_1 : decode cX12_isInside 1 = .ok (.iconst 0, 1) := by decide +kernel
theorem dX12_isInside_2 : decode cX12_isInside 2 = .ok (.aload_n 0, 1) := by decide +kernel
theorem dX12_isInside_3 : decode cX12_isInside 3 = .ok (.getfield 340, 3) := by decide +kernel
theorem dX12_isInside_6 : decode cX12_isInside 6 = .ok (.iconst 1, 1) := by decide +kernel
theorem dX12_isInside_7 : decode cX12_isInside 7 = .ok (.isub, 1) := by decide +kernel
theorem dX12_isInside_8 : decode cX12_isInside 8 = .ok (.invokestatic 323, 3) := by decide +kernel
theorem dX12_isInside_11 : decode cX12_isInside 11 = .ok (.ifCond .eq 23, 3) := by decide +kernel
theorem dX12_isInside_14 : decode cX12_isInside 14 = .ok (.iload_n 2, 1) := by decide +kernel
theorem dX12_isInside_15 : decode cX12_isInside 15 = .ok (.iconst 0, 1) := by decide +kernel
theorem dX12_isInside_16 : decode cX12_isInside 16 = .ok (.aload_n 0, 1) := by decide +kernel
theorem dX12_isInside_17 : decode cX12_isInside 17 = .ok (.getfield 340, 3) := by decide +kernel
theorem dX12_isInside_20 : decode cX12_isInside 20 = .ok (.iconst 1, 1) := by decide +kernel
theorem dX12_isInside_21 : decode cX12_isInside 21 = .ok (.isub, 1) := by decide +kernel
theorem dX12_isInside_22 : decode cX12_isInside 22 = .ok (.iload_n 1, 1) := by decide +kernel
theorem dX12_isInside_23 : decode cX12_isInside 23 = .ok (.isub, 1) := by decide +kernel
theorem dX12_isInside_24 : decode cX12_isInside 24 = .ok (.invokestatic 323, 3) := by decide +kernel
theorem dX12_isInside_27 : decode cX12_isInside 27 = .ok (.ifCond .eq 7, 3) := by decide +kernel
theorem dX12_isInside_30 : decode cX12_isInside 30 = .ok (.iconst 1, 1) := by decide +kernel
theorem dX12_isInside_31 : decode cX12_isInside 31 = .ok (.goto 4, 3) := by decide +kernel
theorem dX12_isInside_34 : decode cX12_isInside 34 = .ok (.iconst 0, 1) := by decide +kernel
theorem dX12_isInside_35 : decode cX12_isInside 35 = .ok (.ireturn, 1) := by decide +kernel
def xX12_isInside : zX := (RX12, cX12_isInside, 3, (some .boolean), false, { frames := 2, cells := 0, slots := 0, locals := 112 }, 0, 0, 0, 0)
theorem rmX12_isInside : z_Rm xX12_isInside := by unfold z_Rm xX12_isInside; exact ⟨by decide, by decide⟩
theorem reX12_isInside : z_Re xX12_isInside := ⟨rfl, rfl⟩
theorem rlX12_isInside : 1 ≤ xX12_isInside.2.2.2.2.2.1.frames ∧ 21 ≤ xX12_isInside.2.2.2.2.2.1.locals := by unfold xX12_isInside; exact ⟨by decide, by decide⟩
theorem meX12_isInside : z_Me yX12_isInside xX12_isInside 2 := ⟨wd1117, wd893, by decide, by decide, by decide +kernel⟩
theorem fitX12_isInside_8 : z_Fit xX12_in xX12_isInside := by unfold z_Fit; simp only [xX12_in, xX12_isInside]; exact ⟨by decide, by decide⟩
theorem fitX12_isInside_24 : z_Fit xX12_in xX12_isInside := by unfold z_Fit; simp only [xX12_in, xX12_isInside]; exact ⟨by decide, by decide⟩
noncomputable def kX12_isInside_35 : zK zR := q_zret
noncomputable def kX12_isInside_34 : zK zR := (q_push 0 kX12_isInside_35)
noncomputable def kX12_isInside_0 : zK zR := (q_iload 1 (q_push 0 (q_aload 0 (q_getI 12 50 (q_push 1 (q_isub (q_callS fX12_in 3 (q_if_eq kX12_isInside_34 (q_iload 2 (q_push 0 (q_aload 0 (q_getI 12 50 (q_push 1 (q_isub (q_iload 1 (q_isub (q_callS fX12_in 3 (q_if_eq kX12_isInside_34 (q_push 1 kX12_isInside_35)))))))))))))))))))
set_option maxRecDepth 100000 in
theorem tX12_isInside_35 {l : Launch} {D : zD} {B sz0 : Nat} {post : Option Value → zS → Prop} : zSnd l D B xX12_isInside sz0 post 35 kX12_isInside_35 (z_Jr post) := (s_zret dX12_isInside_35 rfl)
set_option maxRecDepth 100000 in
theorem tX12_isInside_34 {l : Launch} {D : zD} {B sz0 : Nat} {post : Option Value → zS → Prop} : zSnd l D B xX12_isInside sz0 post 34 kX12_isInside_34 (z_Jr post) := (s_iconst dX12_isInside_34 (by decide) tX12_isInside_35)
set_option maxRecDepth 100000 in
theorem tX12_isInside_0 {l : Launch} {D : zD} {B sz0 : Nat} {post : Option Value → zS → Prop} : zSnd l D B xX12_isInside sz0 post 0 kX12_isInside_0 (z_Jr post) := (s_iload_n dX12_isInside_0 rfl (s_iconst dX12_isInside_1 (by decide) (s_aload_n dX12_isInside_2 rfl (s_getI (f := 50) dX12_isInside_3 clX12 (by decide) rfl wd1098 (s_iconst dX12_isInside_6 (by decide) (s_isub dX12_isInside_7 (s_callS dX12_isInside_8 mX12_in meX12_in wd1078 rfl reX12_in rmX12_isInside (fitX12_isInside_8) wd1079 (s_if_eq (tgt := 34) dX12_isInside_11 (by decide) tX12_isInside_34 (s_iload_n dX12_isInside_14 rfl (s_iconst dX12_isInside_15 (by decide) (s_aload_n dX12_isInside_16 rfl (s_getI (f := 50) dX12_isInside_17 clX12 (by decide) rfl wd1098 (s_iconst dX12_isInside_20 (by decide) (s_isub dX12_isInside_21 (s_iload_n dX12_isInside_22 rfl (s_isub dX12_isInside_23 (s_callS dX12_isInside_24 mX12_in meX12_in wd1078 rfl reX12_in rmX12_isInside (fitX12_isInside_24) wd1079 (s_if_eq (tgt := 34) dX12_isInside_27 (by decide) tX12_isInside_34 (s_iconst dX12_isInside_30 (by decide) (s_goto (tgt := 35) dX12_isInside_31 (by decide) tX12_isInside_35))))))))))))))))))))
noncomputable def fX12_isInside : zF := z_fn 3 kX12_isInside_0
theorem mX12_isInside {l : Launch} {D : zD} {B : Nat} : z_MF l D B yX12_isInside xX12_isInside fX12_isInside := z_mf (by decide) rfl (fun h => by cases h) rfl (fun as σ r h => ⟨z_fn_len h, kX12_isInside_0, z_fn_run h, fun _ => tX12_isInside_0⟩)
/-! ===== RowChildrenModel.manyLaid ===== -/
theorem dX12_manyLaid_0 : decode cX12_manyLaid 0 = .ok (.iconst 0, 1) := by decide +kernel
theorem dX12_manyLaid_1 : decode cX12_manyLaid 1 = .ok (.istore_n 2, 1) := by decide +kernel
theorem dX12_manyLaid_2 : decode cX12_manyLaid 2 = .ok (.iconst 0, 1) := by decide +kernel
theorem dX12_manyLaid_3 : decode cX12_manyLaid 3 = .ok (.istore_n 3, 1) := by decide +kernel
theorem dX12_manyLaid_4 : decode cX12_manyLaid 4 = .ok (.iload_n 3, 1) := by decide +kernel
theorem dX12_manyLaid_5 : decode cX12_manyLaid 5 = .ok (.aload_n 0, 1) := by decide +kernel
theorem dX12_manyLaid_6 : decode cX12_manyLaid 6 = .ok (.getfield 340, 3) := by decide +kernel
theorem dX12_manyLaid_9 : decode cX12_manyLaid 9 = .ok (.if_icmp .ge 43, 3) := by decide +kernel
theorem dX12_manyLaid_12 : decode cX12_manyLaid 12 = .ok (.iconst 0, 1) := by decide +kernel
theorem dX12_manyLaid_13 : decode cX12_manyLaid 13 = .ok (.istore 4, 2) := by decide +kernel
theorem dX12_manyLaid_15 : decode cX12_manyLaid 15 = .ok (.iload 4, 2) := by decide +kernel
theorem dX12_manyLaid_17 : decode cX12_manyLaid 17 = .ok (.aload_n 0, 1) := by decide +kernel
theorem dX12_manyLaid_18 : decode cX12_manyLaid 18 = .ok (.getfield 340, 3) := by decide +kernel
theorem dX12_manyLaid_21 : decode cX12_manyLaid 21 = .ok (.iload_n 3, 1) := by decide +kernel
theorem dX12_manyLaid_22 : decode cX12_manyLaid 22 = .ok (.isub, 1) := by decide +kernel
theorem dX12_manyLaid_23 : decode cX12_manyLaid 23 = .ok (.if_icmp .ge 23, 3) := by decide +kernel
theorem dX12_manyLaid_26 : decode cX12_manyLaid 26 = .ok (.aload_n 0, 1) := by decide +kernel
theorem dX12_manyLaid_27 : decode cX12_manyLaid 27 = .ok (.iload_n 3, 1) := by decide +kernel
theorem dX12_manyLaid_28 : decode cX12_manyLaid 28 = .ok (.iload 4, 2) := by decide +kernel
theorem dX12_manyLaid_30 : decode cX12_manyLaid 30 = .ok (.invokevirtual 343, 3) := by decide +kernel
theorem dX12_manyLaid_33 : decode cX12_manyLaid 33 = .ok (.iload_n 1, 1) := by decide +kernel
theorem dX12_manyLaid_34 : decode cX12_manyLaid 34 = .ok (.if_icmp .ne 6, 3) := by decide +kernel
theorem dX12_manyLaid_37 : decode cX12_manyLaid 37 = .ok (.iinc 2 1, 3) := by decide +kernel
theorem dX12_manyLaid_40 : decode cX12_manyLaid 40 = .ok (.iinc 4 1, 3) := by decide +kernel
theorem dX12_manyLaid_43 : decode cX12_manyLaid 43 = .ok (.goto (-28), 3) := by decide +kernel
theorem dX12_manyLaid_46 : decode cX12_manyLaid 46 = .ok (.iinc 3 1, 3) := by decide +kernel
theorem dX12_manyLaid_49 : decode cX12_manyLaid 49 = .ok (.goto (-45), 3) := by decide +kernel
theorem dX12_manyLaid_52 : decode cX12_manyLaid 52 = .ok (.iload_n 2, 1) := by decide +kernel
theorem dX12_manyLaid_53 : decode cX12_manyLaid 53 = .ok (.ireturn, 1) := by decide +kernel
def xX12_manyLaid : zX := (RX12, cX12_manyLaid, 5, (some .int), false, { frames := 2, cells := 0, slots := 0, locals := 112 }, 0, 0, 0, 0)
theorem rmX12_manyLaid : z_Rm xX12_manyLaid := by unfold z_Rm xX12_manyLaid; exact ⟨by decide, by decide⟩
theorem reX12_manyLaid : z_Re xX12_manyLaid := ⟨rfl, rfl⟩
theorem rlX12_manyLaid : 1 ≤ xX12_manyLaid.2.2.2.2.2.1.frames ∧ 21 ≤ xX12_manyLaid.2.2.2.2.2.1.locals := by unfold xX12_manyLaid; exact ⟨by decide, by decide⟩
theorem meX12_manyLaid : z_Me yX12_manyLaid xX12_manyLaid 1 := ⟨wd1118, wd893, by decide, by decide, by decide +kernel⟩
theorem fitX12_manyLaid_30 : z_Fit xX12_laidAt xX12_manyLaid := by unfold z_Fit; simp only [xX12_laidAt, xX12_manyLaid]; exact ⟨by decide, by decide⟩
noncomputable def kX12_manyLaid_52 : zK zR := (q_iload 2 q_iret)
noncomputable def kX12_manyLaid_46 : zK ((zL × zS) ⊕ zR) := (q_iinc 3 1 q_ag)
noncomputable def kX12_manyLaid_40 : zK ((zL × zS) ⊕ ((zL × zS) ⊕ zR)) := (q_iinc 4 1 q_ag)
noncomputable def bX12_manyLaid_15 : zK ((zL × zS) ⊕ ((zL × zS) ⊕ zR)) := (q_iload 4 (q_aload 0 (q_getI 12 50 (q_iload 3 (q_isub (q_icmp_ge (q_dn kX12_manyLaid_46) (q_aload 0 (q_iload 3 (q_iload 4 (q_callV 12 fX12_laidAt 2 (q_iload 1 (q_icmp_ne kX12_manyLaid_40 (q_iinc 2 1 kX12_manyLaid_40)))))))))))))
noncomputable def kX12_manyLaid_15 : zK ((zL × zS) ⊕ zR) := q_lp (bX12_manyLaid_15)
noncomputable def bX12_manyLaid_4 : zK ((zL × zS) ⊕ zR) := (q_iload 3 (q_aload 0 (q_getI 12 50 (q_icmp_ge (q_dn kX12_manyLaid_52) (q_push 0 (q_istore 4 kX12_manyLaid_15))))))
noncomputable def kX12_manyLaid_4 : zK zR := q_lp (bX12_manyLaid_4)
noncomputable def kX12_manyLaid_0 : zK zR := (q_push 0 (q_istore 2 (q_push 0 (q_istore 3 kX12_manyLaid_4))))
set_option maxRecDepth 100000 in
theorem tX12_manyLaid_52 {l : Launch} {D : zD} {B sz0 : Nat} {post : Option Value → zS → Prop} : zSnd l D B xX12_manyLaid sz0 post 52 kX12_manyLaid_52 (z_Jr post) := (s_iload_n dX12_manyLaid_52 rfl (s_iret dX12_manyLaid_53 rfl))
set_option maxRecDepth 100000 in
theorem tX12_manyLaid_46 {l : Launch} {D : zD} {B sz0 : Nat} {post : Option Value → zS → Prop} : zSnd l D B xX12_manyLaid sz0 post 46 kX12_manyLaid_46 (z_Jl l D B xX12_manyLaid sz0 post 4 (z_Jr post)) := (s_iinc dX12_manyLaid_46 (by decide) (s_goto (tgt := 4) dX12_manyLaid_49 (by decide) s_ag))
set_option maxRecDepth 100000 in
theorem tX12_manyLaid_40 {l : Launch} {D : zD} {B sz0 : Nat} {post : Option Value → zS → Prop} : zSnd l D B xX12_manyLaid sz0 post 40 kX12_manyLaid_40 (z_Jl l D B xX12_manyLaid sz0 post 15 (z_Jl l D B xX12_manyLaid sz0 post 4 (z_Jr post))) := (s_iinc dX12_manyLaid_40 (by decide) (s_goto (tgt := 15) dX12_manyLaid_43 (by decide) s_ag))
set_option maxRecDepth 100000 in
theorem tX12_manyLaid_15 {l : Launch} {D : zD} {B sz0 : Nat} {post : Option Value → zS → Prop} : zSnd l D B xX12_manyLaid sz0 post 15 kX12_manyLaid_15 (z_Jl l D B xX12_manyLaid sz0 post 4 (z_Jr post)) := s_lp (body := bX12_manyLaid_15) (s_iload dX12_manyLaid_15 (s_aload_n dX12_manyLaid_17 rfl (s_getI (f := 50) dX12_manyLaid_18 clX12 (by decide) rfl wd1098 (s_iload_n dX12_manyLaid_21 rfl (s_isub dX12_manyLaid_22 (s_icmp_ge (tgt := 46) dX12_manyLaid_23 (by decide) (s_dn tX12_manyLaid_46) (s_aload_n dX12_manyLaid_26 rfl (s_iload_n dX12_manyLaid_27 rfl (s_iload dX12_manyLaid_28 (s_callV (r := (RX12, TX12, 74)) dX12_manyLaid_30 mX12_laidAt meX12_laidAt wd1099 wd1100 rfl rfl reX12_laidAt rmX12_manyLaid (fitX12_manyLaid_30) wd1101 (s_iload_n dX12_manyLaid_33 rfl (s_icmp_ne (tgt := 40) dX12_manyLaid_34 (by decide) tX12_manyLaid_40 (s_iinc dX12_manyLaid_37 (by decide) tX12_manyLaid_40)))))))))))))
set_option maxRecDepth 100000 in
theorem tX12_manyLaid_4 {l : Launch} {D : zD} {B sz0 : Nat} {post : Option Value → zS → Prop} : zSnd l D B xX12_manyLaid sz0 post 4 kX12_manyLaid_4 (z_Jr post) := s_lp (body := bX12_manyLaid_4) (s_iload_n dX12_manyLaid_4 rfl (s_aload_n dX12_manyLaid_5 rfl (s_getI (f := 50) dX12_manyLaid_6 clX12 (by decide) rfl wd1098 (s_icmp_ge (tgt := 52) dX12_manyLaid_9 (by decide) (s_dn tX12_manyLaid_52) (s_iconst dX12_manyLaid_12 (by decide) (s_istore dX12_manyLaid_13 tX12_manyLaid_15))))))
set_option maxRecDepth 100000 in
theorem tX12_manyLaid_0 {l : Launch} {D : zD} {B sz0 : Nat} {post : Option Value → zS → Prop} : zSnd l D B xX12_manyLaid sz0 post 0 kX12_manyLaid_0 (z_Jr post) := (s_iconst dX12_manyLaid_0 (by decide) (s_istore_n dX12_manyLaid_1 rfl (s_iconst dX12_manyLaid_2 (by decide) (s_istore_n dX12_manyLaid_3 rfl tX12_manyLaid_4))))
noncomputable def fX12_manyLaid : zF := z_fn 5 kX12_manyLaid_0
theorem mX12_manyLaid {l : Launch} {D : zD} {B : Nat} : z_MF l D B yX12_manyLaid xX12_manyLaid fX12_manyLaid := z_mf (by decide) rfl (fun h => by cases h) rfl (fun as σ r h => ⟨z_fn_len h, kX12_manyLaid_0, z_fn_run h, fun _ => tX12_manyLaid_0⟩)
/-! ===== RowChildrenModel.isFair ===== -/
theorem dX12_isFair_0 : decode cX12_isFair 0 = .ok (.bipush 99, 2) := by decide +kernel
theorem dX12_isFair_2 : decode cX12_isFair 2 = .ok (.istore_n 1, 1) := by decide +kernel
theorem dX12_isFair_3 : decode cX12_isFair 3 = .ok (.iconst 0, 1) := by decide +kernel
theorem dX12_isFair_4 : decode cX12_isFair 4 = .ok (.istore_n 2, 1) := by decide +kernel
theorem dX12_isFair_5 : decode cX12_isFair 5 = .ok (.iconst 0, 1) := by decide +kernel
theorem dX12_isFair_6 : decode cX12_isFair 6 = .ok (.istore_n 3, 1) := by decide +kernel
theorem dX12_isFair_7 : decode cX12_isFair 7 = .ok (.iload_n 3, 1) := by decide +kernel
theorem dX12_isFair_8 : decode cX12_isFair 8 = .ok (.aload_n 0, 1) := by decide +kernel
theorem dX12_isFair_9 : decode cX12_isFair 9 = .ok (.invokevirtual 327, 3) := by decide +kernel
theorem dX12_isFair_12 : decode cX12_isFair 12 = .ok (.if_icmp .ge 34, 3) := by decide +kernel
theorem dX12_isFair_15 : decode cX12_isFair 15 = .ok (.aload_n 0, 1) := by decide +kernel
theorem dX12_isFair_16 : decode cX12_isFair 16 = .ok (.iload_n 3, 1) := by decide +kernel
theorem dX12_isFair_17 : decode cX12_isFair 17 = .ok (.invokevirtual 355, 3) := by decide +kernel
theorem dX12_isFair_20 : decode cX12_isFair 20 = .ok (.istore 4, 2) := by decide +kernel
theorem dX12_isFair_22 : decode cX12_isFair 22 = .ok (.iload 4, 2) := by decide +kernel
theorem dX12_isFair_24 : decode cX12_isFair 24 = .ok (.iload_n 1, 1) := by decide +kernel
theorem dX12_isFair_25 : decode cX12_isFair 25 = .ok (.if_icmp .ge 6, 3) := by decide +kernel
theorem dX12_isFair_28 : decode cX12_isFair 28 = .ok (.iload 4, 2) := by decide +kernel
theorem dX12_isFair_30 : decode cX12_isFair 30 = .ok (.istore_n 1, 1) := by decide +kernel
theorem dX12_isFair_31 : decode cX12_isFair 31 = .ok (.iload 4, 2) := by decide +kernel
theorem dX12_isFair_33 : decode cX12_isFair 33 = .ok (.iload_n 2, 1) := by decide +kernel
theorem dX12_isFair_34 : decode cX12_isFair 34 = .ok (.if_icmp .le 6, 3) := by decide +kernel
theorem dX12_isFair_37 : decode cX12_isFair 37 = .ok (.iload 4, 2) := by decide +kernel
theorem dX12_isFair_39 : decode cX12_isFair 39 = .ok (.istore_n 2, 1) := by decide +kernel
theorem dX12_isFair_40 : decode cX12_isFair 40 = .ok (.iinc 3 1, 3) := by decide +kernel
theorem dX12_isFair_43 : decode cX12_isFair 43 = .ok (.goto (-36), 3) := by decide +kernel
theorem dX12_isFair_46 : decode cX12_isFair 46 = .ok (.iload_n 2, 1) := by decide +kernel
theorem dX12_isFair_47 : decode cX12_isFair 47 = .ok (.iload_n 1, 1) := by decide +kernel
theorem dX12_isFair_48 : decode cX12_isFair 48 = .ok (.isub, 1) := by decide +kernel
theorem dX12_isFair_49 : decode cX12_isFair 49 = .ok (.iconst 1, 1) := by decide +kernel
theorem dX12_isFair_50 : decode cX12_isFair 50 = .ok (.if_icmp .gt 7, 3) := by decide +kernel
theorem dX12_isFair_53 : decode cX12_isFair 53 = .ok (.iconst 1, 1) := by decide +kernel
theorem dX12_isFair_54 : decode cX12_isFair 54 = .ok (.goto 4, 3) := by decide +kernel
theorem dX12_isFair_57 : decode cX12_isFair 57 = .ok (.iconst 0, 1) := by decide +kernel
theorem dX12_isFair_58 : decode cX12_isFair 58 = .ok (.ireturn, 1) := by decide +kernel
def xX12_isFair : zX := (RX12, cX12_isFair, 5, (some .boolean), false, { frames := 3, cells := 0, slots := 0, locals := 136 }, 0, 0, 0, 0)
theorem rmX12_isFair : z_Rm xX12_isFair := by unfold z_Rm xX12_isFair; exact ⟨by decide, by decide⟩
theorem reX12_isFair : z_Re xX12_isFair := ⟨rfl, rfl⟩
theorem rlX12_isFair : 1 ≤ xX12_isFair.2.2.2.2.2.1.frames ∧ 21 ≤ xX12_isFair.2.2.2.2.2.1.locals := by unfold xX12_isFair; exact ⟨by decide, by decide⟩
theorem meX12_isFair : z_Me yX12_isFair xX12_isFair 0 := ⟨wd1122, wd893, by decide, by decide, by decide +kernel⟩
theorem fitX12_isFair_9 : z_Fit xX12_base xX12_isFair := by unfold z_Fit; simp only [xX12_base, xX12_isFair]; exact ⟨by decide, by decide⟩
theorem fitX12_isFair_17 : z_Fit xX12_manyLaid xX12_isFair := by unfold z_Fit; simp only [xX12_manyLaid, xX12_isFair]; exact ⟨by decide, by decide⟩
noncomputable def kX12_isFair_58 : zK zR := q_zret
noncomputable def kX12_isFair_46 : zK zR := (q_iload 2 (q_iload 1 (q_isub (q_push 1 (q_icmp_gt (q_push 0 kX12_isFair_58) (q_push 1 kX12_isFair_58))))))
noncomputable def kX12_isFair_40 : zK ((zL × zS) ⊕ zR) := (q_iinc 3 1 q_ag)
noncomputable def kX12_isFair_31 : zK ((zL × zS) ⊕ zR) := (q_iload 4 (q_iload 2 (q_icmp_le kX12_isFair_40 (q_iload 4 (q_istore 2 kX12_isFair_40)))))
noncomputable def bX12_isFair_7 : zK ((zL × zS) ⊕ zR) := (q_iload 3 (q_aload 0 (q_callV 12 fX12_base 0 (q_icmp_ge (q_dn kX12_isFair_46) (q_aload 0 (q_iload 3 (q_callV 12 fX12_manyLaid 1 (q_istore 4 (q_iload 4 (q_iload 1 (q_icmp_ge kX12_isFair_31 (q_iload 4 (q_istore 1 kX12_isFair_31)))))))))))))
noncomputable def kX12_isFair_7 : zK zR := q_lp (bX12_isFair_7)
noncomputable def kX12_isFair_0 : zK zR := (q_push 99 (q_istore 1 (q_push 0 (q_istore 2 (q_push 0 (q_istore 3 kX12_isFair_7))))))
set_option maxRecDepth 100000 in
theorem tX12_isFair_58 {l : Launch} {D : zD} {B sz0 : Nat} {post : Option Value → zS → Prop} : zSnd l D B xX12_isFair sz0 post 58 kX12_isFair_58 (z_Jr post) := (s_zret dX12_isFair_58 rfl)
set_option maxRecDepth 100000 in
theorem tX12_isFair_46 {l : Launch} {D : zD} {B sz0 : Nat} {post : Option Value → zS → Prop} : zSnd l D B xX12_isFair sz0 post 46 kX12_isFair_46 (z_Jr post) := (s_iload_n dX12_isFair_46 rfl (s_iload_n dX12_isFair_47 rfl (s_isub dX12_isFair_48 (s_iconst dX12_isFair_49 (by decide) (s_icmp_gt (tgt := 57) dX12_isFair_50 (by decide) (s_iconst dX12_isFair_57 (by decide) tX12_isFair_58) (s_iconst dX12_isFair_53 (by decide) (s_goto (tgt := 58) dX12_isFair_54 (by decide) tX12_isFair_58)))))))
set_option maxRecDepth 100000 in
theorem tX12_isFair_40 {l : Launch} {D : zD} {B sz0 : Nat} {post : Option Value → zS → Prop} : zSnd l D B xX12_isFair sz0 post 40 kX12_isFair_40 (z_Jl l D B xX12_isFair sz0 post 7 (z_Jr post)) := (s_iinc dX12_isFair_40 (by decide) (s_goto (tgt := 7) dX12_isFair_43 (by decide) s_ag))
set_option maxRecDepth 100000 in
theorem tX12_isFair_31 {l : Launch} {D : zD} {B sz0 : Nat} {post : Option Value → zS → Prop} : zSnd l D B xX12_isFair sz0 post 31 kX12_isFair_31 (z_Jl l D B xX12_isFair sz0 post 7 (z_Jr post)) := (s_iload dX12_isFair_31 (s_iload_n dX12_isFair_33 rfl (s_icmp_le (tgt := 40) dX12_isFair_34 (by decide) tX12_isFair_40 (s_iload dX12_isFair_37 (s_istore_n dX12_isFair_39 rfl tX12_isFair_40)))))
set_option maxRecDepth 100000 in
theorem tX12_isFair_7 {l : Launch} {D : zD} {B sz0 : Nat} {post : Option Value → zS → Prop} : zSnd l D B xX12_isFair sz0 post 7 kX12_isFair_7 (z_Jr post) := s_lp (body := bX12_isFair_7) (s_iload_n dX12_isFair_7 rfl (s_aload_n dX12_isFair_8 rfl (s_callV (r := (RX12, TX12, 74)) dX12_isFair_9 mX12_base meX12_base wd1081 wd1082 rfl rfl reX12_base rmX12_isFair (fitX12_isFair_9) wd1083 (s_icmp_ge (tgt := 46) dX12_isFair_12 (by decide) (s_dn tX12_isFair_46) (s_aload_n dX12_isFair_15 rfl (s_iload_n dX12_isFair_16 rfl (s_callV (r := (RX12, TX12, 74)) dX12_isFair_17 mX12_manyLaid meX12_manyLaid wd1119 wd1120 rfl rfl reX12_manyLaid rmX12_isFair (fitX12_isFair_17) wd1121 (s_istore dX12_isFair_20 (s_iload dX12_isFair_22 (s_iload_n dX12_isFair_24 rfl (s_icmp_ge (tgt := 31) dX12_isFair_25 (by decide) tX12_isFair_31 (s_iload dX12_isFair_28 (s_istore_n dX12_isFair_30 rfl tX12_isFair_31)))))))))))))
set_option maxRecDepth 100000 in
theorem tX12_isFair_0 {l : Launch} {D : zD} {B sz0 : Nat} {post : Option Value → zS → Prop} : zSnd l D B xX12_isFair sz0 post 0 kX12_isFair_0 (z_Jr post) := (s_bipush dX12_isFair_0 (by decide) (s_istore_n dX12_isFair_2 rfl (s_iconst dX12_isFair_3 (by decide) (s_istore_n dX12_isFair_4 rfl (s_iconst dX12_isFair_5 (by decide) (s_istore_n dX12_isFair_6 rfl tX12_isFair_7))))))
noncomputable def fX12_isFair : zF := z_fn 5 kX12_isFair_0
theorem mX12_isFair {l : Launch} {D : zD} {B : Nat} : z_MF l D B yX12_isFair xX12_isFair fX12_isFair := z_mf (by decide) rfl (fun h => by cases h) rfl (fun as σ r h => ⟨z_fn_len h, kX12_isFair_0, z_fn_run h, fun _ => tX12_isFair_0⟩)
/-! ===== RowChildrenModel.isTurned ===== -/
theorem dX12_isTurned_0 : decode cX12_isTurned 0 = .ok (.aload_n 0, 1) := by decide +kernel
theorem dX12_isTurned_1 : decode cX12_isTurned 1 = .ok (.getfield 340, 3) := by decide +kernel
theorem dX12_isTurned_4 : decode cX12_isTurned 4 = .ok (.iconst 1, 1) := by decide +kernel
theorem dX12_isTurned_5 : decode cX12_isTurned 5 = .ok (.isub, 1) := by decide +kernel
theorem dX12_isTurned_6 : decode cX12_isTurned 6 = .ok (.istore_n 1, 1) := by decide +kernel
theorem dX12_isTurned_7 : decode cX12_isTurned 7 = .ok (.iconst 0, 1) := by decide +kernel
theorem dX12_isTurned_8 : decode cX12_isTurned 8 = .ok (.istore_n 2, 1) := by decide +kernel
theorem dX12_isTurned_9 : decode cX12_isTurned 9 = .ok (.iload_n 2, 1) := by decide +kernel
theorem dX12_isTurned_10 : decode cX12_isTurned 10 = .ok (.iload_n 1, 1) := by decide +kernel
theorem dX12_isTurned_11 : decode cX12_isTurned 11 = .ok (.if_icmp .gt 45, 3) := by decide +kernel
theorem dX12_isTurned_14 : decode cX12_isTurned 14 = .ok (.aload_n 0, 1) := by decide +kernel
theorem dX12_isTurned_15 : decode cX12_isTurned 15 = .ok (.getfield 110, 3) := by decide +kernel
theorem dX12_isTurned_18 : decode cX12_isTurned 18 = .ok (.iload_n 2, 1) := by decide +kernel
theorem dX12_isTurned_19 : decode cX12_isTurned 19 = .ok (.iaload, 1) := by decide +kernel
theorem dX12_isTurned_20 : decode cX12_isTurned 20 = .ok (.aload_n 0, 1) := by decide +kernel
theorem dX12_isTurned_21 : decode cX12_isTurned 21 = .ok (.iload_n 2, 1) := by decide +kernel
theorem dX12_isTurned_22 : decode cX12_isTurned 22 = .ok (.iload_n 1, 1) := by decide +kernel
theorem dX12_isTurned_23 : decode cX12_isTurned 23 = .ok (.iload_n 2, 1) := by decide +kernel
theorem dX12_isTurned_24 : decode cX12_isTurned 24 = .ok (.isub, 1) := by decide +kernel
theorem dX12_isTurned_25 : decode cX12_isTurned 25 = .ok (.invokevirtual 343, 3) := by decide +kernel
theorem dX12_isTurned_28 : decode cX12_isTurned 28 = .ok (.if_icmp .ne 20, 3) := by decide +kernel
theorem dX12_isTurned_31 : decode cX12_isTurned 31 = .ok (.aload_n 0, 1) := by decide +kernel
theorem dX12_isTurned_32 : decode cX12_isTurned 32 = .ok (.getfield 110, 3) := by decide +kernel
theorem dX12_isTurned_35 : decode cX12_isTurned 35 = .ok (.iload_n 2, 1) := by decide +kernel
theorem dX12_isTurned_36 : decode cX12_isTurned 36 = .ok (.iaload, 1) := by decide +kernel
theorem dX12_isTurned_37 : decode cX12_isTurned 37 = .ok (.aload_n 0, 1) := by decide +kernel
theorem dX12_isTurned_38 : decode cX12_isTurned 38 = .ok (.iload_n 1, 1) := by decide +kernel
theorem dX12_isTurned_39 : decode cX12_isTurned 39 = .ok (.iload_n 2, 1) := by decide +kernel
theorem dX12_isTurned_40 : decode cX12_isTurned 40 = .ok (.isub, 1) := by decide +kernel
theorem dX12_isTurned_41 : decode cX12_isTurned 41 = .ok (.iconst 0, 1) := by decide +kernel
theorem dX12_isTurned_42 : decode cX12_isTurned 42 = .ok (.invokevirtual 343, 3) := by decide +kernel
theorem dX12_isTurned_45 : decode cX12_isTurned 45 = .ok (.if_icmp .eq 5, 3) := by decide +kernel
theorem dX12_isTurned_48 : decode cX12_isTurned 48 = .ok (.iconst 0, 1) := by decide +kernel
theorem dX12_isTurned_49 : decode cX12_isTurned 49 = .ok (.ireturn, 1) := by decide +kernel
theorem dX12_isTurned_50 : decode cX12_isTurned 50 = .ok (.iinc 2 1, 3) := by decide +kernel
theorem dX12_isTurned_53 : decode cX12_isTurned 53 = .ok (.goto (-44), 3) := by decide +kernel
theorem dX12_isTurned_56 : decode cX12_isTurned 56 = .ok (.iconst 1, 1) := by decide +kernel
theorem dX12_isTurned_57 : decode cX12_isTurned 57 = .ok (.ireturn, 1) := by decide +kernel
def xX12_isTurned : zX := (RX12, cX12_isTurned, 3, (some .boolean), false, { frames := 2, cells := 0, slots := 0, locals := 112 }, 0, 0, 0, 0)
theorem rmX12_isTurned : z_Rm xX12_isTurned := by unfold z_Rm xX12_isTurned; exact ⟨by decide, by decide⟩
theorem reX12_isTurned : z_Re xX12_isTurned := ⟨rfl, rfl⟩
theorem rlX12_isTurned : 1 ≤ xX12_isTurned.2.2.2.2.2.1.frames ∧ 21 ≤ xX12_isTurned.2.2.2.2.2.1.locals := by unfold xX12_isTurned; exact ⟨by decide, by decide⟩
theorem meX12_isTurned : z_Me yX12_isTurned xX12_isTurned 0 := ⟨wd1123, wd893, by decide, by decide, by decide +kernel⟩
theorem fitX12_isTurned_25 : z_Fit xX12_laidAt xX12_isTurned := by unfold z_Fit; simp only [xX12_laidAt, xX12_isTurned]; exact ⟨by decide, by decide⟩
theorem fitX12_isTurned_42 : z_Fit xX12_laidAt xX12_isTurned := by unfold z_Fit; simp only [xX12_laidAt, xX12_isTurned]; exact ⟨by decide, by decide⟩
noncomputable def kX12_isTurned_56 : zK zR := (q_push 1 q_zret)
noncomputable def kX12_isTurned_48 : zK zR := (q_push 0 q_zret)
noncomputable def bX12_isTurned_9 : zK ((zL × zS) ⊕ zR) := (q_iload 2 (q_iload 1 (q_icmp_gt (q_dn kX12_isTurned_56) (q_aload 0 (q_getR 12 49 (q_iload 2 (q_iald (q_aload 0 (q_iload 2 (q_iload 1 (q_iload 2 (q_isub (q_callV 12 fX12_laidAt 2 (q_icmp_ne (q_dn kX12_isTurned_48) (q_aload 0 (q_getR 12 49 (q_iload 2 (q_iald (q_aload 0 (q_iload 1 (q_iload 2 (q_isub (q_push 0 (q_callV 12 fX12_laidAt 2 (q_icmp_eq (q_iinc 2 1 q_ag) (q_dn kX12_isTurned_48))))))))))))))))))))))))))
noncomputable def kX12_isTurned_9 : zK zR := q_lp (bX12_isTurned_9)
noncomputable def kX12_isTurned_0 : zK zR := (q_aload 0 (q_getI 12 50 (q_push 1 (q_isub (q_istore 1 (q_push 0 (q_istore 2 kX12_isTurned_9)))))))
set_option maxRecDepth 100000 in
theorem tX12_isTurned_56 {l : Launch} {D : zD} {B sz0 : Nat} {post : Option Value → zS → Prop} : zSnd l D B xX12_isTurned sz0 post 56 kX12_isTurned_56 (z_Jr post) := (s_iconst dX12_isTurned_56 (by decide) (s_zret dX12_isTurned_57 rfl))
set_option maxRecDepth 100000 in
theorem tX12_isTurned_48 {l : Launch} {D : zD} {B sz0 : Nat} {post : Option Value → zS → Prop} : zSnd l D B xX12_isTurned sz0 post 48 kX12_isTurned_48 (z_Jr post) := (s_iconst dX12_isTurned_48 (by decide) (s_zret dX12_isTurned_49 rfl))
set_option maxRecDepth 100000 in
theorem tX12_isTurned_9 {l : Launch} {D : zD} {B sz0 : Nat} {post : Option Value → zS → Prop} : zSnd l D B xX12_isTurned sz0 post 9 kX12_isTurned_9 (z_Jr post) := s_lp (body := bX12_isTurned_9) (s_iload_n dX12_isTurned_9 rfl (s_iload_n dX12_isTurned_10 rfl (s_icmp_gt (tgt := 56) dX12_isTurned_11 (by decide) (s_dn tX12_isTurned_56) (s_aload_n dX12_isTurned_14 rfl (s_getR (f := 49) dX12_isTurned_15 clX12 (by decide) rfl wd927 (s_iload_n dX12_isTurned_18 rfl (s_iald dX12_isTurned_19 (s_aload_n dX12_isTurned_20 rfl (s_iload_n dX12_isTurned_21 rfl (s_iload_n dX12_isTurned_22 rfl (s_iload_n dX12_isTurned_23 rfl (s_isub dX12_isTurned_24 (s_callV (r := (RX12, TX12, 74)) dX12_isTurned_25 mX12_laidAt meX12_laidAt wd1099 wd1100 rfl rfl reX12_laidAt rmX12_isTurned (fitX12_isTurned_25) wd1101 (s_icmp_ne (tgt := 48) dX12_isTurned_28 (by decide) (s_dn tX12_isTurned_48) (s_aload_n dX12_isTurned_31 rfl (s_getR (f := 49) dX12_isTurned_32 clX12 (by decide) rfl wd927 (s_iload_n dX12_isTurned_35 rfl (s_iald dX12_isTurned_36 (s_aload_n dX12_isTurned_37 rfl (s_iload_n dX12_isTurned_38 rfl (s_iload_n dX12_isTurned_39 rfl (s_isub dX12_isTurned_40 (s_iconst dX12_isTurned_41 (by decide) (s_callV (r := (RX12, TX12, 74)) dX12_isTurned_42 mX12_laidAt meX12_laidAt wd1099 wd1100 rfl rfl reX12_laidAt rmX12_isTurned (fitX12_isTurned_42) wd1101 (s_icmp_eq (tgt := 50) dX12_isTurned_45 (by decide) (s_iinc dX12_isTurned_50 (by decide) (s_goto (tgt := 9) dX12_isTurned_53 (by decide) s_ag)) (s_dn tX12_isTurned_48))))))))))))))))))))))))))
set_option maxRecDepth 100000 in
theorem tX12_isTurned_0 {l : Launch} {D : zD} {B sz0 : Nat} {post : Option Value → zS → Prop} : zSnd l D B xX12_isTurned sz0 post 0 kX12_isTurned_0 (z_Jr post) := (s_aload_n dX12_isTurned_0 rfl (s_getI (f := 50) dX12_isTurned_1 clX12 (by decide) rfl wd1098 (s_iconst dX12_isTurned_4 (by decide) (s_isub dX12_isTurned_5 (s_istore_n dX12_isTurned_6 rfl (s_iconst dX12_isTurned_7 (by decide) (s_istore_n dX12_isTurned_8 rfl tX12_isTurned_9)))))))
noncomputable def fX12_isTurned : zF := z_fn 3 kX12_isTurned_0
theorem mX12_isTurned {l : Launch} {D : zD} {B : Nat} : z_MF l D B yX12_isTurned xX12_isTurned fX12_isTurned := z_mf (by decide) rfl (fun h => by cases h) rfl (fun as σ r h => ⟨z_fn_len h, kX12_isTurned_0, z_fn_run h, fun _ => tX12_isTurned_0⟩)
/-! ===== RowChildrenModel.lawTells ===== -/
theorem dX12_lawTells_0 : decode cX12_lawTells 0 = .ok (.iconst 4, 1) := by decide +kernel
theorem dX12_lawTells_1 : decode cX12_lawTells 1 = .ok (.aload_n 0, 1) := by decide +kernel
theorem dX12_lawTells_2 : decode cX12_lawTells 2 = .ok (.getfield 249, 3) := by decide +kernel
theorem dX12_lawTells_5 : decode cX12_lawTells 5 = .ok (.imul, 1) := by decide +kernel
theorem dX12_lawTells_6 : decode cX12_lawTells 6 = .ok (.iload_n 1, 1) := by decide +kernel
theorem dX12_lawTells_7 : decode cX12_lawTells 7 = .ok (.iadd, 1) := by decide +kernel
theorem dX12_lawTells_8 : decode cX12_lawTells 8 = .ok (.istore_n 3, 1) := by decide +kernel
theorem dX12_lawTells_9 : decode cX12_lawTells 9 = .ok (.aload_n 0, 1) := by decide +kernel
theorem dX12_lawTells_10 : decode cX12_lawTells 10 = .ok (.getfield 67, 3) := by decide +kernel
theorem dX12_lawTells_13 : decode cX12_lawTells 13 = .ok (.iload_n 3, 1) := by decide +kernel
theorem dX12_lawTells_14 : decode cX12_lawTells 14 = .ok (.iaload, 1) := by decide +kernel
theorem dX12_lawTells_15 : decode cX12_lawTells 15 = .ok (.aload_n 0, 1) := by decide +kernel
theorem dX12_lawTells_16 : decode cX12_lawTells 16 = .ok (.getfield 70, 3) := by decide +kernel
theorem dX12_lawTells_19 : decode cX12_lawTells 19 = .ok (.iload_n 3, 1) := by decide +kernel
theorem dX12_lawTells_20 : decode cX12_lawTells 20 = .ok (.iaload, 1) := by decide +kernel
theorem dX12_lawTells_21 : decode cX12_lawTells 21 = .ok (.if_icmp .ne 5, 3) := by decide +kernel
theorem dX12_lawTells_24 : decode cX12_lawTells 24 = .ok (.iload_n 2, 1) := by decide +kernel
theorem dX12_lawTells_25 : decode cX12_lawTells 25 = .ok (.ireturn, 1) := by decide +kernel
theorem dX12_lawTells_26 : decode cX12_lawTells 26 = .ok (.aload_n 0, 1) := by decide +kernel
theorem dX12_lawTells_27 : decode cX12_lawTells 27 = .ok (.iconst 0, 1) := by decide +kernel
theorem dX12_lawTells_28 : decode cX12_lawTells 28 = .ok (.putfield 319, 3) := by decide +kernel
theorem dX12_lawTells_31 : decode cX12_lawTells 31 = .ok (.aload_n 0, 1) := by decide +kernel
theorem dX12_lawTells_32 : decode cX12_lawTells 32 = .ok (.getfield 67, 3) := by decide +kernel
theorem dX12_lawTells_35 : decode cX12_lawTells 35 = .ok (.iload_n 3, 1) := by decide +kernel
theorem dX12_lawTells_36 : decode cX12_lawTells 36 = .ok (.iaload, 1) := by decide +kernel
theorem dX12_lawTells_37 : decode cX12_lawTells 37 = .ok (.istore 4, 2) := by decide +kernel
theorem dX12_lawTells_39 : decode cX12_lawTells 39 = .ok (.iload 4, 2) := by decide +kernel
theorem dX12_lawTells_41 : decode cX12_lawTells 41 = .ok (.aload_n 0, 1) := by decide +kernel
theorem dX12_lawTells_42 : decode cX12_lawTells 42 = .ok (.getfield 70, 3) := by decide +kernel
theorem dX12_lawTells_45 : decode cX12_lawTells 45 = .ok (.iload_n 3, 1) := by decide +kernel
theorem dX12_lawTells_46 : decode cX12_lawTells 46 = .ok (.iaload, 1) := by decide +kernel
theorem dX12_lawTells_47 : decode cX12_lawTells 47 = .ok (.if_icmp .ge 112, 3) := by decide +kernel
theorem dX12_lawTells_50 : decode cX12_lawTells 50 = .ok (.aload_n 0, 1) := by decide +kernel
theorem dX12_lawTells_51 : decode cX12_lawTells 51 = .ok (.getfield 73, 3) := by decide +kernel
theorem dX12_lawTells_54 : decode cX12_lawTells 54 = .ok (.iload 4, 2) := by decide +kernel
theorem dX12_lawTells_56 : decode cX12_lawTells 56 = .ok (.baload, 1) := by decide +kernel
theorem dX12_lawTells_57 : decode cX12_lawTells 57 = .ok (.ifCond .eq 62, 3) := by decide +kernel
theorem dX12_lawTells_60 : decode cX12_lawTells 60 = .ok (.aload_n 0, 1) := by decide +kernel
theorem dX12_lawTells_61 : decode cX12_lawTells 61 = .ok (.aload_n 0, 1) := by decide +kernel
theorem dX12_lawTells_62 : decode cX12_lawTells 62 = .ok (.getfield 77, 3) := by decide +kernel
theorem dX12_lawTells_65 : decode cX12_lawTells 65 = .ok (.iload 4, 2) := by decide +kernel
theorem dX12_lawTells_67 : decode cX12_lawTells 67 = .ok (.iaload, 1) := by decide +kernel
theorem dX12_lawTells_68 : decode cX12_lawTells 68 = .ok (.aload_n 0, 1) := by decide +kernel
theorem dX12_lawTells_69 : decode cX12_lawTells 69 = .ok (.getfield 80, 3) := by decide +kernel
theorem dX12_lawTells_72 : decode cX12_lawTells 72 = .ok (.iload 4, 2) := by decide +kernel
theorem dX12_lawTells_74 : decode cX12_lawTells 74 = .ok (.iaload, 1) := by decide +kernel
theorem dX12_lawTells_75 : decode cX12_lawTells 75 = .ok (.invokevirtual 358, 3) := by decide +kernel
theorem dX12_lawTells_78 : decode cX12_lawTells 78 = .ok (.istore 5, 2) := by decide +kernel
theorem dX12_lawTells_80 : decode cX12_lawTells 80 = .ok (.aload_n 0, 1) := by decide +kernel
theorem dX12_lawTells_81 : decode cX12_lawTells 81 = .ok (.aload_n 0, 1) := by decide +kernel
theorem dX12_lawTells_82 : decode cX12_lawTells 82 = .ok (.getfield 80, 3) := by decide +kernel
theorem dX12_lawTells_85 : decode cX12_lawTells 85 = .ok (.iload 4, 2) := by decide +kernel
theorem dX12_lawTells_87 : decode cX12_lawTells 87 = .ok (.iaload, 1) := by decide +kernel
theorem dX12_lawTells_88 : decode cX12_lawTells 88 = .ok (.aload_n 0, 1) := by decide +kernel
theorem dX12_lawTells_89 : decode cX12_lawTells 89 = .ok (.getfield 83, 3) := by decide +kernel
theorem dX12_lawTells_92 : decode cX12_lawTells 92 = .ok (.iload 4, 2) := by decide +kernel
theorem dX12_lawTells_94 : decode cX12_lawTells 94 = .ok (.iaload, 1) := by decide +kernel
theorem dX12_lawTells_95 : decode cX12_lawTells 95 = .ok (.invokevirtual 358, 3) := by decide +kernel
theorem dX12_lawTells_98 : decode cX12_lawTells 98 = .ok (.istore 6, 2) := by decide +kernel
theorem dX12_lawTells_100 : decode cX12_lawTells 100 = .ok (.aload_n 0, 1) := by decide +kernel
theorem dX12_lawTells_101 : decode cX12_lawTells 101 = .ok (.getfield 319, 3) := by decide +kernel
theorem dX12_lawTells_104 : decode cX12_lawTells 104 = .ok (.ifCond .eq 5, 3) := by decide +kernel
theorem dX12_lawTells_107 : decode cX12_lawTells 107 = .ok (.iconst 0, 1) := by decide +kernel
theorem dX12_lawTells_108 : decode cX12_lawTells 108 = .ok (.ireturn, 1) := by decide +kernel
theorem dX12_lawTells_109 : decode cX12_lawTells 109 = .ok (.iload 5, 2) := by decide +kernel
theorem dX12_lawTells_111 : decode cX12_lawTells 111 = .ok (.iload 6, 2) := by decide +kernel
theorem dX12_lawTells_113 : decode cX12_lawTells 113 = .ok (.if_icmp .lt 6, 3) := by decide +kernel
theorem dX12_lawTells_116 : decode cX12_lawTells 116 = .ok (.goto 37, 3) := by decide +kernel
theorem dX12_lawTells_119 : decode cX12_lawTells 119 = .ok (.aload_n 0, 1) := by decide +kernel
theorem dX12_lawTells_120 : decode cX12_lawTells 120 = .ok (.aload_n 0, 1) := by decide +kernel
theorem dX12_lawTells_121 : decode cX12_lawTells 121 = .ok (.getfield 83, 3) := by decide +kernel
theorem dX12_lawTells_124 : decode cX12_lawTells 124 = .ok (.iload 4, 2) := by decide +kernel
theorem dX12_lawTells_126 : decode cX12_lawTells 126 = .ok (.iaload, 1) := by decide +kernel
theorem dX12_lawTells_127 : decode cX12_lawTells 127 = .ok (.aload_n 0, 1) := by decide +kernel
theorem dX12_lawTells_128 : decode cX12_lawTells 128 = .ok (.getfield 86, 3) := by decide +kernel
theorem dX12_lawTells_131 : decode cX12_lawTells 131 = .ok (.iload 4, 2) := by decide +kernel
theorem dX12_lawTells_133 : decode cX12_lawTells 133 = .ok (.iaload, 1) := by decide +kernel
theorem dX12_lawTells_134 : decode cX12_lawTells 134 = .ok (.invokevirtual 358, 3) := by decide +kernel
theorem dX12_lawTells_137 : decode cX12_lawTells 137 = .ok (.istore 5, 2) := by decide +kernel
theorem dX12_lawTells_139 : decode cX12_lawTells 139 = .ok (.aload_n 0, 1) := by decide +kernel
theorem dX12_lawTells_140 : decode cX12_lawTells 140 = .ok (.getfield 319, 3) := by decide +kernel
theorem dX12_lawTells_143 : decode cX12_lawTells 143 = .ok (.ifCond .eq 7, 3) := by decide +kernel
theorem dX12_lawTells_146 : decode cX12_lawTells 146 = .ok (.iconst 0, 1) := by decide +kernel
theorem dX12_lawTells_147 : decode cX12_lawTells 147 = .ok (.goto 5, 3) := by decide +kernel
theorem dX12_lawTells_150 : decode cX12_lawTells 150 = .ok (.iload 5, 2) := by decide +kernel
theorem dX12_lawTells_152 : decode cX12_lawTells 152 = .ok (.ireturn, 1) := by decide +kernel
theorem dX12_lawTells_153 : decode cX12_lawTells 153 = .ok (.iinc 4 1, 3) := by decide +kernel
theorem dX12_lawTells_156 : decode cX12_lawTells 156 = .ok (.goto (-117), 3) := by decide +kernel
theorem dX12_lawTells_159 : decode cX12_lawTells 159 = .ok (.iconst 0, 1) := by decide +kernel
theorem dX12_lawTells_160 : decode cX12_lawTells 160 = .ok (.ireturn, 1) := by decide +kernel
def xX12_lawTells : zX := (RX12, cX12_lawTells, 7, (some .int), false, { frames := 2, cells := 0, slots := 0, locals := 117 }, 0, 0, 0, 0)
theorem rmX12_lawTells : z_Rm xX12_lawTells := by unfold z_Rm xX12_lawTells; exact ⟨by decide, by decide⟩
theorem reX12_lawTells : z_Re xX12_lawTells := ⟨rfl, rfl⟩
theorem rlX12_lawTells : 1 ≤ xX12_lawTells.2.2.2.2.2.1.frames ∧ 21 ≤ xX12_lawTells.2.2.2.2.2.1.locals := by unfold xX12_lawTells; exact ⟨by decide, by decide⟩
theorem meX12_lawTells : z_Me yX12_lawTells xX12_lawTells 2 := ⟨wd1127, wd893, by decide, by decide, by decide +kernel⟩
theorem fitX12_lawTells_134 : z_Fit xX12_termOf xX12_lawTells := by unfold z_Fit; simp only [xX12_termOf, xX12_lawTells]; exact ⟨by decide, by decide⟩
theorem fitX12_lawTells_75 : z_Fit xX12_termOf xX12_lawTells := by unfold z_Fit; simp only [xX12_termOf, xX12_lawTells]; exact ⟨by decide, by decide⟩
theorem fitX12_lawTells_95 : z_Fit xX12_termOf xX12_lawTells := by unfold z_Fit; simp only [xX12_termOf, xX12_lawTells]; exact ⟨by decide, by decide⟩
noncomputable def kX12_lawTells_159 : zK zR := (q_push 0 q_iret)
noncomputable def kX12_lawTells_152 : zK zR := q_iret
noncomputable def kX12_lawTells_119 : zK zR := (q_aload 0 (q_aload 0 (q_getR 12 36 (q_iload 4 (q_iald (q_aload 0 (q_getR 12 37 (q_iload 4 (q_iald (q_callV 12 fX12_termOf 2 (q_istore 5 (q_aload 0 (q_getI 12 45 (q_if_eq (q_iload 5 kX12_lawTells_152) (q_push 0 kX12_lawTells_152)))))))))))))))
noncomputable def kX12_lawTells_107 : zK zR := (q_push 0 q_iret)
noncomputable def bX12_lawTells_39 : zK ((zL × zS) ⊕ zR) := (q_iload 4 (q_aload 0 (q_getR 12 31 (q_iload 3 (q_iald (q_icmp_ge (q_dn kX12_lawTells_159) (q_aload 0 (q_getR 12 33 (q_iload 4 (q_zald (q_if_eq (q_dn kX12_lawTells_119) (q_aload 0 (q_aload 0 (q_getR 12 34 (q_iload 4 (q_iald (q_aload 0 (q_getR 12 35 (q_iload 4 (q_iald (q_callV 12 fX12_termOf 2 (q_istore 5 (q_aload 0 (q_aload 0 (q_getR 12 35 (q_iload 4 (q_iald (q_aload 0 (q_getR 12 36 (q_iload 4 (q_iald (q_callV 12 fX12_termOf 2 (q_istore 6 (q_aload 0 (q_getI 12 45 (q_if_eq (q_iload 5 (q_iload 6 (q_icmp_lt (q_dn kX12_lawTells_119) (q_iinc 4 1 q_ag)))) (q_dn kX12_lawTells_107)))))))))))))))))))))))))))))))))))))
noncomputable def kX12_lawTells_39 : zK zR := q_lp (bX12_lawTells_39)
noncomputable def kX12_lawTells_0 : zK zR := (q_push 4 (q_aload 0 (q_getI 12 18 (q_imul (q_iload 1 (q_iadd (q_istore 3 (q_aload 0 (q_getR 12 30 (q_iload 3 (q_iald (q_aload 0 (q_getR 12 31 (q_iload 3 (q_iald (q_icmp_ne (q_aload 0 (q_push 0 (q_putZ 12 45 (q_aload 0 (q_getR 12 30 (q_iload 3 (q_iald (q_istore 4 kX12_lawTells_39)))))))) (q_iload 2 q_iret)))))))))))))))))
set_option maxRecDepth 100000 in
theorem tX12_lawTells_159 {l : Launch} {D : zD} {B sz0 : Nat} {post : Option Value → zS → Prop} : zSnd l D B xX12_lawTells sz0 post 159 kX12_lawTells_159 (z_Jr post) := (s_iconst dX12_lawTells_159 (by decide) (s_iret dX12_lawTells_160 rfl))
set_option maxRecDepth 100000 in
theorem tX12_lawTells_152 {l : Launch} {D : zD} {B sz0 : Nat} {post : Option Value → zS → Prop} : zSnd l D B xX12_lawTells sz0 post 152 kX12_lawTells_152 (z_Jr post) := (s_iret dX12_lawTells_152 rfl)
set_option maxRecDepth 100000 in
theorem tX12_lawTells_119 {l : Launch} {D : zD} {B sz0 : Nat} {post : Option Value → zS → Prop} : zSnd l D B xX12_lawTells sz0 post 119 kX12_lawTells_119 (z_Jr post) := (s_aload_n dX12_lawTells_119 rfl (s_aload_n dX12_lawTells_120 rfl (s_getR (f := 36) dX12_lawTells_121 clX12 (by decide) rfl wd920 (s_iload dX12_lawTells_124 (s_iald dX12_lawTells_126 (s_aload_n dX12_lawTells_127 rfl (s_getR (f := 37) dX12_lawTells_128 clX12 (by decide) rfl wd921 (s_iload dX12_lawTells_131 (s_iald dX12_lawTells_133 (s_callV (r := (RX12, TX12, 74)) dX12_lawTells_134 mX12_termOf meX12_termOf wd1124 wd1125 rfl rfl reX12_termOf rmX12_lawTells (fitX12_lawTells_134) wd1126 (s_istore dX12_lawTells_137 (s_aload_n dX12_lawTells_139 rfl (s_getI (f := 45) dX12_lawTells_140 clX12 (by decide) rfl wd1073 (s_if_eq (tgt := 150) dX12_lawTells_143 (by decide) (s_iload dX12_lawTells_150 tX12_lawTells_152) (s_iconst dX12_lawTells_146 (by decide) (s_goto (tgt := 152) dX12_lawTells_147 (by decide) tX12_lawTells_152))))))))))))))))
set_option maxRecDepth 100000 in
theorem tX12_lawTells_107 {l : Launch} {D : zD} {B sz0 : Nat} {post : Option Value → zS → Prop} : zSnd l D B xX12_lawTells sz0 post 107 kX12_lawTells_107 (z_Jr post) := (s_iconst dX12_lawTells_107 (by decide) (s_iret dX12_lawTells_108 rfl))
set_option maxRecDepth 100000 in
theorem tX12_lawTells_39 {l : Launch} {D : zD} {B sz0 : Nat} {post : Option Value → zS → Prop} : zSnd l D B xX12_lawTells sz0 post 39 kX12_lawTells_39 (z_Jr post) := s_lp (body := bX12_lawTells_39) (s_iload dX12_lawTells_39 (s_aload_n dX12_lawTells_41 rfl (s_getR (f := 31) dX12_lawTells_42 clX12 (by decide) rfl wd890 (s_iload_n dX12_lawTells_45 rfl (s_iald dX12_lawTells_46 (s_icmp_ge (tgt := 159) dX12_lawTells_47 (by decide) (s_dn tX12_lawTells_159) (s_aload_n dX12_lawTells_50 rfl (s_getR (f := 33) dX12_lawTells_51 clX12 (by decide) rfl wd917 (s_iload dX12_lawTells_54 (s_zald dX12_lawTells_56 (s_if_eq (tgt := 119) dX12_lawTells_57 (by decide) (s_dn tX12_lawTells_119) (s_aload_n dX12_lawTells_60 rfl (s_aload_n dX12_lawTells_61 rfl (s_getR (f := 34) dX12_lawTells_62 clX12 (by decide) rfl wd918 (s_iload dX12_lawTells_65 (s_iald dX12_lawTells_67 (s_aload_n dX12_lawTells_68 rfl (s_getR (f := 35) dX12_lawTells_69 clX12 (by decide) rfl wd919 (s_iload dX12_lawTells_72 (s_iald dX12_lawTells_74 (s_callV (r := (RX12, TX12, 74)) dX12_lawTells_75 mX12_termOf meX12_termOf wd1124 wd1125 rfl rfl reX12_termOf rmX12_lawTells (fitX12_lawTells_75) wd1126 (s_istore dX12_lawTells_78 (s_aload_n dX12_lawTells_80 rfl (s_aload_n dX12_lawTells_81 rfl (s_getR (f := 35) dX12_lawTells_82 clX12 (by decide) rfl wd919 (s_iload dX12_lawTells_85 (s_iald dX12_lawTells_87 (s_aload_n dX12_lawTells_88 rfl (s_getR (f := 36) dX12_lawTells_89 clX12 (by decide) rfl wd920 (s_iload dX12_lawTells_92 (s_iald dX12_lawTells_94 (s_callV (r := (RX12, TX12, 74)) dX12_lawTells_95 mX12_termOf meX12_termOf wd1124 wd1125 rfl rfl reX12_termOf rmX12_lawTells (fitX12_lawTells_95) wd1126 (s_istore dX12_lawTells_98 (s_aload_n dX12_lawTells_100 rfl (s_getI (f := 45) dX12_lawTells_101 clX12 (by decide) rfl wd1073 (s_if_eq (tgt := 109) dX12_lawTells_104 (by decide) (s_iload dX12_lawTells_109 (s_iload dX12_lawTells_111 (s_icmp_lt (tgt := 119) dX12_lawTells_113 (by decide) (s_dn tX12_lawTells_119) (s_goto (tgt := 153) dX12_lawTells_116 (by decide) (s_iinc dX12_lawTells_153 (by decide) (s_goto (tgt := 39) dX12_lawTells_156 (by decide) s_ag)))))) (s_dn tX12_lawTells_107)))))))))))))))))))))))))))))))))))))
set_option maxRecDepth 100000 in
theorem tX12_lawTells_0 {l : Launch} {D : zD} {B sz0 : Nat} {post : Option Value → zS → Prop} : zSnd l D B xX12_lawTells sz0 post 0 kX12_lawTells_0 (z_Jr post) := (s_iconst dX12_lawTells_0 (by decide) (s_aload_n dX12_lawTells_1 rfl (s_getI (f := 18) dX12_lawTells_2 clX12 (by decide) rfl wd899 (s_imul dX12_lawTells_5 (s_iload_n dX12_lawTells_6 rfl (s_iadd dX12_lawTells_7 (s_istore_n dX12_lawTells_8 rfl (s_aload_n dX12_lawTells_9 rfl (s_getR (f := 30) dX12_lawTells_10 clX12 (by decide) rfl wd889 (s_iload_n dX12_lawTells_13 rfl (s_iald dX12_lawTells_14 (s_aload_n dX12_lawTells_15 rfl (s_getR (f := 31) dX12_lawTells_16 clX12 (by decide) rfl wd890 (s_iload_n dX12_lawTells_19 rfl (s_iald dX12_lawTells_20 (s_icmp_ne (tgt := 26) dX12_lawTells_21 (by decide) (s_aload_n dX12_lawTells_26 rfl (s_iconst dX12_lawTells_27 (by decide) (s_putZ (f := 45) dX12_lawTells_28 clX12 (by decide) rfl rfl rfl wd1073 (s_aload_n dX12_lawTells_31 rfl (s_getR (f := 30) dX12_lawTells_32 clX12 (by decide) rfl wd889 (s_iload_n dX12_lawTells_35 rfl (s_iald dX12_lawTells_36 (s_istore dX12_lawTells_37 tX12_lawTells_39)))))))) (s_iload_n dX12_lawTells_24 rfl (s_iret dX12_lawTells_25 rfl))))))))))))))))))
noncomputable def fX12_lawTells : zF := z_fn 7 kX12_lawTells_0
theorem mX12_lawTells {l : Launch} {D : zD} {B : Nat} : z_MF l D B yX12_lawTells xX12_lawTells fX12_lawTells := z_mf (by decide) rfl (fun h => by cases h) rfl (fun as σ r h => ⟨z_fn_len h, kX12_lawTells_0, z_fn_run h, fun _ => tX12_lawTells_0⟩)
/-! ===== RowChildrenModel.manyIn ===== -/
theorem dX12_manyIn_0 : decode cX12_manyIn 0 = .ok (.iconst 0, 1) := by decide +kernel
theorem dX12_manyIn_1 : decode cX12_manyIn 1 = .ok (.istore_n 3, 1) := by decide +kernel
theorem dX12_manyIn_2 : decode cX12_manyIn 2 = .ok (.iconst 0, 1) := by decide +kernel
theorem dX12_manyIn_3 : decode cX12_manyIn 3 = .ok (.istore 4, 2) := by decide +kernel
theorem dX12_manyIn_5 : decode cX12_manyIn 5 = .ok (.iload 4, 2) := by decide +kernel
theorem dX12_manyIn_7 : decode cX12_manyIn 7 = .ok (.aload_n 0, 1) := by decide +kernel
theorem dX12_manyIn_8 : decode cX12_manyIn 8 = .ok (.getfield 107, 3) := by decide +kernel
theorem dX12_manyIn_11 : decode cX12_manyIn 11 = .ok (.iload_n 1, 1) := by decide +kernel
theorem dX12_manyIn_12 : decode cX12_manyIn 12 = .ok (.iaload, 1) := by decide +kernel
theorem dX12_manyIn_13 : decode cX12_manyIn 13 = .ok (.if_icmp .ge 23, 3) := by decide +kernel
theorem dX12_manyIn_16 : decode cX12_manyIn 16 = .ok (.aload_n 0, 1) := by decide +kernel
theorem dX12_manyIn_17 : decode cX12_manyIn 17 = .ok (.iload_n 1, 1) := by decide +kernel
theorem dX12_manyIn_18 : decode cX12_manyIn 18 = .ok (.iload 4, 2) := by decide +kernel
theorem dX12_manyIn_20 : decode cX12_manyIn 20 = .ok (.invokevirtual 349, 3) := by decide +kernel
theorem dX12_manyIn_23 : decode cX12_manyIn 23 = .ok (.iload_n 2, 1) := by decide +kernel
theorem dX12_manyIn_24 : decode cX12_manyIn 24 = .ok (.if_icmp .ne 6, 3) := by decide +kernel
theorem dX12_manyIn_27 : decode cX12_manyIn 27 = .ok (.iinc 3 1, 3) := by decide +kernel
theorem dX12_manyIn_30 : decode cX12_manyIn 30 = .ok (.iinc 4 1, 3) := by decide +kernel
theorem dX12_manyIn_33 : decode cX12_manyIn 33 = .ok (.goto (-28), 3) := by decide +kernel
theorem dX12_manyIn_36 : decode cX12_manyIn 36 = .ok (.iload_n 3, 1) := by decide +kernel
theorem dX12_manyIn_37 : decode cX12_manyIn 37 = .ok (.ireturn, 1) := by decide +kernel
def xX12_manyIn : zX := (RX12, cX12_manyIn, 5, (some .int), false, { frames := 2, cells := 0, slots := 0, locals := 112 }, 0, 0, 0, 0)
theorem rmX12_manyIn : z_Rm xX12_manyIn := by unfold z_Rm xX12_manyIn; exact ⟨by decide, by decide⟩
theorem reX12_manyIn : z_Re xX12_manyIn := ⟨rfl, rfl⟩
theorem rlX12_manyIn : 1 ≤ xX12_manyIn.2.2.2.2.2.1.frames ∧ 21 ≤ xX12_manyIn.2.2.2.2.2.1.locals := by unfold xX12_manyIn; exact ⟨by decide, by decide⟩
theorem meX12_manyIn : z_Me yX12_manyIn xX12_manyIn 2 := ⟨wd1128, wd893, by decide, by decide, by decide +kernel⟩
theorem fitX12_manyIn_20 : z_Fit xX12_seatAt xX12_manyIn := by unfold z_Fit; simp only [xX12_seatAt, xX12_manyIn]; exact ⟨by decide, by decide⟩
noncomputable def kX12_manyIn_36 : zK zR := (q_iload 3 q_iret)
noncomputable def kX12_manyIn_30 : zK ((zL × zS) ⊕ zR) := (q_iinc 4 1 q_ag)
noncomputable def bX12_manyIn_5 : zK ((zL × zS) ⊕ zR) := (q_iload 4 (q_aload 0 (q_getR 12 47 (q_iload 1 (q_iald (q_icmp_ge (q_dn kX12_manyIn_36) (q_aload 0 (q_iload 1 (q_iload 4 (q_callV 12 fX12_seatAt 2 (q_iload 2 (q_icmp_ne kX12_manyIn_30 (q_iinc 3 1 kX12_manyIn_30)))))))))))))
noncomputable def kX12_manyIn_5 : zK zR := q_lp (bX12_manyIn_5)
noncomputable def kX12_manyIn_0 : zK zR := (q_push 0 (q_istore 3 (q_push 0 (q_istore 4 kX12_manyIn_5))))
set_option maxRecDepth 100000 in
theorem tX12_manyIn_36 {l : Launch} {D : zD} {B sz0 : Nat} {post : Option Value → zS → Prop} : zSnd l D B xX12_manyIn sz0 post 36 kX12_manyIn_36 (z_Jr post) := (s_iload_n dX12_manyIn_36 rfl (s_iret dX12_manyIn_37 rfl))
set_option maxRecDepth 100000 in
theorem tX12_manyIn_30 {l : Launch} {D : zD} {B sz0 : Nat} {post : Option Value → zS → Prop} : zSnd l D B xX12_manyIn sz0 post 30 kX12_manyIn_30 (z_Jl l D B xX12_manyIn sz0 post 5 (z_Jr post)) := (s_iinc dX12_manyIn_30 (by decide) (s_goto (tgt := 5) dX12_manyIn_33 (by decide) s_ag))
set_option maxRecDepth 100000 in
theorem tX12_manyIn_5 {l : Launch} {D : zD} {B sz0 : Nat} {post : Option Value → zS → Prop} : zSnd l D B xX12_manyIn sz0 post 5 kX12_manyIn_5 (z_Jr post) := s_lp (body := bX12_manyIn_5) (s_iload dX12_manyIn_5 (s_aload_n dX12_manyIn_7 rfl (s_getR (f := 47) dX12_manyIn_8 clX12 (by decide) rfl wd901 (s_iload_n dX12_manyIn_11 rfl (s_iald dX12_manyIn_12 (s_icmp_ge (tgt := 36) dX12_manyIn_13 (by decide) (s_dn tX12_manyIn_36) (s_aload_n dX12_manyIn_16 rfl (s_iload_n dX12_manyIn_17 rfl (s_iload dX12_manyIn_18 (s_callV (r := (RX12, TX12, 74)) dX12_manyIn_20 mX12_seatAt meX12_seatAt wd1109 wd1110 rfl rfl reX12_seatAt rmX12_manyIn (fitX12_manyIn_20) wd1111 (s_iload_n dX12_manyIn_23 rfl (s_icmp_ne (tgt := 30) dX12_manyIn_24 (by decide) tX12_manyIn_30 (s_iinc dX12_manyIn_27 (by decide) tX12_manyIn_30)))))))))))))
set_option maxRecDepth 100000 in
theorem tX12_manyIn_0 {l : Launch} {D : zD} {B sz0 : Nat} {post : Option Value → zS → Prop} : zSnd l D B xX12_manyIn sz0 post 0 kX12_manyIn_0 (z_Jr post) := (s_iconst dX12_manyIn_0 (by decide) (s_istore_n dX12_manyIn_1 rfl (s_iconst dX12_manyIn_2 (by decide) (s_istore dX12_manyIn_3 tX12_manyIn_5))))
noncomputable def fX12_manyIn : zF := z_fn 5 kX12_manyIn_0
theorem mX12_manyIn {l : Launch} {D : zD} {B : Nat} : z_MF l D B yX12_manyIn xX12_manyIn fX12_manyIn := z_mf (by decide) rfl (fun h => by cases h) rfl (fun as σ r h => ⟨z_fn_len h, kX12_manyIn_0, z_fn_run h, fun _ => tX12_manyIn_0⟩)
/-! ===== RowChildrenModel.looks ===== -/
theorem dX12_looks_0 : decode cX12_looks 0 = .ok (.aload_n 0, 1) := by decide +kernel
theorem dX12_looks_1 : decode cX12_looks 1 = .ok (.getfield 98, 3) := by decide +kernel
theorem dX12_looks_4 : decode cX12_looks 4 = .ok (.iconst 0, 1) := by decide +kernel
theorem dX12_looks_5 : decode cX12_looks 5 = .ok (.iload 4, 2) := by decide +kernel
theorem dX12_looks_7 : decode cX12_looks 7 = .ok (.iastore, 1) := by decide +kernel
theorem dX12_looks_8 : decode cX12_looks 8 = .ok (.aload_n 0, 1) := by decide +kernel
theorem dX12_looks_9 : decode cX12_looks 9 = .ok (.getfield 98, 3) := by decide +kernel
theorem dX12_looks_12 : decode cX12_looks 12 = .ok (.iconst 1, 1) := by decide +kernel
theorem dX12_looks_13 : decode cX12_looks 13 = .ok (.iload_n 3, 1) := by decide +kernel
theorem dX12_looks_14 : decode cX12_looks 14 = .ok (.iastore, 1) := by decide +kernel
theorem dX12_looks_15 : decode cX12_looks 15 = .ok (.aload_n 0, 1) := by decide +kernel
theorem dX12_looks_16 : decode cX12_looks 16 = .ok (.getfield 98, 3) := by decide +kernel
theorem dX12_looks_19 : decode cX12_looks 19 = .ok (.iconst 2, 1) := by decide +kernel
theorem dX12_looks_20 : decode cX12_looks 20 = .ok (.iload_n 2, 1) := by decide +kernel
theorem dX12_looks_21 : decode cX12_looks 21 = .ok (.iastore, 1) := by decide +kernel
theorem dX12_looks_22 : decode cX12_looks 22 = .ok (.aload_n 0, 1) := by decide +kernel
theorem dX12_looks_23 : decode cX12_looks 23 = .ok (.getfield 98, 3) := by decide +kernel
theorem dX12_looks_26 : decode cX12_looks 26 = .ok (.iconst 3, 1) := by decide +kernel
theorem dX12_looks_27 : decode cX12_looks 27 = .ok (.aload_n 0, 1) := by decide +kernel
theorem dX12_looks_28 : decode cX12_looks 28 = .ok (.getfield 107, 3) := by decide +kernel
theorem dX12_looks_31 : decode cX12_looks 31 = .ok (.iload_n 1, 1) := by decide +kernel
theorem dX12_looks_32 : decode cX12_looks 32 = .ok (.iaload, 1) := by decide +kernel
theorem dX12_looks_33 : decode cX12_looks 33 = .ok (.iastore, 1) := by decide +kernel
theorem dX12_looks_34 : decode cX12_looks 34 = .ok (.aload_n 0, 1) := by decide +kernel
theorem dX12_looks_35 : decode cX12_looks 35 = .ok (.getfield 98, 3) := by decide +kernel
theorem dX12_looks_38 : decode cX12_looks 38 = .ok (.iconst 4, 1) := by decide +kernel
theorem dX12_looks_39 : decode cX12_looks 39 = .ok (.aload_n 0, 1) := by decide +kernel
theorem dX12_looks_40 : decode cX12_looks 40 = .ok (.iload_n 1, 1) := by decide +kernel
theorem dX12_looks_41 : decode cX12_looks 41 = .ok (.iload 4, 2) := by decide +kernel
theorem dX12_looks_43 : decode cX12_looks 43 = .ok (.invokevirtual 361, 3) := by decide +kernel
theorem dX12_looks_46 : decode cX12_looks 46 = .ok (.iastore, 1) := by decide +kernel
theorem dX12_looks_47 : decode cX12_looks 47 = .ok (.aload_n 0, 1) := by decide +kernel
theorem dX12_looks_48 : decode cX12_looks 48 = .ok (.getfield 98, 3) := by decide +kernel
theorem dX12_looks_51 : decode cX12_looks 51 = .ok (.iconst 5, 1) := by decide +kernel
theorem dX12_looks_52 : decode cX12_looks 52 = .ok (.aload_n 0, 1) := by decide +kernel
theorem dX12_looks_53 : decode cX12_looks 53 = .ok (.getfield 107, 3) := by decide +kernel
theorem dX12_looks_56 : decode cX12_looks 56 = .ok (.bipush 36, 2) := by decide +kernel
theorem dX12_looks_58 : decode cX12_looks 58 = .ok (.iaload, 1) := by decide +kernel
theorem dX12_looks_59 : decode cX12_looks 59 = .ok (.iastore, 1) := by decide +kernel
theorem dX12_looks_60 : decode cX12_looks 60 = .ok (.aload_n 0, 1) := by decide +kernel
theorem dX12_looks_61 : decode cX12_looks 61 = .ok (.getfield 98, 3) := by decide +kernel
theorem dX12_looks_64 : decode cX12_looks 64 = .ok (.bipush 6, 2) := by decide +kernel
theorem dX12_looks_66 : decode cX12_looks 66 = .ok (.iload_n 1, 1) := by decide +kernel
theorem dX12_looks_67 : decode cX12_looks 67 = .ok (.iastore, 1) := by decide +kernel
theorem dX12_looks_68 : decode cX12_looks 68 = .ok (.aload_n 0, 1) := by decide +kernel
theorem dX12_looks_69 : decode cX12_looks 69 = .ok (.getfield 98, 3) := by decide +kernel
theorem dX12_looks_72 : decode cX12_looks 72 = .ok (.bipush 7, 2) := by decide +kernel
theorem dX12_looks_74 : decode cX12_looks 74 = .ok (.iload_n 2, 1) := by decide +kernel
theorem dX12_looks_75 : decode cX12_looks 75 = .ok (.ifCond .ne 7, 3) := by decide +kernel
theorem dX12_looks_78 : decode cX12_looks 78 = .ok (.iconst 0, 1) := by decide +kernel
theorem dX12_looks_79 : decode cX12_looks 79 = .ok (.goto 11, 3) := by decide +kernel
theorem dX12_looks_82 : decode cX12_looks 82 = .ok (.aload_n 0, 1) := by decide +kernel
theorem dX12_looks_83 : decode cX12_looks 83 = .ok (.iload_n 2, 1) := by decide +kernel
theorem dX12_looks_84 : decode cX12_looks 84 = .ok (.iconst 1, 1) := by decide +kernel
theorem dX12_looks_85 : decode cX12_looks 85 = .ok (.isub, 1) := by decide +kernel
theorem dX12_looks_86 : decode cX12_looks 86 = .ok (.iload_n 3, 1) := by decide +kernel
theorem dX12_looks_87 : decode cX12_looks 87 = .ok (.invokevirtual 343, 3) := by decide +kernel
theorem dX12_looks_90 : decode cX12_looks 90 = .ok (.iastore, 1) := by decide +kernel
theorem dX12_looks_91 : decode cX12_looks 91 = .ok (.aload_n 0, 1) := by decide +kernel
theorem dX12_looks_92 : decode cX12_looks 92 = .ok (.getfield 98, 3) := by decide +kernel
theorem dX12_looks_95 : decode cX12_looks 95 = .ok (.bipush 8, 2) := by decide +kernel
theorem dX12_looks_97 : decode cX12_looks 97 = .ok (.iload_n 2, 1) := by decide +kernel
theorem dX12_looks_98 : decode cX12_looks 98 = .ok (.ifCond .ne 7, 3) := by decide +kernel
theorem dX12_looks_101 : decode cX12_looks 101 = .ok (.iconst 0, 1) := by decide +kernel
theorem dX12_looks_102 : decode cX12_looks 102 = .ok (.goto 13, 3) := by decide +kernel
theorem dX12_looks_105 : decode cX12_looks 105 = .ok (.aload_n 0, 1) := by decide +kernel
theorem dX12_looks_106 : decode cX12_looks 106 = .ok (.iload_n 2, 1) := by decide +kernel
theorem dX12_looks_107 : decode cX12_looks 107 = .ok (.iconst 1, 1) := by decide +kernel
theorem dX12_looks_108 : decode cX12_looks 108 = .ok (.isub, 1) := by decide +kernel
theorem dX12_looks_109 : decode cX12_looks 109 = .ok (.iload_n 3, 1) := by decide +kernel
theorem dX12_looks_110 : decode cX12_looks 110 = .ok (.iconst 1, 1) := by decide +kernel
theorem dX12_looks_111 : decode cX12_looks 111 = .ok (.iadd, 1) := by decide +kernel
theorem dX12_looks_112 : decode cX12_looks 112 = .ok (.invokevirtual 343, 3) := by decide +kernel
theorem dX12_looks_115 : decode cX12_looks 115 = .ok (.iastore, 1) := by decide +kernel
theorem dX12_looks_116 : decode cX12_looks 116 = .ok (.return_, 1) := by decide +kernel
def xX12_looks : zX := (RX12, cX12_looks, 5, none, false, { frames := 3, cells := 0, slots := 0, locals := 136 }, 0, 0, 0, 0)
theorem rmX12_looks : z_Rm xX12_looks := by unfold z_Rm xX12_looks; exact ⟨by decide, by decide⟩
theorem reX12_looks : z_Re xX12_looks := ⟨rfl, rfl⟩
theorem rlX12_looks : 1 ≤ xX12_looks.2.2.2.2.2.1.frames ∧ 21 ≤ xX12_looks.2.2.2.2.2.1.locals := by unfold xX12_looks; exact ⟨by decide, by decide⟩
theorem meX12_looks : z_Me yX12_looks xX12_looks 4 := ⟨wd1132, wd893, by decide, by decide, by decide +kernel⟩
theorem fitX12_looks_43 : z_Fit xX12_manyIn xX12_looks := by unfold z_Fit; simp only [xX12_manyIn, xX12_looks]; exact ⟨by decide, by decide⟩
theorem fitX12_looks_87 : z_Fit xX12_laidAt xX12_looks := by unfold z_Fit; simp only [xX12_laidAt, xX12_looks]; exact ⟨by decide, by decide⟩
theorem fitX12_looks_112 : z_Fit xX12_laidAt xX12_looks := by unfold z_Fit; simp only [xX12_laidAt, xX12_looks]; exact ⟨by decide, by decide⟩
noncomputable def kX12_looks_115 : zK zR := (q_iast q_vret)
noncomputable def kX12_looks_90 : zK zR := (q_iast (q_aload 0 (q_getR 12 43 (q_push 8 (q_iload 2 (q_if_ne (q_aload 0 (q_iload 2 (q_push 1 (q_isub (q_iload 3 (q_push 1 (q_iadd (q_callV 12 fX12_laidAt 2 kX12_looks_115)))))))) (q_push 0 kX12_looks_115)))))))
noncomputable def kX12_looks_0 : zK zR := (q_aload 0 (q_getR 12 43 (q_push 0 (q_iload 4 (q_iast (q_aload 0 (q_getR 12 43 (q_push 1 (q_iload 3 (q_iast (q_aload 0 (q_getR 12 43 (q_push 2 (q_iload 2 (q_iast (q_aload 0 (q_getR 12 43 (q_push 3 (q_aload 0 (q_getR 12 47 (q_iload 1 (q_iald (q_iast (q_aload 0 (q_getR 12 43 (q_push 4 (q_aload 0 (q_iload 1 (q_iload 4 (q_callV 12 fX12_manyIn 2 (q_iast (q_aload 0 (q_getR 12 43 (q_push 5 (q_aload 0 (q_getR 12 47 (q_push 36 (q_iald (q_iast (q_aload 0 (q_getR 12 43 (q_push 6 (q_iload 1 (q_iast (q_aload 0 (q_getR 12 43 (q_push 7 (q_iload 2 (q_if_ne (q_aload 0 (q_iload 2 (q_push 1 (q_isub (q_iload 3 (q_callV 12 fX12_laidAt 2 kX12_looks_90)))))) (q_push 0 kX12_looks_90))))))))))))))))))))))))))))))))))))))))))))))))))
set_option maxRecDepth 100000 in
theorem tX12_looks_115 {l : Launch} {D : zD} {B sz0 : Nat} {post : Option Value → zS → Prop} : zSnd l D B xX12_looks sz0 post 115 kX12_looks_115 (z_Jr post) := (s_iast dX12_looks_115 (s_vret dX12_looks_116 rfl))
set_option maxRecDepth 100000 in
theorem tX12_looks_90 {l : Launch} {D : zD} {B sz0 : Nat} {post : Option Value → zS → Prop} : zSnd l D B xX12_looks sz0 post 90 kX12_looks_90 (z_Jr post) := (s_iast dX12_looks_90 (s_aload_n dX12_looks_91 rfl (s_getR (f := 43) dX12_looks_92 clX12 (by decide) rfl wd925 (s_bipush dX12_looks_95 (by decide) (s_iload_n dX12_looks_97 rfl (s_if_ne (tgt := 105) dX12_looks_98 (by decide) (s_aload_n dX12_looks_105 rfl (s_iload_n dX12_looks_106 rfl (s_iconst dX12_looks_107 (by decide) (s_isub dX12_looks_108 (s_iload_n dX12_looks_109 rfl (s_iconst dX12_looks_110 (by decide) (s_iadd dX12_looks_111 (s_callV (r := (RX12, TX12, 74)) dX12_looks_112 mX12_laidAt meX12_laidAt wd1099 wd1100 rfl rfl reX12_laidAt rmX12_looks (fitX12_looks_112) wd1101 tX12_looks_115)))))))) (s_iconst dX12_looks_101 (by decide) (s_goto (tgt := 115) dX12_looks_102 (by decide) tX12_looks_115))))))))
set_option maxRecDepth 100000 in
theorem tX12_looks_0 {l : Launch} {D : zD} {B sz0 : Nat} {post : Option Value → zS → Prop} : zSnd l D B xX12_looks sz0 post 0 kX12_looks_0 (z_Jr post) := (s_aload_n dX12_looks_0 rfl (s_getR (f := 43) dX12_looks_1 clX12 (by decide) rfl wd925 (s_iconst dX12_looks_4 (by decide) (s_iload dX12_looks_5 (s_iast dX12_looks_7 (s_aload_n dX12_looks_8 rfl (s_getR (f := 43) dX12_looks_9 clX12 (by decide) rfl wd925 (s_iconst dX12_looks_12 (by decide) (s_iload_n dX12_looks_13 rfl (s_iast dX12_looks_14 (s_aload_n dX12_looks_15 rfl (s_getR (f := 43) dX12_looks_16 clX12 (by decide) rfl wd925 (s_iconst dX12_looks_19 (by decide) (s_iload_n dX12_looks_20 rfl (s_iast dX12_looks_21 (s_aload_n dX12_looks_22 rfl (s_getR (f := 43) dX12_looks_23 clX12 (by decide) rfl wd925 (s_iconst dX12_looks_26 (by decide) (s_aload_n dX12_looks_27 rfl (s_getR (f := 47) dX12_looks_28 clX12 (by decide) rfl wd901 (s_iload_n dX12_looks_31 rfl (s_iald dX12_looks_32 (s_iast dX12_looks_33 (s_aload_n dX12_looks_34 rfl (s_getR (f := 43) dX12_looks_35 clX12 (by decide) rfl wd925 (s_iconst dX12_looks_38 (by decide) (s_aload_n dX12_looks_39 rfl (s_iload_n dX12_looks_40 rfl (s_iload dX12_looks_41 (s_callV (r := (RX12, TX12, 74)) dX12_looks_43 mX12_manyIn meX12_manyIn wd1129 wd1130 rfl rfl reX12_manyIn rmX12_looks (fitX12_looks_43) wd1131 (s_iast dX12_looks_46 (s_aload_n dX12_looks_47 rfl (s_getR (f := 43) dX12_looks_48 clX12 (by decide) rfl wd925 (s_iconst dX12_looks_51 (by decide) (s_aload_n dX12_looks_52 rfl (s_getR (f := 47) dX12_looks_53 clX12 (by decide) rfl wd901 (s_bipush dX12_looks_56 (by decide) (s_iald dX12_looks_58 (s_iast dX12_looks_59 (s_aload_n dX12_looks_60 rfl (s_getR (f := 43) dX12_looks_61 clX12 (by decide) rfl wd925 (s_bipush dX12_looks_64 (by decide) (s_iload_n dX12_looks_66 rfl (s_iast dX12_looks_67 (s_aload_n dX12_looks_68 rfl (s_getR (f := 43) dX12_looks_69 clX12 (by decide) rfl wd925 (s_bipush dX12_looks_72 (by decide) (s_iload_n dX12_looks_74 rfl (s_if_ne (tgt := 82) dX12_looks_75 (by decide) (s_aload_n dX12_looks_82 rfl (s_iload_n dX12_looks_83 rfl (s_iconst dX12_looks_84 (by decide) (s_isub dX12_looks_85 (s_iload_n dX12_looks_86 rfl (s_callV (r := (RX12, TX12, 74)) dX12_looks_87 mX12_laidAt meX12_laidAt wd1099 wd1100 rfl rfl reX12_laidAt rmX12_looks (fitX12_looks_87) wd1101 tX12_looks_90)))))) (s_iconst dX12_looks_78 (by decide) (s_goto (tgt := 90) dX12_looks_79 (by decide) tX12_looks_90)))))))))))))))))))))))))))))))))))))))))))))))))))
noncomputable def fX12_looks : zF := z_fn 5 kX12_looks_0
theorem mX12_looks {l : Launch} {D : zD} {B : Nat} : z_MF l D B yX12_looks xX12_looks fX12_looks := z_mf (by decide) rfl (fun h => by cases h) rfl (fun as σ r h => ⟨z_fn_len h, kX12_looks_0, z_fn_run h, fun _ => tX12_looks_0⟩)
/-! ===== RowChildrenModel.worthOf ===== -/
theorem dX12_worthOf_0 : decode cX12_worthOf 0 = .ok (.aload_n 0, 1) := by decide +kernel
theorem dX12_worthOf_1 : decode cX12_worthOf 1 = .ok (.iload_n 1, 1) := by decide +kernel
theorem dX12_worthOf_2 : decode cX12_worthOf 2 = .ok (.iload_n 2, 1) := by decide +kernel
theorem dX12_worthOf_3 : decode cX12_worthOf 3 = .ok (.iload_n 3, 1) := by decide +kernel
theorem dX12_worthOf_4 : decode cX12_worthOf 4 = .ok (.aload_n 0, 1) := by decide +kernel
theorem dX12_worthOf_5 : decode cX12_worthOf 5 = .ok (.iload_n 2, 1) := by decide +kernel
theorem dX12_worthOf_6 : decode cX12_worthOf 6 = .ok (.iload_n 3, 1) := by decide +kernel
theorem dX12_worthOf_7 : decode cX12_worthOf 7 = .ok (.invokevirtual 343, 3) := by decide +kernel
theorem dX12_worthOf_10 : decode cX12_worthOf 10 = .ok (.invokevirtual 364, 3) := by decide +kernel
theorem dX12_worthOf_13 : decode cX12_worthOf 13 = .ok (.aload_n 0, 1) := by decide +kernel
theorem dX12_worthOf_14 : decode cX12_worthOf 14 = .ok (.iconst 0, 1) := by decide +kernel
theorem dX12_worthOf_15 : decode cX12_worthOf 15 = .ok (.aload_n 0, 1) := by decide +kernel
theorem dX12_worthOf_16 : decode cX12_worthOf 16 = .ok (.getfield 98, 3) := by decide +kernel
theorem dX12_worthOf_19 : decode cX12_worthOf 19 = .ok (.iconst 0, 1) := by decide +kernel
theorem dX12_worthOf_20 : decode cX12_worthOf 20 = .ok (.iaload, 1) := by decide +kernel
theorem dX12_worthOf_21 : decode cX12_worthOf 21 = .ok (.invokevirtual 368, 3) := by decide +kernel
theorem dX12_worthOf_24 : decode cX12_worthOf 24 = .ok (.iconst 0, 1) := by decide +kernel
theorem dX12_worthOf_25 : decode cX12_worthOf 25 = .ok (.bipush 99, 2) := by decide +kernel
theorem dX12_worthOf_27 : decode cX12_worthOf 27 = .ok (.invokestatic 371, 3) := by decide +kernel
theorem dX12_worthOf_30 : decode cX12_worthOf 30 = .ok (.ireturn, 1) := by decide +kernel
def xX12_worthOf : zX := (RX12, cX12_worthOf, 4, (some .int), false, { frames := 4, cells := 0, slots := 0, locals := 160 }, 0, 0, 0, 0)
theorem rmX12_worthOf : z_Rm xX12_worthOf := by unfold z_Rm xX12_worthOf; exact ⟨by decide, by decide⟩
theorem reX12_worthOf : z_Re xX12_worthOf := ⟨rfl, rfl⟩
theorem rlX12_worthOf : 1 ≤ xX12_worthOf.2.2.2.2.2.1.frames ∧ 21 ≤ xX12_worthOf.2.2.2.2.2.1.locals := by unfold xX12_worthOf; exact ⟨by decide, by decide⟩
theorem meX12_worthOf : z_Me yX12_worthOf xX12_worthOf 3 := ⟨wd1141, wd893, by decide, by decide, by decide +kernel⟩
theorem fitX12_worthOf_7 : z_Fit xX12_laidAt xX12_worthOf := by unfold z_Fit; simp only [xX12_laidAt, xX12_worthOf]; exact ⟨by decide, by decide⟩
theorem fitX12_worthOf_10 : z_Fit xX12_looks xX12_worthOf := by unfold z_Fit; simp only [xX12_looks, xX12_worthOf]; exact ⟨by decide, by decide⟩
theorem fitX12_worthOf_21 : z_Fit xX12_lawTells xX12_worthOf := by unfold z_Fit; simp only [xX12_lawTells, xX12_worthOf]; exact ⟨by decide, by decide⟩
theorem fitX12_worthOf_27 : z_Fit xX12_within xX12_worthOf := by unfold z_Fit; simp only [xX12_within, xX12_worthOf]; exact ⟨by decide, by decide⟩
noncomputable def kX12_worthOf_0 : zK zR := (q_aload 0 (q_iload 1 (q_iload 2 (q_iload 3 (q_aload 0 (q_iload 2 (q_iload 3 (q_callV 12 fX12_laidAt 2 (q_callV 12 fX12_looks 4 (q_aload 0 (q_push 0 (q_aload 0 (q_getR 12 43 (q_push 0 (q_iald (q_callV 12 fX12_lawTells 2 (q_push 0 (q_push 99 (q_callS fX12_within 3 q_iret)))))))))))))))))))
set_option maxRecDepth 100000 in
theorem tX12_worthOf_0 {l : Launch} {D : zD} {B sz0 : Nat} {post : Option Value → zS → Prop} : zSnd l D B xX12_worthOf sz0 post 0 kX12_worthOf_0 (z_Jr post) := (s_aload_n dX12_worthOf_0 rfl (s_iload_n dX12_worthOf_1 rfl (s_iload_n dX12_worthOf_2 rfl (s_iload_n dX12_worthOf_3 rfl (s_aload_n dX12_worthOf_4 rfl (s_iload_n dX12_worthOf_5 rfl (s_iload_n dX12_worthOf_6 rfl (s_callV (r := (RX12, TX12, 74)) dX12_worthOf_7 mX12_laidAt meX12_laidAt wd1099 wd1100 rfl rfl reX12_laidAt rmX12_worthOf (fitX12_worthOf_7) wd1101 (s_callV (r := (RX12, TX12, 74)) dX12_worthOf_10 mX12_looks meX12_looks wd1133 wd1134 rfl rfl reX12_looks rmX12_worthOf (fitX12_worthOf_10) wd1135 (s_aload_n dX12_worthOf_13 rfl (s_iconst dX12_worthOf_14 (by decide) (s_aload_n dX12_worthOf_15 rfl (s_getR (f := 43) dX12_worthOf_16 clX12 (by decide) rfl wd925 (s_iconst dX12_worthOf_19 (by decide) (s_iald dX12_worthOf_20 (s_callV (r := (RX12, TX12, 74)) dX12_worthOf_21 mX12_lawTells meX12_lawTells wd1136 wd1137 rfl rfl reX12_lawTells rmX12_worthOf (fitX12_worthOf_21) wd1138 (s_iconst dX12_worthOf_24 (by decide) (s_bipush dX12_worthOf_25 (by decide) (s_callS dX12_worthOf_27 mX12_within meX12_within wd1139 rfl reX12_within rmX12_worthOf (fitX12_worthOf_27) wd1140 (s_iret dX12_worthOf_30 rfl))))))))))))))))))))
noncomputable def fX12_worthOf : zF := z_fn 4 kX12_worthOf_0
theorem mX12_worthOf {l : Launch} {D : zD} {B : Nat} : z_MF l D B yX12_worthOf xX12_worthOf fX12_worthOf := z_mf (by decide) rfl (fun h => by cases h) rfl (fun as σ r h => ⟨z_fn_len h, kX12_worthOf_0, z_fn_run h, fun _ => tX12_worthOf_0⟩)
/-! ===== RowChildrenModel.costsOf ===== -/
theorem dX12_costsOf_0 : decode cX12_costsOf 0 = .ok (.aload_n 0, 1) := by decide +kernel
theorem dX12_costsOf_1 : decode cX12_costsOf 1 = .ok (.iload_n 1, 1) := by decide +kernel
theorem dX12_costsOf_2 : decode cX12_costsOf 2 = .ok (.iconst 0, 1) := by decide +kernel
theorem dX12_costsOf_3 : decode cX12_costsOf 3 = .ok (.iload_n 2, 1) := by decide +kernel
theorem dX12_costsOf_4 : decode cX12_costsOf 4 = .ok (.iload_n 3, 1) := by decide +kernel
theorem dX12_costsOf_5 : decode cX12_costsOf 5 = .ok (.invokevirtual 364, 3) := by decide +kernel
theorem dX12_costsOf_8 : decode cX12_costsOf 8 = .ok (.aload_n 0, 1) := by decide +kernel
theorem dX12_costsOf_9 : decode cX12_costsOf 9 = .ok (.iconst 1, 1) := by decide +kernel
theorem dX12_costsOf_10 : decode cX12_costsOf 10 = .ok (.iconst 1, 1) := by decide +kernel
theorem dX12_costsOf_11 : decode cX12_costsOf 11 = .ok (.invokevirtual 368, 3) := by decide +kernel
theorem dX12_costsOf_14 : decode cX12_costsOf 14 = .ok (.iconst 0, 1) := by decide +kernel
theorem dX12_costsOf_15 : decode cX12_costsOf 15 = .ok (.bipush 99, 2) := by decide +kernel
theorem dX12_costsOf_17 : decode cX12_costsOf 17 = .ok (.invokestatic 371, 3) := by decide +kernel
theorem dX12_costsOf_20 : decode cX12_costsOf 20 = .ok (.ireturn, 1) := by decide +kernel
def xX12_costsOf : zX := (RX12, cX12_costsOf, 4, (some .int), false, { frames := 4, cells := 0, slots := 0, locals := 160 }, 0, 0, 0, 0)
theorem rmX12_costsOf : z_Rm xX12_costsOf := by unfold z_Rm xX12_costsOf; exact ⟨by decide, by decide⟩
theorem reX12_costsOf : z_Re xX12_costsOf := ⟨rfl, rfl⟩
theorem rlX12_costsOf : 1 ≤ xX12_costsOf.2.2.2.2.2.1.frames ∧ 21 ≤ xX12_costsOf.2.2.2.2.2.1.locals := by unfold xX12_costsOf; exact ⟨by decide, by decide⟩
theorem meX12_costsOf : z_Me yX12_costsOf xX12_costsOf 3 := ⟨wd1142, wd893, by decide, by decide, by decide +kernel⟩
theorem fitX12_costsOf_5 : z_Fit xX12_looks xX12_costsOf := by unfold z_Fit; simp only [xX12_looks, xX12_costsOf]; exact ⟨by decide, by decide⟩
theorem fitX12_costsOf_11 : z_Fit xX12_lawTells xX12_costsOf := by unfold z_Fit; simp only [xX12_lawTells, xX12_costsOf]; exact ⟨by decide, by decide⟩
theorem fitX12_costsOf_17 : z_Fit xX12_within xX12_costsOf := by unfold z_Fit; simp only [xX12_within, xX12_costsOf]; exact ⟨by decide, by decide⟩
noncomputable def kX12_costsOf_0 : zK zR := (q_aload 0 (q_iload 1 (q_push 0 (q_iload 2 (q_iload 3 (q_callV 12 fX12_looks 4 (q_aload 0 (q_push 1 (q_push 1 (q_callV 12 fX12_lawTells 2 (q_push 0 (q_push 99 (q_callS fX12_within 3 q_iret)))))))))))))
set_option maxRecDepth 100000 in
theorem tX12_costsOf_0 {l : Launch} {D : zD} {B sz0 : Nat} {post : Option Value → zS → Prop} : zSnd l D B xX12_costsOf sz0 post 0 kX12_costsOf_0 (z_Jr post) := (s_aload_n dX12_costsOf_0 rfl (s_iload_n dX12_costsOf_1 rfl (s_iconst dX12_costsOf_2 (by decide) (s_iload_n dX12_costsOf_3 rfl (s_iload_n dX12_costsOf_4 rfl (s_callV (r := (RX12, TX12, 74)) dX12_costsOf_5 mX12_looks meX12_looks wd1133 wd1134 rfl rfl reX12_looks rmX12_costsOf (fitX12_costsOf_5) wd1135 (s_aload_n dX12_costsOf_8 rfl (s_iconst dX12_costsOf_9 (by decide) (s_iconst dX12_costsOf_10 (by decide) (s_callV (r := (RX12, TX12, 74)) dX12_costsOf_11 mX12_lawTells meX12_lawTells wd1136 wd1137 rfl rfl reX12_lawTells rmX12_costsOf (fitX12_costsOf_11) wd1138 (s_iconst dX12_costsOf_14 (by decide) (s_bipush dX12_costsOf_15 (by decide) (s_callS dX12_costsOf_17 mX12_within meX12_within wd1139 rfl reX12_within rmX12_costsOf (fitX12_costsOf_17) wd1140 (s_iret dX12_costsOf_20 rfl))))))))))))))
noncomputable def fX12_costsOf : zF := z_fn 4 kX12_costsOf_0
theorem mX12_costsOf {l : Launch} {D : zD} {B : Nat} : z_MF l D B yX12_costsOf xX12_costsOf fX12_costsOf := z_mf (by decide) rfl (fun h => by cases h) rfl (fun as σ r h => ⟨z_fn_len h, kX12_costsOf_0, z_fn_run h, fun _ => tX12_costsOf_0⟩)
/-! ===== RowChildrenModel.oddsOf ===== -/
theorem dX12_oddsOf_0 : decode cX12_oddsOf 0 = .ok (.aload_n 0, 1) := by decide +kernel
theorem dX12_oddsOf_1 : decode cX12_oddsOf 1 = .ok (.iload_n 1, 1) := by decide +kernel
theorem dX12_oddsOf_2 : decode cX12_oddsOf 2 = .ok (.iconst 1, 1) := by decide +kernel
theorem dX12_oddsOf_3 : decode cX12_oddsOf 3 = .ok (.iload_n 2, 1) := by decide +kernel
theorem dX12_oddsOf_4 : decode cX12_oddsOf 4 = .ok (.aload_n 0, 1) := by decide +kernel
theorem dX12_oddsOf_5 : decode cX12_oddsOf 5 = .ok (.iconst 1, 1) := by decide +kernel
theorem dX12_oddsOf_6 : decode cX12_oddsOf 6 = .ok (.iload_n 2, 1) := by decide +kernel
theorem dX12_oddsOf_7 : decode cX12_oddsOf 7 = .ok (.invokevirtual 343, 3) := by decide +kernel
theorem dX12_oddsOf_10 : decode cX12_oddsOf 10 = .ok (.invokevirtual 364, 3) := by decide +kernel
theorem dX12_oddsOf_13 : decode cX12_oddsOf 13 = .ok (.aload_n 0, 1) := by decide +kernel
theorem dX12_oddsOf_14 : decode cX12_oddsOf 14 = .ok (.iconst 2, 1) := by decide +kernel
theorem dX12_oddsOf_15 : decode cX12_oddsOf 15 = .ok (.iconst 0, 1) := by decide +kernel
theorem dX12_oddsOf_16 : decode cX12_oddsOf 16 = .ok (.invokevirtual 368, 3) := by decide +kernel
theorem dX12_oddsOf_19 : decode cX12_oddsOf 19 = .ok (.iconst 0, 1) := by decide +kernel
theorem dX12_oddsOf_20 : decode cX12_oddsOf 20 = .ok (.bipush 100, 2) := by decide +kernel
theorem dX12_oddsOf_22 : decode cX12_oddsOf 22 = .ok (.invokestatic 371, 3) := by decide +kernel
theorem dX12_oddsOf_25 : decode cX12_oddsOf 25 = .ok (.ireturn, 1) := by decide +kernel
def xX12_oddsOf : zX := (RX12, cX12_oddsOf, 3, (some .int), false, { frames := 4, cells := 0, slots := 0, locals := 160 }, 0, 0, 0, 0)
theorem rmX12_oddsOf : z_Rm xX12_oddsOf := by unfold z_Rm xX12_oddsOf; exact ⟨by decide, by decide⟩
theorem reX12_oddsOf : z_Re xX12_oddsOf := ⟨rfl, rfl⟩
theorem rlX12_oddsOf : 1 ≤ xX12_oddsOf.2.2.2.2.2.1.frames ∧ 21 ≤ xX12_oddsOf.2.2.2.2.2.1.locals := by unfold xX12_oddsOf; exact ⟨by decide, by decide⟩
theorem meX12_oddsOf : z_Me yX12_oddsOf xX12_oddsOf 2 := ⟨wd1143, wd893, by decide, by decide, by decide +kernel⟩
theorem fitX12_oddsOf_7 : z_Fit xX12_laidAt xX12_oddsOf := by unfold z_Fit; simp only [xX12_laidAt, xX12_oddsOf]; exact ⟨by decide, by decide⟩
theorem fitX12_oddsOf_10 : z_Fit xX12_looks xX12_oddsOf := by unfold z_Fit; simp only [xX12_looks, xX12_oddsOf]; exact ⟨by decide, by decide⟩
theorem fitX12_oddsOf_16 : z_Fit xX12_lawTells xX12_oddsOf := by unfold z_Fit; simp only [xX12_lawTells, xX12_oddsOf]; exact ⟨by decide, by decide⟩
theorem fitX12_oddsOf_22 : z_Fit xX12_within xX12_oddsOf := by unfold z_Fit; simp only [xX12_within, xX12_oddsOf]; exact ⟨by decide, by decide⟩
noncomputable def kX12_oddsOf_0 : zK zR := (q_aload 0 (q_iload 1 (q_push 1 (q_iload 2 (q_aload 0 (q_push 1 (q_iload 2 (q_callV 12 fX12_laidAt 2 (q_callV 12 fX12_looks 4 (q_aload 0 (q_push 2 (q_push 0 (q_callV 12 fX12_lawTells 2 (q_push 0 (q_push 100 (q_callS fX12_within 3 q_iret))))))))))))))))
set_option maxRecDepth 100000 in
theorem tX12_oddsOf_0 {l : Launch} {D : zD} {B sz0 : Nat} {post : Option Value → zS → Prop} : zSnd l D B xX12_oddsOf sz0 post 0 kX12_oddsOf_0 (z_Jr post) := (s_aload_n dX12_oddsOf_0 rfl (s_iload_n dX12_oddsOf_1 rfl (s_iconst dX12_oddsOf_2 (by decide) (s_iload_n dX12_oddsOf_3 rfl (s_aload_n dX12_oddsOf_4 rfl (s_iconst dX12_oddsOf_5 (by decide) (s_iload_n dX12_oddsOf_6 rfl (s_callV (r := (RX12, TX12, 74)) dX12_oddsOf_7 mX12_laidAt meX12_laidAt wd1099 wd1100 rfl rfl reX12_laidAt rmX12_oddsOf (fitX12_oddsOf_7) wd1101 (s_callV (r := (RX12, TX12, 74)) dX12_oddsOf_10 mX12_looks meX12_looks wd1133 wd1134 rfl rfl reX12_looks rmX12_oddsOf (fitX12_oddsOf_10) wd1135 (s_aload_n dX12_oddsOf_13 rfl (s_iconst dX12_oddsOf_14 (by decide) (s_iconst dX12_oddsOf_15 (by decide) (s_callV (r := (RX12, TX12, 74)) dX12_oddsOf_16 mX12_lawTells meX12_lawTells wd1136 wd1137 rfl rfl reX12_lawTells rmX12_oddsOf (fitX12_oddsOf_16) wd1138 (s_iconst dX12_oddsOf_19 (by decide) (s_bipush dX12_oddsOf_20 (by decide) (s_callS dX12_oddsOf_22 mX12_within meX12_within wd1139 rfl reX12_within rmX12_oddsOf (fitX12_oddsOf_22) wd1140 (s_iret dX12_oddsOf_25 rfl)))))))))))))))))
noncomputable def fX12_oddsOf : zF := z_fn 3 kX12_oddsOf_0
theorem mX12_oddsOf {l : Launch} {D : zD} {B : Nat} : z_MF l D B yX12_oddsOf xX12_oddsOf fX12_oddsOf := z_mf (by decide) rfl (fun h => by cases h) rfl (fun as σ r h => ⟨z_fn_len h, kX12_oddsOf_0, z_fn_run h, fun _ => tX12_oddsOf_0⟩)
/-! ===== RowChildrenModel.paysOf ===== -/
theorem dX12_paysOf_0 : decode cX12_paysOf 0 = .ok (.aload_n 0, 1) := by decide +kernel
theorem dX12_paysOf_1 : decode cX12_paysOf 1 = .ok (.iload_n 1, 1) := by decide +kernel
theorem dX12_paysOf_2 : decode cX12_paysOf 2 = .ok (.iconst 0, 1) := by decide +kernel
theorem dX12_paysOf_3 : decode cX12_paysOf 3 = .ok (.iconst 0, 1) := by decide +kernel
theorem dX12_paysOf_4 : decode cX12_paysOf 4 = .ok (.aload_n 0, 1) := by decide +kernel
theorem dX12_paysOf_5 : decode cX12_paysOf 5 = .ok (.iload_n 1, 1) := by decide +kernel
theorem dX12_paysOf_6 : decode cX12_paysOf 6 = .ok (.iconst 0, 1) := by decide +kernel
theorem dX12_paysOf_7 : decode cX12_paysOf 7 = .ok (.invokevirtual 349, 3) := by decide +kernel
theorem dX12_paysOf_10 : decode cX12_paysOf 10 = .ok (.invokevirtual 364, 3) := by decide +kernel
theorem dX12_paysOf_13 : decode cX12_paysOf 13 = .ok (.aload_n 0, 1) := by decide +kernel
theorem dX12_paysOf_14 : decode cX12_paysOf 14 = .ok (.iconst 3, 1) := by decide +kernel
theorem dX12_paysOf_15 : decode cX12_paysOf 15 = .ok (.aload_n 0, 1) := by decide +kernel
theorem dX12_paysOf_16 : decode cX12_paysOf 16 = .ok (.getfield 98, 3) := by decide +kernel
theorem dX12_paysOf_19 : decode cX12_paysOf 19 = .ok (.iconst 3, 1) := by decide +kernel
theorem dX12_paysOf_20 : decode cX12_paysOf 20 = .ok (.iaload, 1) := by decide +kernel
theorem dX12_paysOf_21 : decode cX12_paysOf 21 = .ok (.invokevirtual 368, 3) := by decide +kernel
theorem dX12_paysOf_24 : decode cX12_paysOf 24 = .ok (.iconst 0, 1) := by decide +kernel
theorem dX12_paysOf_25 : decode cX12_paysOf 25 = .ok (.bipush 99, 2) := by decide +kernel
theorem dX12_paysOf_27 : decode cX12_paysOf 27 = .ok (.invokestatic 371, 3) := by decide +kernel
theorem dX12_paysOf_30 : decode cX12_paysOf 30 = .ok (.ireturn, 1) := by decide +kernel
def xX12_paysOf : zX := (RX12, cX12_paysOf, 2, (some .int), false, { frames := 4, cells := 0, slots := 0, locals := 160 }, 0, 0, 0, 0)
theorem rmX12_paysOf : z_Rm xX12_paysOf := by unfold z_Rm xX12_paysOf; exact ⟨by decide, by decide⟩
theorem reX12_paysOf : z_Re xX12_paysOf := ⟨rfl, rfl⟩
theorem rlX12_paysOf : 1 ≤ xX12_paysOf.2.2.2.2.2.1.frames ∧ 21 ≤ xX12_paysOf.2.2.2.2.2.1.locals := by unfold xX12_paysOf; exact ⟨by decide, by decide⟩
theorem meX12_paysOf : z_Me yX12_paysOf xX12_paysOf 1 := ⟨wd1144, wd893, by decide, by decide, by decide +kernel⟩
theorem fitX12_paysOf_7 : z_Fit xX12_seatAt xX12_paysOf := by unfold z_Fit; simp only [xX12_seatAt, xX12_paysOf]; exact ⟨by decide, by decide⟩
theorem fitX12_paysOf_10 : z_Fit xX12_looks xX12_paysOf := by unfold z_Fit; simp only [xX12_looks, xX12_paysOf]; exact ⟨by decide, by decide⟩
theorem fitX12_paysOf_21 : z_Fit xX12_lawTells xX12_paysOf := by unfold z_Fit; simp only [xX12_lawTells, xX12_paysOf]; exact ⟨by decide, by decide⟩
theorem fitX12_paysOf_27 : z_Fit xX12_within xX12_paysOf := by unfold z_Fit; simp only [xX12_within, xX12_paysOf]; exact ⟨by decide, by decide⟩
noncomputable def kX12_paysOf_0 : zK zR := (q_aload 0 (q_iload 1 (q_push 0 (q_push 0 (q_aload 0 (q_iload 1 (q_push 0 (q_callV 12 fX12_seatAt 2 (q_callV 12 fX12_looks 4 (q_aload 0 (q_push 3 (q_aload 0 (q_getR 12 43 (q_push 3 (q_iald (q_callV 12 fX12_lawTells 2 (q_push 0 (q_push 99 (q_callS fX12_within 3 q_iret)))))))))))))))))))
set_option maxRecDepth 100000 in
theorem tX12_paysOf_0 {l : Launch} {D : zD} {B sz0 : Nat} {post : Option Value → zS → Prop} : zSnd l D B xX12_paysOf sz0 post 0 kX12_paysOf_0 (z_Jr post) := (s_aload_n dX12_paysOf_0 rfl (s_iload_n dX12_paysOf_1 rfl (s_iconst dX12_paysOf_2 (by decide) (s_iconst dX12_paysOf_3 (by decide) (s_aload_n dX12_paysOf_4 rfl (s_iload_n dX12_paysOf_5 rfl (s_iconst dX12_paysOf_6 (by decide) (s_callV (r := (RX12, TX12, 74)) dX12_paysOf_7 mX12_seatAt meX12_seatAt wd1109 wd1110 rfl rfl reX12_seatAt rmX12_paysOf (fitX12_paysOf_7) wd1111 (s_callV (r := (RX12, TX12, 74)) dX12_paysOf_10 mX12_looks meX12_looks wd1133 wd1134 rfl rfl reX12_looks rmX12_paysOf (fitX12_paysOf_10) wd1135 (s_aload_n dX12_paysOf_13 rfl (s_iconst dX12_paysOf_14 (by decide) (s_aload_n dX12_paysOf_15 rfl (s_getR (f := 43) dX12_paysOf_16 clX12 (by decide) rfl wd925 (s_iconst dX12_paysOf_19 (by decide) (s_iald dX12_paysOf_20 (s_callV (r := (RX12, TX12, 74)) dX12_paysOf_21 mX12_lawTells meX12_lawTells wd1136 wd1137 rfl rfl reX12_lawTells rmX12_paysOf (fitX12_paysOf_21) wd1138 (s_iconst dX12_paysOf_24 (by decide) (s_bipush dX12_paysOf_25 (by decide) (s_callS dX12_paysOf_27 mX12_within meX12_within wd1139 rfl reX12_within rmX12_paysOf (fitX12_paysOf_27) wd1140 (s_iret dX12_paysOf_30 rfl))))))))))))))))))))
noncomputable def fX12_paysOf : zF := z_fn 2 kX12_paysOf_0
theorem mX12_paysOf {l : Launch} {D : zD} {B : Nat} : z_MF l D B yX12_paysOf xX12_paysOf fX12_paysOf := z_mf (by decide) rfl (fun h => by cases h) rfl (fun as σ r h => ⟨z_fn_len h, kX12_paysOf_0, z_fn_run h, fun _ => tX12_paysOf_0⟩)
/-! ===== RowChildrenModel.worthAll ===== -/
theorem dX12_worthAll_0 : decode cX12_worthAll 0 = .ok (.iconst 0, 1) := by decide +kernel
theorem dX12_worthAll_1 : decode cX12_worthAll 1 = .ok (.istore_n 2, 1) := by decide +kernel
theorem dX12_worthAll_2 : decode cX12_worthAll 2 = .ok (.iconst 0, 1) := by decide +kernel
theorem dX12_worthAll_3 : decode cX12_worthAll 3 = .ok (.istore_n 3, 1) := by decide +kernel
theorem dX12_worthAll_4 : decode cX12_worthAll 4 = .ok (.iload_n 3, 1) := by decide +kernel
theorem dX12_worthAll_5 : decode cX12_worthAll 5 = .ok (.aload_n 0, 1) := by decide +kernel
theorem dX12_worthAll_6 : decode cX12_worthAll 6 = .ok (.getfield 340, 3) := by decide +kernel
theorem dX12_worthAll_9 : decode cX12_worthAll 9 = .ok (.if_icmp .ge 40, 3) := by decide +kernel
theorem dX12_worthAll_12 : decode cX12_worthAll 12 = .ok (.iconst 0, 1) := by decide +kernel
theorem dX12_worthAll_13 : decode cX12_worthAll 13 = .ok (.istore 4, 2) := by decide +kernel
theorem dX12_worthAll_15 : decode cX12_worthAll 15 = .ok (.iload 4, 2) := by decide +kernel
theorem dX12_worthAll_17 : decode cX12_worthAll 17 = .ok (.aload_n 0, 1) := by decide +kernel
theorem dX12_worthAll_18 : decode cX12_worthAll 18 = .ok (.getfield 340, 3) := by decide +kernel
theorem dX12_worthAll_21 : decode cX12_worthAll 21 = .ok (.iload_n 3, 1) := by decide +kernel
theorem dX12_worthAll_22 : decode cX12_worthAll 22 = .ok (.isub, 1) := by decide +kernel
theorem dX12_worthAll_23 : decode cX12_worthAll 23 = .ok (.if_icmp .ge 20, 3) := by decide +kernel
theorem dX12_worthAll_26 : decode cX12_worthAll 26 = .ok (.iload_n 2, 1) := by decide +kernel
theorem dX12_worthAll_27 : decode cX12_worthAll 27 = .ok (.aload_n 0, 1) := by decide +kernel
theorem dX12_worthAll_28 : decode cX12_worthAll 28 = .ok (.iload_n 1, 1) := by decide +kernel
theorem dX12_worthAll_29 : decode cX12_worthAll 29 = .ok (.iload_n 3, 1) := by decide +kernel
theorem dX12_worthAll_30 : decode cX12_worthAll 30 = .ok (.iload 4, 2) := by decide +kernel
theorem dX12_worthAll_32 : decode cX12_worthAll 32 = .ok (.invokevirtual 374, 3) := by decide +kernel
theorem dX12_worthAll_35 : decode cX12_worthAll 35 = .ok (.iadd, 1) := by decide +kernel
theorem dX12_worthAll_36 : decode cX12_worthAll 36 = .ok (.istore_n 2, 1) := by decide +kernel
theorem dX12_worthAll_37 : decode cX12_worthAll 37 = .ok (.iinc 4 1, 3) := by decide +kernel
theorem dX12_worthAll_40 : decode cX12_worthAll 40 = .ok (.goto (-25), 3) := by decide +kernel
theorem dX12_worthAll_43 : decode cX12_worthAll 43 = .ok (.iinc 3 1, 3) := by decide +kernel
theorem dX12_worthAll_46 : decode cX12_worthAll 46 = .ok (.goto (-42), 3) := by decide +kernel
theorem dX12_worthAll_49 : decode cX12_worthAll 49 = .ok (.iload_n 2, 1) := by decide +kernel
theorem dX12_worthAll_50 : decode cX12_worthAll 50 = .ok (.ireturn, 1) := by decide +kernel
def xX12_worthAll : zX := (RX12, cX12_worthAll, 5, (some .int), false, { frames := 5, cells := 0, slots := 0, locals := 183 }, 0, 0, 0, 0)
theorem rmX12_worthAll : z_Rm xX12_worthAll := by unfold z_Rm xX12_worthAll; exact ⟨by decide, by decide⟩
theorem reX12_worthAll : z_Re xX12_worthAll := ⟨rfl, rfl⟩
theorem rlX12_worthAll : 1 ≤ xX12_worthAll.2.2.2.2.2.1.frames ∧ 21 ≤ xX12_worthAll.2.2.2.2.2.1.locals := by unfold xX12_worthAll; exact ⟨by decide, by decide⟩
theorem meX12_worthAll : z_Me yX12_worthAll xX12_worthAll 1 := ⟨wd1148, wd893, by decide, by decide, by decide +kernel⟩
theorem fitX12_worthAll_32 : z_Fit xX12_worthOf xX12_worthAll := by unfold z_Fit; simp only [xX12_worthOf, xX12_worthAll]; exact ⟨by decide, by decide⟩
noncomputable def kX12_worthAll_49 : zK zR := (q_iload 2 q_iret)
noncomputable def kX12_worthAll_43 : zK ((zL × zS) ⊕ zR) := (q_iinc 3 1 q_ag)
noncomputable def bX12_worthAll_15 : zK ((zL × zS) ⊕ ((zL × zS) ⊕ zR)) := (q_iload 4 (q_aload 0 (q_getI 12 50 (q_iload 3 (q_isub (q_icmp_ge (q_dn kX12_worthAll_43) (q_iload 2 (q_aload 0 (q_iload 1 (q_iload 3 (q_iload 4 (q_callV 12 fX12_worthOf 3 (q_iadd (q_istore 2 (q_iinc 4 1 q_ag)))))))))))))))
noncomputable def kX12_worthAll_15 : zK ((zL × zS) ⊕ zR) := q_lp (bX12_worthAll_15)
noncomputable def bX12_worthAll_4 : zK ((zL × zS) ⊕ zR) := (q_iload 3 (q_aload 0 (q_getI 12 50 (q_icmp_ge (q_dn kX12_worthAll_49) (q_push 0 (q_istore 4 kX12_worthAll_15))))))
noncomputable def kX12_worthAll_4 : zK zR := q_lp (bX12_worthAll_4)
noncomputable def kX12_worthAll_0 : zK zR := (q_push 0 (q_istore 2 (q_push 0 (q_istore 3 kX12_worthAll_4))))
set_option maxRecDepth 100000 in
theorem tX12_worthAll_49 {l : Launch} {D : zD} {B sz0 : Nat} {post : Option Value → zS → Prop} : zSnd l D B xX12_worthAll sz0 post 49 kX12_worthAll_49 (z_Jr post) := (s_iload_n dX12_worthAll_49 rfl (s_iret dX12_worthAll_50 rfl))
set_option maxRecDepth 100000 in
theorem tX12_worthAll_43 {l : Launch} {D : zD} {B sz0 : Nat} {post : Option Value → zS → Prop} : zSnd l D B xX12_worthAll sz0 post 43 kX12_worthAll_43 (z_Jl l D B xX12_worthAll sz0 post 4 (z_Jr post)) := (s_iinc dX12_worthAll_43 (by decide) (s_goto (tgt := 4) dX12_worthAll_46 (by decide) s_ag))
set_option maxRecDepth 100000 in
theorem tX12_worthAll_15 {l : Launch} {D : zD} {B sz0 : Nat} {post : Option Value → zS → Prop} : zSnd l D B xX12_worthAll sz0 post 15 kX12_worthAll_15 (z_Jl l D B xX12_worthAll sz0 post 4 (z_Jr post)) := s_lp (body := bX12_worthAll_15) (s_iload dX12_worthAll_15 (s_aload_n dX12_worthAll_17 rfl (s_getI (f := 50) dX12_worthAll_18 clX12 (by decide) rfl wd1098 (s_iload_n dX12_worthAll_21 rfl (s_isub dX12_worthAll_22 (s_icmp_ge (tgt := 43) dX12_worthAll_23 (by decide) (s_dn tX12_worthAll_43) (s_iload_n dX12_worthAll_26 rfl (s_aload_n dX12_worthAll_27 rfl (s_iload_n dX12_worthAll_28 rfl (s_iload_n dX12_worthAll_29 rfl (s_iload dX12_worthAll_30 (s_callV (r := (RX12, TX12, 74)) dX12_worthAll_32 mX12_worthOf meX12_worthOf wd1145 wd1146 rfl rfl reX12_worthOf rmX12_worthAll (fitX12_worthAll_32) wd1147 (s_iadd dX12_worthAll_35 (s_istore_n dX12_worthAll_36 rfl (s_iinc dX12_worthAll_37 (by decide) (s_goto (tgt := 15) dX12_worthAll_40 (by decide) s_ag))))))))))))))))
set_option maxRecDepth 100000 in
theorem tX12_worthAll_4 {l : Launch} {D : zD} {B sz0 : Nat} {post : Option Value → zS → Prop} : zSnd l D B xX12_worthAll sz0 post 4 kX12_worthAll_4 (z_Jr post) := s_lp (body := bX12_worthAll_4) (s_iload_n dX12_worthAll_4 rfl (s_aload_n dX12_worthAll_5 rfl (s_getI (f := 50) dX12_worthAll_6 clX12 (by decide) rfl wd1098 (s_icmp_ge (tgt := 49) dX12_worthAll_9 (by decide) (s_dn tX12_worthAll_49) (s_iconst dX12_worthAll_12 (by decide) (s_istore dX12_worthAll_13 tX12_worthAll_15))))))
set_option maxRecDepth 100000 in
theorem tX12_worthAll_0 {l : Launch} {D : zD} {B sz0 : Nat} {post : Option Value → zS → Prop} : zSnd l D B xX12_worthAll sz0 post 0 kX12_worthAll_0 (z_Jr post) := (s_iconst dX12_worthAll_0 (by decide) (s_istore_n dX12_worthAll_1 rfl (s_iconst dX12_worthAll_2 (by decide) (s_istore_n dX12_worthAll_3 rfl tX12_worthAll_4))))
noncomputable def fX12_worthAll : zF := z_fn 5 kX12_worthAll_0
theorem mX12_worthAll {l : Launch} {D : zD} {B : Nat} : z_MF l D B yX12_worthAll xX12_worthAll fX12_worthAll := z_mf (by decide) rfl (fun h => by cases h) rfl (fun as σ r h => ⟨z_fn_len h, kX12_worthAll_0, z_fn_run h, fun _ => tX12_worthAll_0⟩)
/-! ===== RowChildrenModel.paysAll ===== -/
theorem dX12_paysAll_0 : decode cX12_paysAll 0 = .ok (.iconst 0, 1) := by decide +kernel
theorem dX12_paysAll_1 : decode cX12_paysAll 1 = .ok (.istore_n 1, 1) := by decide +kernel
theorem dX12_paysAll_2 : decode cX12_paysAll 2 = .ok (.iconst 0, 1) := by decide +kernel
theorem dX12_paysAll_3 : decode cX12_paysAll 3 = .ok (.istore_n 2, 1) := by decide +kernel
theorem dX12_paysAll_4 : decode cX12_paysAll 4 = .ok (.iload_n 2, 1) := by decide +kernel
theorem dX12_paysAll_5 : decode cX12_paysAll 5 = .ok (.aload_n 0, 1) := by decide +kernel
theorem dX12_paysAll_6 : decode cX12_paysAll 6 = .ok (.getfield 55, 3) := by decide +kernel
theorem dX12_paysAll_9 : decode cX12_paysAll 9 = .ok (.aload_n 0, 1) := by decide +kernel
theorem dX12_paysAll_10 : decode cX12_paysAll 10 = .ok (.getfield 249, 3) := by decide +kernel
theorem dX12_paysAll_13 : decode cX12_paysAll 13 = .ok (.iaload, 1) := by decide +kernel
theorem dX12_paysAll_14 : decode cX12_paysAll 14 = .ok (.if_icmp .ge 17, 3) := by decide +kernel
theorem dX12_paysAll_17 : decode cX12_paysAll 17 = .ok (.iload_n 1, 1) := by decide +kernel
theorem dX12_paysAll_18 : decode cX12_paysAll 18 = .ok (.aload_n 0, 1) := by decide +kernel
theorem dX12_paysAll_19 : decode cX12_paysAll 19 = .ok (.iload_n 2, 1) := by decide +kernel
theorem dX12_paysAll_20 : decode cX12_paysAll 20 = .ok (.invokevirtual 377, 3) := by decide +kernel
theorem dX12_paysAll_23 : decode cX12_paysAll 23 = .ok (.iadd, 1) := by decide +kernel
theorem dX12_paysAll_24 : decode cX12_paysAll 24 = .ok (.istore_n 1, 1) := by decide +kernel
theorem dX12_paysAll_25 : decode cX12_paysAll 25 = .ok (.iinc 2 1, 3) := by decide +kernel
theorem dX12_paysAll_28 : decode cX12_paysAll 28 = .ok (.goto (-24), 3) := by decide +kernel
theorem dX12_paysAll_31 : decode cX12_paysAll 31 = .ok (.iload_n 1, 1) := by decide +kernel
theorem dX12_paysAll_32 : decode cX12_paysAll 32 = .ok (.ireturn, 1) := by decide +kernel
def xX12_paysAll : zX := (RX12, cX12_paysAll, 3, (some .int), false, { frames := 5, cells := 0, slots := 0, locals := 181 }, 0, 0, 0, 0)
theorem rmX12_paysAll : z_Rm xX12_paysAll := by unfold z_Rm xX12_paysAll; exact ⟨by decide, by decide⟩
theorem reX12_paysAll : z_Re xX12_paysAll := ⟨rfl, rfl⟩
theorem rlX12_paysAll : 1 ≤ xX12_paysAll.2.2.2.2.2.1.frames ∧ 21 ≤ xX12_paysAll.2.2.2.2.2.1.locals := by unfold xX12_paysAll; exact ⟨by decide, by decide⟩
theorem meX12_paysAll : z_Me yX12_paysAll xX12_paysAll 0 := ⟨wd1152, wd893, by decide, by decide, by decide +kernel⟩
theorem fitX12_paysAll_20 : z_Fit xX12_paysOf xX12_paysAll := by unfold z_Fit; simp only [xX12_paysOf, xX12_paysAll]; exact ⟨by decide, by decide⟩
noncomputable def kX12_paysAll_31 : zK zR := (q_iload 1 q_iret)
noncomputable def bX12_paysAll_4 : zK ((zL × zS) ⊕ zR) := (q_iload 2 (q_aload 0 (q_getR 12 26 (q_aload 0 (q_getI 12 18 (q_iald (q_icmp_ge (q_dn kX12_paysAll_31) (q_iload 1 (q_aload 0 (q_iload 2 (q_callV 12 fX12_paysOf 1 (q_iadd (q_istore 1 (q_iinc 2 1 q_ag))))))))))))))
noncomputable def kX12_paysAll_4 : zK zR := q_lp (bX12_paysAll_4)
noncomputable def kX12_paysAll_0 : zK zR := (q_push 0 (q_istore 1 (q_push 0 (q_istore 2 kX12_paysAll_4))))
set_option maxRecDepth 100000 in
theorem tX12_paysAll_31 {l : Launch} {D : zD} {B sz0 : Nat} {post : Option Value → zS → Prop} : zSnd l D B xX12_paysAll sz0 post 31 kX12_paysAll_31 (z_Jr post) := (s_iload_n dX12_paysAll_31 rfl (s_iret dX12_paysAll_32 rfl))
set_option maxRecDepth 100000 in
theorem tX12_paysAll_4 {l : Launch} {D : zD} {B sz0 : Nat} {post : Option Value → zS → Prop} : zSnd l D B xX12_paysAll sz0 post 4 kX12_paysAll_4 (z_Jr post) := s_lp (body := bX12_paysAll_4) (s_iload_n dX12_paysAll_4 rfl (s_aload_n dX12_paysAll_5 rfl (s_getR (f := 26) dX12_paysAll_6 clX12 (by decide) rfl wd887 (s_aload_n dX12_paysAll_9 rfl (s_getI (f := 18) dX12_paysAll_10 clX12 (by decide) rfl wd899 (s_iald dX12_paysAll_13 (s_icmp_ge (tgt := 31) dX12_paysAll_14 (by decide) (s_dn tX12_paysAll_31) (s_iload_n dX12_paysAll_17 rfl (s_aload_n dX12_paysAll_18 rfl (s_iload_n dX12_paysAll_19 rfl (s_callV (r := (RX12, TX12, 74)) dX12_paysAll_20 mX12_paysOf meX12_paysOf wd1149 wd1150 rfl rfl reX12_paysOf rmX12_paysAll (fitX12_paysAll_20) wd1151 (s_iadd dX12_paysAll_23 (s_istore_n dX12_paysAll_24 rfl (s_iinc dX12_paysAll_25 (by decide) (s_goto (tgt := 4) dX12_paysAll_28 (by decide) s_ag)))))))))))))))
set_option maxRecDepth 100000 in
theorem tX12_paysAll_0 {l : Launch} {D : zD} {B sz0 : Nat} {post : Option Value → zS → Prop} : zSnd l D B xX12_paysAll sz0 post 0 kX12_paysAll_0 (z_Jr post) := (s_iconst dX12_paysAll_0 (by decide) (s_istore_n dX12_paysAll_1 rfl (s_iconst dX12_paysAll_2 (by decide) (s_istore_n dX12_paysAll_3 rfl tX12_paysAll_4))))
noncomputable def fX12_paysAll : zF := z_fn 3 kX12_paysAll_0
theorem mX12_paysAll {l : Launch} {D : zD} {B : Nat} : z_MF l D B yX12_paysAll xX12_paysAll fX12_paysAll := z_mf (by decide) rfl (fun h => by cases h) rfl (fun as σ r h => ⟨z_fn_len h, kX12_paysAll_0, z_fn_run h, fun _ => tX12_paysAll_0⟩)
/-! ===== RowChildrenModel.grows ===== -/
theorem dX12_grows_0 : decode cX12_grows 0 = .ok (.aload_n 0, 1) := by decide +kernel
theorem dX12_grows_1 : decode cX12_grows 1 = .ok (.iload_n 1, 1) := by decide +kernel
theorem dX12_grows_2 : decode cX12_grows 2 = .ok (.invokevirtual 380, 3) := by decide +kernel
theorem dX12_grows_5 : decode cX12_grows 5 = .ok (.iconst 0, 1) := by decide +kernel
theorem dX12_grows_6 : decode cX12_grows 6 = .ok (.istore_n 2, 1) := by decide +kernel
theorem dX12_grows_7 : decode cX12_grows 7 = .ok (.iload_n 2, 1) := by decide +kernel
theorem dX12_grows_8 : decode cX12_grows 8 = .ok (.iconst 1, 1) := by decide +kernel
theorem dX12_grows_9 : decode cX12_grows 9 = .ok (.iadd, 1) := by decide +kernel
theorem dX12_grows_10 : decode cX12_grows 10 = .ok (.aload_n 0, 1) := by decide +kernel
theorem dX12_grows_11 : decode cX12_grows 11 = .ok (.getfield 107, 3) := by decide +kernel
theorem dX12_grows_14 : decode cX12_grows 14 = .ok (.iload_n 1, 1) := by decide +kernel
theorem dX12_grows_15 : decode cX12_grows 15 = .ok (.iaload, 1) := by decide +kernel
theorem dX12_grows_16 : decode cX12_grows 16 = .ok (.if_icmp .ge 77, 3) := by decide +kernel
theorem dX12_grows_19 : decode cX12_grows 19 = .ok (.aload_n 0, 1) := by decide +kernel
theorem dX12_grows_20 : decode cX12_grows 20 = .ok (.bipush 64, 2) := by decide +kernel
theorem dX12_grows_22 : decode cX12_grows 22 = .ok (.aload_n 0, 1) := by decide +kernel
theorem dX12_grows_23 : decode cX12_grows 23 = .ok (.getfield 107, 3) := by decide +kernel
theorem dX12_grows_26 : decode cX12_grows 26 = .ok (.bipush 36, 2) := by decide +kernel
theorem dX12_grows_28 : decode cX12_grows 28 = .ok (.iaload, 1) := by decide +kernel
theorem dX12_grows_29 : decode cX12_grows 29 = .ok (.imul, 1) := by decide +kernel
theorem dX12_grows_30 : decode cX12_grows 30 = .ok (.bipush 16, 2) := by decide +kernel
theorem dX12_grows_32 : decode cX12_grows 32 = .ok (.iload_n 1, 1) := by decide +kernel
theorem dX12_grows_33 : decode cX12_grows 33 = .ok (.imul, 1) := by decide +kernel
theorem dX12_grows_34 : decode cX12_grows 34 = .ok (.iadd, 1) := by decide +kernel
theorem dX12_grows_35 : decode cX12_grows 35 = .ok (.iload_n 2, 1) := by decide +kernel
theorem dX12_grows_36 : decode cX12_grows 36 = .ok (.iadd, 1) := by decide +kernel
theorem dX12_grows_37 : decode cX12_grows 37 = .ok (.invokevirtual 383, 3) := by decide +kernel
theorem dX12_grows_40 : decode cX12_grows 40 = .ok (.aload_n 0, 1) := by decide +kernel
theorem dX12_grows_41 : decode cX12_grows 41 = .ok (.iload_n 1, 1) := by decide +kernel
theorem dX12_grows_42 : decode cX12_grows 42 = .ok (.iload_n 2, 1) := by decide +kernel
theorem dX12_grows_43 : decode cX12_grows 43 = .ok (.invokevirtual 386, 3) := by decide +kernel
theorem dX12_grows_46 : decode cX12_grows 46 = .ok (.if_icmp .ge 7, 3) := by decide +kernel
theorem dX12_grows_49 : decode cX12_grows 49 = .ok (.iconst 1, 1) := by decide +kernel
theorem dX12_grows_50 : decode cX12_grows 50 = .ok (.goto 4, 3) := by decide +kernel
theorem dX12_grows_53 : decode cX12_grows 53 = .ok (.iconst 0, 1) := by decide +kernel
theorem dX12_grows_54 : decode cX12_grows 54 = .ok (.istore_n 3, 1) := by decide +kernel
theorem dX12_grows_55 : decode cX12_grows 55 = .ok (.aload_n 0, 1) := by decide +kernel
theorem dX12_grows_56 : decode cX12_grows 56 = .ok (.getfield 113, 3) := by decide +kernel
theorem dX12_grows_59 : decode cX12_grows 59 = .ok (.iload_n 2, 1) := by decide +kernel
theorem dX12_grows_60 : decode cX12_grows 60 = .ok (.iload_n 3, 1) := by decide +kernel
theorem dX12_grows_61 : decode cX12_grows 61 = .ok (.ifCond .eq 19, 3) := by decide +kernel
theorem dX12_grows_64 : decode cX12_grows 64 = .ok (.aload_n 0, 1) := by decide +kernel
theorem dX12_grows_65 : decode cX12_grows 65 = .ok (.iconst 1, 1) := by decide +kernel
theorem dX12_grows_66 : decode cX12_grows 66 = .ok (.iload_n 2, 1) := by decide +kernel
theorem dX12_grows_67 : decode cX12_grows 67 = .ok (.invokevirtual 343, 3) := by decide +kernel
theorem dX12_grows_70 : decode cX12_grows 70 = .ok (.iconst 1, 1) := by decide +kernel
theorem dX12_grows_71 : decode cX12_grows 71 = .ok (.iadd, 1) := by decide +kernel
theorem dX12_grows_72 : decode cX12_grows 72 = .ok (.aload_n 0, 1) := by decide +kernel
theorem dX12_grows_73 : decode cX12_grows 73 = .ok (.invokevirtual 327, 3) := by decide +kernel
theorem dX12_grows_76 : decode cX12_grows 76 = .ok (.irem, 1) := by decide +kernel
theorem dX12_grows_77 : decode cX12_grows 77 = .ok (.goto 9, 3) := by decide +kernel
theorem dX12_grows_80 : decode cX12_grows 80 = .ok (.aload_n 0, 1) := by decide +kernel
theorem dX12_grows_81 : decode cX12_grows 81 = .ok (.iconst 1, 1) := by decide +kernel
theorem dX12_grows_82 : decode cX12_grows 82 = .ok (.iload_n 2, 1) := by decide +kernel
theorem dX12_grows_83 : decode cX12_grows 83 = .ok (.invokevirtual 343, 3) := by decide +kernel
theorem dX12_grows_86 : decode cX12_grows 86 = .ok (.iastore, 1) := by decide +kernel
theorem dX12_grows_87 : decode cX12_grows 87 = .ok (.iinc 2 1, 3) := by decide +kernel
theorem dX12_grows_90 : decode cX12_grows 90 = .ok (.goto (-83), 3) := by decide +kernel
theorem dX12_grows_93 : decode cX12_grows 93 = .ok (.aload_n 0, 1) := by decide +kernel
theorem dX12_grows_94 : decode cX12_grows 94 = .ok (.getfield 107, 3) := by decide +kernel
theorem dX12_grows_97 : decode cX12_grows 97 = .ok (.iload_n 1, 1) := by decide +kernel
theorem dX12_grows_98 : decode cX12_grows 98 = .ok (.iaload, 1) := by decide +kernel
theorem dX12_grows_99 : decode cX12_grows 99 = .ok (.iconst 1, 1) := by decide +kernel
theorem dX12_grows_100 : decode cX12_grows 100 = .ok (.if_icmp .ne 4, 3) := by decide +kernel
theorem dX12_grows_103 : decode cX12_grows 103 = .ok (.return_, 1) := by decide +kernel
theorem dX12_grows_104 : decode cX12_grows 104 = .ok (.aload_n 0, 1) := by decide +kernel
theorem dX12_grows_105 : decode cX12_grows 105 = .ok (.getfield 107, 3) := by decide +kernel
theorem dX12_grows_108 : decode cX12_grows 108 = .ok (.iload_n 1, 1) := by decide +kernel
theorem dX12_grows_109 : decode cX12_grows 109 = .ok (.dup2, 1) := by decide +kernel
theorem dX12_grows_110 : decode cX12_grows 110 = .ok (.iaload, 1) := by decide +kernel
theorem dX12_grows_111 : decode cX12_grows 111 = .ok (.iconst 1, 1) := by decide +kernel
theorem dX12_grows_112 : decode cX12_grows 112 = .ok (.isub, 1) := by decide +kernel
theorem dX12_grows_113 : decode cX12_grows 113 = .ok (.iastore, 1) := by decide +kernel
theorem dX12_grows_114 : decode cX12_grows 114 = .ok (.iconst 0, 1) := by decide +kernel
theorem dX12_grows_115 : decode cX12_grows 115 = .ok (.istore_n 2, 1) := by decide +kernel
theorem dX12_grows_116 : decode cX12_grows 116 = .ok (.iload_n 2, 1) := by decide +kernel
theorem dX12_grows_117 : decode cX12_grows 117 = .ok (.bipush 8, 2) := by decide +kernel
theorem dX12_grows_119 : decode cX12_grows 119 = .ok (.if_icmp .ge 42, 3) := by decide +kernel
theorem dX12_grows_122 : decode cX12_grows 122 = .ok (.aload_n 0, 1) := by decide +kernel
theorem dX12_grows_123 : decode cX12_grows 123 = .ok (.getfield 107, 3) := by decide +kernel
theorem dX12_grows_126 : decode cX12_grows 126 = .ok (.iconst 4, 1) := by decide +kernel
theorem dX12_grows_127 : decode cX12_grows 127 = .ok (.bipush 8, 2) := by decide +kernel
theorem dX12_grows_129 : decode cX12_grows 129 = .ok (.iload_n 1, 1) := by decide +kernel
theorem dX12_grows_130 : decode cX12_grows 130 = .ok (.imul, 1) := by decide +kernel
theorem dX12_grows_131 : decode cX12_grows 131 = .ok (.iadd, 1) := by decide +kernel
theorem dX12_grows_132 : decode cX12_grows 132 = .ok (.iload_n 2, 1) := by decide +kernel
theorem dX12_grows_133 : decode cX12_grows 133 = .ok (.iadd, 1) := by decide +kernel
theorem dX12_grows_134 : decode cX12_grows 134 = .ok (.iload_n 2, 1) := by decide +kernel
theorem dX12_grows_135 : decode cX12_grows 135 = .ok (.aload_n 0, 1) := by decide +kernel
theorem dX12_grows_136 : decode cX12_grows 136 = .ok (.getfield 107, 3) := by decide +kernel
theorem dX12_grows_139 : decode cX12_grows 139 = .ok (.iload_n 1, 1) := by decide +kernel
theorem dX12_grows_140 : decode cX12_grows 140 = .ok (.iaload, 1) := by decide +kernel
theorem dX12_grows_141 : decode cX12_grows 141 = .ok (.if_icmp .ge 12, 3) := by decide +kernel
theorem dX12_grows_144 : decode cX12_grows 144 = .ok (.aload_n 0, 1) := by decide +kernel
theorem dX12_grows_145 : decode cX12_grows 145 = .ok (.getfield 113, 3) := by decide +kernel
theorem dX12_grows_148 : decode cX12_grows 148 = .ok (.iload_n 2, 1) := by decide +kernel
theorem dX12_grows_149 : decode cX12_grows 149 = .ok (.iaload, 1) := by decide +kernel
theorem dX12_grows_150 : decode cX12_grows 150 = .ok (.goto 4, 3) := by decide +kernel
theorem dX12_grows_153 : decode cX12_grows 153 = .ok (.iconst 0, 1) := by decide +kernel
theorem dX12_grows_154 : decode cX12_grows 154 = .ok (.iastore, 1) := by decide +kernel
theorem dX12_grows_155 : decode cX12_grows 155 = .ok (.iinc 2 1, 3) := by decide +kernel
theorem dX12_grows_158 : decode cX12_grows 158 = .ok (.goto (-42), 3) := by decide +kernel
theorem dX12_grows_161 : decode cX12_grows 161 = .ok (.return_, 1) := by decide +kernel
def xX12_grows : zX := (RX12, cX12_grows, 4, none, false, { frames := 5, cells := 0, slots := 0, locals := 182 }, 0, 0, 0, 0)
theorem rmX12_grows : z_Rm xX12_grows := by unfold z_Rm xX12_grows; exact ⟨by decide, by decide⟩
theorem reX12_grows : z_Re xX12_grows := ⟨rfl, rfl⟩
theorem rlX12_grows : 1 ≤ xX12_grows.2.2.2.2.2.1.frames ∧ 21 ≤ xX12_grows.2.2.2.2.2.1.locals := by unfold xX12_grows; exact ⟨by decide, by decide⟩
theorem meX12_grows : z_Me yX12_grows xX12_grows 1 := ⟨wd1162, wd893, by decide, by decide, by decide +kernel⟩
theorem fitX12_grows_2 : z_Fit xX12_laysRow xX12_grows := by unfold z_Fit; simp only [xX12_laysRow, xX12_grows]; exact ⟨by decide, by decide⟩
theorem fitX12_grows_37 : z_Fit xX12_lotOf xX12_grows := by unfold z_Fit; simp only [xX12_lotOf, xX12_grows]; exact ⟨by decide, by decide⟩
theorem fitX12_grows_43 : z_Fit xX12_oddsOf xX12_grows := by unfold z_Fit; simp only [xX12_oddsOf, xX12_grows]; exact ⟨by decide, by decide⟩
theorem fitX12_grows_83 : z_Fit xX12_laidAt xX12_grows := by unfold z_Fit; simp only [xX12_laidAt, xX12_grows]; exact ⟨by decide, by decide⟩
theorem fitX12_grows_67 : z_Fit xX12_laidAt xX12_grows := by unfold z_Fit; simp only [xX12_laidAt, xX12_grows]; exact ⟨by decide, by decide⟩
theorem fitX12_grows_73 : z_Fit xX12_base xX12_grows := by unfold z_Fit; simp only [xX12_base, xX12_grows]; exact ⟨by decide, by decide⟩
noncomputable def kX12_grows_161 : zK zR := q_vret
noncomputable def kX12_grows_154 : zK ((zL × zS) ⊕ zR) := (q_iast (q_iinc 2 1 q_ag))
noncomputable def bX12_grows_116 : zK ((zL × zS) ⊕ zR) := (q_iload 2 (q_push 8 (q_icmp_ge (q_dn kX12_grows_161) (q_aload 0 (q_getR 12 47 (q_push 4 (q_push 8 (q_iload 1 (q_imul (q_iadd (q_iload 2 (q_iadd (q_iload 2 (q_aload 0 (q_getR 12 47 (q_iload 1 (q_iald (q_icmp_ge (q_push 0 kX12_grows_154) (q_aload 0 (q_getR 12 51 (q_iload 2 (q_iald kX12_grows_154))))))))))))))))))))))
noncomputable def kX12_grows_116 : zK zR := q_lp (bX12_grows_116)
noncomputable def kX12_grows_93 : zK zR := (q_aload 0 (q_getR 12 47 (q_iload 1 (q_iald (q_push 1 (q_icmp_ne (q_aload 0 (q_getR 12 47 (q_iload 1 (q_dup2 (q_iald (q_push 1 (q_isub (q_iast (q_push 0 (q_istore 2 kX12_grows_116)))))))))) q_vret))))))
noncomputable def kX12_grows_86 : zK ((zL × zS) ⊕ zR) := (q_iast (q_iinc 2 1 q_ag))
noncomputable def kX12_grows_54 : zK ((zL × zS) ⊕ zR) := (q_istore 3 (q_aload 0 (q_getR 12 51 (q_iload 2 (q_iload 3 (q_if_eq (q_aload 0 (q_push 1 (q_iload 2 (q_callV 12 fX12_laidAt 2 kX12_grows_86)))) (q_aload 0 (q_push 1 (q_iload 2 (q_callV 12 fX12_laidAt 2 (q_push 1 (q_iadd (q_aload 0 (q_callV 12 fX12_base 0 (q_irem kX12_grows_86)))))))))))))))
noncomputable def bX12_grows_7 : zK ((zL × zS) ⊕ zR) := (q_iload 2 (q_push 1 (q_iadd (q_aload 0 (q_getR 12 47 (q_iload 1 (q_iald (q_icmp_ge (q_dn kX12_grows_93) (q_aload 0 (q_push 64 (q_aload 0 (q_getR 12 47 (q_push 36 (q_iald (q_imul (q_push 16 (q_iload 1 (q_imul (q_iadd (q_iload 2 (q_iadd (q_callV 12 fX12_lotOf 1 (q_aload 0 (q_iload 1 (q_iload 2 (q_callV 12 fX12_oddsOf 2 (q_icmp_ge (q_push 0 kX12_grows_54) (q_push 1 kX12_grows_54))))))))))))))))))))))))))))
noncomputable def kX12_grows_7 : zK zR := q_lp (bX12_grows_7)
noncomputable def kX12_grows_0 : zK zR := (q_aload 0 (q_iload 1 (q_callV 12 fX12_laysRow 1 (q_push 0 (q_istore 2 kX12_grows_7)))))
set_option maxRecDepth 100000 in
theorem tX12_grows_161 {l : Launch} {D : zD} {B sz0 : Nat} {post : Option Value → zS → Prop} : zSnd l D B xX12_grows sz0 post 161 kX12_grows_161 (z_Jr post) := (s_vret dX12_grows_161 rfl)
set_option maxRecDepth 100000 in
theorem tX12_grows_154 {l : Launch} {D : zD} {B sz0 : Nat} {post : Option Value → zS → Prop} : zSnd l D B xX12_grows sz0 post 154 kX12_grows_154 (z_Jl l D B xX12_grows sz0 post 116 (z_Jr post)) := (s_iast dX12_grows_154 (s_iinc dX12_grows_155 (by decide) (s_goto (tgt := 116) dX12_grows_158 (by decide) s_ag)))
set_option maxRecDepth 100000 in
theorem tX12_grows_116 {l : Launch} {D : zD} {B sz0 : Nat} {post : Option Value → zS → Prop} : zSnd l D B xX12_grows sz0 post 116 kX12_grows_116 (z_Jr post) := s_lp (body := bX12_grows_116) (s_iload_n dX12_grows_116 rfl (s_bipush dX12_grows_117 (by decide) (s_icmp_ge (tgt := 161) dX12_grows_119 (by decide) (s_dn tX12_grows_161) (s_aload_n dX12_grows_122 rfl (s_getR (f := 47) dX12_grows_123 clX12 (by decide) rfl wd901 (s_iconst dX12_grows_126 (by decide) (s_bipush dX12_grows_127 (by decide) (s_iload_n dX12_grows_129 rfl (s_imul dX12_grows_130 (s_iadd dX12_grows_131 (s_iload_n dX12_grows_132 rfl (s_iadd dX12_grows_133 (s_iload_n dX12_grows_134 rfl (s_aload_n dX12_grows_135 rfl (s_getR (f := 47) dX12_grows_136 clX12 (by decide) rfl wd901 (s_iload_n dX12_grows_139 rfl (s_iald dX12_grows_140 (s_icmp_ge (tgt := 153) dX12_grows_141 (by decide) (s_iconst dX12_grows_153 (by decide) tX12_grows_154) (s_aload_n dX12_grows_144 rfl (s_getR (f := 51) dX12_grows_145 clX12 (by decide) rfl wd928 (s_iload_n dX12_grows_148 rfl (s_iald dX12_grows_149 (s_goto (tgt := 154) dX12_grows_150 (by decide) tX12_grows_154)))))))))))))))))))))))
set_option maxRecDepth 100000 in
theorem tX12_grows_93 {l : Launch} {D : zD} {B sz0 : Nat} {post : Option Value → zS → Prop} : zSnd l D B xX12_grows sz0 post 93 kX12_grows_93 (z_Jr post) := (s_aload_n dX12_grows_93 rfl (s_getR (f := 47) dX12_grows_94 clX12 (by decide) rfl wd901 (s_iload_n dX12_grows_97 rfl (s_iald dX12_grows_98 (s_iconst dX12_grows_99 (by decide) (s_icmp_ne (tgt := 104) dX12_grows_100 (by decide) (s_aload_n dX12_grows_104 rfl (s_getR (f := 47) dX12_grows_105 clX12 (by decide) rfl wd901 (s_iload_n dX12_grows_108 rfl (s_dup2 dX12_grows_109 (s_iald dX12_grows_110 (s_iconst dX12_grows_111 (by decide) (s_isub dX12_grows_112 (s_iast dX12_grows_113 (s_iconst dX12_grows_114 (by decide) (s_istore_n dX12_grows_115 rfl tX12_grows_116)))))))))) (s_vret dX12_grows_103 rfl)))))))
set_option maxRecDepth 100000 in
theorem tX12_grows_86 {l : Launch} {D : zD} {B sz0 : Nat} {post : Option Value → zS → Prop} : zSnd l D B xX12_grows sz0 post 86 kX12_grows_86 (z_Jl l D B xX12_grows sz0 post 7 (z_Jr post)) := (s_iast dX12_grows_86 (s_iinc dX12_grows_87 (by decide) (s_goto (tgt := 7) dX12_grows_90 (by decide) s_ag)))
set_option maxRecDepth 100000 in
theorem tX12_grows_54 {l : Launch} {D : zD} {B sz0 : Nat} {post : Option Value → zS → Prop} : zSnd l D B xX12_grows sz0 post 54 kX12_grows_54 (z_Jl l D B xX12_grows sz0 post 7 (z_Jr post)) := (s_istore_n dX12_grows_54 rfl (s_aload_n dX12_grows_55 rfl (s_getR (f := 51) dX12_grows_56 clX12 (by decide) rfl wd928 (s_iload_n dX12_grows_59 rfl (s_iload_n dX12_grows_60 rfl (s_if_eq (tgt := 80) dX12_grows_61 (by decide) (s_aload_n dX12_grows_80 rfl (s_iconst dX12_grows_81 (by decide) (s_iload_n dX12_grows_82 rfl (s_callV (r := (RX12, TX12, 74)) dX12_grows_83 mX12_laidAt meX12_laidAt wd1099 wd1100 rfl rfl reX12_laidAt rmX12_grows (fitX12_grows_83) wd1101 tX12_grows_86)))) (s_aload_n dX12_grows_64 rfl (s_iconst dX12_grows_65 (by decide) (s_iload_n dX12_grows_66 rfl (s_callV (r := (RX12, TX12, 74)) dX12_grows_67 mX12_laidAt meX12_laidAt wd1099 wd1100 rfl rfl reX12_laidAt rmX12_grows (fitX12_grows_67) wd1101 (s_iconst dX12_grows_70 (by decide) (s_iadd dX12_grows_71 (s_aload_n dX12_grows_72 rfl (s_callV (r := (RX12, TX12, 74)) dX12_grows_73 mX12_base meX12_base wd1081 wd1082 rfl rfl reX12_base rmX12_grows (fitX12_grows_73) wd1083 (s_irem dX12_grows_76 (s_goto (tgt := 86) dX12_grows_77 (by decide) tX12_grows_86))))))))))))))))
set_option maxRecDepth 100000 in
theorem tX12_grows_7 {l : Launch} {D : zD} {B sz0 : Nat} {post : Option Value → zS → Prop} : zSnd l D B xX12_grows sz0 post 7 kX12_grows_7 (z_Jr post) := s_lp (body := bX12_grows_7) (s_iload_n dX12_grows_7 rfl (s_iconst dX12_grows_8 (by decide) (s_iadd dX12_grows_9 (s_aload_n dX12_grows_10 rfl (s_getR (f := 47) dX12_grows_11 clX12 (by decide) rfl wd901 (s_iload_n dX12_grows_14 rfl (s_iald dX12_grows_15 (s_icmp_ge (tgt := 93) dX12_grows_16 (by decide) (s_dn tX12_grows_93) (s_aload_n dX12_grows_19 rfl (s_bipush dX12_grows_20 (by decide) (s_aload_n dX12_grows_22 rfl (s_getR (f := 47) dX12_grows_23 clX12 (by decide) rfl wd901 (s_bipush dX12_grows_26 (by decide) (s_iald dX12_grows_28 (s_imul dX12_grows_29 (s_bipush dX12_grows_30 (by decide) (s_iload_n dX12_grows_32 rfl (s_imul dX12_grows_33 (s_iadd dX12_grows_34 (s_iload_n dX12_grows_35 rfl (s_iadd dX12_grows_36 (s_callV (r := (RX12, TX12, 74)) dX12_grows_37 mX12_lotOf meX12_lotOf wd1156 wd1157 rfl rfl reX12_lotOf rmX12_grows (fitX12_grows_37) wd1158 (s_aload_n dX12_grows_40 rfl (s_iload_n dX12_grows_41 rfl (s_iload_n dX12_grows_42 rfl (s_callV (r := (RX12, TX12, 74)) dX12_grows_43 mX12_oddsOf meX12_oddsOf wd1159 wd1160 rfl rfl reX12_oddsOf rmX12_grows (fitX12_grows_43) wd1161 (s_icmp_ge (tgt := 53) dX12_grows_46 (by decide) (s_iconst dX12_grows_53 (by decide) tX12_grows_54) (s_iconst dX12_grows_49 (by decide) (s_goto (tgt := 54) dX12_grows_50 (by decide) tX12_grows_54)))))))))))))))))))))))))))))
set_option maxRecDepth 100000 in
theorem tX12_grows_0 {l : Launch} {D : zD} {B sz0 : Nat} {post : Option Value → zS → Prop} : zSnd l D B xX12_grows sz0 post 0 kX12_grows_0 (z_Jr post) := (s_aload_n dX12_grows_0 rfl (s_iload_n dX12_grows_1 rfl (s_callV (r := (RX12, TX12, 74)) dX12_grows_2 mX12_laysRow meX12_laysRow wd1153 wd1154 rfl rfl reX12_laysRow rmX12_grows (fitX12_grows_2) wd1155 (s_iconst dX12_grows_5 (by decide) (s_istore_n dX12_grows_6 rfl tX12_grows_7)))))
noncomputable def fX12_grows : zF := z_fn 4 kX12_grows_0
theorem mX12_grows {l : Launch} {D : zD} {B : Nat} : z_MF l D B yX12_grows xX12_grows fX12_grows := z_mf (by decide) rfl (fun h => by cases h) rfl (fun as σ r h => ⟨z_fn_len h, kX12_grows_0, z_fn_run h, fun _ => tX12_grows_0⟩)
