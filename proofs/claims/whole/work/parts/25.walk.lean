/-! ===== RowChildrenModel.paint ===== -/
theorem dX12_paint_0 : decode cX12_paint 0 = .ok (.aload_n 0, 1) := by decide +kernel
theorem dX12_paint_1 : decode cX12_paint 1 = .ok (.iload_n 1, 1) := by decide +kernel
theorem dX12_paint_2 : decode cX12_paint 2 = .ok (.iload_n 2, 1) := by decide +kernel
theorem dX12_paint_3 : decode cX12_paint 3 = .ok (.iload_n 3, 1) := by decide +kernel
theorem dX12_paint_4 : decode cX12_paint 4 = .ok (.invokevirtual 427, 3) := by decide +kernel
theorem dX12_paint_7 : decode cX12_paint 7 = .ok (.ifCond .ne 5, 3) := by decide +kernel
theorem dX12_paint_10 : decode cX12_paint 10 = .ok (.iconst (-1), 1) := by decide +kernel
theorem dX12_paint_11 : decode cX12_paint 11 = .ok (.ireturn, 1) := by decide +kernel
theorem dX12_paint_12 : decode cX12_paint 12 = .ok (.aload_n 0, 1) := by decide +kernel
theorem dX12_paint_13 : decode cX12_paint 13 = .ok (.invokevirtual 401, 3) := by decide +kernel
theorem dX12_paint_16 : decode cX12_paint 16 = .ok (.aload_n 0, 1) := by decide +kernel
theorem dX12_paint_17 : decode cX12_paint 17 = .ok (.iload_n 1, 1) := by decide +kernel
theorem dX12_paint_18 : decode cX12_paint 18 = .ok (.iload_n 2, 1) := by decide +kernel
theorem dX12_paint_19 : decode cX12_paint 19 = .ok (.iload_n 3, 1) := by decide +kernel
theorem dX12_paint_20 : decode cX12_paint 20 = .ok (.invokevirtual 430, 3) := by decide +kernel
theorem dX12_paint_23 : decode cX12_paint 23 = .ok (.istore 4, 2) := by decide +kernel
theorem dX12_paint_25 : decode cX12_paint 25 = .ok (.aload_n 0, 1) := by decide +kernel
theorem dX12_paint_26 : decode cX12_paint 26 = .ok (.getfield 107, 3) := by decide +kernel
theorem dX12_paint_29 : decode cX12_paint 29 = .ok (.iconst 4, 1) := by decide +kernel
theorem dX12_paint_30 : decode cX12_paint 30 = .ok (.bipush 8, 2) := by decide +kernel
theorem dX12_paint_32 : decode cX12_paint 32 = .ok (.iload_n 1, 1) := by decide +kernel
theorem dX12_paint_33 : decode cX12_paint 33 = .ok (.imul, 1) := by decide +kernel
theorem dX12_paint_34 : decode cX12_paint 34 = .ok (.iadd, 1) := by decide +kernel
theorem dX12_paint_35 : decode cX12_paint 35 = .ok (.iload_n 2, 1) := by decide +kernel
theorem dX12_paint_36 : decode cX12_paint 36 = .ok (.iadd, 1) := by decide +kernel
theorem dX12_paint_37 : decode cX12_paint 37 = .ok (.iload_n 3, 1) := by decide +kernel
theorem dX12_paint_38 : decode cX12_paint 38 = .ok (.iastore, 1) := by decide +kernel
theorem dX12_paint_39 : decode cX12_paint 39 = .ok (.aload_n 0, 1) := by decide +kernel
theorem dX12_paint_40 : decode cX12_paint 40 = .ok (.getfield 107, 3) := by decide +kernel
theorem dX12_paint_43 : decode cX12_paint 43 = .ok (.bipush 37, 2) := by decide +kernel
theorem dX12_paint_45 : decode cX12_paint 45 = .ok (.dup2, 1) := by decide +kernel
theorem dX12_paint_46 : decode cX12_paint 46 = .ok (.iaload, 1) := by decide +kernel
theorem dX12_paint_47 : decode cX12_paint 47 = .ok (.iload 4, 2) := by decide +kernel
theorem dX12_paint_49 : decode cX12_paint 49 = .ok (.iadd, 1) := by decide +kernel
theorem dX12_paint_50 : decode cX12_paint 50 = .ok (.iastore, 1) := by decide +kernel
theorem dX12_paint_51 : decode cX12_paint 51 = .ok (.aload_n 0, 1) := by decide +kernel
theorem dX12_paint_52 : decode cX12_paint 52 = .ok (.invokevirtual 433, 3) := by decide +kernel
theorem dX12_paint_55 : decode cX12_paint 55 = .ok (.iload 4, 2) := by decide +kernel
theorem dX12_paint_57 : decode cX12_paint 57 = .ok (.ireturn, 1) := by decide +kernel
def xX12_paint : zX := (RX12, cX12_paint, 5, (some .int), false, { frames := 5, cells := 0, slots := 0, locals := 183 }, 0, 0, 0, 0)
theorem rmX12_paint : z_Rm xX12_paint := by unfold z_Rm xX12_paint; exact ⟨by decide, by decide⟩
theorem reX12_paint : z_Re xX12_paint := ⟨rfl, rfl⟩
theorem rlX12_paint : 1 ≤ xX12_paint.2.2.2.2.2.1.frames ∧ 21 ≤ xX12_paint.2.2.2.2.2.1.locals := by unfold xX12_paint; exact ⟨by decide, by decide⟩
theorem meX12_paint : z_Me yX12_paint xX12_paint 3 := ⟨wd1174, wd848, by decide, by decide, by decide +kernel⟩
theorem fitX12_paint_4 : z_Fit xX12_isOther xX12_paint := by unfold z_Fit; simp only [xX12_isOther, xX12_paint]; exact ⟨by decide, by decide⟩
theorem fitX12_paint_13 : z_Fit xX12_copies xX12_paint := by unfold z_Fit; simp only [xX12_copies, xX12_paint]; exact ⟨by decide, by decide⟩
theorem fitX12_paint_20 : z_Fit xX12_costsOf xX12_paint := by unfold z_Fit; simp only [xX12_costsOf, xX12_paint]; exact ⟨by decide, by decide⟩
theorem fitX12_paint_52 : z_Fit xX12_records xX12_paint := by unfold z_Fit; simp only [xX12_records, xX12_paint]; exact ⟨by decide, by decide⟩
noncomputable def kX12_paint_0 : zK zR := (q_aload 0 (q_iload 1 (q_iload 2 (q_iload 3 (q_callV 12 fX12_isOther 3 (q_if_ne (q_aload 0 (q_callV 12 fX12_copies 0 (q_aload 0 (q_iload 1 (q_iload 2 (q_iload 3 (q_callV 12 fX12_costsOf 3 (q_istore 4 (q_aload 0 (q_getR 12 47 (q_push 4 (q_push 8 (q_iload 1 (q_imul (q_iadd (q_iload 2 (q_iadd (q_iload 3 (q_iast (q_aload 0 (q_getR 12 47 (q_push 37 (q_dup2 (q_iald (q_iload 4 (q_iadd (q_iast (q_aload 0 (q_callV 12 fX12_records 0 (q_iload 4 q_iret)))))))))))))))))))))))))))))) (q_push (-1) q_iret)))))))
set_option maxRecDepth 100000 in
theorem tX12_paint_0 {l : Launch} {D : zD} {B sz0 : Nat} {post : Option Value → zS → Prop} : zSnd l D B xX12_paint sz0 post 0 kX12_paint_0 (z_Jr post) := (s_aload_n dX12_paint_0 rfl (s_iload_n dX12_paint_1 rfl (s_iload_n dX12_paint_2 rfl (s_iload_n dX12_paint_3 rfl (s_callV (r := (RX12, TX12, 74)) dX12_paint_4 mX12_isOther meX12_isOther wd1163 wd1164 rfl rfl reX12_isOther rmX12_paint (fitX12_paint_4) wd1165 (s_if_ne (tgt := 12) dX12_paint_7 (by decide) (s_aload_n dX12_paint_12 rfl (s_callV (r := (RX12, TX12, 74)) dX12_paint_13 mX12_copies meX12_copies wd1133 wd1134 rfl rfl reX12_copies rmX12_paint (fitX12_paint_13) wd1135 (s_aload_n dX12_paint_16 rfl (s_iload_n dX12_paint_17 rfl (s_iload_n dX12_paint_18 rfl (s_iload_n dX12_paint_19 rfl (s_callV (r := (RX12, TX12, 74)) dX12_paint_20 mX12_costsOf meX12_costsOf wd1166 wd1167 rfl rfl reX12_costsOf rmX12_paint (fitX12_paint_20) wd1168 (s_istore dX12_paint_23 (s_aload_n dX12_paint_25 rfl (s_getR (f := 47) dX12_paint_26 clX12 (by decide) rfl wd856 (s_iconst dX12_paint_29 (by decide) (s_bipush dX12_paint_30 (by decide) (s_iload_n dX12_paint_32 rfl (s_imul dX12_paint_33 (s_iadd dX12_paint_34 (s_iload_n dX12_paint_35 rfl (s_iadd dX12_paint_36 (s_iload_n dX12_paint_37 rfl (s_iast dX12_paint_38 (s_aload_n dX12_paint_39 rfl (s_getR (f := 47) dX12_paint_40 clX12 (by decide) rfl wd856 (s_bipush dX12_paint_43 (by decide) (s_dup2 dX12_paint_45 (s_iald dX12_paint_46 (s_iload dX12_paint_47 (s_iadd dX12_paint_49 (s_iast dX12_paint_50 (s_aload_n dX12_paint_51 rfl (s_callV (r := (RX12, TX12, 74)) dX12_paint_52 mX12_records meX12_records wd1171 wd1172 rfl rfl reX12_records rmX12_paint (fitX12_paint_52) wd1173 (s_iload dX12_paint_55 (s_iret dX12_paint_57 rfl))))))))))))))))))))))))))))))) (s_iconst dX12_paint_10 (by decide) (s_iret dX12_paint_11 rfl))))))))
noncomputable def fX12_paint : zF := z_fn 5 kX12_paint_0
theorem mX12_paint {l : Launch} {D : zD} {B : Nat} : z_MF l D B yX12_paint xX12_paint fX12_paint := z_mf (by decide) rfl (fun h => by cases h) rfl (fun as σ r h => ⟨z_fn_len h, kX12_paint_0, z_fn_run h, fun _ => tX12_paint_0⟩)
/-! ===== RowChildrenModel.come ===== -/
theorem dX12_come_0 : decode cX12_come 0 = .ok (.aload_n 0, 1) := by decide +kernel
theorem dX12_come_1 : decode cX12_come 1 = .ok (.iload_n 1, 1) := by decide +kernel
theorem dX12_come_2 : decode cX12_come 2 = .ok (.invokevirtual 330, 3) := by decide +kernel
theorem dX12_come_5 : decode cX12_come 5 = .ok (.ifCond .eq 22, 3) := by decide +kernel
theorem dX12_come_8 : decode cX12_come 8 = .ok (.aload_n 0, 1) := by decide +kernel
theorem dX12_come_9 : decode cX12_come 9 = .ok (.iload_n 2, 1) := by decide +kernel
theorem dX12_come_10 : decode cX12_come 10 = .ok (.invokevirtual 398, 3) := by decide +kernel
theorem dX12_come_13 : decode cX12_come 13 = .ok (.ifCond .eq 14, 3) := by decide +kernel
theorem dX12_come_16 : decode cX12_come 16 = .ok (.aload_n 0, 1) := by decide +kernel
theorem dX12_come_17 : decode cX12_come 17 = .ok (.getfield 104, 3) := by decide +kernel
theorem dX12_come_20 : decode cX12_come 20 = .ok (.iload_n 1, 1) := by decide +kernel
theorem dX12_come_21 : decode cX12_come 21 = .ok (.iaload, 1) := by decide +kernel
theorem dX12_come_22 : decode cX12_come 22 = .ok (.bipush 8, 2) := by decide +kernel
theorem dX12_come_24 : decode cX12_come 24 = .ok (.if_icmp .ne 5, 3) := by decide +kernel
theorem dX12_come_27 : decode cX12_come 27 = .ok (.iconst (-1), 1) := by decide +kernel
theorem dX12_come_28 : decode cX12_come 28 = .ok (.ireturn, 1) := by decide +kernel
theorem dX12_come_29 : decode cX12_come 29 = .ok (.aload_n 0, 1) := by decide +kernel
theorem dX12_come_30 : decode cX12_come 30 = .ok (.invokevirtual 401, 3) := by decide +kernel
theorem dX12_come_33 : decode cX12_come 33 = .ok (.aload_n 0, 1) := by decide +kernel
theorem dX12_come_34 : decode cX12_come 34 = .ok (.getfield 107, 3) := by decide +kernel
theorem dX12_come_37 : decode cX12_come 37 = .ok (.iconst 4, 1) := by decide +kernel
theorem dX12_come_38 : decode cX12_come 38 = .ok (.bipush 8, 2) := by decide +kernel
theorem dX12_come_40 : decode cX12_come 40 = .ok (.iload_n 1, 1) := by decide +kernel
theorem dX12_come_41 : decode cX12_come 41 = .ok (.imul, 1) := by decide +kernel
theorem dX12_come_42 : decode cX12_come 42 = .ok (.iadd, 1) := by decide +kernel
theorem dX12_come_43 : decode cX12_come 43 = .ok (.aload_n 0, 1) := by decide +kernel
theorem dX12_come_44 : decode cX12_come 44 = .ok (.getfield 107, 3) := by decide +kernel
theorem dX12_come_47 : decode cX12_come 47 = .ok (.iload_n 1, 1) := by decide +kernel
theorem dX12_come_48 : decode cX12_come 48 = .ok (.iaload, 1) := by decide +kernel
theorem dX12_come_49 : decode cX12_come 49 = .ok (.iadd, 1) := by decide +kernel
theorem dX12_come_50 : decode cX12_come 50 = .ok (.iload_n 2, 1) := by decide +kernel
theorem dX12_come_51 : decode cX12_come 51 = .ok (.iastore, 1) := by decide +kernel
theorem dX12_come_52 : decode cX12_come 52 = .ok (.aload_n 0, 1) := by decide +kernel
theorem dX12_come_53 : decode cX12_come 53 = .ok (.getfield 107, 3) := by decide +kernel
theorem dX12_come_56 : decode cX12_come 56 = .ok (.iload_n 1, 1) := by decide +kernel
theorem dX12_come_57 : decode cX12_come 57 = .ok (.dup2, 1) := by decide +kernel
theorem dX12_come_58 : decode cX12_come 58 = .ok (.iaload, 1) := by decide +kernel
theorem dX12_come_59 : decode cX12_come 59 = .ok (.iconst 1, 1) := by decide +kernel
theorem dX12_come_60 : decode cX12_come 60 = .ok (.iadd, 1) := by decide +kernel
theorem dX12_come_61 : decode cX12_come 61 = .ok (.iastore, 1) := by decide +kernel
theorem dX12_come_62 : decode cX12_come 62 = .ok (.aload_n 0, 1) := by decide +kernel
theorem dX12_come_63 : decode cX12_come 63 = .ok (.invokevirtual 433, 3) := by decide +kernel
theorem dX12_come_66 : decode cX12_come 66 = .ok (.aload_n 0, 1) := by decide +kernel
theorem dX12_come_67 : decode cX12_come 67 = .ok (.getfield 104, 3) := by decide +kernel
theorem dX12_come_70 : decode cX12_come 70 = .ok (.iload_n 1, 1) := by decide +kernel
theorem dX12_come_71 : decode cX12_come 71 = .ok (.iaload, 1) := by decide +kernel
theorem dX12_come_72 : decode cX12_come 72 = .ok (.ireturn, 1) := by decide +kernel
def xX12_come : zX := (RX12, cX12_come, 3, (some .int), false, { frames := 3, cells := 0, slots := 0, locals := 133 }, 0, 0, 0, 0)
theorem rmX12_come : z_Rm xX12_come := by unfold z_Rm xX12_come; exact ⟨by decide, by decide⟩
theorem reX12_come : z_Re xX12_come := ⟨rfl, rfl⟩
theorem rlX12_come : 1 ≤ xX12_come.2.2.2.2.2.1.frames ∧ 21 ≤ xX12_come.2.2.2.2.2.1.locals := by unfold xX12_come; exact ⟨by decide, by decide⟩
theorem meX12_come : z_Me yX12_come xX12_come 2 := ⟨wd1175, wd848, by decide, by decide, by decide +kernel⟩
theorem fitX12_come_2 : z_Fit xX12_isRow xX12_come := by unfold z_Fit; simp only [xX12_isRow, xX12_come]; exact ⟨by decide, by decide⟩
theorem fitX12_come_10 : z_Fit xX12_isColour xX12_come := by unfold z_Fit; simp only [xX12_isColour, xX12_come]; exact ⟨by decide, by decide⟩
theorem fitX12_come_30 : z_Fit xX12_copies xX12_come := by unfold z_Fit; simp only [xX12_copies, xX12_come]; exact ⟨by decide, by decide⟩
theorem fitX12_come_63 : z_Fit xX12_records xX12_come := by unfold z_Fit; simp only [xX12_records, xX12_come]; exact ⟨by decide, by decide⟩
noncomputable def kX12_come_27 : zK zR := (q_push (-1) q_iret)
noncomputable def kX12_come_0 : zK zR := (q_aload 0 (q_iload 1 (q_callV 12 fX12_isRow 1 (q_if_eq kX12_come_27 (q_aload 0 (q_iload 2 (q_callV 12 fX12_isColour 1 (q_if_eq kX12_come_27 (q_aload 0 (q_getR 12 46 (q_iload 1 (q_iald (q_push 8 (q_icmp_ne (q_aload 0 (q_callV 12 fX12_copies 0 (q_aload 0 (q_getR 12 47 (q_push 4 (q_push 8 (q_iload 1 (q_imul (q_iadd (q_aload 0 (q_getR 12 47 (q_iload 1 (q_iald (q_iadd (q_iload 2 (q_iast (q_aload 0 (q_getR 12 47 (q_iload 1 (q_dup2 (q_iald (q_push 1 (q_iadd (q_iast (q_aload 0 (q_callV 12 fX12_records 0 (q_aload 0 (q_getR 12 46 (q_iload 1 (q_iald q_iret)))))))))))))))))))))))))))))) kX12_come_27))))))))))))))
set_option maxRecDepth 100000 in
theorem tX12_come_27 {l : Launch} {D : zD} {B sz0 : Nat} {post : Option Value → zS → Prop} : zSnd l D B xX12_come sz0 post 27 kX12_come_27 (z_Jr post) := (s_iconst dX12_come_27 (by decide) (s_iret dX12_come_28 rfl))
set_option maxRecDepth 100000 in
theorem tX12_come_0 {l : Launch} {D : zD} {B sz0 : Nat} {post : Option Value → zS → Prop} : zSnd l D B xX12_come sz0 post 0 kX12_come_0 (z_Jr post) := (s_aload_n dX12_come_0 rfl (s_iload_n dX12_come_1 rfl (s_callV (r := (RX12, TX12, 74)) dX12_come_2 mX12_isRow meX12_isRow wd1042 wd1043 rfl rfl reX12_isRow rmX12_come (fitX12_come_2) wd1044 (s_if_eq (tgt := 27) dX12_come_5 (by decide) tX12_come_27 (s_aload_n dX12_come_8 rfl (s_iload_n dX12_come_9 rfl (s_callV (r := (RX12, TX12, 74)) dX12_come_10 mX12_isColour meX12_isColour wd1129 wd1130 rfl rfl reX12_isColour rmX12_come (fitX12_come_10) wd1131 (s_if_eq (tgt := 27) dX12_come_13 (by decide) tX12_come_27 (s_aload_n dX12_come_16 rfl (s_getR (f := 46) dX12_come_17 clX12 (by decide) rfl wd860 (s_iload_n dX12_come_20 rfl (s_iald dX12_come_21 (s_bipush dX12_come_22 (by decide) (s_icmp_ne (tgt := 29) dX12_come_24 (by decide) (s_aload_n dX12_come_29 rfl (s_callV (r := (RX12, TX12, 74)) dX12_come_30 mX12_copies meX12_copies wd1133 wd1134 rfl rfl reX12_copies rmX12_come (fitX12_come_30) wd1135 (s_aload_n dX12_come_33 rfl (s_getR (f := 47) dX12_come_34 clX12 (by decide) rfl wd856 (s_iconst dX12_come_37 (by decide) (s_bipush dX12_come_38 (by decide) (s_iload_n dX12_come_40 rfl (s_imul dX12_come_41 (s_iadd dX12_come_42 (s_aload_n dX12_come_43 rfl (s_getR (f := 47) dX12_come_44 clX12 (by decide) rfl wd856 (s_iload_n dX12_come_47 rfl (s_iald dX12_come_48 (s_iadd dX12_come_49 (s_iload_n dX12_come_50 rfl (s_iast dX12_come_51 (s_aload_n dX12_come_52 rfl (s_getR (f := 47) dX12_come_53 clX12 (by decide) rfl wd856 (s_iload_n dX12_come_56 rfl (s_dup2 dX12_come_57 (s_iald dX12_come_58 (s_iconst dX12_come_59 (by decide) (s_iadd dX12_come_60 (s_iast dX12_come_61 (s_aload_n dX12_come_62 rfl (s_callV (r := (RX12, TX12, 74)) dX12_come_63 mX12_records meX12_records wd1171 wd1172 rfl rfl reX12_records rmX12_come (fitX12_come_63) wd1173 (s_aload_n dX12_come_66 rfl (s_getR (f := 46) dX12_come_67 clX12 (by decide) rfl wd860 (s_iload_n dX12_come_70 rfl (s_iald dX12_come_71 (s_iret dX12_come_72 rfl))))))))))))))))))))))))))))))) tX12_come_27))))))))))))))
noncomputable def fX12_come : zF := z_fn 3 kX12_come_0
theorem mX12_come {l : Launch} {D : zD} {B : Nat} : z_MF l D B yX12_come xX12_come fX12_come := z_mf (by decide) rfl (fun h => by cases h) rfl (fun as σ r h => ⟨z_fn_len h, kX12_come_0, z_fn_run h, fun _ => tX12_come_0⟩)
/-! ===== RowChildrenModel.go ===== -/
theorem dX12_go_0 : decode cX12_go 0 = .ok (.aload_n 0, 1) := by decide +kernel
theorem dX12_go_1 : decode cX12_go 1 = .ok (.iload_n 1, 1) := by decide +kernel
theorem dX12_go_2 : decode cX12_go 2 = .ok (.invokevirtual 330, 3) := by decide +kernel
theorem dX12_go_5 : decode cX12_go 5 = .ok (.ifCond .eq 13, 3) := by decide +kernel
theorem dX12_go_8 : decode cX12_go 8 = .ok (.aload_n 0, 1) := by decide +kernel
theorem dX12_go_9 : decode cX12_go 9 = .ok (.getfield 104, 3) := by decide +kernel
theorem dX12_go_12 : decode cX12_go 12 = .ok (.iload_n 1, 1) := by decide +kernel
theorem dX12_go_13 : decode cX12_go 13 = .ok (.iaload, 1) := by decide +kernel
theorem dX12_go_14 : decode cX12_go 14 = .ok (.iconst 1, 1) := by decide +kernel
theorem dX12_go_15 : decode cX12_go 15 = .ok (.if_icmp .ne 5, 3) := by decide +kernel
theorem dX12_go_18 : decode cX12_go 18 = .ok (.iconst (-1), 1) := by decide +kernel
theorem dX12_go_19 : decode cX12_go 19 = .ok (.ireturn, 1) := by decide +kernel
theorem dX12_go_20 : decode cX12_go 20 = .ok (.aload_n 0, 1) := by decide +kernel
theorem dX12_go_21 : decode cX12_go 21 = .ok (.invokevirtual 401, 3) := by decide +kernel
theorem dX12_go_24 : decode cX12_go 24 = .ok (.aload_n 0, 1) := by decide +kernel
theorem dX12_go_25 : decode cX12_go 25 = .ok (.getfield 107, 3) := by decide +kernel
theorem dX12_go_28 : decode cX12_go 28 = .ok (.iload_n 1, 1) := by decide +kernel
theorem dX12_go_29 : decode cX12_go 29 = .ok (.dup2, 1) := by decide +kernel
theorem dX12_go_30 : decode cX12_go 30 = .ok (.iaload, 1) := by decide +kernel
theorem dX12_go_31 : decode cX12_go 31 = .ok (.iconst 1, 1) := by decide +kernel
theorem dX12_go_32 : decode cX12_go 32 = .ok (.isub, 1) := by decide +kernel
theorem dX12_go_33 : decode cX12_go 33 = .ok (.iastore, 1) := by decide +kernel
theorem dX12_go_34 : decode cX12_go 34 = .ok (.aload_n 0, 1) := by decide +kernel
theorem dX12_go_35 : decode cX12_go 35 = .ok (.getfield 107, 3) := by decide +kernel
theorem dX12_go_38 : decode cX12_go 38 = .ok (.iconst 4, 1) := by decide +kernel
theorem dX12_go_39 : decode cX12_go 39 = .ok (.bipush 8, 2) := by decide +kernel
theorem dX12_go_41 : decode cX12_go 41 = .ok (.iload_n 1, 1) := by decide +kernel
theorem dX12_go_42 : decode cX12_go 42 = .ok (.imul, 1) := by decide +kernel
theorem dX12_go_43 : decode cX12_go 43 = .ok (.iadd, 1) := by decide +kernel
theorem dX12_go_44 : decode cX12_go 44 = .ok (.aload_n 0, 1) := by decide +kernel
theorem dX12_go_45 : decode cX12_go 45 = .ok (.getfield 107, 3) := by decide +kernel
theorem dX12_go_48 : decode cX12_go 48 = .ok (.iload_n 1, 1) := by decide +kernel
theorem dX12_go_49 : decode cX12_go 49 = .ok (.iaload, 1) := by decide +kernel
theorem dX12_go_50 : decode cX12_go 50 = .ok (.iadd, 1) := by decide +kernel
theorem dX12_go_51 : decode cX12_go 51 = .ok (.iconst 0, 1) := by decide +kernel
theorem dX12_go_52 : decode cX12_go 52 = .ok (.iastore, 1) := by decide +kernel
theorem dX12_go_53 : decode cX12_go 53 = .ok (.aload_n 0, 1) := by decide +kernel
theorem dX12_go_54 : decode cX12_go 54 = .ok (.invokevirtual 433, 3) := by decide +kernel
theorem dX12_go_57 : decode cX12_go 57 = .ok (.aload_n 0, 1) := by decide +kernel
theorem dX12_go_58 : decode cX12_go 58 = .ok (.getfield 104, 3) := by decide +kernel
theorem dX12_go_61 : decode cX12_go 61 = .ok (.iload_n 1, 1) := by decide +kernel
theorem dX12_go_62 : decode cX12_go 62 = .ok (.iaload, 1) := by decide +kernel
theorem dX12_go_63 : decode cX12_go 63 = .ok (.ireturn, 1) := by decide +kernel
def xX12_go : zX := (RX12, cX12_go, 2, (some .int), false, { frames := 3, cells := 0, slots := 0, locals := 133 }, 0, 0, 0, 0)
theorem rmX12_go : z_Rm xX12_go := by unfold z_Rm xX12_go; exact ⟨by decide, by decide⟩
theorem reX12_go : z_Re xX12_go := ⟨rfl, rfl⟩
theorem rlX12_go : 1 ≤ xX12_go.2.2.2.2.2.1.frames ∧ 21 ≤ xX12_go.2.2.2.2.2.1.locals := by unfold xX12_go; exact ⟨by decide, by decide⟩
theorem meX12_go : z_Me yX12_go xX12_go 1 := ⟨wd1176, wd848, by decide, by decide, by decide +kernel⟩
theorem fitX12_go_2 : z_Fit xX12_isRow xX12_go := by unfold z_Fit; simp only [xX12_isRow, xX12_go]; exact ⟨by decide, by decide⟩
theorem fitX12_go_21 : z_Fit xX12_copies xX12_go := by unfold z_Fit; simp only [xX12_copies, xX12_go]; exact ⟨by decide, by decide⟩
theorem fitX12_go_54 : z_Fit xX12_records xX12_go := by unfold z_Fit; simp only [xX12_records, xX12_go]; exact ⟨by decide, by decide⟩
noncomputable def kX12_go_18 : zK zR := (q_push (-1) q_iret)
noncomputable def kX12_go_0 : zK zR := (q_aload 0 (q_iload 1 (q_callV 12 fX12_isRow 1 (q_if_eq kX12_go_18 (q_aload 0 (q_getR 12 46 (q_iload 1 (q_iald (q_push 1 (q_icmp_ne (q_aload 0 (q_callV 12 fX12_copies 0 (q_aload 0 (q_getR 12 47 (q_iload 1 (q_dup2 (q_iald (q_push 1 (q_isub (q_iast (q_aload 0 (q_getR 12 47 (q_push 4 (q_push 8 (q_iload 1 (q_imul (q_iadd (q_aload 0 (q_getR 12 47 (q_iload 1 (q_iald (q_iadd (q_push 0 (q_iast (q_aload 0 (q_callV 12 fX12_records 0 (q_aload 0 (q_getR 12 46 (q_iload 1 (q_iald q_iret)))))))))))))))))))))))))))))) kX12_go_18))))))))))
set_option maxRecDepth 100000 in
theorem tX12_go_18 {l : Launch} {D : zD} {B sz0 : Nat} {post : Option Value → zS → Prop} : zSnd l D B xX12_go sz0 post 18 kX12_go_18 (z_Jr post) := (s_iconst dX12_go_18 (by decide) (s_iret dX12_go_19 rfl))
set_option maxRecDepth 100000 in
theorem tX12_go_0 {l : Launch} {D : zD} {B sz0 : Nat} {post : Option Value → zS → Prop} : zSnd l D B xX12_go sz0 post 0 kX12_go_0 (z_Jr post) := (s_aload_n dX12_go_0 rfl (s_iload_n dX12_go_1 rfl (s_callV (r := (RX12, TX12, 74)) dX12_go_2 mX12_isRow meX12_isRow wd1042 wd1043 rfl rfl reX12_isRow rmX12_go (fitX12_go_2) wd1044 (s_if_eq (tgt := 18) dX12_go_5 (by decide) tX12_go_18 (s_aload_n dX12_go_8 rfl (s_getR (f := 46) dX12_go_9 clX12 (by decide) rfl wd860 (s_iload_n dX12_go_12 rfl (s_iald dX12_go_13 (s_iconst dX12_go_14 (by decide) (s_icmp_ne (tgt := 20) dX12_go_15 (by decide) (s_aload_n dX12_go_20 rfl (s_callV (r := (RX12, TX12, 74)) dX12_go_21 mX12_copies meX12_copies wd1133 wd1134 rfl rfl reX12_copies rmX12_go (fitX12_go_21) wd1135 (s_aload_n dX12_go_24 rfl (s_getR (f := 47) dX12_go_25 clX12 (by decide) rfl wd856 (s_iload_n dX12_go_28 rfl (s_dup2 dX12_go_29 (s_iald dX12_go_30 (s_iconst dX12_go_31 (by decide) (s_isub dX12_go_32 (s_iast dX12_go_33 (s_aload_n dX12_go_34 rfl (s_getR (f := 47) dX12_go_35 clX12 (by decide) rfl wd856 (s_iconst dX12_go_38 (by decide) (s_bipush dX12_go_39 (by decide) (s_iload_n dX12_go_41 rfl (s_imul dX12_go_42 (s_iadd dX12_go_43 (s_aload_n dX12_go_44 rfl (s_getR (f := 47) dX12_go_45 clX12 (by decide) rfl wd856 (s_iload_n dX12_go_48 rfl (s_iald dX12_go_49 (s_iadd dX12_go_50 (s_iconst dX12_go_51 (by decide) (s_iast dX12_go_52 (s_aload_n dX12_go_53 rfl (s_callV (r := (RX12, TX12, 74)) dX12_go_54 mX12_records meX12_records wd1171 wd1172 rfl rfl reX12_records rmX12_go (fitX12_go_54) wd1173 (s_aload_n dX12_go_57 rfl (s_getR (f := 46) dX12_go_58 clX12 (by decide) rfl wd860 (s_iload_n dX12_go_61 rfl (s_iald dX12_go_62 (s_iret dX12_go_63 rfl))))))))))))))))))))))))))))))) tX12_go_18))))))))))
noncomputable def fX12_go : zF := z_fn 2 kX12_go_0
theorem mX12_go {l : Launch} {D : zD} {B : Nat} : z_MF l D B yX12_go xX12_go fX12_go := z_mf (by decide) rfl (fun h => by cases h) rfl (fun as σ r h => ⟨z_fn_len h, kX12_go_0, z_fn_run h, fun _ => tX12_go_0⟩)
/-! ===== RowChildrenModel.isShort ===== -/
theorem dX12_isShort_0 : decode cX12_isShort 0 = .ok (.iload_n 0, 1) := by decide +kernel
theorem dX12_isShort_1 : decode cX12_isShort 1 = .ok (.iconst 0, 1) := by decide +kernel
theorem dX12_isShort_2 : decode cX12_isShort 2 = .ok (.bipush 20, 2) := by decide +kernel
theorem dX12_isShort_4 : decode cX12_isShort 4 = .ok (.invokestatic 323, 3) := by decide +kernel
theorem dX12_isShort_7 : decode cX12_isShort 7 = .ok (.ireturn, 1) := by decide +kernel
def xX12_isShort : zX := (RX12, cX12_isShort, 1, (some .boolean), false, { frames := 2, cells := 0, slots := 0, locals := 112 }, 0, 0, 0, 0)
theorem rmX12_isShort : z_Rm xX12_isShort := by unfold z_Rm xX12_isShort; exact ⟨by decide, by decide⟩
theorem reX12_isShort : z_Re xX12_isShort := ⟨rfl, rfl⟩
theorem rlX12_isShort : 1 ≤ xX12_isShort.2.2.2.2.2.1.frames ∧ 21 ≤ xX12_isShort.2.2.2.2.2.1.locals := by unfold xX12_isShort; exact ⟨by decide, by decide⟩
theorem meX12_isShort : z_Me yX12_isShort xX12_isShort 1 := ⟨wd1177, wd848, by decide, by decide, by decide +kernel⟩
theorem fitX12_isShort_4 : z_Fit xX12_in xX12_isShort := by unfold z_Fit; simp only [xX12_in, xX12_isShort]; exact ⟨by decide, by decide⟩
noncomputable def kX12_isShort_0 : zK zR := (q_iload 0 (q_push 0 (q_push 20 (q_callS fX12_in 3 q_zret))))
set_option maxRecDepth 100000 in
theorem tX12_isShort_0 {l : Launch} {D : zD} {B sz0 : Nat} {post : Option Value → zS → Prop} : zSnd l D B xX12_isShort sz0 post 0 kX12_isShort_0 (z_Jr post) := (s_iload_n dX12_isShort_0 rfl (s_iconst dX12_isShort_1 (by decide) (s_bipush dX12_isShort_2 (by decide) (s_callS dX12_isShort_4 mX12_in meX12_in wd1033 rfl reX12_in rmX12_isShort (fitX12_isShort_4) wd1034 (s_zret dX12_isShort_7 rfl)))))
noncomputable def fX12_isShort : zF := z_fn 1 kX12_isShort_0
theorem mX12_isShort {l : Launch} {D : zD} {B : Nat} : z_MF l D B yX12_isShort xX12_isShort fX12_isShort := z_mf (by decide) rfl (fun h => by cases h) rfl (fun as σ r h => ⟨z_fn_len h, kX12_isShort_0, z_fn_run h, fun _ => tX12_isShort_0⟩)
/-! ===== RowChildrenModel.times ===== -/
theorem dX12_times_0 : decode cX12_times 0 = .ok (.iload_n 1, 1) := by decide +kernel
theorem dX12_times_1 : decode cX12_times 1 = .ok (.invokestatic 436, 3) := by decide +kernel
theorem dX12_times_4 : decode cX12_times 4 = .ok (.ifCond .ne 5, 3) := by decide +kernel
theorem dX12_times_7 : decode cX12_times 7 = .ok (.iconst (-1), 1) := by decide +kernel
theorem dX12_times_8 : decode cX12_times 8 = .ok (.ireturn, 1) := by decide +kernel
theorem dX12_times_9 : decode cX12_times 9 = .ok (.iload_n 1, 1) := by decide +kernel
theorem dX12_times_10 : decode cX12_times 10 = .ok (.ifCond .ne 11, 3) := by decide +kernel
theorem dX12_times_13 : decode cX12_times 13 = .ok (.aload_n 0, 1) := by decide +kernel
theorem dX12_times_14 : decode cX12_times 14 = .ok (.getfield 104, 3) := by decide +kernel
theorem dX12_times_17 : decode cX12_times 17 = .ok (.bipush 36, 2) := by decide +kernel
theorem dX12_times_19 : decode cX12_times 19 = .ok (.iaload, 1) := by decide +kernel
theorem dX12_times_20 : decode cX12_times 20 = .ok (.ireturn, 1) := by decide +kernel
theorem dX12_times_21 : decode cX12_times 21 = .ok (.aload_n 0, 1) := by decide +kernel
theorem dX12_times_22 : decode cX12_times 22 = .ok (.invokevirtual 401, 3) := by decide +kernel
theorem dX12_times_25 : decode cX12_times 25 = .ok (.aload_n 0, 1) := by decide +kernel
theorem dX12_times_26 : decode cX12_times 26 = .ok (.iload_n 1, 1) := by decide +kernel
theorem dX12_times_27 : decode cX12_times 27 = .ok (.invokevirtual 439, 3) := by decide +kernel
theorem dX12_times_30 : decode cX12_times 30 = .ok (.aload_n 0, 1) := by decide +kernel
theorem dX12_times_31 : decode cX12_times 31 = .ok (.invokevirtual 433, 3) := by decide +kernel
theorem dX12_times_34 : decode cX12_times 34 = .ok (.aload_n 0, 1) := by decide +kernel
theorem dX12_times_35 : decode cX12_times 35 = .ok (.getfield 104, 3) := by decide +kernel
theorem dX12_times_38 : decode cX12_times 38 = .ok (.bipush 36, 2) := by decide +kernel
theorem dX12_times_40 : decode cX12_times 40 = .ok (.iaload, 1) := by decide +kernel
theorem dX12_times_41 : decode cX12_times 41 = .ok (.ireturn, 1) := by decide +kernel
def xX12_times : zX := (RX12, cX12_times, 2, (some .int), false, { frames := 8, cells := 0, slots := 0, locals := 248 }, 0, 0, 0, 0)
theorem rmX12_times : z_Rm xX12_times := by unfold z_Rm xX12_times; exact ⟨by decide, by decide⟩
theorem reX12_times : z_Re xX12_times := ⟨rfl, rfl⟩
theorem rlX12_times : 1 ≤ xX12_times.2.2.2.2.2.1.frames ∧ 21 ≤ xX12_times.2.2.2.2.2.1.locals := by unfold xX12_times; exact ⟨by decide, by decide⟩
theorem meX12_times : z_Me yX12_times xX12_times 1 := ⟨wd1183, wd848, by decide, by decide, by decide +kernel⟩
theorem fitX12_times_1 : z_Fit xX12_isShort xX12_times := by unfold z_Fit; simp only [xX12_isShort, xX12_times]; exact ⟨by decide, by decide⟩
theorem fitX12_times_22 : z_Fit xX12_copies xX12_times := by unfold z_Fit; simp only [xX12_copies, xX12_times]; exact ⟨by decide, by decide⟩
theorem fitX12_times_27 : z_Fit xX12_goes xX12_times := by unfold z_Fit; simp only [xX12_goes, xX12_times]; exact ⟨by decide, by decide⟩
theorem fitX12_times_31 : z_Fit xX12_records xX12_times := by unfold z_Fit; simp only [xX12_records, xX12_times]; exact ⟨by decide, by decide⟩
noncomputable def kX12_times_0 : zK zR := (q_iload 1 (q_callS fX12_isShort 1 (q_if_ne (q_iload 1 (q_if_ne (q_aload 0 (q_callV 12 fX12_copies 0 (q_aload 0 (q_iload 1 (q_callV 12 fX12_goes 1 (q_aload 0 (q_callV 12 fX12_records 0 (q_aload 0 (q_getR 12 46 (q_push 36 (q_iald q_iret))))))))))) (q_aload 0 (q_getR 12 46 (q_push 36 (q_iald q_iret)))))) (q_push (-1) q_iret))))
set_option maxRecDepth 100000 in
theorem tX12_times_0 {l : Launch} {D : zD} {B sz0 : Nat} {post : Option Value → zS → Prop} : zSnd l D B xX12_times sz0 post 0 kX12_times_0 (z_Jr post) := (s_iload_n dX12_times_0 rfl (s_callS dX12_times_1 mX12_isShort meX12_isShort wd1178 rfl reX12_isShort rmX12_times (fitX12_times_1) wd1179 (s_if_ne (tgt := 9) dX12_times_4 (by decide) (s_iload_n dX12_times_9 rfl (s_if_ne (tgt := 21) dX12_times_10 (by decide) (s_aload_n dX12_times_21 rfl (s_callV (r := (RX12, TX12, 74)) dX12_times_22 mX12_copies meX12_copies wd1133 wd1134 rfl rfl reX12_copies rmX12_times (fitX12_times_22) wd1135 (s_aload_n dX12_times_25 rfl (s_iload_n dX12_times_26 rfl (s_callV (r := (RX12, TX12, 74)) dX12_times_27 mX12_goes meX12_goes wd1180 wd1181 rfl rfl reX12_goes rmX12_times (fitX12_times_27) wd1182 (s_aload_n dX12_times_30 rfl (s_callV (r := (RX12, TX12, 74)) dX12_times_31 mX12_records meX12_records wd1171 wd1172 rfl rfl reX12_records rmX12_times (fitX12_times_31) wd1173 (s_aload_n dX12_times_34 rfl (s_getR (f := 46) dX12_times_35 clX12 (by decide) rfl wd860 (s_bipush dX12_times_38 (by decide) (s_iald dX12_times_40 (s_iret dX12_times_41 rfl)))))))))))) (s_aload_n dX12_times_13 rfl (s_getR (f := 46) dX12_times_14 clX12 (by decide) rfl wd860 (s_bipush dX12_times_17 (by decide) (s_iald dX12_times_19 (s_iret dX12_times_20 rfl))))))) (s_iconst dX12_times_7 (by decide) (s_iret dX12_times_8 rfl)))))
noncomputable def fX12_times : zF := z_fn 2 kX12_times_0
theorem mX12_times {l : Launch} {D : zD} {B : Nat} : z_MF l D B yX12_times xX12_times fX12_times := z_mf (by decide) rfl (fun h => by cases h) rfl (fun as σ r h => ⟨z_fn_len h, kX12_times_0, z_fn_run h, fun _ => tX12_times_0⟩)
/-! ===== RowChildrenModel.undo ===== -/
theorem dX12_undo_0 : decode cX12_undo 0 = .ok (.aload_n 0, 1) := by decide +kernel
theorem dX12_undo_1 : decode cX12_undo 1 = .ok (.getfield 271, 3) := by decide +kernel
theorem dX12_undo_4 : decode cX12_undo 4 = .ok (.ifCond .ne 5, 3) := by decide +kernel
theorem dX12_undo_7 : decode cX12_undo 7 = .ok (.iconst 0, 1) := by decide +kernel
theorem dX12_undo_8 : decode cX12_undo 8 = .ok (.ireturn, 1) := by decide +kernel
theorem dX12_undo_9 : decode cX12_undo 9 = .ok (.aload_n 0, 1) := by decide +kernel
theorem dX12_undo_10 : decode cX12_undo 10 = .ok (.dup, 1) := by decide +kernel
theorem dX12_undo_11 : decode cX12_undo 11 = .ok (.getfield 271, 3) := by decide +kernel
theorem dX12_undo_14 : decode cX12_undo 14 = .ok (.iconst 1, 1) := by decide +kernel
theorem dX12_undo_15 : decode cX12_undo 15 = .ok (.isub, 1) := by decide +kernel
theorem dX12_undo_16 : decode cX12_undo 16 = .ok (.putfield 271, 3) := by decide +kernel
theorem dX12_undo_19 : decode cX12_undo 19 = .ok (.iconst 0, 1) := by decide +kernel
theorem dX12_undo_20 : decode cX12_undo 20 = .ok (.istore_n 1, 1) := by decide +kernel
theorem dX12_undo_21 : decode cX12_undo 21 = .ok (.iload_n 1, 1) := by decide +kernel
theorem dX12_undo_22 : decode cX12_undo 22 = .ok (.bipush 38, 2) := by decide +kernel
theorem dX12_undo_24 : decode cX12_undo 24 = .ok (.if_icmp .ge 29, 3) := by decide +kernel
theorem dX12_undo_27 : decode cX12_undo 27 = .ok (.aload_n 0, 1) := by decide +kernel
theorem dX12_undo_28 : decode cX12_undo 28 = .ok (.getfield 104, 3) := by decide +kernel
theorem dX12_undo_31 : decode cX12_undo 31 = .ok (.iload_n 1, 1) := by decide +kernel
theorem dX12_undo_32 : decode cX12_undo 32 = .ok (.aload_n 0, 1) := by decide +kernel
theorem dX12_undo_33 : decode cX12_undo 33 = .ok (.getfield 116, 3) := by decide +kernel
theorem dX12_undo_36 : decode cX12_undo 36 = .ok (.bipush 38, 2) := by decide +kernel
theorem dX12_undo_38 : decode cX12_undo 38 = .ok (.aload_n 0, 1) := by decide +kernel
theorem dX12_undo_39 : decode cX12_undo 39 = .ok (.getfield 271, 3) := by decide +kernel
theorem dX12_undo_42 : decode cX12_undo 42 = .ok (.imul, 1) := by decide +kernel
theorem dX12_undo_43 : decode cX12_undo 43 = .ok (.iload_n 1, 1) := by decide +kernel
theorem dX12_undo_44 : decode cX12_undo 44 = .ok (.iadd, 1) := by decide +kernel
theorem dX12_undo_45 : decode cX12_undo 45 = .ok (.iaload, 1) := by decide +kernel
theorem dX12_undo_46 : decode cX12_undo 46 = .ok (.iastore, 1) := by decide +kernel
theorem dX12_undo_47 : decode cX12_undo 47 = .ok (.iinc 1 1, 3) := by decide +kernel
theorem dX12_undo_50 : decode cX12_undo 50 = .ok (.goto (-29), 3) := by decide +kernel
theorem dX12_undo_53 : decode cX12_undo 53 = .ok (.iconst 1, 1) := by decide +kernel
theorem dX12_undo_54 : decode cX12_undo 54 = .ok (.ireturn, 1) := by decide +kernel
def xX12_undo : zX := (RX12, cX12_undo, 2, (some .boolean), false, { frames := 1, cells := 0, slots := 0, locals := 90 }, 0, 0, 0, 0)
theorem rmX12_undo : z_Rm xX12_undo := by unfold z_Rm xX12_undo; exact ⟨by decide, by decide⟩
theorem reX12_undo : z_Re xX12_undo := ⟨rfl, rfl⟩
theorem rlX12_undo : 1 ≤ xX12_undo.2.2.2.2.2.1.frames ∧ 21 ≤ xX12_undo.2.2.2.2.2.1.locals := by unfold xX12_undo; exact ⟨by decide, by decide⟩
theorem meX12_undo : z_Me yX12_undo xX12_undo 0 := ⟨wd1184, wd848, by decide, by decide, by decide +kernel⟩
noncomputable def kX12_undo_53 : zK zR := (q_push 1 q_zret)
noncomputable def bX12_undo_21 : zK ((zL × zS) ⊕ zR) := (q_iload 1 (q_push 38 (q_icmp_ge (q_dn kX12_undo_53) (q_aload 0 (q_getR 12 46 (q_iload 1 (q_aload 0 (q_getR 12 53 (q_push 38 (q_aload 0 (q_getI 12 52 (q_imul (q_iload 1 (q_iadd (q_iald (q_iast (q_iinc 1 1 q_ag)))))))))))))))))
noncomputable def kX12_undo_21 : zK zR := q_lp (bX12_undo_21)
noncomputable def kX12_undo_0 : zK zR := (q_aload 0 (q_getI 12 52 (q_if_ne (q_aload 0 (q_dup (q_getI 12 52 (q_push 1 (q_isub (q_putI 12 52 (q_push 0 (q_istore 1 kX12_undo_21)))))))) (q_push 0 q_zret))))
set_option maxRecDepth 100000 in
theorem tX12_undo_53 {l : Launch} {D : zD} {B sz0 : Nat} {post : Option Value → zS → Prop} : zSnd l D B xX12_undo sz0 post 53 kX12_undo_53 (z_Jr post) := (s_iconst dX12_undo_53 (by decide) (s_zret dX12_undo_54 rfl))
set_option maxRecDepth 100000 in
theorem tX12_undo_21 {l : Launch} {D : zD} {B sz0 : Nat} {post : Option Value → zS → Prop} : zSnd l D B xX12_undo sz0 post 21 kX12_undo_21 (z_Jr post) := s_lp (body := bX12_undo_21) (s_iload_n dX12_undo_21 rfl (s_bipush dX12_undo_22 (by decide) (s_icmp_ge (tgt := 53) dX12_undo_24 (by decide) (s_dn tX12_undo_53) (s_aload_n dX12_undo_27 rfl (s_getR (f := 46) dX12_undo_28 clX12 (by decide) rfl wd860 (s_iload_n dX12_undo_31 rfl (s_aload_n dX12_undo_32 rfl (s_getR (f := 53) dX12_undo_33 clX12 (by decide) rfl wd884 (s_bipush dX12_undo_36 (by decide) (s_aload_n dX12_undo_38 rfl (s_getI (f := 52) dX12_undo_39 clX12 (by decide) rfl wd1021 (s_imul dX12_undo_42 (s_iload_n dX12_undo_43 rfl (s_iadd dX12_undo_44 (s_iald dX12_undo_45 (s_iast dX12_undo_46 (s_iinc dX12_undo_47 (by decide) (s_goto (tgt := 21) dX12_undo_50 (by decide) s_ag))))))))))))))))))
set_option maxRecDepth 100000 in
theorem tX12_undo_0 {l : Launch} {D : zD} {B sz0 : Nat} {post : Option Value → zS → Prop} : zSnd l D B xX12_undo sz0 post 0 kX12_undo_0 (z_Jr post) := (s_aload_n dX12_undo_0 rfl (s_getI (f := 52) dX12_undo_1 clX12 (by decide) rfl wd1021 (s_if_ne (tgt := 9) dX12_undo_4 (by decide) (s_aload_n dX12_undo_9 rfl (s_dup dX12_undo_10 (s_getI (f := 52) dX12_undo_11 clX12 (by decide) rfl wd1021 (s_iconst dX12_undo_14 (by decide) (s_isub dX12_undo_15 (s_putI (f := 52) dX12_undo_16 clX12 (by decide) rfl rfl rfl wd1021 (s_iconst dX12_undo_19 (by decide) (s_istore_n dX12_undo_20 rfl tX12_undo_21)))))))) (s_iconst dX12_undo_7 (by decide) (s_zret dX12_undo_8 rfl)))))
noncomputable def fX12_undo : zF := z_fn 2 kX12_undo_0
theorem mX12_undo {l : Launch} {D : zD} {B : Nat} : z_MF l D B yX12_undo xX12_undo fX12_undo := z_mf (by decide) rfl (fun h => by cases h) rfl (fun as σ r h => ⟨z_fn_len h, kX12_undo_0, z_fn_run h, fun _ => tX12_undo_0⟩)
/-! ===== RowChildrenModel.isLength ===== -/
theorem dX12_isLength_0 : decode cX12_isLength 0 = .ok (.iload_n 0, 1) := by decide +kernel
theorem dX12_isLength_1 : decode cX12_isLength 1 = .ok (.iconst 1, 1) := by decide +kernel
theorem dX12_isLength_2 : decode cX12_isLength 2 = .ok (.bipush 8, 2) := by decide +kernel
theorem dX12_isLength_4 : decode cX12_isLength 4 = .ok (.invokestatic 323, 3) := by decide +kernel
theorem dX12_isLength_7 : decode cX12_isLength 7 = .ok (.ireturn, 1) := by decide +kernel
def xX12_isLength : zX := (RX12, cX12_isLength, 1, (some .boolean), false, { frames := 2, cells := 0, slots := 0, locals := 112 }, 0, 0, 0, 0)
theorem rmX12_isLength : z_Rm xX12_isLength := by unfold z_Rm xX12_isLength; exact ⟨by decide, by decide⟩
theorem reX12_isLength : z_Re xX12_isLength := ⟨rfl, rfl⟩
theorem rlX12_isLength : 1 ≤ xX12_isLength.2.2.2.2.2.1.frames ∧ 21 ≤ xX12_isLength.2.2.2.2.2.1.locals := by unfold xX12_isLength; exact ⟨by decide, by decide⟩
theorem meX12_isLength : z_Me yX12_isLength xX12_isLength 1 := ⟨wd1185, wd848, by decide, by decide, by decide +kernel⟩
theorem fitX12_isLength_4 : z_Fit xX12_in xX12_isLength := by unfold z_Fit; simp only [xX12_in, xX12_isLength]; exact ⟨by decide, by decide⟩
noncomputable def kX12_isLength_0 : zK zR := (q_iload 0 (q_push 1 (q_push 8 (q_callS fX12_in 3 q_zret))))
set_option maxRecDepth 100000 in
theorem tX12_isLength_0 {l : Launch} {D : zD} {B sz0 : Nat} {post : Option Value → zS → Prop} : zSnd l D B xX12_isLength sz0 post 0 kX12_isLength_0 (z_Jr post) := (s_iload_n dX12_isLength_0 rfl (s_iconst dX12_isLength_1 (by decide) (s_bipush dX12_isLength_2 (by decide) (s_callS dX12_isLength_4 mX12_in meX12_in wd1033 rfl reX12_in rmX12_isLength (fitX12_isLength_4) wd1034 (s_zret dX12_isLength_7 rfl)))))
noncomputable def fX12_isLength : zF := z_fn 1 kX12_isLength_0
theorem mX12_isLength {l : Launch} {D : zD} {B : Nat} : z_MF l D B yX12_isLength xX12_isLength fX12_isLength := z_mf (by decide) rfl (fun h => by cases h) rfl (fun as σ r h => ⟨z_fn_len h, kX12_isLength_0, z_fn_run h, fun _ => tX12_isLength_0⟩)
/-! ===== RowChildrenModel.makes ===== -/
theorem dX12_makes_0 : decode cX12_makes 0 = .ok (.aload_n 0, 1) := by decide +kernel
theorem dX12_makes_1 : decode cX12_makes 1 = .ok (.iload_n 1, 1) := by decide +kernel
theorem dX12_makes_2 : decode cX12_makes 2 = .ok (.invokevirtual 398, 3) := by decide +kernel
theorem dX12_makes_5 : decode cX12_makes 5 = .ok (.ifCond .eq 19, 3) := by decide +kernel
theorem dX12_makes_8 : decode cX12_makes 8 = .ok (.iload_n 2, 1) := by decide +kernel
theorem dX12_makes_9 : decode cX12_makes 9 = .ok (.invokestatic 442, 3) := by decide +kernel
theorem dX12_makes_12 : decode cX12_makes 12 = .ok (.ifCond .eq 12, 3) := by decide +kernel
theorem dX12_makes_15 : decode cX12_makes 15 = .ok (.iload_n 3, 1) := by decide +kernel
theorem dX12_makes_16 : decode cX12_makes 16 = .ok (.iconst 0, 1) := by decide +kernel
theorem dX12_makes_17 : decode cX12_makes 17 = .ok (.iconst 1, 1) := by decide +kernel
theorem dX12_makes_18 : decode cX12_makes 18 = .ok (.invokestatic 323, 3) := by decide +kernel
theorem dX12_makes_21 : decode cX12_makes 21 = .ok (.ifCond .ne 5, 3) := by decide +kernel
theorem dX12_makes_24 : decode cX12_makes 24 = .ok (.iconst (-1), 1) := by decide +kernel
theorem dX12_makes_25 : decode cX12_makes 25 = .ok (.ireturn, 1) := by decide +kernel
theorem dX12_makes_26 : decode cX12_makes 26 = .ok (.iconst 0, 1) := by decide +kernel
theorem dX12_makes_27 : decode cX12_makes 27 = .ok (.istore 4, 2) := by decide +kernel
theorem dX12_makes_29 : decode cX12_makes 29 = .ok (.bipush (-2), 2) := by decide +kernel
theorem dX12_makes_31 : decode cX12_makes 31 = .ok (.istore 5, 2) := by decide +kernel
theorem dX12_makes_33 : decode cX12_makes 33 = .ok (.aload_n 0, 1) := by decide +kernel
theorem dX12_makes_34 : decode cX12_makes 34 = .ok (.iload_n 2, 1) := by decide +kernel
theorem dX12_makes_35 : decode cX12_makes 35 = .ok (.invokevirtual 445, 3) := by decide +kernel
theorem dX12_makes_38 : decode cX12_makes 38 = .ok (.iconst 1, 1) := by decide +kernel
theorem dX12_makes_39 : decode cX12_makes 39 = .ok (.isub, 1) := by decide +kernel
theorem dX12_makes_40 : decode cX12_makes 40 = .ok (.istore 6, 2) := by decide +kernel
theorem dX12_makes_42 : decode cX12_makes 42 = .ok (.iload 6, 2) := by decide +kernel
theorem dX12_makes_44 : decode cX12_makes 44 = .ok (.ifCond .lt 34, 3) := by decide +kernel
theorem dX12_makes_47 : decode cX12_makes 47 = .ok (.aload_n 0, 1) := by decide +kernel
theorem dX12_makes_48 : decode cX12_makes 48 = .ok (.iload 6, 2) := by decide +kernel
theorem dX12_makes_50 : decode cX12_makes 50 = .ok (.iload_n 2, 1) := by decide +kernel
theorem dX12_makes_51 : decode cX12_makes 51 = .ok (.invokevirtual 448, 3) := by decide +kernel
theorem dX12_makes_54 : decode cX12_makes 54 = .ok (.aload_n 0, 1) := by decide +kernel
theorem dX12_makes_55 : decode cX12_makes 55 = .ok (.invokevirtual 407, 3) := by decide +kernel
theorem dX12_makes_58 : decode cX12_makes 58 = .ok (.iload_n 1, 1) := by decide +kernel
theorem dX12_makes_59 : decode cX12_makes 59 = .ok (.if_icmp .eq 6, 3) := by decide +kernel
theorem dX12_makes_62 : decode cX12_makes 62 = .ok (.goto 10, 3) := by decide +kernel
theorem dX12_makes_65 : decode cX12_makes 65 = .ok (.iinc 4 1, 3) := by decide +kernel
theorem dX12_makes_68 : decode cX12_makes 68 = .ok (.iload 6, 2) := by decide +kernel
theorem dX12_makes_70 : decode cX12_makes 70 = .ok (.istore 5, 2) := by decide +kernel
theorem dX12_makes_72 : decode cX12_makes 72 = .ok (.iinc 6 (-1), 3) := by decide +kernel
theorem dX12_makes_75 : decode cX12_makes 75 = .ok (.goto (-33), 3) := by decide +kernel
theorem dX12_makes_78 : decode cX12_makes 78 = .ok (.iload_n 3, 1) := by decide +kernel
theorem dX12_makes_79 : decode cX12_makes 79 = .ok (.ifCond .ne 8, 3) := by decide +kernel
theorem dX12_makes_82 : decode cX12_makes 82 = .ok (.iload 4, 2) := by decide +kernel
theorem dX12_makes_84 : decode cX12_makes 84 = .ok (.goto 5, 3) := by decide +kernel
theorem dX12_makes_87 : decode cX12_makes 87 = .ok (.iload 5, 2) := by decide +kernel
theorem dX12_makes_89 : decode cX12_makes 89 = .ok (.ireturn, 1) := by decide +kernel
def xX12_makes : zX := (RX12, cX12_makes, 7, (some .int), false, { frames := 5, cells := 0, slots := 0, locals := 179 }, 0, 0, 0, 0)
theorem rmX12_makes : z_Rm xX12_makes := by unfold z_Rm xX12_makes; exact ⟨by decide, by decide⟩
theorem reX12_makes : z_Re xX12_makes := ⟨rfl, rfl⟩
theorem rlX12_makes : 1 ≤ xX12_makes.2.2.2.2.2.1.frames ∧ 21 ≤ xX12_makes.2.2.2.2.2.1.locals := by unfold xX12_makes; exact ⟨by decide, by decide⟩
theorem meX12_makes : z_Me yX12_makes xX12_makes 3 := ⟨wd1194, wd848, by decide, by decide, by decide +kernel⟩
theorem fitX12_makes_2 : z_Fit xX12_isColour xX12_makes := by unfold z_Fit; simp only [xX12_isColour, xX12_makes]; exact ⟨by decide, by decide⟩
theorem fitX12_makes_9 : z_Fit xX12_isLength xX12_makes := by unfold z_Fit; simp only [xX12_isLength, xX12_makes]; exact ⟨by decide, by decide⟩
theorem fitX12_makes_18 : z_Fit xX12_in xX12_makes := by unfold z_Fit; simp only [xX12_in, xX12_makes]; exact ⟨by decide, by decide⟩
theorem fitX12_makes_35 : z_Fit xX12_rowsOf xX12_makes := by unfold z_Fit; simp only [xX12_rowsOf, xX12_makes]; exact ⟨by decide, by decide⟩
theorem fitX12_makes_51 : z_Fit xX12_laysNumber xX12_makes := by unfold z_Fit; simp only [xX12_laysNumber, xX12_makes]; exact ⟨by decide, by decide⟩
theorem fitX12_makes_55 : z_Fit xX12_lastLaid xX12_makes := by unfold z_Fit; simp only [xX12_lastLaid, xX12_makes]; exact ⟨by decide, by decide⟩
noncomputable def kX12_makes_24 : zK zR := (q_push (-1) q_iret)
noncomputable def kX12_makes_89 : zK zR := q_iret
noncomputable def kX12_makes_78 : zK zR := (q_iload 3 (q_if_ne (q_iload 5 kX12_makes_89) (q_iload 4 kX12_makes_89)))
noncomputable def kX12_makes_72 : zK ((zL × zS) ⊕ zR) := (q_iinc 6 (-1) q_ag)
noncomputable def bX12_makes_42 : zK ((zL × zS) ⊕ zR) := (q_iload 6 (q_if_lt (q_dn kX12_makes_78) (q_aload 0 (q_iload 6 (q_iload 2 (q_callV 12 fX12_laysNumber 2 (q_aload 0 (q_callV 12 fX12_lastLaid 0 (q_iload 1 (q_icmp_eq (q_iinc 4 1 (q_iload 6 (q_istore 5 kX12_makes_72))) kX12_makes_72))))))))))
noncomputable def kX12_makes_42 : zK zR := q_lp (bX12_makes_42)
noncomputable def kX12_makes_0 : zK zR := (q_aload 0 (q_iload 1 (q_callV 12 fX12_isColour 1 (q_if_eq kX12_makes_24 (q_iload 2 (q_callS fX12_isLength 1 (q_if_eq kX12_makes_24 (q_iload 3 (q_push 0 (q_push 1 (q_callS fX12_in 3 (q_if_ne (q_push 0 (q_istore 4 (q_push (-2) (q_istore 5 (q_aload 0 (q_iload 2 (q_callV 12 fX12_rowsOf 1 (q_push 1 (q_isub (q_istore 6 kX12_makes_42)))))))))) kX12_makes_24))))))))))))
set_option maxRecDepth 100000 in
theorem tX12_makes_24 {l : Launch} {D : zD} {B sz0 : Nat} {post : Option Value → zS → Prop} : zSnd l D B xX12_makes sz0 post 24 kX12_makes_24 (z_Jr post) := (s_iconst dX12_makes_24 (by decide) (s_iret dX12_makes_25 rfl))
set_option maxRecDepth 100000 in
theorem tX12_makes_89 {l : Launch} {D : zD} {B sz0 : Nat} {post : Option Value → zS → Prop} : zSnd l D B xX12_makes sz0 post 89 kX12_makes_89 (z_Jr post) := (s_iret dX12_makes_89 rfl)
set_option maxRecDepth 100000 in
theorem tX12_makes_78 {l : Launch} {D : zD} {B sz0 : Nat} {post : Option Value → zS → Prop} : zSnd l D B xX12_makes sz0 post 78 kX12_makes_78 (z_Jr post) := (s_iload_n dX12_makes_78 rfl (s_if_ne (tgt := 87) dX12_makes_79 (by decide) (s_iload dX12_makes_87 tX12_makes_89) (s_iload dX12_makes_82 (s_goto (tgt := 89) dX12_makes_84 (by decide) tX12_makes_89))))
set_option maxRecDepth 100000 in
theorem tX12_makes_72 {l : Launch} {D : zD} {B sz0 : Nat} {post : Option Value → zS → Prop} : zSnd l D B xX12_makes sz0 post 72 kX12_makes_72 (z_Jl l D B xX12_makes sz0 post 42 (z_Jr post)) := (s_iinc dX12_makes_72 (by decide) (s_goto (tgt := 42) dX12_makes_75 (by decide) s_ag))
set_option maxRecDepth 100000 in
theorem tX12_makes_42 {l : Launch} {D : zD} {B sz0 : Nat} {post : Option Value → zS → Prop} : zSnd l D B xX12_makes sz0 post 42 kX12_makes_42 (z_Jr post) := s_lp (body := bX12_makes_42) (s_iload dX12_makes_42 (s_if_lt (tgt := 78) dX12_makes_44 (by decide) (s_dn tX12_makes_78) (s_aload_n dX12_makes_47 rfl (s_iload dX12_makes_48 (s_iload_n dX12_makes_50 rfl (s_callV (r := (RX12, TX12, 74)) dX12_makes_51 mX12_laysNumber meX12_laysNumber wd1191 wd1192 rfl rfl reX12_laysNumber rmX12_makes (fitX12_makes_51) wd1193 (s_aload_n dX12_makes_54 rfl (s_callV (r := (RX12, TX12, 74)) dX12_makes_55 mX12_lastLaid meX12_lastLaid wd1139 wd1140 rfl rfl reX12_lastLaid rmX12_makes (fitX12_makes_55) wd1141 (s_iload_n dX12_makes_58 rfl (s_icmp_eq (tgt := 65) dX12_makes_59 (by decide) (s_iinc dX12_makes_65 (by decide) (s_iload dX12_makes_68 (s_istore dX12_makes_70 tX12_makes_72))) (s_goto (tgt := 72) dX12_makes_62 (by decide) tX12_makes_72)))))))))))
set_option maxRecDepth 100000 in
theorem tX12_makes_0 {l : Launch} {D : zD} {B sz0 : Nat} {post : Option Value → zS → Prop} : zSnd l D B xX12_makes sz0 post 0 kX12_makes_0 (z_Jr post) := (s_aload_n dX12_makes_0 rfl (s_iload_n dX12_makes_1 rfl (s_callV (r := (RX12, TX12, 74)) dX12_makes_2 mX12_isColour meX12_isColour wd1129 wd1130 rfl rfl reX12_isColour rmX12_makes (fitX12_makes_2) wd1131 (s_if_eq (tgt := 24) dX12_makes_5 (by decide) tX12_makes_24 (s_iload_n dX12_makes_8 rfl (s_callS dX12_makes_9 mX12_isLength meX12_isLength wd1186 rfl reX12_isLength rmX12_makes (fitX12_makes_9) wd1187 (s_if_eq (tgt := 24) dX12_makes_12 (by decide) tX12_makes_24 (s_iload_n dX12_makes_15 rfl (s_iconst dX12_makes_16 (by decide) (s_iconst dX12_makes_17 (by decide) (s_callS dX12_makes_18 mX12_in meX12_in wd1033 rfl reX12_in rmX12_makes (fitX12_makes_18) wd1034 (s_if_ne (tgt := 26) dX12_makes_21 (by decide) (s_iconst dX12_makes_26 (by decide) (s_istore dX12_makes_27 (s_bipush dX12_makes_29 (by decide) (s_istore dX12_makes_31 (s_aload_n dX12_makes_33 rfl (s_iload_n dX12_makes_34 rfl (s_callV (r := (RX12, TX12, 74)) dX12_makes_35 mX12_rowsOf meX12_rowsOf wd1188 wd1189 rfl rfl reX12_rowsOf rmX12_makes (fitX12_makes_35) wd1190 (s_iconst dX12_makes_38 (by decide) (s_isub dX12_makes_39 (s_istore dX12_makes_40 tX12_makes_42)))))))))) tX12_makes_24))))))))))))
noncomputable def fX12_makes : zF := z_fn 7 kX12_makes_0
theorem mX12_makes {l : Launch} {D : zD} {B : Nat} : z_MF l D B yX12_makes xX12_makes fX12_makes := z_mf (by decide) rfl (fun h => by cases h) rfl (fun as σ r h => ⟨z_fn_len h, kX12_makes_0, z_fn_run h, fun _ => tX12_makes_0⟩)
/-! ===== RowChildrenModel.fillsCosts ===== -/
theorem dX12_fillsCosts_0 : decode cX12_fillsCosts 0 = .ok (.iconst 0, 1) := by decide +kernel
theorem dX12_fillsCosts_1 : decode cX12_fillsCosts 1 = .ok (.istore_n 2, 1) := by decide +kernel
theorem dX12_fillsCosts_2 : decode cX12_fillsCosts 2 = .ok (.iload_n 2, 1) := by decide +kernel
theorem dX12_fillsCosts_3 : decode cX12_fillsCosts 3 = .ok (.aload_n 0, 1) := by decide +kernel
theorem dX12_fillsCosts_4 : decode cX12_fillsCosts 4 = .ok (.getfield 107, 3) := by decide +kernel
theorem dX12_fillsCosts_7 : decode cX12_fillsCosts 7 = .ok (.iload_n 1, 1) := by decide +kernel
theorem dX12_fillsCosts_8 : decode cX12_fillsCosts 8 = .ok (.iaload, 1) := by decide +kernel
theorem dX12_fillsCosts_9 : decode cX12_fillsCosts 9 = .ok (.if_icmp .ge 56, 3) := by decide +kernel
theorem dX12_fillsCosts_12 : decode cX12_fillsCosts 12 = .ok (.iconst 0, 1) := by decide +kernel
theorem dX12_fillsCosts_13 : decode cX12_fillsCosts 13 = .ok (.istore_n 3, 1) := by decide +kernel
theorem dX12_fillsCosts_14 : decode cX12_fillsCosts 14 = .ok (.iload_n 3, 1) := by decide +kernel
theorem dX12_fillsCosts_15 : decode cX12_fillsCosts 15 = .ok (.aload_n 0, 1) := by decide +kernel
theorem dX12_fillsCosts_16 : decode cX12_fillsCosts 16 = .ok (.invokevirtual 327, 3) := by decide +kernel
theorem dX12_fillsCosts_19 : decode cX12_fillsCosts 19 = .ok (.if_icmp .ge 40, 3) := by decide +kernel
theorem dX12_fillsCosts_22 : decode cX12_fillsCosts 22 = .ok (.aload_n 0, 1) := by decide +kernel
theorem dX12_fillsCosts_23 : decode cX12_fillsCosts 23 = .ok (.getfield 119, 3) := by decide +kernel
theorem dX12_fillsCosts_26 : decode cX12_fillsCosts 26 = .ok (.iconst 4, 1) := by decide +kernel
theorem dX12_fillsCosts_27 : decode cX12_fillsCosts 27 = .ok (.iload_n 2, 1) := by decide +kernel
theorem dX12_fillsCosts_28 : decode cX12_fillsCosts 28 = .ok (.imul, 1) := by decide +kernel
theorem dX12_fillsCosts_29 : decode cX12_fillsCosts 29 = .ok (.iload_n 3, 1) := by decide +kernel
theorem dX12_fillsCosts_30 : decode cX12_fillsCosts 30 = .ok (.iadd, 1) := by decide +kernel
theorem dX12_fillsCosts_31 : decode cX12_fillsCosts 31 = .ok (.aload_n 0, 1) := by decide +kernel
theorem dX12_fillsCosts_32 : decode cX12_fillsCosts 32 = .ok (.iload_n 1, 1) := by decide +kernel
theorem dX12_fillsCosts_33 : decode cX12_fillsCosts 33 = .ok (.iload_n 2, 1) := by decide +kernel
theorem dX12_fillsCosts_34 : decode cX12_fillsCosts 34 = .ok (.invokevirtual 349, 3) := by decide +kernel
theorem dX12_fillsCosts_37 : decode cX12_fillsCosts 37 = .ok (.iload_n 3, 1) := by decide +kernel
theorem dX12_fillsCosts_38 : decode cX12_fillsCosts 38 = .ok (.if_icmp .ne 7, 3) := by decide +kernel
theorem dX12_fillsCosts_41 : decode cX12_fillsCosts 41 = .ok (.iconst 0, 1) := by decide +kernel
theorem dX12_fillsCosts_42 : decode cX12_fillsCosts 42 = .ok (.goto 10, 3) := by decide +kernel
theorem dX12_fillsCosts_45 : decode cX12_fillsCosts 45 = .ok (.aload_n 0, 1) := by decide +kernel
theorem dX12_fillsCosts_46 : decode cX12_fillsCosts 46 = .ok (.iload_n 1, 1) := by decide +kernel
theorem dX12_fillsCosts_47 : decode cX12_fillsCosts 47 = .ok (.iload_n 2, 1) := by decide +kernel
theorem dX12_fillsCosts_48 : decode cX12_fillsCosts 48 = .ok (.iload_n 3, 1) := by decide +kernel
theorem dX12_fillsCosts_49 : decode cX12_fillsCosts 49 = .ok (.invokevirtual 430, 3) := by decide +kernel
theorem dX12_fillsCosts_52 : decode cX12_fillsCosts 52 = .ok (.iastore, 1) := by decide +kernel
theorem dX12_fillsCosts_53 : decode cX12_fillsCosts 53 = .ok (.iinc 3 1, 3) := by decide +kernel
theorem dX12_fillsCosts_56 : decode cX12_fillsCosts 56 = .ok (.goto (-42), 3) := by decide +kernel
theorem dX12_fillsCosts_59 : decode cX12_fillsCosts 59 = .ok (.iinc 2 1, 3) := by decide +kernel
theorem dX12_fillsCosts_62 : decode cX12_fillsCosts 62 = .ok (.goto (-60), 3) := by decide +kernel
theorem dX12_fillsCosts_65 : decode cX12_fillsCosts 65 = .ok (.return_, 1) := by decide +kernel
def xX12_fillsCosts : zX := (RX12, cX12_fillsCosts, 4, none, false, { frames := 5, cells := 0, slots := 0, locals := 183 }, 0, 0, 0, 0)
theorem rmX12_fillsCosts : z_Rm xX12_fillsCosts := by unfold z_Rm xX12_fillsCosts; exact ⟨by decide, by decide⟩
theorem reX12_fillsCosts : z_Re xX12_fillsCosts := ⟨rfl, rfl⟩
theorem rlX12_fillsCosts : 1 ≤ xX12_fillsCosts.2.2.2.2.2.1.frames ∧ 21 ≤ xX12_fillsCosts.2.2.2.2.2.1.locals := by unfold xX12_fillsCosts; exact ⟨by decide, by decide⟩
theorem meX12_fillsCosts : z_Me yX12_fillsCosts xX12_fillsCosts 1 := ⟨wd1195, wd848, by decide, by decide, by decide +kernel⟩
theorem fitX12_fillsCosts_16 : z_Fit xX12_base xX12_fillsCosts := by unfold z_Fit; simp only [xX12_base, xX12_fillsCosts]; exact ⟨by decide, by decide⟩
theorem fitX12_fillsCosts_34 : z_Fit xX12_seatAt xX12_fillsCosts := by unfold z_Fit; simp only [xX12_seatAt, xX12_fillsCosts]; exact ⟨by decide, by decide⟩
theorem fitX12_fillsCosts_49 : z_Fit xX12_costsOf xX12_fillsCosts := by unfold z_Fit; simp only [xX12_costsOf, xX12_fillsCosts]; exact ⟨by decide, by decide⟩
noncomputable def kX12_fillsCosts_65 : zK zR := q_vret
noncomputable def kX12_fillsCosts_59 : zK ((zL × zS) ⊕ zR) := (q_iinc 2 1 q_ag)
noncomputable def kX12_fillsCosts_52 : zK ((zL × zS) ⊕ ((zL × zS) ⊕ zR)) := (q_iast (q_iinc 3 1 q_ag))
noncomputable def bX12_fillsCosts_14 : zK ((zL × zS) ⊕ ((zL × zS) ⊕ zR)) := (q_iload 3 (q_aload 0 (q_callV 12 fX12_base 0 (q_icmp_ge (q_dn kX12_fillsCosts_59) (q_aload 0 (q_getR 12 54 (q_push 4 (q_iload 2 (q_imul (q_iload 3 (q_iadd (q_aload 0 (q_iload 1 (q_iload 2 (q_callV 12 fX12_seatAt 2 (q_iload 3 (q_icmp_ne (q_aload 0 (q_iload 1 (q_iload 2 (q_iload 3 (q_callV 12 fX12_costsOf 3 kX12_fillsCosts_52))))) (q_push 0 kX12_fillsCosts_52))))))))))))))))))
noncomputable def kX12_fillsCosts_14 : zK ((zL × zS) ⊕ zR) := q_lp (bX12_fillsCosts_14)
noncomputable def bX12_fillsCosts_2 : zK ((zL × zS) ⊕ zR) := (q_iload 2 (q_aload 0 (q_getR 12 47 (q_iload 1 (q_iald (q_icmp_ge (q_dn kX12_fillsCosts_65) (q_push 0 (q_istore 3 kX12_fillsCosts_14))))))))
noncomputable def kX12_fillsCosts_2 : zK zR := q_lp (bX12_fillsCosts_2)
noncomputable def kX12_fillsCosts_0 : zK zR := (q_push 0 (q_istore 2 kX12_fillsCosts_2))
set_option maxRecDepth 100000 in
theorem tX12_fillsCosts_65 {l : Launch} {D : zD} {B sz0 : Nat} {post : Option Value → zS → Prop} : zSnd l D B xX12_fillsCosts sz0 post 65 kX12_fillsCosts_65 (z_Jr post) := (s_vret dX12_fillsCosts_65 rfl)
set_option maxRecDepth 100000 in
theorem tX12_fillsCosts_59 {l : Launch} {D : zD} {B sz0 : Nat} {post : Option Value → zS → Prop} : zSnd l D B xX12_fillsCosts sz0 post 59 kX12_fillsCosts_59 (z_Jl l D B xX12_fillsCosts sz0 post 2 (z_Jr post)) := (s_iinc dX12_fillsCosts_59 (by decide) (s_goto (tgt := 2) dX12_fillsCosts_62 (by decide) s_ag))
set_option maxRecDepth 100000 in
theorem tX12_fillsCosts_52 {l : Launch} {D : zD} {B sz0 : Nat} {post : Option Value → zS → Prop} : zSnd l D B xX12_fillsCosts sz0 post 52 kX12_fillsCosts_52 (z_Jl l D B xX12_fillsCosts sz0 post 14 (z_Jl l D B xX12_fillsCosts sz0 post 2 (z_Jr post))) := (s_iast dX12_fillsCosts_52 (s_iinc dX12_fillsCosts_53 (by decide) (s_goto (tgt := 14) dX12_fillsCosts_56 (by decide) s_ag)))
set_option maxRecDepth 100000 in
theorem tX12_fillsCosts_14 {l : Launch} {D : zD} {B sz0 : Nat} {post : Option Value → zS → Prop} : zSnd l D B xX12_fillsCosts sz0 post 14 kX12_fillsCosts_14 (z_Jl l D B xX12_fillsCosts sz0 post 2 (z_Jr post)) := s_lp (body := bX12_fillsCosts_14) (s_iload_n dX12_fillsCosts_14 rfl (s_aload_n dX12_fillsCosts_15 rfl (s_callV (r := (RX12, TX12, 74)) dX12_fillsCosts_16 mX12_base meX12_base wd1036 wd1037 rfl rfl reX12_base rmX12_fillsCosts (fitX12_fillsCosts_16) wd1038 (s_icmp_ge (tgt := 59) dX12_fillsCosts_19 (by decide) (s_dn tX12_fillsCosts_59) (s_aload_n dX12_fillsCosts_22 rfl (s_getR (f := 54) dX12_fillsCosts_23 clX12 (by decide) rfl wd885 (s_iconst dX12_fillsCosts_26 (by decide) (s_iload_n dX12_fillsCosts_27 rfl (s_imul dX12_fillsCosts_28 (s_iload_n dX12_fillsCosts_29 rfl (s_iadd dX12_fillsCosts_30 (s_aload_n dX12_fillsCosts_31 rfl (s_iload_n dX12_fillsCosts_32 rfl (s_iload_n dX12_fillsCosts_33 rfl (s_callV (r := (RX12, TX12, 74)) dX12_fillsCosts_34 mX12_seatAt meX12_seatAt wd1064 wd1065 rfl rfl reX12_seatAt rmX12_fillsCosts (fitX12_fillsCosts_34) wd1066 (s_iload_n dX12_fillsCosts_37 rfl (s_icmp_ne (tgt := 45) dX12_fillsCosts_38 (by decide) (s_aload_n dX12_fillsCosts_45 rfl (s_iload_n dX12_fillsCosts_46 rfl (s_iload_n dX12_fillsCosts_47 rfl (s_iload_n dX12_fillsCosts_48 rfl (s_callV (r := (RX12, TX12, 74)) dX12_fillsCosts_49 mX12_costsOf meX12_costsOf wd1166 wd1167 rfl rfl reX12_costsOf rmX12_fillsCosts (fitX12_fillsCosts_49) wd1168 tX12_fillsCosts_52))))) (s_iconst dX12_fillsCosts_41 (by decide) (s_goto (tgt := 52) dX12_fillsCosts_42 (by decide) tX12_fillsCosts_52)))))))))))))))))))
set_option maxRecDepth 100000 in
theorem tX12_fillsCosts_2 {l : Launch} {D : zD} {B sz0 : Nat} {post : Option Value → zS → Prop} : zSnd l D B xX12_fillsCosts sz0 post 2 kX12_fillsCosts_2 (z_Jr post) := s_lp (body := bX12_fillsCosts_2) (s_iload_n dX12_fillsCosts_2 rfl (s_aload_n dX12_fillsCosts_3 rfl (s_getR (f := 47) dX12_fillsCosts_4 clX12 (by decide) rfl wd856 (s_iload_n dX12_fillsCosts_7 rfl (s_iald dX12_fillsCosts_8 (s_icmp_ge (tgt := 65) dX12_fillsCosts_9 (by decide) (s_dn tX12_fillsCosts_65) (s_iconst dX12_fillsCosts_12 (by decide) (s_istore_n dX12_fillsCosts_13 rfl tX12_fillsCosts_14))))))))
set_option maxRecDepth 100000 in
theorem tX12_fillsCosts_0 {l : Launch} {D : zD} {B sz0 : Nat} {post : Option Value → zS → Prop} : zSnd l D B xX12_fillsCosts sz0 post 0 kX12_fillsCosts_0 (z_Jr post) := (s_iconst dX12_fillsCosts_0 (by decide) (s_istore_n dX12_fillsCosts_1 rfl tX12_fillsCosts_2))
noncomputable def fX12_fillsCosts : zF := z_fn 4 kX12_fillsCosts_0
theorem mX12_fillsCosts {l : Launch} {D : zD} {B : Nat} : z_MF l D B yX12_fillsCosts xX12_fillsCosts fX12_fillsCosts := z_mf (by decide) rfl (fun h => by cases h) rfl (fun as σ r h => ⟨z_fn_len h, kX12_fillsCosts_0, z_fn_run h, fun _ => tX12_fillsCosts_0⟩)
/-! ===== RowChildrenModel.costLaid ===== -/
theorem dX12_costLaid_0 : decode cX12_costLaid 0 = .ok (.iconst 0, 1) := by decide +kernel
theorem dX12_costLaid_1 : decode cX12_costLaid 1 = .ok (.istore_n 1, 1) := by decide +kernel
theorem dX12_costLaid_2 : decode cX12_costLaid 2 = .ok (.iconst 0, 1) := by decide +kernel
theorem dX12_costLaid_3 : decode cX12_costLaid 3 = .ok (.istore_n 2, 1) := by decide +kernel
theorem dX12_costLaid_4 : decode cX12_costLaid 4 = .ok (.iload_n 2, 1) := by decide +kernel
theorem dX12_costLaid_5 : decode cX12_costLaid 5 = .ok (.aload_n 0, 1) := by decide +kernel
theorem dX12_costLaid_6 : decode cX12_costLaid 6 = .ok (.getfield 340, 3) := by decide +kernel
theorem dX12_costLaid_9 : decode cX12_costLaid 9 = .ok (.if_icmp .ge 27, 3) := by decide +kernel
theorem dX12_costLaid_12 : decode cX12_costLaid 12 = .ok (.iload_n 1, 1) := by decide +kernel
theorem dX12_costLaid_13 : decode cX12_costLaid 13 = .ok (.aload_n 0, 1) := by decide +kernel
theorem dX12_costLaid_14 : decode cX12_costLaid 14 = .ok (.getfield 119, 3) := by decide +kernel
theorem dX12_costLaid_17 : decode cX12_costLaid 17 = .ok (.iconst 4, 1) := by decide +kernel
theorem dX12_costLaid_18 : decode cX12_costLaid 18 = .ok (.iload_n 2, 1) := by decide +kernel
theorem dX12_costLaid_19 : decode cX12_costLaid 19 = .ok (.imul, 1) := by decide +kernel
theorem dX12_costLaid_20 : decode cX12_costLaid 20 = .ok (.aload_n 0, 1) := by decide +kernel
theorem dX12_costLaid_21 : decode cX12_costLaid 21 = .ok (.getfield 110, 3) := by decide +kernel
theorem dX12_costLaid_24 : decode cX12_costLaid 24 = .ok (.iload_n 2, 1) := by decide +kernel
theorem dX12_costLaid_25 : decode cX12_costLaid 25 = .ok (.iaload, 1) := by decide +kernel
theorem dX12_costLaid_26 : decode cX12_costLaid 26 = .ok (.iadd, 1) := by decide +kernel
theorem dX12_costLaid_27 : decode cX12_costLaid 27 = .ok (.iaload, 1) := by decide +kernel
theorem dX12_costLaid_28 : decode cX12_costLaid 28 = .ok (.iadd, 1) := by decide +kernel
theorem dX12_costLaid_29 : decode cX12_costLaid 29 = .ok (.istore_n 1, 1) := by decide +kernel
theorem dX12_costLaid_30 : decode cX12_costLaid 30 = .ok (.iinc 2 1, 3) := by decide +kernel
theorem dX12_costLaid_33 : decode cX12_costLaid 33 = .ok (.goto (-29), 3) := by decide +kernel
theorem dX12_costLaid_36 : decode cX12_costLaid 36 = .ok (.iload_n 1, 1) := by decide +kernel
theorem dX12_costLaid_37 : decode cX12_costLaid 37 = .ok (.ireturn, 1) := by decide +kernel
def xX12_costLaid : zX := (RX12, cX12_costLaid, 3, (some .int), false, { frames := 1, cells := 0, slots := 0, locals := 90 }, 0, 0, 0, 0)
theorem rmX12_costLaid : z_Rm xX12_costLaid := by unfold z_Rm xX12_costLaid; exact ⟨by decide, by decide⟩
theorem reX12_costLaid : z_Re xX12_costLaid := ⟨rfl, rfl⟩
theorem rlX12_costLaid : 1 ≤ xX12_costLaid.2.2.2.2.2.1.frames ∧ 21 ≤ xX12_costLaid.2.2.2.2.2.1.locals := by unfold xX12_costLaid; exact ⟨by decide, by decide⟩
theorem meX12_costLaid : z_Me yX12_costLaid xX12_costLaid 0 := ⟨wd1196, wd848, by decide, by decide, by decide +kernel⟩
noncomputable def kX12_costLaid_36 : zK zR := (q_iload 1 q_iret)
noncomputable def bX12_costLaid_4 : zK ((zL × zS) ⊕ zR) := (q_iload 2 (q_aload 0 (q_getI 12 50 (q_icmp_ge (q_dn kX12_costLaid_36) (q_iload 1 (q_aload 0 (q_getR 12 54 (q_push 4 (q_iload 2 (q_imul (q_aload 0 (q_getR 12 49 (q_iload 2 (q_iald (q_iadd (q_iald (q_iadd (q_istore 1 (q_iinc 2 1 q_ag)))))))))))))))))))
noncomputable def kX12_costLaid_4 : zK zR := q_lp (bX12_costLaid_4)
noncomputable def kX12_costLaid_0 : zK zR := (q_push 0 (q_istore 1 (q_push 0 (q_istore 2 kX12_costLaid_4))))
set_option maxRecDepth 100000 in
theorem tX12_costLaid_36 {l : Launch} {D : zD} {B sz0 : Nat} {post : Option Value → zS → Prop} : zSnd l D B xX12_costLaid sz0 post 36 kX12_costLaid_36 (z_Jr post) := (s_iload_n dX12_costLaid_36 rfl (s_iret dX12_costLaid_37 rfl))
set_option maxRecDepth 100000 in
theorem tX12_costLaid_4 {l : Launch} {D : zD} {B sz0 : Nat} {post : Option Value → zS → Prop} : zSnd l D B xX12_costLaid sz0 post 4 kX12_costLaid_4 (z_Jr post) := s_lp (body := bX12_costLaid_4) (s_iload_n dX12_costLaid_4 rfl (s_aload_n dX12_costLaid_5 rfl (s_getI (f := 50) dX12_costLaid_6 clX12 (by decide) rfl wd1053 (s_icmp_ge (tgt := 36) dX12_costLaid_9 (by decide) (s_dn tX12_costLaid_36) (s_iload_n dX12_costLaid_12 rfl (s_aload_n dX12_costLaid_13 rfl (s_getR (f := 54) dX12_costLaid_14 clX12 (by decide) rfl wd885 (s_iconst dX12_costLaid_17 (by decide) (s_iload_n dX12_costLaid_18 rfl (s_imul dX12_costLaid_19 (s_aload_n dX12_costLaid_20 rfl (s_getR (f := 49) dX12_costLaid_21 clX12 (by decide) rfl wd882 (s_iload_n dX12_costLaid_24 rfl (s_iald dX12_costLaid_25 (s_iadd dX12_costLaid_26 (s_iald dX12_costLaid_27 (s_iadd dX12_costLaid_28 (s_istore_n dX12_costLaid_29 rfl (s_iinc dX12_costLaid_30 (by decide) (s_goto (tgt := 4) dX12_costLaid_33 (by decide) s_ag))))))))))))))))))))
set_option maxRecDepth 100000 in
theorem tX12_costLaid_0 {l : Launch} {D : zD} {B sz0 : Nat} {post : Option Value → zS → Prop} : zSnd l D B xX12_costLaid sz0 post 0 kX12_costLaid_0 (z_Jr post) := (s_iconst dX12_costLaid_0 (by decide) (s_istore_n dX12_costLaid_1 rfl (s_iconst dX12_costLaid_2 (by decide) (s_istore_n dX12_costLaid_3 rfl tX12_costLaid_4))))
noncomputable def fX12_costLaid : zF := z_fn 3 kX12_costLaid_0
theorem mX12_costLaid {l : Launch} {D : zD} {B : Nat} : z_MF l D B yX12_costLaid xX12_costLaid fX12_costLaid := z_mf (by decide) rfl (fun h => by cases h) rfl (fun as σ r h => ⟨z_fn_len h, kX12_costLaid_0, z_fn_run h, fun _ => tX12_costLaid_0⟩)
/-! ===== RowChildrenModel.repaint ===== -/
theorem dX12_repaint_0 : decode cX12_repaint 0 = .ok (.aload_n 0, 1) := by decide +kernel
theorem dX12_repaint_1 : decode cX12_repaint 1 = .ok (.iload_n 1, 1) := by decide +kernel
theorem dX12_repaint_2 : decode cX12_repaint 2 = .ok (.invokevirtual 330, 3) := by decide +kernel
theorem dX12_repaint_5 : decode cX12_repaint 5 = .ok (.ifCond .eq 20, 3) := by decide +kernel
theorem dX12_repaint_8 : decode cX12_repaint 8 = .ok (.aload_n 0, 1) := by decide +kernel
theorem dX12_repaint_9 : decode cX12_repaint 9 = .ok (.iload_n 2, 1) := by decide +kernel
theorem dX12_repaint_10 : decode cX12_repaint 10 = .ok (.invokevirtual 398, 3) := by decide +kernel
theorem dX12_repaint_13 : decode cX12_repaint 13 = .ok (.ifCond .eq 12, 3) := by decide +kernel
theorem dX12_repaint_16 : decode cX12_repaint 16 = .ok (.iload_n 3, 1) := by decide +kernel
theorem dX12_repaint_17 : decode cX12_repaint 17 = .ok (.iconst 0, 1) := by decide +kernel
theorem dX12_repaint_18 : decode cX12_repaint 18 = .ok (.iconst 1, 1) := by decide +kernel
theorem dX12_repaint_19 : decode cX12_repaint 19 = .ok (.invokestatic 323, 3) := by decide +kernel
theorem dX12_repaint_22 : decode cX12_repaint 22 = .ok (.ifCond .ne 5, 3) := by decide +kernel
theorem dX12_repaint_25 : decode cX12_repaint 25 = .ok (.iconst (-1), 1) := by decide +kernel
theorem dX12_repaint_26 : decode cX12_repaint 26 = .ok (.ireturn, 1) := by decide +kernel
theorem dX12_repaint_27 : decode cX12_repaint 27 = .ok (.aload_n 0, 1) := by decide +kernel
theorem dX12_repaint_28 : decode cX12_repaint 28 = .ok (.invokevirtual 401, 3) := by decide +kernel
theorem dX12_repaint_31 : decode cX12_repaint 31 = .ok (.aload_n 0, 1) := by decide +kernel
theorem dX12_repaint_32 : decode cX12_repaint 32 = .ok (.iload_n 1, 1) := by decide +kernel
theorem dX12_repaint_33 : decode cX12_repaint 33 = .ok (.invokevirtual 451, 3) := by decide +kernel
theorem dX12_repaint_36 : decode cX12_repaint 36 = .ok (.bipush (-2), 2) := by decide +kernel
theorem dX12_repaint_38 : decode cX12_repaint 38 = .ok (.istore 4, 2) := by decide +kernel
theorem dX12_repaint_40 : decode cX12_repaint 40 = .ok (.bipush (-2), 2) := by decide +kernel
theorem dX12_repaint_42 : decode cX12_repaint 42 = .ok (.istore 5, 2) := by decide +kernel
theorem dX12_repaint_44 : decode cX12_repaint 44 = .ok (.iconst 0, 1) := by decide +kernel
theorem dX12_repaint_45 : decode cX12_repaint 45 = .ok (.istore 6, 2) := by decide +kernel
theorem dX12_repaint_47 : decode cX12_repaint 47 = .ok (.iload 6, 2) := by decide +kernel
theorem dX12_repaint_49 : decode cX12_repaint 49 = .ok (.aload_n 0, 1) := by decide +kernel
theorem dX12_repaint_50 : decode cX12_repaint 50 = .ok (.aload_n 0, 1) := by decide +kernel
theorem dX12_repaint_51 : decode cX12_repaint 51 = .ok (.getfield 107, 3) := by decide +kernel
theorem dX12_repaint_54 : decode cX12_repaint 54 = .ok (.iload_n 1, 1) := by decide +kernel
theorem dX12_repaint_55 : decode cX12_repaint 55 = .ok (.iaload, 1) := by decide +kernel
theorem dX12_repaint_56 : decode cX12_repaint 56 = .ok (.invokevirtual 445, 3) := by decide +kernel
theorem dX12_repaint_59 : decode cX12_repaint 59 = .ok (.if_icmp .ge 56, 3) := by decide +kernel
theorem dX12_repaint_62 : decode cX12_repaint 62 = .ok (.aload_n 0, 1) := by decide +kernel
theorem dX12_repaint_63 : decode cX12_repaint 63 = .ok (.iload 6, 2) := by decide +kernel
theorem dX12_repaint_65 : decode cX12_repaint 65 = .ok (.aload_n 0, 1) := by decide +kernel
theorem dX12_repaint_66 : decode cX12_repaint 66 = .ok (.getfield 107, 3) := by decide +kernel
theorem dX12_repaint_69 : decode cX12_repaint 69 = .ok (.iload_n 1, 1) := by decide +kernel
theorem dX12_repaint_70 : decode cX12_repaint 70 = .ok (.iaload, 1) := by decide +kernel
theorem dX12_repaint_71 : decode cX12_repaint 71 = .ok (.invokevirtual 448, 3) := by decide +kernel
theorem dX12_repaint_74 : decode cX12_repaint 74 = .ok (.aload_n 0, 1) := by decide +kernel
theorem dX12_repaint_75 : decode cX12_repaint 75 = .ok (.invokevirtual 407, 3) := by decide +kernel
theorem dX12_repaint_78 : decode cX12_repaint 78 = .ok (.iload_n 2, 1) := by decide +kernel
theorem dX12_repaint_79 : decode cX12_repaint 79 = .ok (.if_icmp .ne 30, 3) := by decide +kernel
theorem dX12_repaint_82 : decode cX12_repaint 82 = .ok (.iload 4, 2) := by decide +kernel
theorem dX12_repaint_84 : decode cX12_repaint 84 = .ok (.ifCond .lt 15, 3) := by decide +kernel
theorem dX12_repaint_87 : decode cX12_repaint 87 = .ok (.aload_n 0, 1) := by decide +kernel
theorem dX12_repaint_88 : decode cX12_repaint 88 = .ok (.invokevirtual 454, 3) := by decide +kernel
theorem dX12_repaint_91 : decode cX12_repaint 91 = .ok (.iload 5, 2) := by decide +kernel
theorem dX12_repaint_93 : decode cX12_repaint 93 = .ok (.if_icmp .lt 6, 3) := by decide +kernel
theorem dX12_repaint_96 : decode cX12_repaint 96 = .ok (.goto 13, 3) := by decide +kernel
theorem dX12_repaint_99 : decode cX12_repaint 99 = .ok (.iload 6, 2) := by decide +kernel
theorem dX12_repaint_101 : decode cX12_repaint 101 = .ok (.istore 4, 2) := by decide +kernel
theorem dX12_repaint_103 : decode cX12_repaint 103 = .ok (.aload_n 0, 1) := by decide +kernel
theorem dX12_repaint_104 : decode cX12_repaint 104 = .ok (.invokevirtual 454, 3) := by decide +kernel
theorem dX12_repaint_107 : decode cX12_repaint 107 = .ok (.istore 5, 2) := by decide +kernel
theorem dX12_repaint_109 : decode cX12_repaint 109 = .ok (.iinc 6 1, 3) := by decide +kernel
theorem dX12_repaint_112 : decode cX12_repaint 112 = .ok (.goto (-65), 3) := by decide +kernel
theorem dX12_repaint_115 : decode cX12_repaint 115 = .ok (.iload_n 3, 1) := by decide +kernel
theorem dX12_repaint_116 : decode cX12_repaint 116 = .ok (.ifCond .ne 8, 3) := by decide +kernel
theorem dX12_repaint_119 : decode cX12_repaint 119 = .ok (.iload 5, 2) := by decide +kernel
theorem dX12_repaint_121 : decode cX12_repaint 121 = .ok (.goto 5, 3) := by decide +kernel
theorem dX12_repaint_124 : decode cX12_repaint 124 = .ok (.iload 4, 2) := by decide +kernel
theorem dX12_repaint_126 : decode cX12_repaint 126 = .ok (.ireturn, 1) := by decide +kernel
def xX12_repaint : zX := (RX12, cX12_repaint, 7, (some .int), false, { frames := 6, cells := 0, slots := 0, locals := 206 }, 0, 0, 0, 0)
theorem rmX12_repaint : z_Rm xX12_repaint := by unfold z_Rm xX12_repaint; exact ⟨by decide, by decide⟩
theorem reX12_repaint : z_Re xX12_repaint := ⟨rfl, rfl⟩
theorem rlX12_repaint : 1 ≤ xX12_repaint.2.2.2.2.2.1.frames ∧ 21 ≤ xX12_repaint.2.2.2.2.2.1.locals := by unfold xX12_repaint; exact ⟨by decide, by decide⟩
theorem meX12_repaint : z_Me yX12_repaint xX12_repaint 3 := ⟨wd1203, wd848, by decide, by decide, by decide +kernel⟩
theorem fitX12_repaint_2 : z_Fit xX12_isRow xX12_repaint := by unfold z_Fit; simp only [xX12_isRow, xX12_repaint]; exact ⟨by decide, by decide⟩
theorem fitX12_repaint_10 : z_Fit xX12_isColour xX12_repaint := by unfold z_Fit; simp only [xX12_isColour, xX12_repaint]; exact ⟨by decide, by decide⟩
theorem fitX12_repaint_19 : z_Fit xX12_in xX12_repaint := by unfold z_Fit; simp only [xX12_in, xX12_repaint]; exact ⟨by decide, by decide⟩
theorem fitX12_repaint_28 : z_Fit xX12_copies xX12_repaint := by unfold z_Fit; simp only [xX12_copies, xX12_repaint]; exact ⟨by decide, by decide⟩
theorem fitX12_repaint_33 : z_Fit xX12_fillsCosts xX12_repaint := by unfold z_Fit; simp only [xX12_fillsCosts, xX12_repaint]; exact ⟨by decide, by decide⟩
theorem fitX12_repaint_56 : z_Fit xX12_rowsOf xX12_repaint := by unfold z_Fit; simp only [xX12_rowsOf, xX12_repaint]; exact ⟨by decide, by decide⟩
theorem fitX12_repaint_71 : z_Fit xX12_laysNumber xX12_repaint := by unfold z_Fit; simp only [xX12_laysNumber, xX12_repaint]; exact ⟨by decide, by decide⟩
theorem fitX12_repaint_75 : z_Fit xX12_lastLaid xX12_repaint := by unfold z_Fit; simp only [xX12_lastLaid, xX12_repaint]; exact ⟨by decide, by decide⟩
theorem fitX12_repaint_104 : z_Fit xX12_costLaid xX12_repaint := by unfold z_Fit; simp only [xX12_costLaid, xX12_repaint]; exact ⟨by decide, by decide⟩
theorem fitX12_repaint_88 : z_Fit xX12_costLaid xX12_repaint := by unfold z_Fit; simp only [xX12_costLaid, xX12_repaint]; exact ⟨by decide, by decide⟩
noncomputable def kX12_repaint_25 : zK zR := (q_push (-1) q_iret)
noncomputable def kX12_repaint_126 : zK zR := q_iret
noncomputable def kX12_repaint_115 : zK zR := (q_iload 3 (q_if_ne (q_iload 4 kX12_repaint_126) (q_iload 5 kX12_repaint_126)))
noncomputable def kX12_repaint_109 : zK ((zL × zS) ⊕ zR) := (q_iinc 6 1 q_ag)
noncomputable def kX12_repaint_99 : zK ((zL × zS) ⊕ zR) := (q_iload 6 (q_istore 4 (q_aload 0 (q_callV 12 fX12_costLaid 0 (q_istore 5 kX12_repaint_109)))))
noncomputable def bX12_repaint_47 : zK ((zL × zS) ⊕ zR) := (q_iload 6 (q_aload 0 (q_aload 0 (q_getR 12 47 (q_iload 1 (q_iald (q_callV 12 fX12_rowsOf 1 (q_icmp_ge (q_dn kX12_repaint_115) (q_aload 0 (q_iload 6 (q_aload 0 (q_getR 12 47 (q_iload 1 (q_iald (q_callV 12 fX12_laysNumber 2 (q_aload 0 (q_callV 12 fX12_lastLaid 0 (q_iload 2 (q_icmp_ne kX12_repaint_109 (q_iload 4 (q_if_lt kX12_repaint_99 (q_aload 0 (q_callV 12 fX12_costLaid 0 (q_iload 5 (q_icmp_lt kX12_repaint_99 kX12_repaint_109)))))))))))))))))))))))))
noncomputable def kX12_repaint_47 : zK zR := q_lp (bX12_repaint_47)
noncomputable def kX12_repaint_0 : zK zR := (q_aload 0 (q_iload 1 (q_callV 12 fX12_isRow 1 (q_if_eq kX12_repaint_25 (q_aload 0 (q_iload 2 (q_callV 12 fX12_isColour 1 (q_if_eq kX12_repaint_25 (q_iload 3 (q_push 0 (q_push 1 (q_callS fX12_in 3 (q_if_ne (q_aload 0 (q_callV 12 fX12_copies 0 (q_aload 0 (q_iload 1 (q_callV 12 fX12_fillsCosts 1 (q_push (-2) (q_istore 4 (q_push (-2) (q_istore 5 (q_push 0 (q_istore 6 kX12_repaint_47))))))))))) kX12_repaint_25)))))))))))))
set_option maxRecDepth 100000 in
theorem tX12_repaint_25 {l : Launch} {D : zD} {B sz0 : Nat} {post : Option Value → zS → Prop} : zSnd l D B xX12_repaint sz0 post 25 kX12_repaint_25 (z_Jr post) := (s_iconst dX12_repaint_25 (by decide) (s_iret dX12_repaint_26 rfl))
set_option maxRecDepth 100000 in
theorem tX12_repaint_126 {l : Launch} {D : zD} {B sz0 : Nat} {post : Option Value → zS → Prop} : zSnd l D B xX12_repaint sz0 post 126 kX12_repaint_126 (z_Jr post) := (s_iret dX12_repaint_126 rfl)
set_option maxRecDepth 100000 in
theorem tX12_repaint_115 {l : Launch} {D : zD} {B sz0 : Nat} {post : Option Value → zS → Prop} : zSnd l D B xX12_repaint sz0 post 115 kX12_repaint_115 (z_Jr post) := (s_iload_n dX12_repaint_115 rfl (s_if_ne (tgt := 124) dX12_repaint_116 (by decide) (s_iload dX12_repaint_124 tX12_repaint_126) (s_iload dX12_repaint_119 (s_goto (tgt := 126) dX12_repaint_121 (by decide) tX12_repaint_126))))
set_option maxRecDepth 100000 in
theorem tX12_repaint_109 {l : Launch} {D : zD} {B sz0 : Nat} {post : Option Value → zS → Prop} : zSnd l D B xX12_repaint sz0 post 109 kX12_repaint_109 (z_Jl l D B xX12_repaint sz0 post 47 (z_Jr post)) := (s_iinc dX12_repaint_109 (by decide) (s_goto (tgt := 47) dX12_repaint_112 (by decide) s_ag))
set_option maxRecDepth 100000 in
theorem tX12_repaint_99 {l : Launch} {D : zD} {B sz0 : Nat} {post : Option Value → zS → Prop} : zSnd l D B xX12_repaint sz0 post 99 kX12_repaint_99 (z_Jl l D B xX12_repaint sz0 post 47 (z_Jr post)) := (s_iload dX12_repaint_99 (s_istore dX12_repaint_101 (s_aload_n dX12_repaint_103 rfl (s_callV (r := (RX12, TX12, 74)) dX12_repaint_104 mX12_costLaid meX12_costLaid wd1200 wd1201 rfl rfl reX12_costLaid rmX12_repaint (fitX12_repaint_104) wd1202 (s_istore dX12_repaint_107 tX12_repaint_109)))))
set_option maxRecDepth 100000 in
theorem tX12_repaint_47 {l : Launch} {D : zD} {B sz0 : Nat} {post : Option Value → zS → Prop} : zSnd l D B xX12_repaint sz0 post 47 kX12_repaint_47 (z_Jr post) := s_lp (body := bX12_repaint_47) (s_iload dX12_repaint_47 (s_aload_n dX12_repaint_49 rfl (s_aload_n dX12_repaint_50 rfl (s_getR (f := 47) dX12_repaint_51 clX12 (by decide) rfl wd856 (s_iload_n dX12_repaint_54 rfl (s_iald dX12_repaint_55 (s_callV (r := (RX12, TX12, 74)) dX12_repaint_56 mX12_rowsOf meX12_rowsOf wd1188 wd1189 rfl rfl reX12_rowsOf rmX12_repaint (fitX12_repaint_56) wd1190 (s_icmp_ge (tgt := 115) dX12_repaint_59 (by decide) (s_dn tX12_repaint_115) (s_aload_n dX12_repaint_62 rfl (s_iload dX12_repaint_63 (s_aload_n dX12_repaint_65 rfl (s_getR (f := 47) dX12_repaint_66 clX12 (by decide) rfl wd856 (s_iload_n dX12_repaint_69 rfl (s_iald dX12_repaint_70 (s_callV (r := (RX12, TX12, 74)) dX12_repaint_71 mX12_laysNumber meX12_laysNumber wd1191 wd1192 rfl rfl reX12_laysNumber rmX12_repaint (fitX12_repaint_71) wd1193 (s_aload_n dX12_repaint_74 rfl (s_callV (r := (RX12, TX12, 74)) dX12_repaint_75 mX12_lastLaid meX12_lastLaid wd1139 wd1140 rfl rfl reX12_lastLaid rmX12_repaint (fitX12_repaint_75) wd1141 (s_iload_n dX12_repaint_78 rfl (s_icmp_ne (tgt := 109) dX12_repaint_79 (by decide) tX12_repaint_109 (s_iload dX12_repaint_82 (s_if_lt (tgt := 99) dX12_repaint_84 (by decide) tX12_repaint_99 (s_aload_n dX12_repaint_87 rfl (s_callV (r := (RX12, TX12, 74)) dX12_repaint_88 mX12_costLaid meX12_costLaid wd1200 wd1201 rfl rfl reX12_costLaid rmX12_repaint (fitX12_repaint_88) wd1202 (s_iload dX12_repaint_91 (s_icmp_lt (tgt := 99) dX12_repaint_93 (by decide) tX12_repaint_99 (s_goto (tgt := 109) dX12_repaint_96 (by decide) tX12_repaint_109))))))))))))))))))))))))))
set_option maxRecDepth 100000 in
theorem tX12_repaint_0 {l : Launch} {D : zD} {B sz0 : Nat} {post : Option Value → zS → Prop} : zSnd l D B xX12_repaint sz0 post 0 kX12_repaint_0 (z_Jr post) := (s_aload_n dX12_repaint_0 rfl (s_iload_n dX12_repaint_1 rfl (s_callV (r := (RX12, TX12, 74)) dX12_repaint_2 mX12_isRow meX12_isRow wd1042 wd1043 rfl rfl reX12_isRow rmX12_repaint (fitX12_repaint_2) wd1044 (s_if_eq (tgt := 25) dX12_repaint_5 (by decide) tX12_repaint_25 (s_aload_n dX12_repaint_8 rfl (s_iload_n dX12_repaint_9 rfl (s_callV (r := (RX12, TX12, 74)) dX12_repaint_10 mX12_isColour meX12_isColour wd1129 wd1130 rfl rfl reX12_isColour rmX12_repaint (fitX12_repaint_10) wd1131 (s_if_eq (tgt := 25) dX12_repaint_13 (by decide) tX12_repaint_25 (s_iload_n dX12_repaint_16 rfl (s_iconst dX12_repaint_17 (by decide) (s_iconst dX12_repaint_18 (by decide) (s_callS dX12_repaint_19 mX12_in meX12_in wd1033 rfl reX12_in rmX12_repaint (fitX12_repaint_19) wd1034 (s_if_ne (tgt := 27) dX12_repaint_22 (by decide) (s_aload_n dX12_repaint_27 rfl (s_callV (r := (RX12, TX12, 74)) dX12_repaint_28 mX12_copies meX12_copies wd1133 wd1134 rfl rfl reX12_copies rmX12_repaint (fitX12_repaint_28) wd1135 (s_aload_n dX12_repaint_31 rfl (s_iload_n dX12_repaint_32 rfl (s_callV (r := (RX12, TX12, 74)) dX12_repaint_33 mX12_fillsCosts meX12_fillsCosts wd1197 wd1198 rfl rfl reX12_fillsCosts rmX12_repaint (fitX12_repaint_33) wd1199 (s_bipush dX12_repaint_36 (by decide) (s_istore dX12_repaint_38 (s_bipush dX12_repaint_40 (by decide) (s_istore dX12_repaint_42 (s_iconst dX12_repaint_44 (by decide) (s_istore dX12_repaint_45 tX12_repaint_47))))))))))) tX12_repaint_25)))))))))))))
noncomputable def fX12_repaint : zF := z_fn 7 kX12_repaint_0
theorem mX12_repaint {l : Launch} {D : zD} {B : Nat} : z_MF l D B yX12_repaint xX12_repaint fX12_repaint := z_mf (by decide) rfl (fun h => by cases h) rfl (fun as σ r h => ⟨z_fn_len h, kX12_repaint_0, z_fn_run h, fun _ => tX12_repaint_0⟩)
/-! ===== RowChildrenModel.unlikeLaid ===== -/
theorem dX12_unlikeLaid_0 : decode cX12_unlikeLaid 0 = .ok (.iconst 0, 1) := by decide +kernel
theorem dX12_unlikeLaid_1 : decode cX12_unlikeLaid 1 = .ok (.istore_n 2, 1) := by decide +kernel
theorem dX12_unlikeLaid_2 : decode cX12_unlikeLaid 2 = .ok (.iconst 0, 1) := by decide +kernel
theorem dX12_unlikeLaid_3 : decode cX12_unlikeLaid 3 = .ok (.istore_n 3, 1) := by decide +kernel
theorem dX12_unlikeLaid_4 : decode cX12_unlikeLaid 4 = .ok (.iload_n 3, 1) := by decide +kernel
theorem dX12_unlikeLaid_5 : decode cX12_unlikeLaid 5 = .ok (.aload_n 0, 1) := by decide +kernel
theorem dX12_unlikeLaid_6 : decode cX12_unlikeLaid 6 = .ok (.getfield 340, 3) := by decide +kernel
theorem dX12_unlikeLaid_9 : decode cX12_unlikeLaid 9 = .ok (.if_icmp .ge 27, 3) := by decide +kernel
theorem dX12_unlikeLaid_12 : decode cX12_unlikeLaid 12 = .ok (.aload_n 0, 1) := by decide +kernel
theorem dX12_unlikeLaid_13 : decode cX12_unlikeLaid 13 = .ok (.getfield 110, 3) := by decide +kernel
theorem dX12_unlikeLaid_16 : decode cX12_unlikeLaid 16 = .ok (.iload_n 3, 1) := by decide +kernel
theorem dX12_unlikeLaid_17 : decode cX12_unlikeLaid 17 = .ok (.iaload, 1) := by decide +kernel
theorem dX12_unlikeLaid_18 : decode cX12_unlikeLaid 18 = .ok (.aload_n 0, 1) := by decide +kernel
theorem dX12_unlikeLaid_19 : decode cX12_unlikeLaid 19 = .ok (.iload_n 1, 1) := by decide +kernel
theorem dX12_unlikeLaid_20 : decode cX12_unlikeLaid 20 = .ok (.iload_n 3, 1) := by decide +kernel
theorem dX12_unlikeLaid_21 : decode cX12_unlikeLaid 21 = .ok (.invokevirtual 349, 3) := by decide +kernel
theorem dX12_unlikeLaid_24 : decode cX12_unlikeLaid 24 = .ok (.if_icmp .eq 6, 3) := by decide +kernel
theorem dX12_unlikeLaid_27 : decode cX12_unlikeLaid 27 = .ok (.iinc 2 1, 3) := by decide +kernel
theorem dX12_unlikeLaid_30 : decode cX12_unlikeLaid 30 = .ok (.iinc 3 1, 3) := by decide +kernel
theorem dX12_unlikeLaid_33 : decode cX12_unlikeLaid 33 = .ok (.goto (-29), 3) := by decide +kernel
theorem dX12_unlikeLaid_36 : decode cX12_unlikeLaid 36 = .ok (.iload_n 2, 1) := by decide +kernel
theorem dX12_unlikeLaid_37 : decode cX12_unlikeLaid 37 = .ok (.ireturn, 1) := by decide +kernel
def xX12_unlikeLaid : zX := (RX12, cX12_unlikeLaid, 4, (some .int), false, { frames := 2, cells := 0, slots := 0, locals := 112 }, 0, 0, 0, 0)
theorem rmX12_unlikeLaid : z_Rm xX12_unlikeLaid := by unfold z_Rm xX12_unlikeLaid; exact ⟨by decide, by decide⟩
theorem reX12_unlikeLaid : z_Re xX12_unlikeLaid := ⟨rfl, rfl⟩
theorem rlX12_unlikeLaid : 1 ≤ xX12_unlikeLaid.2.2.2.2.2.1.frames ∧ 21 ≤ xX12_unlikeLaid.2.2.2.2.2.1.locals := by unfold xX12_unlikeLaid; exact ⟨by decide, by decide⟩
theorem meX12_unlikeLaid : z_Me yX12_unlikeLaid xX12_unlikeLaid 1 := ⟨wd1204, wd848, by decide, by decide, by decide +kernel⟩
theorem fitX12_unlikeLaid_21 : z_Fit xX12_seatAt xX12_unlikeLaid := by unfold z_Fit; simp only [xX12_seatAt, xX12_unlikeLaid]; exact ⟨by decide, by decide⟩
noncomputable def kX12_unlikeLaid_36 : zK zR := (q_iload 2 q_iret)
noncomputable def kX12_unlikeLaid_30 : zK ((zL × zS) ⊕ zR) := (q_iinc 3 1 q_ag)
noncomputable def bX12_unlikeLaid_4 : zK ((zL × zS) ⊕ zR) := (q_iload 3 (q_aload 0 (q_getI 12 50 (q_icmp_ge (q_dn kX12_unlikeLaid_36) (q_aload 0 (q_getR 12 49 (q_iload 3 (q_iald (q_aload 0 (q_iload 1 (q_iload 3 (q_callV 12 fX12_seatAt 2 (q_icmp_eq kX12_unlikeLaid_30 (q_iinc 2 1 kX12_unlikeLaid_30))))))))))))))
noncomputable def kX12_unlikeLaid_4 : zK zR := q_lp (bX12_unlikeLaid_4)
noncomputable def kX12_unlikeLaid_0 : zK zR := (q_push 0 (q_istore 2 (q_push 0 (q_istore 3 kX12_unlikeLaid_4))))
set_option maxRecDepth 100000 in
theorem tX12_unlikeLaid_36 {l : Launch} {D : zD} {B sz0 : Nat} {post : Option Value → zS → Prop} : zSnd l D B xX12_unlikeLaid sz0 post 36 kX12_unlikeLaid_36 (z_Jr post) := (s_iload_n dX12_unlikeLaid_36 rfl (s_iret dX12_unlikeLaid_37 rfl))
set_option maxRecDepth 100000 in
theorem tX12_unlikeLaid_30 {l : Launch} {D : zD} {B sz0 : Nat} {post : Option Value → zS → Prop} : zSnd l D B xX12_unlikeLaid sz0 post 30 kX12_unlikeLaid_30 (z_Jl l D B xX12_unlikeLaid sz0 post 4 (z_Jr post)) := (s_iinc dX12_unlikeLaid_30 (by decide) (s_goto (tgt := 4) dX12_unlikeLaid_33 (by decide) s_ag))
set_option maxRecDepth 100000 in
theorem tX12_unlikeLaid_4 {l : Launch} {D : zD} {B sz0 : Nat} {post : Option Value → zS → Prop} : zSnd l D B xX12_unlikeLaid sz0 post 4 kX12_unlikeLaid_4 (z_Jr post) := s_lp (body := bX12_unlikeLaid_4) (s_iload_n dX12_unlikeLaid_4 rfl (s_aload_n dX12_unlikeLaid_5 rfl (s_getI (f := 50) dX12_unlikeLaid_6 clX12 (by decide) rfl wd1053 (s_icmp_ge (tgt := 36) dX12_unlikeLaid_9 (by decide) (s_dn tX12_unlikeLaid_36) (s_aload_n dX12_unlikeLaid_12 rfl (s_getR (f := 49) dX12_unlikeLaid_13 clX12 (by decide) rfl wd882 (s_iload_n dX12_unlikeLaid_16 rfl (s_iald dX12_unlikeLaid_17 (s_aload_n dX12_unlikeLaid_18 rfl (s_iload_n dX12_unlikeLaid_19 rfl (s_iload_n dX12_unlikeLaid_20 rfl (s_callV (r := (RX12, TX12, 74)) dX12_unlikeLaid_21 mX12_seatAt meX12_seatAt wd1064 wd1065 rfl rfl reX12_seatAt rmX12_unlikeLaid (fitX12_unlikeLaid_21) wd1066 (s_icmp_eq (tgt := 30) dX12_unlikeLaid_24 (by decide) tX12_unlikeLaid_30 (s_iinc dX12_unlikeLaid_27 (by decide) tX12_unlikeLaid_30))))))))))))))
set_option maxRecDepth 100000 in
theorem tX12_unlikeLaid_0 {l : Launch} {D : zD} {B sz0 : Nat} {post : Option Value → zS → Prop} : zSnd l D B xX12_unlikeLaid sz0 post 0 kX12_unlikeLaid_0 (z_Jr post) := (s_iconst dX12_unlikeLaid_0 (by decide) (s_istore_n dX12_unlikeLaid_1 rfl (s_iconst dX12_unlikeLaid_2 (by decide) (s_istore_n dX12_unlikeLaid_3 rfl tX12_unlikeLaid_4))))
noncomputable def fX12_unlikeLaid : zF := z_fn 4 kX12_unlikeLaid_0
theorem mX12_unlikeLaid {l : Launch} {D : zD} {B : Nat} : z_MF l D B yX12_unlikeLaid xX12_unlikeLaid fX12_unlikeLaid := z_mf (by decide) rfl (fun h => by cases h) rfl (fun as σ r h => ⟨z_fn_len h, kX12_unlikeLaid_0, z_fn_run h, fun _ => tX12_unlikeLaid_0⟩)
/-! ===== RowChildrenModel.fairly ===== -/
theorem dX12_fairly_0 : decode cX12_fairly 0 = .ok (.aload_n 0, 1) := by decide +kernel
theorem dX12_fairly_1 : decode cX12_fairly 1 = .ok (.iload_n 1, 1) := by decide +kernel
theorem dX12_fairly_2 : decode cX12_fairly 2 = .ok (.invokevirtual 330, 3) := by decide +kernel
theorem dX12_fairly_5 : decode cX12_fairly 5 = .ok (.ifCond .eq 12, 3) := by decide +kernel
theorem dX12_fairly_8 : decode cX12_fairly 8 = .ok (.iload_n 2, 1) := by decide +kernel
theorem dX12_fairly_9 : decode cX12_fairly 9 = .ok (.iconst 0, 1) := by decide +kernel
theorem dX12_fairly_10 : decode cX12_fairly 10 = .ok (.iconst 1, 1) := by decide +kernel
theorem dX12_fairly_11 : decode cX12_fairly 11 = .ok (.invokestatic 323, 3) := by decide +kernel
theorem dX12_fairly_14 : decode cX12_fairly 14 = .ok (.ifCond .ne 5, 3) := by decide +kernel
theorem dX12_fairly_17 : decode cX12_fairly 17 = .ok (.iconst (-1), 1) := by decide +kernel
theorem dX12_fairly_18 : decode cX12_fairly 18 = .ok (.ireturn, 1) := by decide +kernel
theorem dX12_fairly_19 : decode cX12_fairly 19 = .ok (.aload_n 0, 1) := by decide +kernel
theorem dX12_fairly_20 : decode cX12_fairly 20 = .ok (.invokevirtual 401, 3) := by decide +kernel
theorem dX12_fairly_23 : decode cX12_fairly 23 = .ok (.bipush (-2), 2) := by decide +kernel
theorem dX12_fairly_25 : decode cX12_fairly 25 = .ok (.istore_n 3, 1) := by decide +kernel
theorem dX12_fairly_26 : decode cX12_fairly 26 = .ok (.bipush (-2), 2) := by decide +kernel
theorem dX12_fairly_28 : decode cX12_fairly 28 = .ok (.istore 4, 2) := by decide +kernel
theorem dX12_fairly_30 : decode cX12_fairly 30 = .ok (.iconst 0, 1) := by decide +kernel
theorem dX12_fairly_31 : decode cX12_fairly 31 = .ok (.istore 5, 2) := by decide +kernel
theorem dX12_fairly_33 : decode cX12_fairly 33 = .ok (.iload 5, 2) := by decide +kernel
theorem dX12_fairly_35 : decode cX12_fairly 35 = .ok (.aload_n 0, 1) := by decide +kernel
theorem dX12_fairly_36 : decode cX12_fairly 36 = .ok (.aload_n 0, 1) := by decide +kernel
theorem dX12_fairly_37 : decode cX12_fairly 37 = .ok (.getfield 107, 3) := by decide +kernel
theorem dX12_fairly_40 : decode cX12_fairly 40 = .ok (.iload_n 1, 1) := by decide +kernel
theorem dX12_fairly_41 : decode cX12_fairly 41 = .ok (.iaload, 1) := by decide +kernel
theorem dX12_fairly_42 : decode cX12_fairly 42 = .ok (.invokevirtual 445, 3) := by decide +kernel
theorem dX12_fairly_45 : decode cX12_fairly 45 = .ok (.if_icmp .ge 55, 3) := by decide +kernel
theorem dX12_fairly_48 : decode cX12_fairly 48 = .ok (.aload_n 0, 1) := by decide +kernel
theorem dX12_fairly_49 : decode cX12_fairly 49 = .ok (.iload 5, 2) := by decide +kernel
theorem dX12_fairly_51 : decode cX12_fairly 51 = .ok (.aload_n 0, 1) := by decide +kernel
theorem dX12_fairly_52 : decode cX12_fairly 52 = .ok (.getfield 107, 3) := by decide +kernel
theorem dX12_fairly_55 : decode cX12_fairly 55 = .ok (.iload_n 1, 1) := by decide +kernel
theorem dX12_fairly_56 : decode cX12_fairly 56 = .ok (.iaload, 1) := by decide +kernel
theorem dX12_fairly_57 : decode cX12_fairly 57 = .ok (.invokevirtual 448, 3) := by decide +kernel
theorem dX12_fairly_60 : decode cX12_fairly 60 = .ok (.iload_n 3, 1) := by decide +kernel
theorem dX12_fairly_61 : decode cX12_fairly 61 = .ok (.ifCond .lt 13, 3) := by decide +kernel
theorem dX12_fairly_64 : decode cX12_fairly 64 = .ok (.aload_n 0, 1) := by decide +kernel
theorem dX12_fairly_65 : decode cX12_fairly 65 = .ok (.iload_n 1, 1) := by decide +kernel
theorem dX12_fairly_66 : decode cX12_fairly 66 = .ok (.invokevirtual 457, 3) := by decide +kernel
theorem dX12_fairly_69 : decode cX12_fairly 69 = .ok (.iload 4, 2) := by decide +kernel
theorem dX12_fairly_71 : decode cX12_fairly 71 = .ok (.if_icmp .ge 23, 3) := by decide +kernel
theorem dX12_fairly_74 : decode cX12_fairly 74 = .ok (.aload_n 0, 1) := by decide +kernel
theorem dX12_fairly_75 : decode cX12_fairly 75 = .ok (.invokevirtual 410, 3) := by decide +kernel
theorem dX12_fairly_78 : decode cX12_fairly 78 = .ok (.ifCond .ne 6, 3) := by decide +kernel
theorem dX12_fairly_81 : decode cX12_fairly 81 = .ok (.goto 13, 3) := by decide +kernel
theorem dX12_fairly_84 : decode cX12_fairly 84 = .ok (.iload 5, 2) := by decide +kernel
theorem dX12_fairly_86 : decode cX12_fairly 86 = .ok (.istore_n 3, 1) := by decide +kernel
theorem dX12_fairly_87 : decode cX12_fairly 87 = .ok (.aload_n 0, 1) := by decide +kernel
theorem dX12_fairly_88 : decode cX12_fairly 88 = .ok (.iload_n 1, 1) := by decide +kernel
theorem dX12_fairly_89 : decode cX12_fairly 89 = .ok (.invokevirtual 457, 3) := by decide +kernel
theorem dX12_fairly_92 : decode cX12_fairly 92 = .ok (.istore 4, 2) := by decide +kernel
theorem dX12_fairly_94 : decode cX12_fairly 94 = .ok (.iinc 5 1, 3) := by decide +kernel
theorem dX12_fairly_97 : decode cX12_fairly 97 = .ok (.goto (-64), 3) := by decide +kernel
theorem dX12_fairly_100 : decode cX12_fairly 100 = .ok (.iload_n 2, 1) := by decide +kernel
theorem dX12_fairly_101 : decode cX12_fairly 101 = .ok (.ifCond .ne 8, 3) := by decide +kernel
theorem dX12_fairly_104 : decode cX12_fairly 104 = .ok (.iload 4, 2) := by decide +kernel
theorem dX12_fairly_106 : decode cX12_fairly 106 = .ok (.goto 4, 3) := by decide +kernel
theorem dX12_fairly_109 : decode cX12_fairly 109 = .ok (.iload_n 3, 1) := by decide +kernel
theorem dX12_fairly_110 : decode cX12_fairly 110 = .ok (.ireturn, 1) := by decide +kernel
def xX12_fairly : zX := (RX12, cX12_fairly, 6, (some .int), false, { frames := 5, cells := 0, slots := 0, locals := 179 }, 0, 0, 0, 0)
theorem rmX12_fairly : z_Rm xX12_fairly := by unfold z_Rm xX12_fairly; exact ⟨by decide, by decide⟩
theorem reX12_fairly : z_Re xX12_fairly := ⟨rfl, rfl⟩
theorem rlX12_fairly : 1 ≤ xX12_fairly.2.2.2.2.2.1.frames ∧ 21 ≤ xX12_fairly.2.2.2.2.2.1.locals := by unfold xX12_fairly; exact ⟨by decide, by decide⟩
theorem meX12_fairly : z_Me yX12_fairly xX12_fairly 2 := ⟨wd1208, wd848, by decide, by decide, by decide +kernel⟩
theorem fitX12_fairly_2 : z_Fit xX12_isRow xX12_fairly := by unfold z_Fit; simp only [xX12_isRow, xX12_fairly]; exact ⟨by decide, by decide⟩
theorem fitX12_fairly_11 : z_Fit xX12_in xX12_fairly := by unfold z_Fit; simp only [xX12_in, xX12_fairly]; exact ⟨by decide, by decide⟩
theorem fitX12_fairly_20 : z_Fit xX12_copies xX12_fairly := by unfold z_Fit; simp only [xX12_copies, xX12_fairly]; exact ⟨by decide, by decide⟩
theorem fitX12_fairly_42 : z_Fit xX12_rowsOf xX12_fairly := by unfold z_Fit; simp only [xX12_rowsOf, xX12_fairly]; exact ⟨by decide, by decide⟩
theorem fitX12_fairly_57 : z_Fit xX12_laysNumber xX12_fairly := by unfold z_Fit; simp only [xX12_laysNumber, xX12_fairly]; exact ⟨by decide, by decide⟩
theorem fitX12_fairly_75 : z_Fit xX12_isFair xX12_fairly := by unfold z_Fit; simp only [xX12_isFair, xX12_fairly]; exact ⟨by decide, by decide⟩
theorem fitX12_fairly_89 : z_Fit xX12_unlikeLaid xX12_fairly := by unfold z_Fit; simp only [xX12_unlikeLaid, xX12_fairly]; exact ⟨by decide, by decide⟩
theorem fitX12_fairly_66 : z_Fit xX12_unlikeLaid xX12_fairly := by unfold z_Fit; simp only [xX12_unlikeLaid, xX12_fairly]; exact ⟨by decide, by decide⟩
noncomputable def kX12_fairly_17 : zK zR := (q_push (-1) q_iret)
noncomputable def kX12_fairly_110 : zK zR := q_iret
noncomputable def kX12_fairly_100 : zK zR := (q_iload 2 (q_if_ne (q_iload 3 kX12_fairly_110) (q_iload 4 kX12_fairly_110)))
noncomputable def kX12_fairly_94 : zK ((zL × zS) ⊕ zR) := (q_iinc 5 1 q_ag)
noncomputable def kX12_fairly_74 : zK ((zL × zS) ⊕ zR) := (q_aload 0 (q_callV 12 fX12_isFair 0 (q_if_ne (q_iload 5 (q_istore 3 (q_aload 0 (q_iload 1 (q_callV 12 fX12_unlikeLaid 1 (q_istore 4 kX12_fairly_94)))))) kX12_fairly_94)))
noncomputable def bX12_fairly_33 : zK ((zL × zS) ⊕ zR) := (q_iload 5 (q_aload 0 (q_aload 0 (q_getR 12 47 (q_iload 1 (q_iald (q_callV 12 fX12_rowsOf 1 (q_icmp_ge (q_dn kX12_fairly_100) (q_aload 0 (q_iload 5 (q_aload 0 (q_getR 12 47 (q_iload 1 (q_iald (q_callV 12 fX12_laysNumber 2 (q_iload 3 (q_if_lt kX12_fairly_74 (q_aload 0 (q_iload 1 (q_callV 12 fX12_unlikeLaid 1 (q_iload 4 (q_icmp_ge kX12_fairly_94 kX12_fairly_74))))))))))))))))))))))
noncomputable def kX12_fairly_33 : zK zR := q_lp (bX12_fairly_33)
noncomputable def kX12_fairly_0 : zK zR := (q_aload 0 (q_iload 1 (q_callV 12 fX12_isRow 1 (q_if_eq kX12_fairly_17 (q_iload 2 (q_push 0 (q_push 1 (q_callS fX12_in 3 (q_if_ne (q_aload 0 (q_callV 12 fX12_copies 0 (q_push (-2) (q_istore 3 (q_push (-2) (q_istore 4 (q_push 0 (q_istore 5 kX12_fairly_33)))))))) kX12_fairly_17)))))))))
set_option maxRecDepth 100000 in
theorem tX12_fairly_17 {l : Launch} {D : zD} {B sz0 : Nat} {post : Option Value → zS → Prop} : zSnd l D B xX12_fairly sz0 post 17 kX12_fairly_17 (z_Jr post) := (s_iconst dX12_fairly_17 (by decide) (s_iret dX12_fairly_18 rfl))
set_option maxRecDepth 100000 in
theorem tX12_fairly_110 {l : Launch} {D : zD} {B sz0 : Nat} {post : Option Value → zS → Prop} : zSnd l D B xX12_fairly sz0 post 110 kX12_fairly_110 (z_Jr post) := (s_iret dX12_fairly_110 rfl)
set_option maxRecDepth 100000 in
theorem tX12_fairly_100 {l : Launch} {D : zD} {B sz0 : Nat} {post : Option Value → zS → Prop} : zSnd l D B xX12_fairly sz0 post 100 kX12_fairly_100 (z_Jr post) := (s_iload_n dX12_fairly_100 rfl (s_if_ne (tgt := 109) dX12_fairly_101 (by decide) (s_iload_n dX12_fairly_109 rfl tX12_fairly_110) (s_iload dX12_fairly_104 (s_goto (tgt := 110) dX12_fairly_106 (by decide) tX12_fairly_110))))
set_option maxRecDepth 100000 in
theorem tX12_fairly_94 {l : Launch} {D : zD} {B sz0 : Nat} {post : Option Value → zS → Prop} : zSnd l D B xX12_fairly sz0 post 94 kX12_fairly_94 (z_Jl l D B xX12_fairly sz0 post 33 (z_Jr post)) := (s_iinc dX12_fairly_94 (by decide) (s_goto (tgt := 33) dX12_fairly_97 (by decide) s_ag))
set_option maxRecDepth 100000 in
theorem tX12_fairly_74 {l : Launch} {D : zD} {B sz0 : Nat} {post : Option Value → zS → Prop} : zSnd l D B xX12_fairly sz0 post 74 kX12_fairly_74 (z_Jl l D B xX12_fairly sz0 post 33 (z_Jr post)) := (s_aload_n dX12_fairly_74 rfl (s_callV (r := (RX12, TX12, 74)) dX12_fairly_75 mX12_isFair meX12_isFair wd1142 wd1143 rfl rfl reX12_isFair rmX12_fairly (fitX12_fairly_75) wd1144 (s_if_ne (tgt := 84) dX12_fairly_78 (by decide) (s_iload dX12_fairly_84 (s_istore_n dX12_fairly_86 rfl (s_aload_n dX12_fairly_87 rfl (s_iload_n dX12_fairly_88 rfl (s_callV (r := (RX12, TX12, 74)) dX12_fairly_89 mX12_unlikeLaid meX12_unlikeLaid wd1205 wd1206 rfl rfl reX12_unlikeLaid rmX12_fairly (fitX12_fairly_89) wd1207 (s_istore dX12_fairly_92 tX12_fairly_94)))))) (s_goto (tgt := 94) dX12_fairly_81 (by decide) tX12_fairly_94))))
set_option maxRecDepth 100000 in
theorem tX12_fairly_33 {l : Launch} {D : zD} {B sz0 : Nat} {post : Option Value → zS → Prop} : zSnd l D B xX12_fairly sz0 post 33 kX12_fairly_33 (z_Jr post) := s_lp (body := bX12_fairly_33) (s_iload dX12_fairly_33 (s_aload_n dX12_fairly_35 rfl (s_aload_n dX12_fairly_36 rfl (s_getR (f := 47) dX12_fairly_37 clX12 (by decide) rfl wd856 (s_iload_n dX12_fairly_40 rfl (s_iald dX12_fairly_41 (s_callV (r := (RX12, TX12, 74)) dX12_fairly_42 mX12_rowsOf meX12_rowsOf wd1188 wd1189 rfl rfl reX12_rowsOf rmX12_fairly (fitX12_fairly_42) wd1190 (s_icmp_ge (tgt := 100) dX12_fairly_45 (by decide) (s_dn tX12_fairly_100) (s_aload_n dX12_fairly_48 rfl (s_iload dX12_fairly_49 (s_aload_n dX12_fairly_51 rfl (s_getR (f := 47) dX12_fairly_52 clX12 (by decide) rfl wd856 (s_iload_n dX12_fairly_55 rfl (s_iald dX12_fairly_56 (s_callV (r := (RX12, TX12, 74)) dX12_fairly_57 mX12_laysNumber meX12_laysNumber wd1191 wd1192 rfl rfl reX12_laysNumber rmX12_fairly (fitX12_fairly_57) wd1193 (s_iload_n dX12_fairly_60 rfl (s_if_lt (tgt := 74) dX12_fairly_61 (by decide) tX12_fairly_74 (s_aload_n dX12_fairly_64 rfl (s_iload_n dX12_fairly_65 rfl (s_callV (r := (RX12, TX12, 74)) dX12_fairly_66 mX12_unlikeLaid meX12_unlikeLaid wd1205 wd1206 rfl rfl reX12_unlikeLaid rmX12_fairly (fitX12_fairly_66) wd1207 (s_iload dX12_fairly_69 (s_icmp_ge (tgt := 94) dX12_fairly_71 (by decide) tX12_fairly_94 tX12_fairly_74))))))))))))))))))))))
set_option maxRecDepth 100000 in
theorem tX12_fairly_0 {l : Launch} {D : zD} {B sz0 : Nat} {post : Option Value → zS → Prop} : zSnd l D B xX12_fairly sz0 post 0 kX12_fairly_0 (z_Jr post) := (s_aload_n dX12_fairly_0 rfl (s_iload_n dX12_fairly_1 rfl (s_callV (r := (RX12, TX12, 74)) dX12_fairly_2 mX12_isRow meX12_isRow wd1042 wd1043 rfl rfl reX12_isRow rmX12_fairly (fitX12_fairly_2) wd1044 (s_if_eq (tgt := 17) dX12_fairly_5 (by decide) tX12_fairly_17 (s_iload_n dX12_fairly_8 rfl (s_iconst dX12_fairly_9 (by decide) (s_iconst dX12_fairly_10 (by decide) (s_callS dX12_fairly_11 mX12_in meX12_in wd1033 rfl reX12_in rmX12_fairly (fitX12_fairly_11) wd1034 (s_if_ne (tgt := 19) dX12_fairly_14 (by decide) (s_aload_n dX12_fairly_19 rfl (s_callV (r := (RX12, TX12, 74)) dX12_fairly_20 mX12_copies meX12_copies wd1133 wd1134 rfl rfl reX12_copies rmX12_fairly (fitX12_fairly_20) wd1135 (s_bipush dX12_fairly_23 (by decide) (s_istore_n dX12_fairly_25 rfl (s_bipush dX12_fairly_26 (by decide) (s_istore dX12_fairly_28 (s_iconst dX12_fairly_30 (by decide) (s_istore dX12_fairly_31 tX12_fairly_33)))))))) tX12_fairly_17)))))))))
noncomputable def fX12_fairly : zF := z_fn 6 kX12_fairly_0
theorem mX12_fairly {l : Launch} {D : zD} {B : Nat} : z_MF l D B yX12_fairly xX12_fairly fX12_fairly := z_mf (by decide) rfl (fun h => by cases h) rfl (fun as σ r h => ⟨z_fn_len h, kX12_fairly_0, z_fn_run h, fun _ => tX12_fairly_0⟩)
/-! ===== RowChildrenModel.matters ===== -/
theorem dX12_matters_0 : decode cX12_matters 0 = .ok (.aload_n 0, 1) := by decide +kernel
theorem dX12_matters_1 : decode cX12_matters 1 = .ok (.iload_n 1, 1) := by decide +kernel
theorem dX12_matters_2 : decode cX12_matters 2 = .ok (.invokevirtual 330, 3) := by decide +kernel
theorem dX12_matters_5 : decode cX12_matters 5 = .ok (.ifCond .ne 5, 3) := by decide +kernel
theorem dX12_matters_8 : decode cX12_matters 8 = .ok (.iconst (-1), 1) := by decide +kernel
theorem dX12_matters_9 : decode cX12_matters 9 = .ok (.ireturn, 1) := by decide +kernel
theorem dX12_matters_10 : decode cX12_matters 10 = .ok (.aload_n 0, 1) := by decide +kernel
theorem dX12_matters_11 : decode cX12_matters 11 = .ok (.invokevirtual 401, 3) := by decide +kernel
theorem dX12_matters_14 : decode cX12_matters 14 = .ok (.aload_n 0, 1) := by decide +kernel
theorem dX12_matters_15 : decode cX12_matters 15 = .ok (.iload_n 1, 1) := by decide +kernel
theorem dX12_matters_16 : decode cX12_matters 16 = .ok (.invokevirtual 380, 3) := by decide +kernel
theorem dX12_matters_19 : decode cX12_matters 19 = .ok (.aload_n 0, 1) := by decide +kernel
theorem dX12_matters_20 : decode cX12_matters 20 = .ok (.invokevirtual 407, 3) := by decide +kernel
theorem dX12_matters_23 : decode cX12_matters 23 = .ok (.istore_n 2, 1) := by decide +kernel
theorem dX12_matters_24 : decode cX12_matters 24 = .ok (.iconst 0, 1) := by decide +kernel
theorem dX12_matters_25 : decode cX12_matters 25 = .ok (.istore_n 3, 1) := by decide +kernel
theorem dX12_matters_26 : decode cX12_matters 26 = .ok (.iconst 0, 1) := by decide +kernel
theorem dX12_matters_27 : decode cX12_matters 27 = .ok (.istore 4, 2) := by decide +kernel
theorem dX12_matters_29 : decode cX12_matters 29 = .ok (.iload 4, 2) := by decide +kernel
theorem dX12_matters_31 : decode cX12_matters 31 = .ok (.aload_n 0, 1) := by decide +kernel
theorem dX12_matters_32 : decode cX12_matters 32 = .ok (.getfield 107, 3) := by decide +kernel
theorem dX12_matters_35 : decode cX12_matters 35 = .ok (.iload_n 1, 1) := by decide +kernel
theorem dX12_matters_36 : decode cX12_matters 36 = .ok (.iaload, 1) := by decide +kernel
theorem dX12_matters_37 : decode cX12_matters 37 = .ok (.if_icmp .ge 60, 3) := by decide +kernel
theorem dX12_matters_40 : decode cX12_matters 40 = .ok (.iconst 0, 1) := by decide +kernel
theorem dX12_matters_41 : decode cX12_matters 41 = .ok (.istore 5, 2) := by decide +kernel
theorem dX12_matters_43 : decode cX12_matters 43 = .ok (.iload 5, 2) := by decide +kernel
theorem dX12_matters_45 : decode cX12_matters 45 = .ok (.aload_n 0, 1) := by decide +kernel
theorem dX12_matters_46 : decode cX12_matters 46 = .ok (.invokevirtual 327, 3) := by decide +kernel
theorem dX12_matters_49 : decode cX12_matters 49 = .ok (.if_icmp .ge 42, 3) := by decide +kernel
theorem dX12_matters_52 : decode cX12_matters 52 = .ok (.aload_n 0, 1) := by decide +kernel
theorem dX12_matters_53 : decode cX12_matters 53 = .ok (.iload_n 1, 1) := by decide +kernel
theorem dX12_matters_54 : decode cX12_matters 54 = .ok (.invokevirtual 380, 3) := by decide +kernel
theorem dX12_matters_57 : decode cX12_matters 57 = .ok (.aload_n 0, 1) := by decide +kernel
theorem dX12_matters_58 : decode cX12_matters 58 = .ok (.getfield 110, 3) := by decide +kernel
theorem dX12_matters_61 : decode cX12_matters 61 = .ok (.iload 4, 2) := by decide +kernel
theorem dX12_matters_63 : decode cX12_matters 63 = .ok (.iload 5, 2) := by decide +kernel
theorem dX12_matters_65 : decode cX12_matters 65 = .ok (.iastore, 1) := by decide +kernel
theorem dX12_matters_66 : decode cX12_matters 66 = .ok (.aload_n 0, 1) := by decide +kernel
theorem dX12_matters_67 : decode cX12_matters 67 = .ok (.invokevirtual 352, 3) := by decide +kernel
theorem dX12_matters_70 : decode cX12_matters 70 = .ok (.aload_n 0, 1) := by decide +kernel
theorem dX12_matters_71 : decode cX12_matters 71 = .ok (.invokevirtual 407, 3) := by decide +kernel
theorem dX12_matters_74 : decode cX12_matters 74 = .ok (.iload_n 2, 1) := by decide +kernel
theorem dX12_matters_75 : decode cX12_matters 75 = .ok (.if_icmp .eq 10, 3) := by decide +kernel
theorem dX12_matters_78 : decode cX12_matters 78 = .ok (.iload_n 3, 1) := by decide +kernel
theorem dX12_matters_79 : decode cX12_matters 79 = .ok (.iconst 1, 1) := by decide +kernel
theorem dX12_matters_80 : decode cX12_matters 80 = .ok (.iload 4, 2) := by decide +kernel
theorem dX12_matters_82 : decode cX12_matters 82 = .ok (.ishl, 1) := by decide +kernel
theorem dX12_matters_83 : decode cX12_matters 83 = .ok (.ior, 1) := by decide +kernel
theorem dX12_matters_84 : decode cX12_matters 84 = .ok (.istore_n 3, 1) := by decide +kernel
theorem dX12_matters_85 : decode cX12_matters 85 = .ok (.iinc 5 1, 3) := by decide +kernel
theorem dX12_matters_88 : decode cX12_matters 88 = .ok (.goto (-45), 3) := by decide +kernel
theorem dX12_matters_91 : decode cX12_matters 91 = .ok (.iinc 4 1, 3) := by decide +kernel
theorem dX12_matters_94 : decode cX12_matters 94 = .ok (.goto (-65), 3) := by decide +kernel
theorem dX12_matters_97 : decode cX12_matters 97 = .ok (.iload_n 3, 1) := by decide +kernel
theorem dX12_matters_98 : decode cX12_matters 98 = .ok (.ireturn, 1) := by decide +kernel
def xX12_matters : zX := (RX12, cX12_matters, 6, (some .int), false, { frames := 5, cells := 0, slots := 0, locals := 177 }, 0, 0, 0, 0)
theorem rmX12_matters : z_Rm xX12_matters := by unfold z_Rm xX12_matters; exact ⟨by decide, by decide⟩
theorem reX12_matters : z_Re xX12_matters := ⟨rfl, rfl⟩
theorem rlX12_matters : 1 ≤ xX12_matters.2.2.2.2.2.1.frames ∧ 21 ≤ xX12_matters.2.2.2.2.2.1.locals := by unfold xX12_matters; exact ⟨by decide, by decide⟩
theorem meX12_matters : z_Me yX12_matters xX12_matters 1 := ⟨wd1209, wd848, by decide, by decide, by decide +kernel⟩
theorem fitX12_matters_2 : z_Fit xX12_isRow xX12_matters := by unfold z_Fit; simp only [xX12_isRow, xX12_matters]; exact ⟨by decide, by decide⟩
theorem fitX12_matters_11 : z_Fit xX12_copies xX12_matters := by unfold z_Fit; simp only [xX12_copies, xX12_matters]; exact ⟨by decide, by decide⟩
theorem fitX12_matters_16 : z_Fit xX12_laysRow xX12_matters := by unfold z_Fit; simp only [xX12_laysRow, xX12_matters]; exact ⟨by decide, by decide⟩
theorem fitX12_matters_20 : z_Fit xX12_lastLaid xX12_matters := by unfold z_Fit; simp only [xX12_lastLaid, xX12_matters]; exact ⟨by decide, by decide⟩
theorem fitX12_matters_46 : z_Fit xX12_base xX12_matters := by unfold z_Fit; simp only [xX12_base, xX12_matters]; exact ⟨by decide, by decide⟩
theorem fitX12_matters_54 : z_Fit xX12_laysRow xX12_matters := by unfold z_Fit; simp only [xX12_laysRow, xX12_matters]; exact ⟨by decide, by decide⟩
theorem fitX12_matters_67 : z_Fit xX12_laysDown xX12_matters := by unfold z_Fit; simp only [xX12_laysDown, xX12_matters]; exact ⟨by decide, by decide⟩
theorem fitX12_matters_71 : z_Fit xX12_lastLaid xX12_matters := by unfold z_Fit; simp only [xX12_lastLaid, xX12_matters]; exact ⟨by decide, by decide⟩
noncomputable def kX12_matters_97 : zK zR := (q_iload 3 q_iret)
noncomputable def kX12_matters_91 : zK ((zL × zS) ⊕ zR) := (q_iinc 4 1 q_ag)
noncomputable def kX12_matters_85 : zK ((zL × zS) ⊕ ((zL × zS) ⊕ zR)) := (q_iinc 5 1 q_ag)
noncomputable def bX12_matters_43 : zK ((zL × zS) ⊕ ((zL × zS) ⊕ zR)) := (q_iload 5 (q_aload 0 (q_callV 12 fX12_base 0 (q_icmp_ge (q_dn kX12_matters_91) (q_aload 0 (q_iload 1 (q_callV 12 fX12_laysRow 1 (q_aload 0 (q_getR 12 49 (q_iload 4 (q_iload 5 (q_iast (q_aload 0 (q_callV 12 fX12_laysDown 0 (q_aload 0 (q_callV 12 fX12_lastLaid 0 (q_iload 2 (q_icmp_eq kX12_matters_85 (q_iload 3 (q_push 1 (q_iload 4 (q_ishl (q_ior (q_istore 3 kX12_matters_85))))))))))))))))))))))))
noncomputable def kX12_matters_43 : zK ((zL × zS) ⊕ zR) := q_lp (bX12_matters_43)
noncomputable def bX12_matters_29 : zK ((zL × zS) ⊕ zR) := (q_iload 4 (q_aload 0 (q_getR 12 47 (q_iload 1 (q_iald (q_icmp_ge (q_dn kX12_matters_97) (q_push 0 (q_istore 5 kX12_matters_43))))))))
noncomputable def kX12_matters_29 : zK zR := q_lp (bX12_matters_29)
noncomputable def kX12_matters_0 : zK zR := (q_aload 0 (q_iload 1 (q_callV 12 fX12_isRow 1 (q_if_ne (q_aload 0 (q_callV 12 fX12_copies 0 (q_aload 0 (q_iload 1 (q_callV 12 fX12_laysRow 1 (q_aload 0 (q_callV 12 fX12_lastLaid 0 (q_istore 2 (q_push 0 (q_istore 3 (q_push 0 (q_istore 4 kX12_matters_29)))))))))))) (q_push (-1) q_iret)))))
set_option maxRecDepth 100000 in
theorem tX12_matters_97 {l : Launch} {D : zD} {B sz0 : Nat} {post : Option Value → zS → Prop} : zSnd l D B xX12_matters sz0 post 97 kX12_matters_97 (z_Jr post) := (s_iload_n dX12_matters_97 rfl (s_iret dX12_matters_98 rfl))
set_option maxRecDepth 100000 in
theorem tX12_matters_91 {l : Launch} {D : zD} {B sz0 : Nat} {post : Option Value → zS → Prop} : zSnd l D B xX12_matters sz0 post 91 kX12_matters_91 (z_Jl l D B xX12_matters sz0 post 29 (z_Jr post)) := (s_iinc dX12_matters_91 (by decide) (s_goto (tgt := 29) dX12_matters_94 (by decide) s_ag))
set_option maxRecDepth 100000 in
theorem tX12_matters_85 {l : Launch} {D : zD} {B sz0 : Nat} {post : Option Value → zS → Prop} : zSnd l D B xX12_matters sz0 post 85 kX12_matters_85 (z_Jl l D B xX12_matters sz0 post 43 (z_Jl l D B xX12_matters sz0 post 29 (z_Jr post))) := (s_iinc dX12_matters_85 (by decide) (s_goto (tgt := 43) dX12_matters_88 (by decide) s_ag))
set_option maxRecDepth 100000 in
theorem tX12_matters_43 {l : Launch} {D : zD} {B sz0 : Nat} {post : Option Value → zS → Prop} : zSnd l D B xX12_matters sz0 post 43 kX12_matters_43 (z_Jl l D B xX12_matters sz0 post 29 (z_Jr post)) := s_lp (body := bX12_matters_43) (s_iload dX12_matters_43 (s_aload_n dX12_matters_45 rfl (s_callV (r := (RX12, TX12, 74)) dX12_matters_46 mX12_base meX12_base wd1036 wd1037 rfl rfl reX12_base rmX12_matters (fitX12_matters_46) wd1038 (s_icmp_ge (tgt := 91) dX12_matters_49 (by decide) (s_dn tX12_matters_91) (s_aload_n dX12_matters_52 rfl (s_iload_n dX12_matters_53 rfl (s_callV (r := (RX12, TX12, 74)) dX12_matters_54 mX12_laysRow meX12_laysRow wd1108 wd1109 rfl rfl reX12_laysRow rmX12_matters (fitX12_matters_54) wd1110 (s_aload_n dX12_matters_57 rfl (s_getR (f := 49) dX12_matters_58 clX12 (by decide) rfl wd882 (s_iload dX12_matters_61 (s_iload dX12_matters_63 (s_iast dX12_matters_65 (s_aload_n dX12_matters_66 rfl (s_callV (r := (RX12, TX12, 74)) dX12_matters_67 mX12_laysDown meX12_laysDown wd1061 wd1062 rfl rfl reX12_laysDown rmX12_matters (fitX12_matters_67) wd1063 (s_aload_n dX12_matters_70 rfl (s_callV (r := (RX12, TX12, 74)) dX12_matters_71 mX12_lastLaid meX12_lastLaid wd1139 wd1140 rfl rfl reX12_lastLaid rmX12_matters (fitX12_matters_71) wd1141 (s_iload_n dX12_matters_74 rfl (s_icmp_eq (tgt := 85) dX12_matters_75 (by decide) tX12_matters_85 (s_iload_n dX12_matters_78 rfl (s_iconst dX12_matters_79 (by decide) (s_iload dX12_matters_80 (s_ishl dX12_matters_82 (s_ior dX12_matters_83 (s_istore_n dX12_matters_84 rfl tX12_matters_85))))))))))))))))))))))))
set_option maxRecDepth 100000 in
theorem tX12_matters_29 {l : Launch} {D : zD} {B sz0 : Nat} {post : Option Value → zS → Prop} : zSnd l D B xX12_matters sz0 post 29 kX12_matters_29 (z_Jr post) := s_lp (body := bX12_matters_29) (s_iload dX12_matters_29 (s_aload_n dX12_matters_31 rfl (s_getR (f := 47) dX12_matters_32 clX12 (by decide) rfl wd856 (s_iload_n dX12_matters_35 rfl (s_iald dX12_matters_36 (s_icmp_ge (tgt := 97) dX12_matters_37 (by decide) (s_dn tX12_matters_97) (s_iconst dX12_matters_40 (by decide) (s_istore dX12_matters_41 tX12_matters_43))))))))
set_option maxRecDepth 100000 in
theorem tX12_matters_0 {l : Launch} {D : zD} {B sz0 : Nat} {post : Option Value → zS → Prop} : zSnd l D B xX12_matters sz0 post 0 kX12_matters_0 (z_Jr post) := (s_aload_n dX12_matters_0 rfl (s_iload_n dX12_matters_1 rfl (s_callV (r := (RX12, TX12, 74)) dX12_matters_2 mX12_isRow meX12_isRow wd1042 wd1043 rfl rfl reX12_isRow rmX12_matters (fitX12_matters_2) wd1044 (s_if_ne (tgt := 10) dX12_matters_5 (by decide) (s_aload_n dX12_matters_10 rfl (s_callV (r := (RX12, TX12, 74)) dX12_matters_11 mX12_copies meX12_copies wd1133 wd1134 rfl rfl reX12_copies rmX12_matters (fitX12_matters_11) wd1135 (s_aload_n dX12_matters_14 rfl (s_iload_n dX12_matters_15 rfl (s_callV (r := (RX12, TX12, 74)) dX12_matters_16 mX12_laysRow meX12_laysRow wd1108 wd1109 rfl rfl reX12_laysRow rmX12_matters (fitX12_matters_16) wd1110 (s_aload_n dX12_matters_19 rfl (s_callV (r := (RX12, TX12, 74)) dX12_matters_20 mX12_lastLaid meX12_lastLaid wd1139 wd1140 rfl rfl reX12_lastLaid rmX12_matters (fitX12_matters_20) wd1141 (s_istore_n dX12_matters_23 rfl (s_iconst dX12_matters_24 (by decide) (s_istore_n dX12_matters_25 rfl (s_iconst dX12_matters_26 (by decide) (s_istore dX12_matters_27 tX12_matters_29)))))))))))) (s_iconst dX12_matters_8 (by decide) (s_iret dX12_matters_9 rfl))))))
noncomputable def fX12_matters : zF := z_fn 6 kX12_matters_0
theorem mX12_matters {l : Launch} {D : zD} {B : Nat} : z_MF l D B yX12_matters xX12_matters fX12_matters := z_mf (by decide) rfl (fun h => by cases h) rfl (fun as σ r h => ⟨z_fn_len h, kX12_matters_0, z_fn_run h, fun _ => tX12_matters_0⟩)
/-! ===== RowChildrenModel.fillsCan ===== -/
theorem dX12_fillsCan_0 : decode cX12_fillsCan 0 = .ok (.aload_n 0, 1) := by decide +kernel
theorem dX12_fillsCan_1 : decode cX12_fillsCan 1 = .ok (.getfield 122, 3) := by decide +kernel
theorem dX12_fillsCan_4 : decode cX12_fillsCan 4 = .ok (.aload_n 0, 1) := by decide +kernel
theorem dX12_fillsCan_5 : decode cX12_fillsCan 5 = .ok (.getfield 107, 3) := by decide +kernel
theorem dX12_fillsCan_8 : decode cX12_fillsCan 8 = .ok (.iload_n 1, 1) := by decide +kernel
theorem dX12_fillsCan_9 : decode cX12_fillsCan 9 = .ok (.iaload, 1) := by decide +kernel
theorem dX12_fillsCan_10 : decode cX12_fillsCan 10 = .ok (.iconst 1, 1) := by decide +kernel
theorem dX12_fillsCan_11 : decode cX12_fillsCan 11 = .ok (.aload_n 0, 1) := by decide +kernel
theorem dX12_fillsCan_12 : decode cX12_fillsCan 12 = .ok (.invokevirtual 327, 3) := by decide +kernel
theorem dX12_fillsCan_15 : decode cX12_fillsCan 15 = .ok (.ishl, 1) := by decide +kernel
theorem dX12_fillsCan_16 : decode cX12_fillsCan 16 = .ok (.iconst 1, 1) := by decide +kernel
theorem dX12_fillsCan_17 : decode cX12_fillsCan 17 = .ok (.isub, 1) := by decide +kernel
theorem dX12_fillsCan_18 : decode cX12_fillsCan 18 = .ok (.iastore, 1) := by decide +kernel
theorem dX12_fillsCan_19 : decode cX12_fillsCan 19 = .ok (.aload_n 0, 1) := by decide +kernel
theorem dX12_fillsCan_20 : decode cX12_fillsCan 20 = .ok (.getfield 107, 3) := by decide +kernel
theorem dX12_fillsCan_23 : decode cX12_fillsCan 23 = .ok (.iload_n 1, 1) := by decide +kernel
theorem dX12_fillsCan_24 : decode cX12_fillsCan 24 = .ok (.iaload, 1) := by decide +kernel
theorem dX12_fillsCan_25 : decode cX12_fillsCan 25 = .ok (.iconst 1, 1) := by decide +kernel
theorem dX12_fillsCan_26 : decode cX12_fillsCan 26 = .ok (.isub, 1) := by decide +kernel
theorem dX12_fillsCan_27 : decode cX12_fillsCan 27 = .ok (.istore_n 2, 1) := by decide +kernel
theorem dX12_fillsCan_28 : decode cX12_fillsCan 28 = .ok (.iload_n 2, 1) := by decide +kernel
theorem dX12_fillsCan_29 : decode cX12_fillsCan 29 = .ok (.ifCond .lt 91, 3) := by decide +kernel
theorem dX12_fillsCan_32 : decode cX12_fillsCan 32 = .ok (.aload_n 0, 1) := by decide +kernel
theorem dX12_fillsCan_33 : decode cX12_fillsCan 33 = .ok (.getfield 122, 3) := by decide +kernel
theorem dX12_fillsCan_36 : decode cX12_fillsCan 36 = .ok (.iload_n 2, 1) := by decide +kernel
theorem dX12_fillsCan_37 : decode cX12_fillsCan 37 = .ok (.iconst 0, 1) := by decide +kernel
theorem dX12_fillsCan_38 : decode cX12_fillsCan 38 = .ok (.iastore, 1) := by decide +kernel
theorem dX12_fillsCan_39 : decode cX12_fillsCan 39 = .ok (.iconst 0, 1) := by decide +kernel
theorem dX12_fillsCan_40 : decode cX12_fillsCan 40 = .ok (.istore_n 3, 1) := by decide +kernel
theorem dX12_fillsCan_41 : decode cX12_fillsCan 41 = .ok (.iload_n 3, 1) := by decide +kernel
theorem dX12_fillsCan_42 : decode cX12_fillsCan 42 = .ok (.bipush 16, 2) := by decide +kernel
theorem dX12_fillsCan_44 : decode cX12_fillsCan 44 = .ok (.if_icmp .ge 70, 3) := by decide +kernel
theorem dX12_fillsCan_47 : decode cX12_fillsCan 47 = .ok (.aload_n 0, 1) := by decide +kernel
theorem dX12_fillsCan_48 : decode cX12_fillsCan 48 = .ok (.iload_n 3, 1) := by decide +kernel
theorem dX12_fillsCan_49 : decode cX12_fillsCan 49 = .ok (.iconst 4, 1) := by decide +kernel
theorem dX12_fillsCan_50 : decode cX12_fillsCan 50 = .ok (.idiv, 1) := by decide +kernel
theorem dX12_fillsCan_51 : decode cX12_fillsCan 51 = .ok (.invokevirtual 398, 3) := by decide +kernel
theorem dX12_fillsCan_54 : decode cX12_fillsCan 54 = .ok (.ifCond .eq 54, 3) := by decide +kernel
theorem dX12_fillsCan_57 : decode cX12_fillsCan 57 = .ok (.aload_n 0, 1) := by decide +kernel
theorem dX12_fillsCan_58 : decode cX12_fillsCan 58 = .ok (.getfield 122, 3) := by decide +kernel
theorem dX12_fillsCan_61 : decode cX12_fillsCan 61 = .ok (.iload_n 2, 1) := by decide +kernel
theorem dX12_fillsCan_62 : decode cX12_fillsCan 62 = .ok (.iconst 1, 1) := by decide +kernel
theorem dX12_fillsCan_63 : decode cX12_fillsCan 63 = .ok (.iadd, 1) := by decide +kernel
theorem dX12_fillsCan_64 : decode cX12_fillsCan 64 = .ok (.iaload, 1) := by decide +kernel
theorem dX12_fillsCan_65 : decode cX12_fillsCan 65 = .ok (.iload_n 3, 1) := by decide +kernel
theorem dX12_fillsCan_66 : decode cX12_fillsCan 66 = .ok (.iconst 4, 1) := by decide +kernel
theorem dX12_fillsCan_67 : decode cX12_fillsCan 67 = .ok (.irem, 1) := by decide +kernel
theorem dX12_fillsCan_68 : decode cX12_fillsCan 68 = .ok (.ishr, 1) := by decide +kernel
theorem dX12_fillsCan_69 : decode cX12_fillsCan 69 = .ok (.iconst 1, 1) := by decide +kernel
theorem dX12_fillsCan_70 : decode cX12_fillsCan 70 = .ok (.iand, 1) := by decide +kernel
theorem dX12_fillsCan_71 : decode cX12_fillsCan 71 = .ok (.iconst 1, 1) := by decide +kernel
theorem dX12_fillsCan_72 : decode cX12_fillsCan 72 = .ok (.if_icmp .ne 36, 3) := by decide +kernel
theorem dX12_fillsCan_75 : decode cX12_fillsCan 75 = .ok (.aload_n 0, 1) := by decide +kernel
theorem dX12_fillsCan_76 : decode cX12_fillsCan 76 = .ok (.iload_n 3, 1) := by decide +kernel
theorem dX12_fillsCan_77 : decode cX12_fillsCan 77 = .ok (.iconst 4, 1) := by decide +kernel
theorem dX12_fillsCan_78 : decode cX12_fillsCan 78 = .ok (.idiv, 1) := by decide +kernel
theorem dX12_fillsCan_79 : decode cX12_fillsCan 79 = .ok (.iload_n 3, 1) := by decide +kernel
theorem dX12_fillsCan_80 : decode cX12_fillsCan 80 = .ok (.iconst 4, 1) := by decide +kernel
theorem dX12_fillsCan_81 : decode cX12_fillsCan 81 = .ok (.irem, 1) := by decide +kernel
theorem dX12_fillsCan_82 : decode cX12_fillsCan 82 = .ok (.invokevirtual 346, 3) := by decide +kernel
theorem dX12_fillsCan_85 : decode cX12_fillsCan 85 = .ok (.aload_n 0, 1) := by decide +kernel
theorem dX12_fillsCan_86 : decode cX12_fillsCan 86 = .ok (.iload_n 1, 1) := by decide +kernel
theorem dX12_fillsCan_87 : decode cX12_fillsCan 87 = .ok (.iload_n 2, 1) := by decide +kernel
theorem dX12_fillsCan_88 : decode cX12_fillsCan 88 = .ok (.invokevirtual 349, 3) := by decide +kernel
theorem dX12_fillsCan_91 : decode cX12_fillsCan 91 = .ok (.if_icmp .ne 17, 3) := by decide +kernel
theorem dX12_fillsCan_94 : decode cX12_fillsCan 94 = .ok (.aload_n 0, 1) := by decide +kernel
theorem dX12_fillsCan_95 : decode cX12_fillsCan 95 = .ok (.getfield 122, 3) := by decide +kernel
theorem dX12_fillsCan_98 : decode cX12_fillsCan 98 = .ok (.iload_n 2, 1) := by decide +kernel
theorem dX12_fillsCan_99 : decode cX12_fillsCan 99 = .ok (.dup2, 1) := by decide +kernel
theorem dX12_fillsCan_100 : decode cX12_fillsCan 100 = .ok (.iaload, 1) := by decide +kernel
theorem dX12_fillsCan_101 : decode cX12_fillsCan 101 = .ok (.iconst 1, 1) := by decide +kernel
theorem dX12_fillsCan_102 : decode cX12_fillsCan 102 = .ok (.iload_n 3, 1) := by decide +kernel
theorem dX12_fillsCan_103 : decode cX12_fillsCan 103 = .ok (.iconst 4, 1) := by decide +kernel
theorem dX12_fillsCan_104 : decode cX12_fillsCan 104 = .ok (.idiv, 1) := by decide +kernel
theorem dX12_fillsCan_105 : decode cX12_fillsCan 105 = .ok (.ishl, 1) := by decide +kernel
theorem dX12_fillsCan_106 : decode cX12_fillsCan 106 = .ok (.ior, 1) := by decide +kernel
theorem dX12_fillsCan_107 : decode cX12_fillsCan 107 = .ok (.iastore, 1) := by decide +kernel
theorem dX12_fillsCan_108 : decode cX12_fillsCan 108 = .ok (.iinc 3 1, 3) := by decide +kernel
theorem dX12_fillsCan_111 : decode cX12_fillsCan 111 = .ok (.goto (-70), 3) := by decide +kernel
theorem dX12_fillsCan_114 : decode cX12_fillsCan 114 = .ok (.iinc 2 (-1), 3) := by decide +kernel
theorem dX12_fillsCan_117 : decode cX12_fillsCan 117 = .ok (.goto (-89), 3) := by decide +kernel
theorem dX12_fillsCan_120 : decode cX12_fillsCan 120 = .ok (.return_, 1) := by decide +kernel
def xX12_fillsCan : zX := (RX12, cX12_fillsCan, 4, none, false, { frames := 3, cells := 0, slots := 0, locals := 133 }, 0, 0, 0, 0)
theorem rmX12_fillsCan : z_Rm xX12_fillsCan := by unfold z_Rm xX12_fillsCan; exact ⟨by decide, by decide⟩
theorem reX12_fillsCan : z_Re xX12_fillsCan := ⟨rfl, rfl⟩
theorem rlX12_fillsCan : 1 ≤ xX12_fillsCan.2.2.2.2.2.1.frames ∧ 21 ≤ xX12_fillsCan.2.2.2.2.2.1.locals := by unfold xX12_fillsCan; exact ⟨by decide, by decide⟩
theorem meX12_fillsCan : z_Me yX12_fillsCan xX12_fillsCan 1 := ⟨wd1210, wd848, by decide, by decide, by decide +kernel⟩
theorem fitX12_fillsCan_12 : z_Fit xX12_base xX12_fillsCan := by unfold z_Fit; simp only [xX12_base, xX12_fillsCan]; exact ⟨by decide, by decide⟩
theorem fitX12_fillsCan_51 : z_Fit xX12_isColour xX12_fillsCan := by unfold z_Fit; simp only [xX12_isColour, xX12_fillsCan]; exact ⟨by decide, by decide⟩
theorem fitX12_fillsCan_82 : z_Fit xX12_childOf xX12_fillsCan := by unfold z_Fit; simp only [xX12_childOf, xX12_fillsCan]; exact ⟨by decide, by decide⟩
theorem fitX12_fillsCan_88 : z_Fit xX12_seatAt xX12_fillsCan := by unfold z_Fit; simp only [xX12_seatAt, xX12_fillsCan]; exact ⟨by decide, by decide⟩
noncomputable def kX12_fillsCan_120 : zK zR := q_vret
noncomputable def kX12_fillsCan_114 : zK ((zL × zS) ⊕ zR) := (q_iinc 2 (-1) q_ag)
noncomputable def kX12_fillsCan_108 : zK ((zL × zS) ⊕ ((zL × zS) ⊕ zR)) := (q_iinc 3 1 q_ag)
noncomputable def bX12_fillsCan_41 : zK ((zL × zS) ⊕ ((zL × zS) ⊕ zR)) := (q_iload 3 (q_push 16 (q_icmp_ge (q_dn kX12_fillsCan_114) (q_aload 0 (q_iload 3 (q_push 4 (q_idiv (q_callV 12 fX12_isColour 1 (q_if_eq kX12_fillsCan_108 (q_aload 0 (q_getR 12 55 (q_iload 2 (q_push 1 (q_iadd (q_iald (q_iload 3 (q_push 4 (q_irem (q_ishr (q_push 1 (q_iand (q_push 1 (q_icmp_ne kX12_fillsCan_108 (q_aload 0 (q_iload 3 (q_push 4 (q_idiv (q_iload 3 (q_push 4 (q_irem (q_callV 12 fX12_childOf 2 (q_aload 0 (q_iload 1 (q_iload 2 (q_callV 12 fX12_seatAt 2 (q_icmp_ne kX12_fillsCan_108 (q_aload 0 (q_getR 12 55 (q_iload 2 (q_dup2 (q_iald (q_push 1 (q_iload 3 (q_push 4 (q_idiv (q_ishl (q_ior (q_iast kX12_fillsCan_108))))))))))))))))))))))))))))))))))))))))))))))))
noncomputable def kX12_fillsCan_41 : zK ((zL × zS) ⊕ zR) := q_lp (bX12_fillsCan_41)
noncomputable def bX12_fillsCan_28 : zK ((zL × zS) ⊕ zR) := (q_iload 2 (q_if_lt (q_dn kX12_fillsCan_120) (q_aload 0 (q_getR 12 55 (q_iload 2 (q_push 0 (q_iast (q_push 0 (q_istore 3 kX12_fillsCan_41)))))))))
noncomputable def kX12_fillsCan_28 : zK zR := q_lp (bX12_fillsCan_28)
noncomputable def kX12_fillsCan_0 : zK zR := (q_aload 0 (q_getR 12 55 (q_aload 0 (q_getR 12 47 (q_iload 1 (q_iald (q_push 1 (q_aload 0 (q_callV 12 fX12_base 0 (q_ishl (q_push 1 (q_isub (q_iast (q_aload 0 (q_getR 12 47 (q_iload 1 (q_iald (q_push 1 (q_isub (q_istore 2 kX12_fillsCan_28))))))))))))))))))))
set_option maxRecDepth 100000 in
theorem tX12_fillsCan_120 {l : Launch} {D : zD} {B sz0 : Nat} {post : Option Value → zS → Prop} : zSnd l D B xX12_fillsCan sz0 post 120 kX12_fillsCan_120 (z_Jr post) := (s_vret dX12_fillsCan_120 rfl)
set_option maxRecDepth 100000 in
theorem tX12_fillsCan_114 {l : Launch} {D : zD} {B sz0 : Nat} {post : Option Value → zS → Prop} : zSnd l D B xX12_fillsCan sz0 post 114 kX12_fillsCan_114 (z_Jl l D B xX12_fillsCan sz0 post 28 (z_Jr post)) := (s_iinc dX12_fillsCan_114 (by decide) (s_goto (tgt := 28) dX12_fillsCan_117 (by decide) s_ag))
set_option maxRecDepth 100000 in
theorem tX12_fillsCan_108 {l : Launch} {D : zD} {B sz0 : Nat} {post : Option Value → zS → Prop} : zSnd l D B xX12_fillsCan sz0 post 108 kX12_fillsCan_108 (z_Jl l D B xX12_fillsCan sz0 post 41 (z_Jl l D B xX12_fillsCan sz0 post 28 (z_Jr post))) := (s_iinc dX12_fillsCan_108 (by decide) (s_goto (tgt := 41) dX12_fillsCan_111 (by decide) s_ag))
set_option maxRecDepth 100000 in
theorem tX12_fillsCan_41 {l : Launch} {D : zD} {B sz0 : Nat} {post : Option Value → zS → Prop} : zSnd l D B xX12_fillsCan sz0 post 41 kX12_fillsCan_41 (z_Jl l D B xX12_fillsCan sz0 post 28 (z_Jr post)) := s_lp (body := bX12_fillsCan_41) (s_iload_n dX12_fillsCan_41 rfl (s_bipush dX12_fillsCan_42 (by decide) (s_icmp_ge (tgt := 114) dX12_fillsCan_44 (by decide) (s_dn tX12_fillsCan_114) (s_aload_n dX12_fillsCan_47 rfl (s_iload_n dX12_fillsCan_48 rfl (s_iconst dX12_fillsCan_49 (by decide) (s_idiv dX12_fillsCan_50 (s_callV (r := (RX12, TX12, 74)) dX12_fillsCan_51 mX12_isColour meX12_isColour wd1129 wd1130 rfl rfl reX12_isColour rmX12_fillsCan (fitX12_fillsCan_51) wd1131 (s_if_eq (tgt := 108) dX12_fillsCan_54 (by decide) tX12_fillsCan_108 (s_aload_n dX12_fillsCan_57 rfl (s_getR (f := 55) dX12_fillsCan_58 clX12 (by decide) rfl wd886 (s_iload_n dX12_fillsCan_61 rfl (s_iconst dX12_fillsCan_62 (by decide) (s_iadd dX12_fillsCan_63 (s_iald dX12_fillsCan_64 (s_iload_n dX12_fillsCan_65 rfl (s_iconst dX12_fillsCan_66 (by decide) (s_irem dX12_fillsCan_67 (s_ishr dX12_fillsCan_68 (s_iconst dX12_fillsCan_69 (by decide) (s_iand dX12_fillsCan_70 (s_iconst dX12_fillsCan_71 (by decide) (s_icmp_ne (tgt := 108) dX12_fillsCan_72 (by decide) tX12_fillsCan_108 (s_aload_n dX12_fillsCan_75 rfl (s_iload_n dX12_fillsCan_76 rfl (s_iconst dX12_fillsCan_77 (by decide) (s_idiv dX12_fillsCan_78 (s_iload_n dX12_fillsCan_79 rfl (s_iconst dX12_fillsCan_80 (by decide) (s_irem dX12_fillsCan_81 (s_callV (r := (RX12, TX12, 74)) dX12_fillsCan_82 mX12_childOf meX12_childOf wd1057 wd1058 rfl rfl reX12_childOf rmX12_fillsCan (fitX12_fillsCan_82) wd1059 (s_aload_n dX12_fillsCan_85 rfl (s_iload_n dX12_fillsCan_86 rfl (s_iload_n dX12_fillsCan_87 rfl (s_callV (r := (RX12, TX12, 74)) dX12_fillsCan_88 mX12_seatAt meX12_seatAt wd1064 wd1065 rfl rfl reX12_seatAt rmX12_fillsCan (fitX12_fillsCan_88) wd1066 (s_icmp_ne (tgt := 108) dX12_fillsCan_91 (by decide) tX12_fillsCan_108 (s_aload_n dX12_fillsCan_94 rfl (s_getR (f := 55) dX12_fillsCan_95 clX12 (by decide) rfl wd886 (s_iload_n dX12_fillsCan_98 rfl (s_dup2 dX12_fillsCan_99 (s_iald dX12_fillsCan_100 (s_iconst dX12_fillsCan_101 (by decide) (s_iload_n dX12_fillsCan_102 rfl (s_iconst dX12_fillsCan_103 (by decide) (s_idiv dX12_fillsCan_104 (s_ishl dX12_fillsCan_105 (s_ior dX12_fillsCan_106 (s_iast dX12_fillsCan_107 tX12_fillsCan_108))))))))))))))))))))))))))))))))))))))))))))))))
set_option maxRecDepth 100000 in
theorem tX12_fillsCan_28 {l : Launch} {D : zD} {B sz0 : Nat} {post : Option Value → zS → Prop} : zSnd l D B xX12_fillsCan sz0 post 28 kX12_fillsCan_28 (z_Jr post) := s_lp (body := bX12_fillsCan_28) (s_iload_n dX12_fillsCan_28 rfl (s_if_lt (tgt := 120) dX12_fillsCan_29 (by decide) (s_dn tX12_fillsCan_120) (s_aload_n dX12_fillsCan_32 rfl (s_getR (f := 55) dX12_fillsCan_33 clX12 (by decide) rfl wd886 (s_iload_n dX12_fillsCan_36 rfl (s_iconst dX12_fillsCan_37 (by decide) (s_iast dX12_fillsCan_38 (s_iconst dX12_fillsCan_39 (by decide) (s_istore_n dX12_fillsCan_40 rfl tX12_fillsCan_41)))))))))
set_option maxRecDepth 100000 in
theorem tX12_fillsCan_0 {l : Launch} {D : zD} {B sz0 : Nat} {post : Option Value → zS → Prop} : zSnd l D B xX12_fillsCan sz0 post 0 kX12_fillsCan_0 (z_Jr post) := (s_aload_n dX12_fillsCan_0 rfl (s_getR (f := 55) dX12_fillsCan_1 clX12 (by decide) rfl wd886 (s_aload_n dX12_fillsCan_4 rfl (s_getR (f := 47) dX12_fillsCan_5 clX12 (by decide) rfl wd856 (s_iload_n dX12_fillsCan_8 rfl (s_iald dX12_fillsCan_9 (s_iconst dX12_fillsCan_10 (by decide) (s_aload_n dX12_fillsCan_11 rfl (s_callV (r := (RX12, TX12, 74)) dX12_fillsCan_12 mX12_base meX12_base wd1036 wd1037 rfl rfl reX12_base rmX12_fillsCan (fitX12_fillsCan_12) wd1038 (s_ishl dX12_fillsCan_15 (s_iconst dX12_fillsCan_16 (by decide) (s_isub dX12_fillsCan_17 (s_iast dX12_fillsCan_18 (s_aload_n dX12_fillsCan_19 rfl (s_getR (f := 47) dX12_fillsCan_20 clX12 (by decide) rfl wd856 (s_iload_n dX12_fillsCan_23 rfl (s_iald dX12_fillsCan_24 (s_iconst dX12_fillsCan_25 (by decide) (s_isub dX12_fillsCan_26 (s_istore_n dX12_fillsCan_27 rfl tX12_fillsCan_28))))))))))))))))))))
noncomputable def fX12_fillsCan : zF := z_fn 4 kX12_fillsCan_0
theorem mX12_fillsCan {l : Launch} {D : zD} {B : Nat} : z_MF l D B yX12_fillsCan xX12_fillsCan fX12_fillsCan := z_mf (by decide) rfl (fun h => by cases h) rfl (fun as σ r h => ⟨z_fn_len h, kX12_fillsCan_0, z_fn_run h, fun _ => tX12_fillsCan_0⟩)
/-! ===== RowChildrenModel.parentsMany ===== -/
theorem dX12_parentsMany_0 : decode cX12_parentsMany 0 = .ok (.iconst 0, 1) := by decide +kernel
theorem dX12_parentsMany_1 : decode cX12_parentsMany 1 = .ok (.istore_n 2, 1) := by decide +kernel
theorem dX12_parentsMany_2 : decode cX12_parentsMany 2 = .ok (.iload_n 2, 1) := by decide +kernel
theorem dX12_parentsMany_3 : decode cX12_parentsMany 3 = .ok (.iconst 4, 1) := by decide +kernel
theorem dX12_parentsMany_4 : decode cX12_parentsMany 4 = .ok (.if_icmp .ge 28, 3) := by decide +kernel
theorem dX12_parentsMany_7 : decode cX12_parentsMany 7 = .ok (.aload_n 0, 1) := by decide +kernel
theorem dX12_parentsMany_8 : decode cX12_parentsMany 8 = .ok (.getfield 125, 3) := by decide +kernel
theorem dX12_parentsMany_11 : decode cX12_parentsMany 11 = .ok (.iload_n 2, 1) := by decide +kernel
theorem dX12_parentsMany_12 : decode cX12_parentsMany 12 = .ok (.aload_n 0, 1) := by decide +kernel
theorem dX12_parentsMany_13 : decode cX12_parentsMany 13 = .ok (.iload_n 2, 1) := by decide +kernel
theorem dX12_parentsMany_14 : decode cX12_parentsMany 14 = .ok (.invokevirtual 398, 3) := by decide +kernel
theorem dX12_parentsMany_17 : decode cX12_parentsMany 17 = .ok (.ifCond .eq 7, 3) := by decide +kernel
theorem dX12_parentsMany_20 : decode cX12_parentsMany 20 = .ok (.iconst 1, 1) := by decide +kernel
theorem dX12_parentsMany_21 : decode cX12_parentsMany 21 = .ok (.goto 4, 3) := by decide +kernel
theorem dX12_parentsMany_24 : decode cX12_parentsMany 24 = .ok (.iconst 0, 1) := by decide +kernel
theorem dX12_parentsMany_25 : decode cX12_parentsMany 25 = .ok (.iastore, 1) := by decide +kernel
theorem dX12_parentsMany_26 : decode cX12_parentsMany 26 = .ok (.iinc 2 1, 3) := by decide +kernel
theorem dX12_parentsMany_29 : decode cX12_parentsMany 29 = .ok (.goto (-27), 3) := by decide +kernel
theorem dX12_parentsMany_32 : decode cX12_parentsMany 32 = .ok (.iconst 0, 1) := by decide +kernel
theorem dX12_parentsMany_33 : decode cX12_parentsMany 33 = .ok (.istore_n 2, 1) := by decide +kernel
theorem dX12_parentsMany_34 : decode cX12_parentsMany 34 = .ok (.iload_n 2, 1) := by decide +kernel
theorem dX12_parentsMany_35 : decode cX12_parentsMany 35 = .ok (.aload_n 0, 1) := by decide +kernel
theorem dX12_parentsMany_36 : decode cX12_parentsMany 36 = .ok (.getfield 107, 3) := by decide +kernel
theorem dX12_parentsMany_39 : decode cX12_parentsMany 39 = .ok (.iload_n 1, 1) := by decide +kernel
theorem dX12_parentsMany_40 : decode cX12_parentsMany 40 = .ok (.iaload, 1) := by decide +kernel
theorem dX12_parentsMany_41 : decode cX12_parentsMany 41 = .ok (.if_icmp .ge 126, 3) := by decide +kernel
theorem dX12_parentsMany_44 : decode cX12_parentsMany 44 = .ok (.iconst 0, 1) := by decide +kernel
theorem dX12_parentsMany_45 : decode cX12_parentsMany 45 = .ok (.istore_n 3, 1) := by decide +kernel
theorem dX12_parentsMany_46 : decode cX12_parentsMany 46 = .ok (.iload_n 3, 1) := by decide +kernel
theorem dX12_parentsMany_47 : decode cX12_parentsMany 47 = .ok (.iconst 4, 1) := by decide +kernel
theorem dX12_parentsMany_48 : decode cX12_parentsMany 48 = .ok (.if_icmp .ge 16, 3) := by decide +kernel
theorem dX12_parentsMany_51 : decode cX12_parentsMany 51 = .ok (.aload_n 0, 1) := by decide +kernel
theorem dX12_parentsMany_52 : decode cX12_parentsMany 52 = .ok (.getfield 128, 3) := by decide +kernel
theorem dX12_parentsMany_55 : decode cX12_parentsMany 55 = .ok (.iload_n 3, 1) := by decide +kernel
theorem dX12_parentsMany_56 : decode cX12_parentsMany 56 = .ok (.iconst 0, 1) := by decide +kernel
theorem dX12_parentsMany_57 : decode cX12_parentsMany 57 = .ok (.iastore, 1) := by decide +kernel
theorem dX12_parentsMany_58 : decode cX12_parentsMany 58 = .ok (.iinc 3 1, 3) := by decide +kernel
theorem dX12_parentsMany_61 : decode cX12_parentsMany 61 = .ok (.goto (-15), 3) := by decide +kernel
theorem dX12_parentsMany_64 : decode cX12_parentsMany 64 = .ok (.iconst 0, 1) := by decide +kernel
theorem dX12_parentsMany_65 : decode cX12_parentsMany 65 = .ok (.istore_n 3, 1) := by decide +kernel
theorem dX12_parentsMany_66 : decode cX12_parentsMany 66 = .ok (.iload_n 3, 1) := by decide +kernel
theorem dX12_parentsMany_67 : decode cX12_parentsMany 67 = .ok (.bipush 16, 2) := by decide +kernel
theorem dX12_parentsMany_69 : decode cX12_parentsMany 69 = .ok (.if_icmp .ge 67, 3) := by decide +kernel
theorem dX12_parentsMany_72 : decode cX12_parentsMany 72 = .ok (.aload_n 0, 1) := by decide +kernel
theorem dX12_parentsMany_73 : decode cX12_parentsMany 73 = .ok (.iload_n 3, 1) := by decide +kernel
theorem dX12_parentsMany_74 : decode cX12_parentsMany 74 = .ok (.iconst 4, 1) := by decide +kernel
theorem dX12_parentsMany_75 : decode cX12_parentsMany 75 = .ok (.idiv, 1) := by decide +kernel
theorem dX12_parentsMany_76 : decode cX12_parentsMany 76 = .ok (.invokevirtual 398, 3) := by decide +kernel
theorem dX12_parentsMany_79 : decode cX12_parentsMany 79 = .ok (.ifCond .eq 51, 3) := by decide +kernel
theorem dX12_parentsMany_82 : decode cX12_parentsMany 82 = .ok (.aload_n 0, 1) := by decide +kernel
theorem dX12_parentsMany_83 : decode cX12_parentsMany 83 = .ok (.iload_n 3, 1) := by decide +kernel
theorem dX12_parentsMany_84 : decode cX12_parentsMany 84 = .ok (.iconst 4, 1) := by decide +kernel
theorem dX12_parentsMany_85 : decode cX12_parentsMany 85 = .ok (.irem, 1) := by decide +kernel
theorem dX12_parentsMany_86 : decode cX12_parentsMany 86 = .ok (.invokevirtual 398, 3) := by decide +kernel
theorem dX12_parentsMany_89 : decode cX12_parentsMany 89 = .ok (.ifCond .eq 41, 3) := by decide +kernel
theorem dX12_parentsMany_92 : decode cX12_parentsMany 92 = .ok (.aload_n 0, 1) := by decide +kernel
theorem dX12_parentsMany_93 : decode cX12_parentsMany 93 = .ok (.iload_n 3, 1) := by decide +kernel
theorem dX12_parentsMany_94 : decode cX12_parentsMany 94 = .ok (.iconst 4, 1) := by decide +kernel
theorem dX12_parentsMany_95 : decode cX12_parentsMany 95 = .ok (.idiv, 1) := by decide +kernel
theorem dX12_parentsMany_96 : decode cX12_parentsMany 96 = .ok (.iload_n 3, 1) := by decide +kernel
theorem dX12_parentsMany_97 : decode cX12_parentsMany 97 = .ok (.iconst 4, 1) := by decide +kernel
theorem dX12_parentsMany_98 : decode cX12_parentsMany 98 = .ok (.irem, 1) := by decide +kernel
theorem dX12_parentsMany_99 : decode cX12_parentsMany 99 = .ok (.invokevirtual 346, 3) := by decide +kernel
theorem dX12_parentsMany_102 : decode cX12_parentsMany 102 = .ok (.aload_n 0, 1) := by decide +kernel
theorem dX12_parentsMany_103 : decode cX12_parentsMany 103 = .ok (.iload_n 1, 1) := by decide +kernel
theorem dX12_parentsMany_104 : decode cX12_parentsMany 104 = .ok (.iload_n 2, 1) := by decide +kernel
theorem dX12_parentsMany_105 : decode cX12_parentsMany 105 = .ok (.invokevirtual 349, 3) := by decide +kernel
theorem dX12_parentsMany_108 : decode cX12_parentsMany 108 = .ok (.if_icmp .ne 22, 3) := by decide +kernel
theorem dX12_parentsMany_111 : decode cX12_parentsMany 111 = .ok (.aload_n 0, 1) := by decide +kernel
theorem dX12_parentsMany_112 : decode cX12_parentsMany 112 = .ok (.getfield 128, 3) := by decide +kernel
theorem dX12_parentsMany_115 : decode cX12_parentsMany 115 = .ok (.iload_n 3, 1) := by decide +kernel
theorem dX12_parentsMany_116 : decode cX12_parentsMany 116 = .ok (.iconst 4, 1) := by decide +kernel
theorem dX12_parentsMany_117 : decode cX12_parentsMany 117 = .ok (.irem, 1) := by decide +kernel
theorem dX12_parentsMany_118 : decode cX12_parentsMany 118 = .ok (.dup2, 1) := by decide +kernel
theorem dX12_parentsMany_119 : decode cX12_parentsMany 119 = .ok (.iaload, 1) := by decide +kernel
theorem dX12_parentsMany_120 : decode cX12_parentsMany 120 = .ok (.aload_n 0, 1) := by decide +kernel
theorem dX12_parentsMany_121 : decode cX12_parentsMany 121 = .ok (.getfield 125, 3) := by decide +kernel
theorem dX12_parentsMany_124 : decode cX12_parentsMany 124 = .ok (.iload_n 3, 1) := by decide +kernel
theorem dX12_parentsMany_125 : decode cX12_parentsMany 125 = .ok (.iconst 4, 1) := by decide +kernel
theorem dX12_parentsMany_126 : decode cX12_parentsMany 126 = .ok (.idiv, 1) := by decide +kernel
theorem dX12_parentsMany_127 : decode cX12_parentsMany 127 = .ok (.iaload, 1) := by decide +kernel
theorem dX12_parentsMany_128 : decode cX12_parentsMany 128 = .ok (.iadd, 1) := by decide +kernel
theorem dX12_parentsMany_129 : decode cX12_parentsMany 129 = .ok (.iastore, 1) := by decide +kernel
theorem dX12_parentsMany_130 : decode cX12_parentsMany 130 = .ok (.iinc 3 1, 3) := by decide +kernel
theorem dX12_parentsMany_133 : decode cX12_parentsMany 133 = .ok (.goto (-67), 3) := by decide +kernel
theorem dX12_parentsMany_136 : decode cX12_parentsMany 136 = .ok (.iconst 0, 1) := by decide +kernel
theorem dX12_parentsMany_137 : decode cX12_parentsMany 137 = .ok (.istore_n 3, 1) := by decide +kernel
theorem dX12_parentsMany_138 : decode cX12_parentsMany 138 = .ok (.iload_n 3, 1) := by decide +kernel
theorem dX12_parentsMany_139 : decode cX12_parentsMany 139 = .ok (.iconst 4, 1) := by decide +kernel
theorem dX12_parentsMany_140 : decode cX12_parentsMany 140 = .ok (.if_icmp .ge 21, 3) := by decide +kernel
theorem dX12_parentsMany_143 : decode cX12_parentsMany 143 = .ok (.aload_n 0, 1) := by decide +kernel
theorem dX12_parentsMany_144 : decode cX12_parentsMany 144 = .ok (.getfield 125, 3) := by decide +kernel
theorem dX12_parentsMany_147 : decode cX12_parentsMany 147 = .ok (.iload_n 3, 1) := by decide +kernel
theorem dX12_parentsMany_148 : decode cX12_parentsMany 148 = .ok (.aload_n 0, 1) := by decide +kernel
theorem dX12_parentsMany_149 : decode cX12_parentsMany 149 = .ok (.getfield 128, 3) := by decide +kernel
theorem dX12_parentsMany_152 : decode cX12_parentsMany 152 = .ok (.iload_n 3, 1) := by decide +kernel
theorem dX12_parentsMany_153 : decode cX12_parentsMany 153 = .ok (.iaload, 1) := by decide +kernel
theorem dX12_parentsMany_154 : decode cX12_parentsMany 154 = .ok (.iastore, 1) := by decide +kernel
theorem dX12_parentsMany_155 : decode cX12_parentsMany 155 = .ok (.iinc 3 1, 3) := by decide +kernel
theorem dX12_parentsMany_158 : decode cX12_parentsMany 158 = .ok (.goto (-20), 3) := by decide +kernel
theorem dX12_parentsMany_161 : decode cX12_parentsMany 161 = .ok (.iinc 2 1, 3) := by decide +kernel
theorem dX12_parentsMany_164 : decode cX12_parentsMany 164 = .ok (.goto (-130), 3) := by decide +kernel
theorem dX12_parentsMany_167 : decode cX12_parentsMany 167 = .ok (.aload_n 0, 1) := by decide +kernel
theorem dX12_parentsMany_168 : decode cX12_parentsMany 168 = .ok (.getfield 125, 3) := by decide +kernel
theorem dX12_parentsMany_171 : decode cX12_parentsMany 171 = .ok (.iconst 0, 1) := by decide +kernel
theorem dX12_parentsMany_172 : decode cX12_parentsMany 172 = .ok (.iaload, 1) := by decide +kernel
theorem dX12_parentsMany_173 : decode cX12_parentsMany 173 = .ok (.aload_n 0, 1) := by decide +kernel
theorem dX12_parentsMany_174 : decode cX12_parentsMany 174 = .ok (.getfield 125, 3) := by decide +kernel
theorem dX12_parentsMany_177 : decode cX12_parentsMany 177 = .ok (.iconst 1, 1) := by decide +kernel
theorem dX12_parentsMany_178 : decode cX12_parentsMany 178 = .ok (.iaload, 1) := by decide +kernel
theorem dX12_parentsMany_179 : decode cX12_parentsMany 179 = .ok (.iadd, 1) := by decide +kernel
theorem dX12_parentsMany_180 : decode cX12_parentsMany 180 = .ok (.aload_n 0, 1) := by decide +kernel
theorem dX12_parentsMany_181 : decode cX12_parentsMany 181 = .ok (.getfield 125, 3) := by decide +kernel
theorem dX12_parentsMany_184 : decode cX12_parentsMany 184 = .ok (.iconst 2, 1) := by decide +kernel
theorem dX12_parentsMany_185 : decode cX12_parentsMany 185 = .ok (.iaload, 1) := by decide +kernel
theorem dX12_parentsMany_186 : decode cX12_parentsMany 186 = .ok (.iadd, 1) := by decide +kernel
theorem dX12_parentsMany_187 : decode cX12_parentsMany 187 = .ok (.aload_n 0, 1) := by decide +kernel
theorem dX12_parentsMany_188 : decode cX12_parentsMany 188 = .ok (.getfield 125, 3) := by decide +kernel
theorem dX12_parentsMany_191 : decode cX12_parentsMany 191 = .ok (.iconst 3, 1) := by decide +kernel
theorem dX12_parentsMany_192 : decode cX12_parentsMany 192 = .ok (.iaload, 1) := by decide +kernel
theorem dX12_parentsMany_193 : decode cX12_parentsMany 193 = .ok (.iadd, 1) := by decide +kernel
theorem dX12_parentsMany_194 : decode cX12_parentsMany 194 = .ok (.ireturn, 1) := by decide +kernel
def xX12_parentsMany : zX := (RX12, cX12_parentsMany, 4, (some .int), false, { frames := 3, cells := 0, slots := 0, locals := 133 }, 0, 0, 0, 0)
theorem rmX12_parentsMany : z_Rm xX12_parentsMany := by unfold z_Rm xX12_parentsMany; exact ⟨by decide, by decide⟩
theorem reX12_parentsMany : z_Re xX12_parentsMany := ⟨rfl, rfl⟩
theorem rlX12_parentsMany : 1 ≤ xX12_parentsMany.2.2.2.2.2.1.frames ∧ 21 ≤ xX12_parentsMany.2.2.2.2.2.1.locals := by unfold xX12_parentsMany; exact ⟨by decide, by decide⟩
theorem meX12_parentsMany : z_Me yX12_parentsMany xX12_parentsMany 1 := ⟨wd1211, wd848, by decide, by decide, by decide +kernel⟩
theorem fitX12_parentsMany_76 : z_Fit xX12_isColour xX12_parentsMany := by unfold z_Fit; simp only [xX12_isColour, xX12_parentsMany]; exact ⟨by decide, by decide⟩
theorem fitX12_parentsMany_86 : z_Fit xX12_isColour xX12_parentsMany := by unfold z_Fit; simp only [xX12_isColour, xX12_parentsMany]; exact ⟨by decide, by decide⟩
theorem fitX12_parentsMany_99 : z_Fit xX12_childOf xX12_parentsMany := by unfold z_Fit; simp only [xX12_childOf, xX12_parentsMany]; exact ⟨by decide, by decide⟩
theorem fitX12_parentsMany_105 : z_Fit xX12_seatAt xX12_parentsMany := by unfold z_Fit; simp only [xX12_seatAt, xX12_parentsMany]; exact ⟨by decide, by decide⟩
theorem fitX12_parentsMany_14 : z_Fit xX12_isColour xX12_parentsMany := by unfold z_Fit; simp only [xX12_isColour, xX12_parentsMany]; exact ⟨by decide, by decide⟩
noncomputable def kX12_parentsMany_167 : zK zR := (q_aload 0 (q_getR 12 56 (q_push 0 (q_iald (q_aload 0 (q_getR 12 56 (q_push 1 (q_iald (q_iadd (q_aload 0 (q_getR 12 56 (q_push 2 (q_iald (q_iadd (q_aload 0 (q_getR 12 56 (q_push 3 (q_iald (q_iadd q_iret)))))))))))))))))))
noncomputable def kX12_parentsMany_161 : zK ((zL × zS) ⊕ zR) := (q_iinc 2 1 q_ag)
noncomputable def bX12_parentsMany_138 : zK ((zL × zS) ⊕ ((zL × zS) ⊕ zR)) := (q_iload 3 (q_push 4 (q_icmp_ge (q_dn kX12_parentsMany_161) (q_aload 0 (q_getR 12 56 (q_iload 3 (q_aload 0 (q_getR 12 57 (q_iload 3 (q_iald (q_iast (q_iinc 3 1 q_ag))))))))))))
noncomputable def kX12_parentsMany_138 : zK ((zL × zS) ⊕ zR) := q_lp (bX12_parentsMany_138)
noncomputable def kX12_parentsMany_136 : zK ((zL × zS) ⊕ zR) := (q_push 0 (q_istore 3 kX12_parentsMany_138))
noncomputable def kX12_parentsMany_130 : zK ((zL × zS) ⊕ ((zL × zS) ⊕ zR)) := (q_iinc 3 1 q_ag)
noncomputable def bX12_parentsMany_66 : zK ((zL × zS) ⊕ ((zL × zS) ⊕ zR)) := (q_iload 3 (q_push 16 (q_icmp_ge (q_dn kX12_parentsMany_136) (q_aload 0 (q_iload 3 (q_push 4 (q_idiv (q_callV 12 fX12_isColour 1 (q_if_eq kX12_parentsMany_130 (q_aload 0 (q_iload 3 (q_push 4 (q_irem (q_callV 12 fX12_isColour 1 (q_if_eq kX12_parentsMany_130 (q_aload 0 (q_iload 3 (q_push 4 (q_idiv (q_iload 3 (q_push 4 (q_irem (q_callV 12 fX12_childOf 2 (q_aload 0 (q_iload 1 (q_iload 2 (q_callV 12 fX12_seatAt 2 (q_icmp_ne kX12_parentsMany_130 (q_aload 0 (q_getR 12 57 (q_iload 3 (q_push 4 (q_irem (q_dup2 (q_iald (q_aload 0 (q_getR 12 56 (q_iload 3 (q_push 4 (q_idiv (q_iald (q_iadd (q_iast kX12_parentsMany_130)))))))))))))))))))))))))))))))))))))))))))
noncomputable def kX12_parentsMany_66 : zK ((zL × zS) ⊕ zR) := q_lp (bX12_parentsMany_66)
noncomputable def kX12_parentsMany_64 : zK ((zL × zS) ⊕ zR) := (q_push 0 (q_istore 3 kX12_parentsMany_66))
noncomputable def bX12_parentsMany_46 : zK ((zL × zS) ⊕ ((zL × zS) ⊕ zR)) := (q_iload 3 (q_push 4 (q_icmp_ge (q_dn kX12_parentsMany_64) (q_aload 0 (q_getR 12 57 (q_iload 3 (q_push 0 (q_iast (q_iinc 3 1 q_ag)))))))))
noncomputable def kX12_parentsMany_46 : zK ((zL × zS) ⊕ zR) := q_lp (bX12_parentsMany_46)
noncomputable def bX12_parentsMany_34 : zK ((zL × zS) ⊕ zR) := (q_iload 2 (q_aload 0 (q_getR 12 47 (q_iload 1 (q_iald (q_icmp_ge (q_dn kX12_parentsMany_167) (q_push 0 (q_istore 3 kX12_parentsMany_46))))))))
noncomputable def kX12_parentsMany_34 : zK zR := q_lp (bX12_parentsMany_34)
noncomputable def kX12_parentsMany_32 : zK zR := (q_push 0 (q_istore 2 kX12_parentsMany_34))
noncomputable def kX12_parentsMany_25 : zK ((zL × zS) ⊕ zR) := (q_iast (q_iinc 2 1 q_ag))
noncomputable def bX12_parentsMany_2 : zK ((zL × zS) ⊕ zR) := (q_iload 2 (q_push 4 (q_icmp_ge (q_dn kX12_parentsMany_32) (q_aload 0 (q_getR 12 56 (q_iload 2 (q_aload 0 (q_iload 2 (q_callV 12 fX12_isColour 1 (q_if_eq (q_push 0 kX12_parentsMany_25) (q_push 1 kX12_parentsMany_25)))))))))))
noncomputable def kX12_parentsMany_2 : zK zR := q_lp (bX12_parentsMany_2)
noncomputable def kX12_parentsMany_0 : zK zR := (q_push 0 (q_istore 2 kX12_parentsMany_2))
set_option maxRecDepth 100000 in
theorem tX12_parentsMany_167 {l : Launch} {D : zD} {B sz0 : Nat} {post : Option Value → zS → Prop} : zSnd l D B xX12_parentsMany sz0 post 167 kX12_parentsMany_167 (z_Jr post) := (s_aload_n dX12_parentsMany_167 rfl (s_getR (f := 56) dX12_parentsMany_168 clX12 (by decide) rfl wd887 (s_iconst dX12_parentsMany_171 (by decide) (s_iald dX12_parentsMany_172 (s_aload_n dX12_parentsMany_173 rfl (s_getR (f := 56) dX12_parentsMany_174 clX12 (by decide) rfl wd887 (s_iconst dX12_parentsMany_177 (by decide) (s_iald dX12_parentsMany_178 (s_iadd dX12_parentsMany_179 (s_aload_n dX12_parentsMany_180 rfl (s_getR (f := 56) dX12_parentsMany_181 clX12 (by decide) rfl wd887 (s_iconst dX12_parentsMany_184 (by decide) (s_iald dX12_parentsMany_185 (s_iadd dX12_parentsMany_186 (s_aload_n dX12_parentsMany_187 rfl (s_getR (f := 56) dX12_parentsMany_188 clX12 (by decide) rfl wd887 (s_iconst dX12_parentsMany_191 (by decide) (s_iald dX12_parentsMany_192 (s_iadd dX12_parentsMany_193 (s_iret dX12_parentsMany_194 rfl))))))))))))))))))))
set_option maxRecDepth 100000 in
theorem tX12_parentsMany_161 {l : Launch} {D : zD} {B sz0 : Nat} {post : Option Value → zS → Prop} : zSnd l D B xX12_parentsMany sz0 post 161 kX12_parentsMany_161 (z_Jl l D B xX12_parentsMany sz0 post 34 (z_Jr post)) := (s_iinc dX12_parentsMany_161 (by decide) (s_goto (tgt := 34) dX12_parentsMany_164 (by decide) s_ag))
set_option maxRecDepth 100000 in
theorem tX12_parentsMany_138 {l : Launch} {D : zD} {B sz0 : Nat} {post : Option Value → zS → Prop} : zSnd l D B xX12_parentsMany sz0 post 138 kX12_parentsMany_138 (z_Jl l D B xX12_parentsMany sz0 post 34 (z_Jr post)) := s_lp (body := bX12_parentsMany_138) (s_iload_n dX12_parentsMany_138 rfl (s_iconst dX12_parentsMany_139 (by decide) (s_icmp_ge (tgt := 161) dX12_parentsMany_140 (by decide) (s_dn tX12_parentsMany_161) (s_aload_n dX12_parentsMany_143 rfl (s_getR (f := 56) dX12_parentsMany_144 clX12 (by decide) rfl wd887 (s_iload_n dX12_parentsMany_147 rfl (s_aload_n dX12_parentsMany_148 rfl (s_getR (f := 57) dX12_parentsMany_149 clX12 (by decide) rfl wd888 (s_iload_n dX12_parentsMany_152 rfl (s_iald dX12_parentsMany_153 (s_iast dX12_parentsMany_154 (s_iinc dX12_parentsMany_155 (by decide) (s_goto (tgt := 138) dX12_parentsMany_158 (by decide) s_ag)))))))))))))
set_option maxRecDepth 100000 in
theorem tX12_parentsMany_136 {l : Launch} {D : zD} {B sz0 : Nat} {post : Option Value → zS → Prop} : zSnd l D B xX12_parentsMany sz0 post 136 kX12_parentsMany_136 (z_Jl l D B xX12_parentsMany sz0 post 34 (z_Jr post)) := (s_iconst dX12_parentsMany_136 (by decide) (s_istore_n dX12_parentsMany_137 rfl tX12_parentsMany_138))
set_option maxRecDepth 100000 in
theorem tX12_parentsMany_130 {l : Launch} {D : zD} {B sz0 : Nat} {post : Option Value → zS → Prop} : zSnd l D B xX12_parentsMany sz0 post 130 kX12_parentsMany_130 (z_Jl l D B xX12_parentsMany sz0 post 66 (z_Jl l D B xX12_parentsMany sz0 post 34 (z_Jr post))) := (s_iinc dX12_parentsMany_130 (by decide) (s_goto (tgt := 66) dX12_parentsMany_133 (by decide) s_ag))
set_option maxRecDepth 100000 in
theorem tX12_parentsMany_66 {l : Launch} {D : zD} {B sz0 : Nat} {post : Option Value → zS → Prop} : zSnd l D B xX12_parentsMany sz0 post 66 kX12_parentsMany_66 (z_Jl l D B xX12_parentsMany sz0 post 34 (z_Jr post)) := s_lp (body := bX12_parentsMany_66) (s_iload_n dX12_parentsMany_66 rfl (s_bipush dX12_parentsMany_67 (by decide) (s_icmp_ge (tgt := 136) dX12_parentsMany_69 (by decide) (s_dn tX12_parentsMany_136) (s_aload_n dX12_parentsMany_72 rfl (s_iload_n dX12_parentsMany_73 rfl (s_iconst dX12_parentsMany_74 (by decide) (s_idiv dX12_parentsMany_75 (s_callV (r := (RX12, TX12, 74)) dX12_parentsMany_76 mX12_isColour meX12_isColour wd1129 wd1130 rfl rfl reX12_isColour rmX12_parentsMany (fitX12_parentsMany_76) wd1131 (s_if_eq (tgt := 130) dX12_parentsMany_79 (by decide) tX12_parentsMany_130 (s_aload_n dX12_parentsMany_82 rfl (s_iload_n dX12_parentsMany_83 rfl (s_iconst dX12_parentsMany_84 (by decide) (s_irem dX12_parentsMany_85 (s_callV (r := (RX12, TX12, 74)) dX12_parentsMany_86 mX12_isColour meX12_isColour wd1129 wd1130 rfl rfl reX12_isColour rmX12_parentsMany (fitX12_parentsMany_86) wd1131 (s_if_eq (tgt := 130) dX12_parentsMany_89 (by decide) tX12_parentsMany_130 (s_aload_n dX12_parentsMany_92 rfl (s_iload_n dX12_parentsMany_93 rfl (s_iconst dX12_parentsMany_94 (by decide) (s_idiv dX12_parentsMany_95 (s_iload_n dX12_parentsMany_96 rfl (s_iconst dX12_parentsMany_97 (by decide) (s_irem dX12_parentsMany_98 (s_callV (r := (RX12, TX12, 74)) dX12_parentsMany_99 mX12_childOf meX12_childOf wd1057 wd1058 rfl rfl reX12_childOf rmX12_parentsMany (fitX12_parentsMany_99) wd1059 (s_aload_n dX12_parentsMany_102 rfl (s_iload_n dX12_parentsMany_103 rfl (s_iload_n dX12_parentsMany_104 rfl (s_callV (r := (RX12, TX12, 74)) dX12_parentsMany_105 mX12_seatAt meX12_seatAt wd1064 wd1065 rfl rfl reX12_seatAt rmX12_parentsMany (fitX12_parentsMany_105) wd1066 (s_icmp_ne (tgt := 130) dX12_parentsMany_108 (by decide) tX12_parentsMany_130 (s_aload_n dX12_parentsMany_111 rfl (s_getR (f := 57) dX12_parentsMany_112 clX12 (by decide) rfl wd888 (s_iload_n dX12_parentsMany_115 rfl (s_iconst dX12_parentsMany_116 (by decide) (s_irem dX12_parentsMany_117 (s_dup2 dX12_parentsMany_118 (s_iald dX12_parentsMany_119 (s_aload_n dX12_parentsMany_120 rfl (s_getR (f := 56) dX12_parentsMany_121 clX12 (by decide) rfl wd887 (s_iload_n dX12_parentsMany_124 rfl (s_iconst dX12_parentsMany_125 (by decide) (s_idiv dX12_parentsMany_126 (s_iald dX12_parentsMany_127 (s_iadd dX12_parentsMany_128 (s_iast dX12_parentsMany_129 tX12_parentsMany_130)))))))))))))))))))))))))))))))))))))))))))
set_option maxRecDepth 100000 in
theorem tX12_parentsMany_64 {l : Launch} {D : zD} {B sz0 : Nat} {post : Option Value → zS → Prop} : zSnd l D B xX12_parentsMany sz0 post 64 kX12_parentsMany_64 (z_Jl l D B xX12_parentsMany sz0 post 34 (z_Jr post)) := (s_iconst dX12_parentsMany_64 (by decide) (s_istore_n dX12_parentsMany_65 rfl tX12_parentsMany_66))
set_option maxRecDepth 100000 in
theorem tX12_parentsMany_46 {l : Launch} {D : zD} {B sz0 : Nat} {post : Option Value → zS → Prop} : zSnd l D B xX12_parentsMany sz0 post 46 kX12_parentsMany_46 (z_Jl l D B xX12_parentsMany sz0 post 34 (z_Jr post)) := s_lp (body := bX12_parentsMany_46) (s_iload_n dX12_parentsMany_46 rfl (s_iconst dX12_parentsMany_47 (by decide) (s_icmp_ge (tgt := 64) dX12_parentsMany_48 (by decide) (s_dn tX12_parentsMany_64) (s_aload_n dX12_parentsMany_51 rfl (s_getR (f := 57) dX12_parentsMany_52 clX12 (by decide) rfl wd888 (s_iload_n dX12_parentsMany_55 rfl (s_iconst dX12_parentsMany_56 (by decide) (s_iast dX12_parentsMany_57 (s_iinc dX12_parentsMany_58 (by decide) (s_goto (tgt := 46) dX12_parentsMany_61 (by decide) s_ag))))))))))
set_option maxRecDepth 100000 in
theorem tX12_parentsMany_34 {l : Launch} {D : zD} {B sz0 : Nat} {post : Option Value → zS → Prop} : zSnd l D B xX12_parentsMany sz0 post 34 kX12_parentsMany_34 (z_Jr post) := s_lp (body := bX12_parentsMany_34) (s_iload_n dX12_parentsMany_34 rfl (s_aload_n dX12_parentsMany_35 rfl (s_getR (f := 47) dX12_parentsMany_36 clX12 (by decide) rfl wd856 (s_iload_n dX12_parentsMany_39 rfl (s_iald dX12_parentsMany_40 (s_icmp_ge (tgt := 167) dX12_parentsMany_41 (by decide) (s_dn tX12_parentsMany_167) (s_iconst dX12_parentsMany_44 (by decide) (s_istore_n dX12_parentsMany_45 rfl tX12_parentsMany_46))))))))
set_option maxRecDepth 100000 in
theorem tX12_parentsMany_32 {l : Launch} {D : zD} {B sz0 : Nat} {post : Option Value → zS → Prop} : zSnd l D B xX12_parentsMany sz0 post 32 kX12_parentsMany_32 (z_Jr post) := (s_iconst dX12_parentsMany_32 (by decide) (s_istore_n dX12_parentsMany_33 rfl tX12_parentsMany_34))
set_option maxRecDepth 100000 in
theorem tX12_parentsMany_25 {l : Launch} {D : zD} {B sz0 : Nat} {post : Option Value → zS → Prop} : zSnd l D B xX12_parentsMany sz0 post 25 kX12_parentsMany_25 (z_Jl l D B xX12_parentsMany sz0 post 2 (z_Jr post)) := (s_iast dX12_parentsMany_25 (s_iinc dX12_parentsMany_26 (by decide) (s_goto (tgt := 2) dX12_parentsMany_29 (by decide) s_ag)))
set_option maxRecDepth 100000 in
theorem tX12_parentsMany_2 {l : Launch} {D : zD} {B sz0 : Nat} {post : Option Value → zS → Prop} : zSnd l D B xX12_parentsMany sz0 post 2 kX12_parentsMany_2 (z_Jr post) := s_lp (body := bX12_parentsMany_2) (s_iload_n dX12_parentsMany_2 rfl (s_iconst dX12_parentsMany_3 (by decide) (s_icmp_ge (tgt := 32) dX12_parentsMany_4 (by decide) (s_dn tX12_parentsMany_32) (s_aload_n dX12_parentsMany_7 rfl (s_getR (f := 56) dX12_parentsMany_8 clX12 (by decide) rfl wd887 (s_iload_n dX12_parentsMany_11 rfl (s_aload_n dX12_parentsMany_12 rfl (s_iload_n dX12_parentsMany_13 rfl (s_callV (r := (RX12, TX12, 74)) dX12_parentsMany_14 mX12_isColour meX12_isColour wd1129 wd1130 rfl rfl reX12_isColour rmX12_parentsMany (fitX12_parentsMany_14) wd1131 (s_if_eq (tgt := 24) dX12_parentsMany_17 (by decide) (s_iconst dX12_parentsMany_24 (by decide) tX12_parentsMany_25) (s_iconst dX12_parentsMany_20 (by decide) (s_goto (tgt := 25) dX12_parentsMany_21 (by decide) tX12_parentsMany_25))))))))))))
set_option maxRecDepth 100000 in
theorem tX12_parentsMany_0 {l : Launch} {D : zD} {B sz0 : Nat} {post : Option Value → zS → Prop} : zSnd l D B xX12_parentsMany sz0 post 0 kX12_parentsMany_0 (z_Jr post) := (s_iconst dX12_parentsMany_0 (by decide) (s_istore_n dX12_parentsMany_1 rfl tX12_parentsMany_2))
noncomputable def fX12_parentsMany : zF := z_fn 4 kX12_parentsMany_0
theorem mX12_parentsMany {l : Launch} {D : zD} {B : Nat} : z_MF l D B yX12_parentsMany xX12_parentsMany fX12_parentsMany := z_mf (by decide) rfl (fun h => by cases h) rfl (fun as σ r h => ⟨z_fn_len h, kX12_parentsMany_0, z_fn_run h, fun _ => tX12_parentsMany_0⟩)
