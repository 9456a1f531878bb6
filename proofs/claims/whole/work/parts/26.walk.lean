/-! ===== RowChildrenModel.matters ===== -/
theorem dX12_matters_0 : decode cX12_matters 0 = .ok (.aload_n 0, 1) := by decide +kernel
theorem dX12_matters_1 : decode cX12_matters 1 = .ok (.iload_n 1, 1) := by decide +kernel
theorem dX12_matters_2 : decode cX12_matters 2 = .ok (.invokevirtual 330, 3) := by decide +kernel
theorem dX12_matters_5 : decode cX12_matters 5 = .ok (.ifCond .ne 5, 3) := by decide +kernel
theorem dX12_matters_8 : decode cX12_matters 8 = .ok (.iconst (-1), 1) := by decide +kernel
theorem dX12_matters_9 : decode cX12_matters 9 = .ok (.ireturn, 1) := by decide +kernel
theorem dX12_matters_10 : decode cX12_matters 10 = .ok (.aload_n 0, 1) := by decide +kernel
theorem dX12_matters_11 : decode cX12_matters 11 = .ok (.invokevirtual 401, 3) := by decide +kernel
theorem dX12_matters_14 : decode cX12_matters 14 = .ok (.aload_n 0, 1) := by decide +kernel
theorem dX12_matters_15 : decode cX12_matters 15 = .ok (.iload_n 1, 1) := by decide +kernel
theorem dX12_matters_16 : decode cX12_matters 16 = .ok (.invokevirtual 380, 3) := by decide +kernel
theorem dX12_matters_19 : decode cX12_matters 19 = .ok (.aload_n 0, 1) := by decide +kernel
theorem dX12_matters_20 : decode cX12_matters 20 = .ok (.invokevirtual 407, 3) := by decide +kernel
theorem dX12_matters_23 : decode cX12_matters 23 = .ok (.istore_n 2, 1) := by decide +kernel
theorem dX12_matters_24 : decode cX12_matters 24 = .ok (.iconst 0, 1) := by decide +kernel
theorem dX12_matters_25 : decode cX12_matters 25 = .ok (.istore_n 3, 1) := by decide +kernel
theorem dX12_matters_26 : decode cX12_matters 26 = .ok (.iconst 0, 1) := by decide +kernel
theorem dX12_matters_27 : decode cX12_matters 27 = .ok (.istore 4, 2) := by decide +kernel
theorem dX12_matters_29 : decode cX12_matters 29 = .ok (.iload 4, 2) := by decide +kernel
theorem dX12_matters_31 : decode cX12_matters 31 = .ok (.aload_n 0, 1) := by decide +kernel
theorem dX12_matters_32 : decode cX12_matters 32 = .ok (.getfield 107, 3) := by decide +kernel
theorem dX12_matters_35 : decode cX12_matters 35 = .ok (.iload_n 1, 1) := by decide +kernel
theorem dX12_matters_36 : decode cX12_matters 36 = .ok (.iaload, 1) := by decide +kernel
theorem dX12_matters_37 : decode cX12_matters 37 = .ok (.if_icmp .ge 60, 3) := by decide +kernel
theorem dX12_matters_40 : decode cX12_matters 40 = .ok (.iconst 0, 1) := by decide +kernel
theorem dX12_matters_41 : decode cX12_matters 41 = .ok (.istore 5, 2) := by decide +kernel
theorem dX12_matters_43 : decode cX12_matters 43 = .ok (.iload 5, 2) := by decide +kernel
theorem dX12_matters_45 : decode cX12_matters 45 = .ok (.aload_n 0, 1) := by decide +kernel
theorem dX12_matters_46 : decode cX12_matters 46 = .ok (.invokevirtual 327, 3) := by decide +kernel
theorem dX12_matters_49 : decode cX12_matters 49 = .ok (.if_icmp .ge 42, 3) := by decide +kernel
theorem dX12_matters_52 : decode cX12_matters 52 = .ok (.aload_n 0, 1) := by decide +kernel
theorem dX12_matters_53 : decode cX12_matters 53 = .ok (.iload_n 1, 1) := by decide +kernel
theorem dX12_matters_54 : decode cX12_matters 54 = .ok (.invokevirtual 380, 3) := by decide +kernel
theorem dX12_matters_57 : decode cX12_matters 57 = .ok (.aload_n 0, 1) := by decide +kernel
theorem dX12_matters_58 : decode cX12_matters 58 = .ok (.getfield 110, 3) := by decide +kernel
theorem dX12_matters_61 : decode cX12_matters 61 = .ok (.iload 4, 2) := by decide +kernel
theorem dX12_matters_63 : decode cX12_matters 63 = .ok (.iload 5, 2) := by decide +kernel
theorem dX12_matters_65 : decode cX12_matters 65 = .ok (.iastore, 1) := by decide +kernel
theorem dX12_matters_66 : decode cX12_matters 66 = .ok (.aload_n 0, 1) := by decide +kernel
theorem dX12_matters_67 : decode cX12_matters 67 = .ok (.invokevirtual 352, 3) := by decide +kernel
theorem dX12_matters_70 : decode cX12_matters 70 = .ok (.aload_n 0, 1) := by decide +kernel
theorem dX12_matters_71 : decode cX12_matters 71 = .ok (.invokevirtual 407, 3) := by decide +kernel
theorem dX12_matters_74 : decode cX12_matters 74 = .ok (.iload_n 2, 1) := by decide +kernel
theorem dX12_matters_75 : decode cX12_matters 75 = .ok (.if_icmp .eq 10, 3) := by decide +kernel
theorem dX12_matters_78 : decode cX12_matters 78 = .ok (.iload_n 3, 1) := by decide +kernel
theorem dX12_matters_79 : decode cX12_matters 79 = .ok (.iconst 1, 1) := by decide +kernel
theorem dX12_matters_80 : decode cX12_matters 80 = .ok (.iload 4, 2) := by decide +kernel
theorem dX12_matters_82 : decode cX12_matters 82 = .ok (.ishl, 1) := by decide +kernel
theorem dX12_matters_83 : decode cX12_matters 83 = .ok (.ior, 1) := by decide +kernel
theorem dX12_matters_84 : decode cX12_matters 84 = .ok (.istore_n 3, 1) := by decide +kernel
theorem dX12_matters_85 : decode cX12_matters 85 = .ok (.iinc 5 1, 3) := by decide +kernel
theorem dX12_matters_88 : decode cX12_matters 88 = .ok (.goto (-45), 3) := by decide +kernel
theorem dX12_matters_91 : decode cX12_matters 91 = .ok (.iinc 4 1, 3) := by decide +kernel
theorem dX12_matters_94 : decode cX12_matters 94 = .ok (.goto (-65), 3) := by decide +kernel
theorem dX12_matters_97 : decode cX12_matters 97 = .ok (.iload_n 3, 1) := by decide +kernel
theorem dX12_matters_98 : decode cX12_matters 98 = .ok (.ireturn, 1) := by decide +kernel
def xX12_matters : zX := (RX12, cX12_matters, 6, (some .int), false, { frames := 5, cells := 0, slots := 0, locals := 177 }, 0, 0, 0, 0)
theorem rmX12_matters : z_Rm xX12_matters := by unfold z_Rm xX12_matters; exact ⟨by decide, by decide⟩
theorem reX12_matters : z_Re xX12_matters := ⟨rfl, rfl⟩
theorem rlX12_matters : 1 ≤ xX12_matters.2.2.2.2.2.1.frames ∧ 21 ≤ xX12_matters.2.2.2.2.2.1.locals := by unfold xX12_matters; exact ⟨by decide, by decide⟩
theorem meX12_matters : z_Me yX12_matters xX12_matters 1 := ⟨wd1254, wd893, by decide, by decide, by decide +kernel⟩
theorem fitX12_matters_2 : z_Fit xX12_isRow xX12_matters := by unfold z_Fit; simp only [xX12_isRow, xX12_matters]; exact ⟨by decide, by decide⟩
theorem fitX12_matters_11 : z_Fit xX12_copies xX12_matters := by unfold z_Fit; simp only [xX12_copies, xX12_matters]; exact ⟨by decide, by decide⟩
theorem fitX12_matters_16 : z_Fit xX12_laysRow xX12_matters := by unfold z_Fit; simp only [xX12_laysRow, xX12_matters]; exact ⟨by decide, by decide⟩
theorem fitX12_matters_20 : z_Fit xX12_lastLaid xX12_matters := by unfold z_Fit; simp only [xX12_lastLaid, xX12_matters]; exact ⟨by decide, by decide⟩
theorem fitX12_matters_46 : z_Fit xX12_base xX12_matters := by unfold z_Fit; simp only [xX12_base, xX12_matters]; exact ⟨by decide, by decide⟩
theorem fitX12_matters_54 : z_Fit xX12_laysRow xX12_matters := by unfold z_Fit; simp only [xX12_laysRow, xX12_matters]; exact ⟨by decide, by decide⟩
theorem fitX12_matters_67 : z_Fit xX12_laysDown xX12_matters := by unfold z_Fit; simp only [xX12_laysDown, xX12_matters]; exact ⟨by decide, by decide⟩
theorem fitX12_matters_71 : z_Fit xX12_lastLaid xX12_matters := by unfold z_Fit; simp only [xX12_lastLaid, xX12_matters]; exact ⟨by decide, by decide⟩
noncomputable def kX12_matters_97 : zK zR := (q_iload 3 q_iret)
noncomputable def kX12_matters_91 : zK ((zL × zS) ⊕ zR) := (q_iinc 4 1 q_ag)
noncomputable def kX12_matters_85 : zK ((zL × zS) ⊕ ((zL × zS) ⊕ zR)) := (q_iinc 5 1 q_ag)
noncomputable def bX12_matters_43 : zK ((zL × zS) ⊕ ((zL × zS) ⊕ zR)) := (q_iload 5 (q_aload 0 (q_callV 12 fX12_base 0 (q_icmp_ge (q_dn kX12_matters_91) (q_aload 0 (q_iload 1 (q_callV 12 fX12_laysRow 1 (q_aload 0 (q_getR 12 49 (q_iload 4 (q_iload 5 (q_iast (q_aload 0 (q_callV 12 fX12_laysDown 0 (q_aload 0 (q_callV 12 fX12_lastLaid 0 (q_iload 2 (q_icmp_eq kX12_matters_85 (q_iload 3 (q_push 1 (q_iload 4 (q_ishl (q_ior (q_istore 3 kX12_matters_85))))))))))))))))))))))))
noncomputable def kX12_matters_43 : zK ((zL × zS) ⊕ zR) := q_lp (bX12_matters_43)
noncomputable def bX12_matters_29 : zK ((zL × zS) ⊕ zR) := (q_iload 4 (q_aload 0 (q_getR 12 47 (q_iload 1 (q_iald (q_icmp_ge (q_dn kX12_matters_97) (q_push 0 (q_istore 5 kX12_matters_43))))))))
noncomputable def kX12_matters_29 : zK zR := q_lp (bX12_matters_29)
noncomputable def kX12_matters_0 : zK zR := (q_aload 0 (q_iload 1 (q_callV 12 fX12_isRow 1 (q_if_ne (q_aload 0 (q_callV 12 fX12_copies 0 (q_aload 0 (q_iload 1 (q_callV 12 fX12_laysRow 1 (q_aload 0 (q_callV 12 fX12_lastLaid 0 (q_istore 2 (q_push 0 (q_istore 3 (q_push 0 (q_istore 4 kX12_matters_29)))))))))))) (q_push (-1) q_iret)))))
set_option maxRecDepth 100000 in
theorem tX12_matters_97 {l : Launch} {D : zD} {B sz0 : Nat} {post : Option Value → zS → Prop} : zSnd l D B xX12_matters sz0 post 97 kX12_matters_97 (z_Jr post) := (s_iload_n dX12_matters_97 rfl (s_iret dX12_matters_98 rfl))
set_option maxRecDepth 100000 in
theorem tX12_matters_91 {l : Launch} {D : zD} {B sz0 : Nat} {post : Option Value → zS → Prop} : zSnd l D B xX12_matters sz0 post 91 kX12_matters_91 (z_Jl l D B xX12_matters sz0 post 29 (z_Jr post)) := (s_iinc dX12_matters_91 (by decide) (s_goto (tgt := 29) dX12_matters_94 (by decide) s_ag))
set_option maxRecDepth 100000 in
theorem tX12_matters_85 {l : Launch} {D : zD} {B sz0 : Nat} {post : Option Value → zS → Prop} : zSnd l D B xX12_matters sz0 post 85 kX12_matters_85 (z_Jl l D B xX12_matters sz0 post 43 (z_Jl l D B xX12_matters sz0 post 29 (z_Jr post))) := (s_iinc dX12_matters_85 (by decide) (s_goto (tgt := 43) dX12_matters_88 (by decide) s_ag))
set_option maxRecDepth 100000 in
theorem tX12_matters_43 {l : Launch} {D : zD} {B sz0 : Nat} {post : Option Value → zS → Prop} : zSnd l D B xX12_matters sz0 post 43 kX12_matters_43 (z_Jl l D B xX12_matters sz0 post 29 (z_Jr post)) := s_lp (body := bX12_matters_43) (s_iload dX12_matters_43 (s_aload_n dX12_matters_45 rfl (s_callV (r := (RX12, TX12, 74)) dX12_matters_46 mX12_base meX12_base wd1081 wd1082 rfl rfl reX12_base rmX12_matters (fitX12_matters_46) wd1083 (s_icmp_ge (tgt := 91) dX12_matters_49 (by decide) (s_dn tX12_matters_91) (s_aload_n dX12_matters_52 rfl (s_iload_n dX12_matters_53 rfl (s_callV (r := (RX12, TX12, 74)) dX12_matters_54 mX12_laysRow meX12_laysRow wd1153 wd1154 rfl rfl reX12_laysRow rmX12_matters (fitX12_matters_54) wd1155 (s_aload_n dX12_matters_57 rfl (s_getR (f := 49) dX12_matters_58 clX12 (by decide) rfl wd927 (s_iload dX12_matters_61 (s_iload dX12_matters_63 (s_iast dX12_matters_65 (s_aload_n dX12_matters_66 rfl (s_callV (r := (RX12, TX12, 74)) dX12_matters_67 mX12_laysDown meX12_laysDown wd1106 wd1107 rfl rfl reX12_laysDown rmX12_matters (fitX12_matters_67) wd1108 (s_aload_n dX12_matters_70 rfl (s_callV (r := (RX12, TX12, 74)) dX12_matters_71 mX12_lastLaid meX12_lastLaid wd1184 wd1185 rfl rfl reX12_lastLaid rmX12_matters (fitX12_matters_71) wd1186 (s_iload_n dX12_matters_74 rfl (s_icmp_eq (tgt := 85) dX12_matters_75 (by decide) tX12_matters_85 (s_iload_n dX12_matters_78 rfl (s_iconst dX12_matters_79 (by decide) (s_iload dX12_matters_80 (s_ishl dX12_matters_82 (s_ior dX12_matters_83 (s_istore_n dX12_matters_84 rfl tX12_matters_85))))))))))))))))))))))))
set_option maxRecDepth 100000 in
theorem tX12_matters_29 {l : Launch} {D : zD} {B sz0 : Nat} {post : Option Value → zS → Prop} : zSnd l D B xX12_matters sz0 post 29 kX12_matters_29 (z_Jr post) := s_lp (body := bX12_matters_29) (s_iload dX12_matters_29 (s_aload_n dX12_matters_31 rfl (s_getR (f := 47) dX12_matters_32 clX12 (by decide) rfl wd901 (s_iload_n dX12_matters_35 rfl (s_iald dX12_matters_36 (s_icmp_ge (tgt := 97) dX12_matters_37 (by decide) (s_dn tX12_matters_97) (s_iconst dX12_matters_40 (by decide) (s_istore dX12_matters_41 tX12_matters_43))))))))
set_option maxRecDepth 100000 in
theorem tX12_matters_0 {l : Launch} {D : zD} {B sz0 : Nat} {post : Option Value → zS → Prop} : zSnd l D B xX12_matters sz0 post 0 kX12_matters_0 (z_Jr post) := (s_aload_n dX12_matters_0 rfl (s_iload_n dX12_matters_1 rfl (s_callV (r := (RX12, TX12, 74)) dX12_matters_2 mX12_isRow meX12_isRow wd1087 wd1088 rfl rfl reX12_isRow rmX12_matters (fitX12_matters_2) wd1089 (s_if_ne (tgt := 10) dX12_matters_5 (by decide) (s_aload_n dX12_matters_10 rfl (s_callV (r := (RX12, TX12, 74)) dX12_matters_11 mX12_copies meX12_copies wd1178 wd1179 rfl rfl reX12_copies rmX12_matters (fitX12_matters_11) wd1180 (s_aload_n dX12_matters_14 rfl (s_iload_n dX12_matters_15 rfl (s_callV (r := (RX12, TX12, 74)) dX12_matters_16 mX12_laysRow meX12_laysRow wd1153 wd1154 rfl rfl reX12_laysRow rmX12_matters (fitX12_matters_16) wd1155 (s_aload_n dX12_matters_19 rfl (s_callV (r := (RX12, TX12, 74)) dX12_matters_20 mX12_lastLaid meX12_lastLaid wd1184 wd1185 rfl rfl reX12_lastLaid rmX12_matters (fitX12_matters_20) wd1186 (s_istore_n dX12_matters_23 rfl (s_iconst dX12_matters_24 (by decide) (s_istore_n dX12_matters_25 rfl (s_iconst dX12_matters_26 (by decide) (s_istore dX12_matters_27 tX12_matters_29)))))))))))) (s_iconst dX12_matters_8 (by decide) (s_iret dX12_matters_9 rfl))))))
noncomputable def fX12_matters : zF := z_fn 6 kX12_matters_0
theorem mX12_matters {l : Launch} {D : zD} {B : Nat} : z_MF l D B yX12_matters xX12_matters fX12_matters := z_mf (by decide) rfl (fun h => by cases h) rfl (fun as σ r h => ⟨z_fn_len h, kX12_matters_0, z_fn_run h, fun _ => tX12_matters_0⟩)
/-! ===== RowChildrenModel.fillsCan ===== -/
theorem dX12_fillsCan_0 : decode cX12_fillsCan 0 = .ok (.aload_n 0, 1) := by decide +kernel
theorem dX12_fillsCan_1 : decode cX12_fillsCan 1 = .ok (.getfield 122, 3) := by decide +kernel
theorem dX12_fillsCan_4 : decode cX12_fillsCan 4 = .ok (.aload_n 0, 1) := by decide +kernel
theorem dX12_fillsCan_5 : decode cX12_fillsCan 5 = .ok (.getfield 107, 3) := by decide +kernel
theorem dX12_fillsCan_8 : decode cX12_fillsCan 8 = .ok (.iload_n 1, 1) := by decide +kernel
theorem dX12_fillsCan_9 : decode cX12_fillsCan 9 = .ok (.iaload, 1) := by decide +kernel
theorem dX12_fillsCan_10 : decode cX12_fillsCan 10 = .ok (.iconst 1, 1) := by decide +kernel
theorem dX12_fillsCan_11 : decode cX12_fillsCan 11 = .ok (.aload_n 0, 1) := by decide +kernel
theorem dX12_fillsCan_12 : decode cX12_fillsCan 12 = .ok (.invokevirtual 327, 3) := by decide +kernel
theorem dX12_fillsCan_15 : decode cX12_fillsCan 15 = .ok (.ishl, 1) := by decide +kernel
theorem dX12_fillsCan_16 : decode cX12_fillsCan 16 = .ok (.iconst 1, 1) := by decide +kernel
theorem dX12_fillsCan_17 : decode cX12_fillsCan 17 = .ok (.isub, 1) := by decide +kernel
theorem dX12_fillsCan_18 : decode cX12_fillsCan 18 = .ok (.iastore, 1) := by decide +kernel
theorem dX12_fillsCan_19 : decode cX12_fillsCan 19 = .ok (.aload_n 0, 1) := by decide +kernel
theorem dX12_fillsCan_20 : decode cX12_fillsCan 20 = .ok (.getfield 107, 3) := by decide +kernel
theorem dX12_fillsCan_23 : decode cX12_fillsCan 23 = .ok (.iload_n 1, 1) := by decide +kernel
theorem dX12_fillsCan_24 : decode cX12_fillsCan 24 = .ok (.iaload, 1) := by decide +kernel
theorem dX12_fillsCan_25 : decode cX12_fillsCan 25 = .ok (.iconst 1, 1) := by decide +kernel
theorem dX12_fillsCan_26 : decode cX12_fillsCan 26 = .ok (.isub, 1) := by decide +kernel
theorem dX12_fillsCan_27 : decode cX12_fillsCan 27 = .ok (.istore_n 2, 1) := by decide +kernel
theorem dX12_fillsCan_28 : decode cX12_fillsCan 28 = .ok (.iload_n 2, 1) := by decide +kernel
theorem dX12_fillsCan_29 : decode cX12_fillsCan 29 = .ok (.ifCond .lt 91, 3) := by decide +kernel
theorem dX12_fillsCan_32 : decode cX12_fillsCan 32 = .ok (.aload_n 0, 1) := by decide +kernel
theorem dX12_fillsCan_33 : decode cX12_fillsCan 33 = .ok (.getfield 122, 3) := by decide +kernel
theorem dX12_fillsCan_36 : decode cX12_fillsCan 36 = .ok (.iload_n 2, 1) := by decide +kernel
theorem dX12_fillsCan_37 : decode cX12_fillsCan 37 = .ok (.iconst 0, 1) := by decide +kernel
theorem dX12_fillsCan_38 : decode cX12_fillsCan 38 = .ok (.iastore, 1) := by decide +kernel
theorem dX12_fillsCan_39 : decode cX12_fillsCan 39 = .ok (.iconst 0, 1) := by decide +kernel
theorem dX12_fillsCan_40 : decode cX12_fillsCan 40 = .ok (.istore_n 3, 1) := by decide +kernel
theorem dX12_fillsCan_41 : decode cX12_fillsCan 41 = .ok (.iload_n 3, 1) := by decide +kernel
theorem dX12_fillsCan_42 : decode cX12_fillsCan 42 = .ok (.bipush 16, 2) := by decide +kernel
theorem dX12_fillsCan_44 : decode cX12_fillsCan 44 = .ok (.if_icmp .ge 70, 3) := by decide +kernel
theorem dX12_fillsCan_47 : decode cX12_fillsCan 47 = .ok (.aload_n 0, 1) := by decide +kernel
theorem dX12_fillsCan_48 : decode cX12_fillsCan 48 = .ok (.iload_n 3, 1) := by decide +kernel
theorem dX12_fillsCan_49 : decode cX12_fillsCan 49 = .ok (.iconst 4, 1) := by decide +kernel
theorem dX12_fillsCan_50 : decode cX12_fillsCan 50 = .ok (.idiv, 1) := by decide +kernel
theorem dX12_fillsCan_51 : decode cX12_fillsCan 51 = .ok (.invokevirtual 398, 3) := by decide +kernel
theorem dX12_fillsCan_54 : decode cX12_fillsCan 54 = .ok (.ifCond .eq 54, 3) := by decide +kernel
theorem dX12_fillsCan_57 : decode cX12_fillsCan 57 = .ok (.aload_n 0, 1) := by decide +kernel
theorem dX12_fillsCan_58 : decode cX12_fillsCan 58 = .ok (.getfield 122, 3) := by decide +kernel
theorem dX12_fillsCan_61 : decode cX12_fillsCan 61 = .ok (.iload_n 2, 1) := by decide +kernel
theorem dX12_fillsCan_62 : decode cX12_fillsCan 62 = .ok (.iconst 1, 1) := by decide +kernel
theorem dX12_fillsCan_63 : decode cX12_fillsCan 63 = .ok (.iadd, 1) := by decide +kernel
theorem dX12_fillsCan_64 : decode cX12_fillsCan 64 = .ok (.iaload, 1) := by decide +kernel
theorem dX12_fillsCan_65 : decode cX12_fillsCan 65 = .ok (.iload_n 3, 1) := by decide +kernel
theorem dX12_fillsCan_66 : decode cX12_fillsCan 66 = .ok (.iconst 4, 1) := by decide +kernel
theorem dX12_fillsCan_67 : decode cX12_fillsCan 67 = .ok (.irem, 1) := by decide +kernel
theorem dX12_fillsCan_68 : decode cX12_fillsCan 68 = .ok (.ishr, 1) := by decide +kernel
theorem dX12_fillsCan_69 : decode cX12_fillsCan 69 = .ok (.iconst 1, 1) := by decide +kernel
theorem dX12_fillsCan_70 : decode cX12_fillsCan 70 = .ok (.iand, 1) := by decide +kernel
theorem dX12_fillsCan_71 : decode cX12_fillsCan 71 = .ok (.iconst 1, 1) := by decide +kernel
theorem dX12_fillsCan_72 : decode cX12_fillsCan 72 = .ok (.if_icmp .ne 36, 3) := by decide +kernel
theorem dX12_fillsCan_75 : decode cX12_fillsCan 75 = .ok (.aload_n 0, 1) := by decide +kernel
theorem dX12_fillsCan_76 : decode cX12_fillsCan 76 = .ok (.iload_n 3, 1) := by decide +kernel
theorem dX12_fillsCan_77 : decode cX12_fillsCan 77 = .ok (.iconst 4, 1) := by decide +kernel
theorem dX12_fillsCan_78 : decode cX12_fillsCan 78 = .ok (.idiv, 1) := by decide +kernel
theorem dX12_fillsCan_79 : decode cX12_fillsCan 79 = .ok (.iload_n 3, 1) := by decide +kernel
theorem dX12_fillsCan_80 : decode cX12_fillsCan 80 = .ok (.iconst 4, 1) := by decide +kernel
theorem dX12_fillsCan_81 : decode cX12_fillsCan 81 = .ok (.irem, 1) := by decide +kernel
theorem dX12_fillsCan_82 : decode cX12_fillsCan 82 = .ok (.invokevirtual 346, 3) := by decide +kernel
theorem dX12_fillsCan_85 : decode cX12_fillsCan 85 = .ok (.aload_n 0, 1) := by decide +kernel
theorem dX12_fillsCan_86 : decode cX12_fillsCan 86 = .ok (.iload_n 1, 1) := by decide +kernel
theorem dX12_fillsCan_87 : decode cX12_fillsCan 87 = .ok (.iload_n 2, 1) := by decide +kernel
theorem dX12_fillsCan_88 : decode cX12_fillsCan 88 = .ok (.invokevirtual 349, 3) := by decide +kernel
theorem dX12_fillsCan_91 : decode cX12_fillsCan 91 = .ok (.if_icmp .ne 17, 3) := by decide +kernel
theorem dX12_fillsCan_94 : decode cX12_fillsCan 94 = .ok (.aload_n 0, 1) := by decide +kernel
theorem dX12_fillsCan_95 : decode cX12_fillsCan 95 = .ok (.getfield 122, 3) := by decide +kernel
theorem dX12_fillsCan_98 : decode cX12_fillsCan 98 = .ok (.iload_n 2, 1) := by decide +kernel
theorem dX12_fillsCan_99 : decode cX12_fillsCan 99 = .ok (.dup2, 1) := by decide +kernel
theorem dX12_fillsCan_100 : decode cX12_fillsCan 100 = .ok (.iaload, 1) := by decide +kernel
theorem dX12_fillsCan_101 : decode cX12_fillsCan 101 = .ok (.iconst 1, 1) := by decide +kernel
theorem dX12_fillsCan_102 : decode cX12_fillsCan 102 = .ok (.iload_n 3, 1) := by decide +kernel
theorem dX12_fillsCan_103 : decode cX12_fillsCan 103 = .ok (.iconst 4, 1) := by decide +kernel
theorem dX12_fillsCan_104 : decode cX12_fillsCan 104 = .ok (.idiv, 1) := by decide +kernel
theorem dX12_fillsCan_105 : decode cX12_fillsCan 105 = .ok (.ishl, 1) := by decide +kernel
theorem dX12_fillsCan_106 : decode cX12_fillsCan 106 = .ok (.ior, 1) := by decide +kernel
theorem dX12_fillsCan_107 : decode cX12_fillsCan 107 = .ok (.iastore, 1) := by decide +kernel
theorem dX12_fillsCan_108 : decode cX12_fillsCan 108 = .ok (.iinc 3 1, 3) := by decide +kernel
theorem dX12_fillsCan_111 : decode cX12_fillsCan 111 = .ok (.goto (-70), 3) := by decide +kernel
theorem dX12_fillsCan_114 : decode cX12_fillsCan 114 = .ok (.iinc 2 (-1), 3) := by decide +kernel
theorem dX12_fillsCan_117 : decode cX12_fillsCan 117 = .ok (.goto (-89), 3) := by decide +kernel
theorem dX12_fillsCan_120 : decode cX12_fillsCan 120 = .ok (.return_, 1) := by decide +kernel
def xX12_fillsCan : zX := (RX12, cX12_fillsCan, 4, none, false, { frames := 3, cells := 0, slots := 0, locals := 133 }, 0, 0, 0, 0)
theorem rmX12_fillsCan : z_Rm xX12_fillsCan := by unfold z_Rm xX12_fillsCan; exact ⟨by decide, by decide⟩
theorem reX12_fillsCan : z_Re xX12_fillsCan := ⟨rfl, rfl⟩
theorem rlX12_fillsCan : 1 ≤ xX12_fillsCan.2.2.2.2.2.1.frames ∧ 21 ≤ xX12_fillsCan.2.2.2.2.2.1.locals := by unfold xX12_fillsCan; exact ⟨by decide, by decide⟩
theorem meX12_fillsCan : z_Me yX12_fillsCan xX12_fillsCan 1 := ⟨wd1255, wd893, by decide, by decide, by decide +kernel⟩
theorem fitX12_fillsCan_12 : z_Fit xX12_base xX12_fillsCan := by unfold z_Fit; simp only [xX12_base, xX12_fillsCan]; exact ⟨by decide, by decide⟩
theorem fitX12_fillsCan_51 : z_Fit xX12_isColour xX12_fillsCan := by unfold z_Fit; simp only [xX12_isColour, xX12_fillsCan]; exact ⟨by decide, by decide⟩
theorem fitX12_fillsCan_82 : z_Fit xX12_childOf xX12_fillsCan := by unfold z_Fit; simp only [xX12_childOf, xX12_fillsCan]; exact ⟨by decide, by decide⟩
theorem fitX12_fillsCan_88 : z_Fit xX12_seatAt xX12_fillsCan := by unfold z_Fit; simp only [xX12_seatAt, xX12_fillsCan]; exact ⟨by decide, by decide⟩
noncomputable def kX12_fillsCan_120 : zK zR := q_vret
noncomputable def kX12_fillsCan_114 : zK ((zL × zS) ⊕ zR) := (q_iinc 2 (-1) q_ag)
noncomputable def kX12_fillsCan_108 : zK ((zL × zS) ⊕ ((zL × zS) ⊕ zR)) := (q_iinc 3 1 q_ag)
noncomputable def bX12_fillsCan_41 : zK ((zL × zS) ⊕ ((zL × zS) ⊕ zR)) := (q_iload 3 (q_push 16 (q_icmp_ge (q_dn kX12_fillsCan_114) (q_aload 0 (q_iload 3 (q_push 4 (q_idiv (q_callV 12 fX12_isColour 1 (q_if_eq kX12_fillsCan_108 (q_aload 0 (q_getR 12 55 (q_iload 2 (q_push 1 (q_iadd (q_iald (q_iload 3 (q_push 4 (q_irem (q_ishr (q_push 1 (q_iand (q_push 1 (q_icmp_ne kX12_fillsCan_108 (q_aload 0 (q_iload 3 (q_push 4 (q_idiv (q_iload 3 (q_push 4 (q_irem (q_callV 12 fX12_childOf 2 (q_aload 0 (q_iload 1 (q_iload 2 (q_callV 12 fX12_seatAt 2 (q_icmp_ne kX12_fillsCan_108 (q_aload 0 (q_getR 12 55 (q_iload 2 (q_dup2 (q_iald (q_push 1 (q_iload 3 (q_push 4 (q_idiv (q_ishl (q_ior (q_iast kX12_fillsCan_108))))))))))))))))))))))))))))))))))))))))))))))))
noncomputable def kX12_fillsCan_41 : zK ((zL × zS) ⊕ zR) := q_lp (bX12_fillsCan_41)
noncomputable def bX12_fillsCan_28 : zK ((zL × zS) ⊕ zR) := (q_iload 2 (q_if_lt (q_dn kX12_fillsCan_120) (q_aload 0 (q_getR 12 55 (q_iload 2 (q_push 0 (q_iast (q_push 0 (q_istore 3 kX12_fillsCan_41)))))))))
noncomputable def kX12_fillsCan_28 : zK zR := q_lp (bX12_fillsCan_28)
noncomputable def kX12_fillsCan_0 : zK zR := (q_aload 0 (q_getR 12 55 (q_aload 0 (q_getR 12 47 (q_iload 1 (q_iald (q_push 1 (q_aload 0 (q_callV 12 fX12_base 0 (q_ishl (q_push 1 (q_isub (q_iast (q_aload 0 (q_getR 12 47 (q_iload 1 (q_iald (q_push 1 (q_isub (q_istore 2 kX12_fillsCan_28))))))))))))))))))))
set_option maxRecDepth 100000 in
theorem tX12_fillsCan_120 {l : Launch} {D : zD} {B sz0 : Nat} {post : Option Value → zS → Prop} : zSnd l D B xX12_fillsCan sz0 post 120 kX12_fillsCan_120 (z_Jr post) := (s_vret dX12_fillsCan_120 rfl)
set_option maxRecDepth 100000 in
theorem tX12_fillsCan_114 {l : Launch} {D : zD} {B sz0 : Nat} {post : Option Value → zS → Prop} : zSnd l D B xX12_fillsCan sz0 post 114 kX12_fillsCan_114 (z_Jl l D B xX12_fillsCan sz0 post 28 (z_Jr post)) := (s_iinc dX12_fillsCan_114 (by decide) (s_goto (tgt := 28) dX12_fillsCan_117 (by decide) s_ag))
set_option maxRecDepth 100000 in
theorem tX12_fillsCan_108 {l : Launch} {D : zD} {B sz0 : Nat} {post : Option Value → zS → Prop} : zSnd l D B xX12_fillsCan sz0 post 108 kX12_fillsCan_108 (z_Jl l D B xX12_fillsCan sz0 post 41 (z_Jl l D B xX12_fillsCan sz0 post 28 (z_Jr post))) := (s_iinc dX12_fillsCan_108 (by decide) (s_goto (tgt := 41) dX12_fillsCan_111 (by decide) s_ag))
set_option maxRecDepth 100000 in
theorem tX12_fillsCan_41 {l : Launch} {D : zD} {B sz0 : Nat} {post : Option Value → zS → Prop} : zSnd l D B xX12_fillsCan sz0 post 41 kX12_fillsCan_41 (z_Jl l D B xX12_fillsCan sz0 post 28 (z_Jr post)) := s_lp (body := bX12_fillsCan_41) (s_iload_n dX12_fillsCan_41 rfl (s_bipush dX12_fillsCan_42 (by decide) (s_icmp_ge (tgt := 114) dX12_fillsCan_44 (by decide) (s_dn tX12_fillsCan_114) (s_aload_n dX12_fillsCan_47 rfl (s_iload_n dX12_fillsCan_48 rfl (s_iconst dX12_fillsCan_49 (by decide) (s_idiv dX12_fillsCan_50 (s_callV (r := (RX12, TX12, 74)) dX12_fillsCan_51 mX12_isColour meX12_isColour wd1174 wd1175 rfl rfl reX12_isColour rmX12_fillsCan (fitX12_fillsCan_51) wd1176 (s_if_eq (tgt := 108) dX12_fillsCan_54 (by decide) tX12_fillsCan_108 (s_aload_n dX12_fillsCan_57 rfl (s_getR (f := 55) dX12_fillsCan_58 clX12 (by decide) rfl wd931 (s_iload_n dX12_fillsCan_61 rfl (s_iconst dX12_fillsCan_62 (by decide) (s_iadd dX12_fillsCan_63 (s_iald dX12_fillsCan_64 (s_iload_n dX12_fillsCan_65 rfl (s_iconst dX12_fillsCan_66 (by decide) (s_irem dX12_fillsCan_67 (s_ishr dX12_fillsCan_68 (s_iconst dX12_fillsCan_69 (by decide) (s_iand dX12_fillsCan_70 (s_iconst dX12_fillsCan_71 (by decide) (s_icmp_ne (tgt := 108) dX12_fillsCan_72 (by decide) tX12_fillsCan_108 (s_aload_n dX12_fillsCan_75 rfl (s_iload_n dX12_fillsCan_76 rfl (s_iconst dX12_fillsCan_77 (by decide) (s_idiv dX12_fillsCan_78 (s_iload_n dX12_fillsCan_79 rfl (s_iconst dX12_fillsCan_80 (by decide) (s_irem dX12_fillsCan_81 (s_callV (r := (RX12, TX12, 74)) dX12_fillsCan_82 mX12_childOf meX12_childOf wd1102 wd1103 rfl rfl reX12_childOf rmX12_fillsCan (fitX12_fillsCan_82) wd1104 (s_aload_n dX12_fillsCan_85 rfl (s_iload_n dX12_fillsCan_86 rfl (s_iload_n dX12_fillsCan_87 rfl (s_callV (r := (RX12, TX12, 74)) dX12_fillsCan_88 mX12_seatAt meX12_seatAt wd1109 wd1110 rfl rfl reX12_seatAt rmX12_fillsCan (fitX12_fillsCan_88) wd1111 (s_icmp_ne (tgt := 108) dX12_fillsCan_91 (by decide) tX12_fillsCan_108 (s_aload_n dX12_fillsCan_94 rfl (s_getR (f := 55) dX12_fillsCan_95 clX12 (by decide) rfl wd931 (s_iload_n dX12_fillsCan_98 rfl (s_dup2 dX12_fillsCan_99 (s_iald dX12_fillsCan_100 (s_iconst dX12_fillsCan_101 (by decide) (s_iload_n dX12_fillsCan_102 rfl (s_iconst dX12_fillsCan_103 (by decide) (s_idiv dX12_fillsCan_104 (s_ishl dX12_fillsCan_105 (s_ior dX12_fillsCan_106 (s_iast dX12_fillsCan_107 tX12_fillsCan_108))))))))))))))))))))))))))))))))))))))))))))))))
set_option maxRecDepth 100000 in
theorem tX12_fillsCan_28 {l : Launch} {D : zD} {B sz0 : Nat} {post : Option Value → zS → Prop} : zSnd l D B xX12_fillsCan sz0 post 28 kX12_fillsCan_28 (z_Jr post) := s_lp (body := bX12_fillsCan_28) (s_iload_n dX12_fillsCan_28 rfl (s_if_lt (tgt := 120) dX12_fillsCan_29 (by decide) (s_dn tX12_fillsCan_120) (s_aload_n dX12_fillsCan_32 rfl (s_getR (f := 55) dX12_fillsCan_33 clX12 (by decide) rfl wd931 (s_iload_n dX12_fillsCan_36 rfl (s_iconst dX12_fillsCan_37 (by decide) (s_iast dX12_fillsCan_38 (s_iconst dX12_fillsCan_39 (by decide) (s_istore_n dX12_fillsCan_40 rfl tX12_fillsCan_41)))))))))
set_option maxRecDepth 100000 in
theorem tX12_fillsCan_0 {l : Launch} {D : zD} {B sz0 : Nat} {post : Option Value → zS → Prop} : zSnd l D B xX12_fillsCan sz0 post 0 kX12_fillsCan_0 (z_Jr post) := (s_aload_n dX12_fillsCan_0 rfl (s_getR (f := 55) dX12_fillsCan_1 clX12 (by decide) rfl wd931 (s_aload_n dX12_fillsCan_4 rfl (s_getR (f := 47) dX12_fillsCan_5 clX12 (by decide) rfl wd901 (s_iload_n dX12_fillsCan_8 rfl (s_iald dX12_fillsCan_9 (s_iconst dX12_fillsCan_10 (by decide) (s_aload_n dX12_fillsCan_11 rfl (s_callV (r := (RX12, TX12, 74)) dX12_fillsCan_12 mX12_base meX12_base wd1081 wd1082 rfl rfl reX12_base rmX12_fillsCan (fitX12_fillsCan_12) wd1083 (s_ishl dX12_fillsCan_15 (s_iconst dX12_fillsCan_16 (by decide) (s_isub dX12_fillsCan_17 (s_iast dX12_fillsCan_18 (s_aload_n dX12_fillsCan_19 rfl (s_getR (f := 47) dX12_fillsCan_20 clX12 (by decide) rfl wd901 (s_iload_n dX12_fillsCan_23 rfl (s_iald dX12_fillsCan_24 (s_iconst dX12_fillsCan_25 (by decide) (s_isub dX12_fillsCan_26 (s_istore_n dX12_fillsCan_27 rfl tX12_fillsCan_28))))))))))))))))))))
noncomputable def fX12_fillsCan : zF := z_fn 4 kX12_fillsCan_0
theorem mX12_fillsCan {l : Launch} {D : zD} {B : Nat} : z_MF l D B yX12_fillsCan xX12_fillsCan fX12_fillsCan := z_mf (by decide) rfl (fun h => by cases h) rfl (fun as σ r h => ⟨z_fn_len h, kX12_fillsCan_0, z_fn_run h, fun _ => tX12_fillsCan_0⟩)
/-! ===== RowChildrenModel.parentsMany ===== -/
theorem dX12_parentsMany_0 : decode cX12_parentsMany 0 = .ok (.iconst 0, 1) := by decide +kernel
theorem dX12_parentsMany_1 : decode cX12_parentsMany 1 = .ok (.istore_n 2, 1) := by decide +kernel
theorem dX12_parentsMany_2 : decode cX12_parentsMany 2 = .ok (.iload_n 2, 1) := by decide +kernel
theorem dX12_parentsMany_3 : decode cX12_parentsMany 3 = .ok (.iconst 4, 1) := by decide +kernel
theorem dX12_parentsMany_4 : decode cX12_parentsMany 4 = .ok (.if_icmp .ge 28, 3) := by decide +kernel
theorem dX12_parentsMany_7 : decode cX12_parentsMany 7 = .ok (.aload_n 0, 1) := by decide +kernel
theorem dX12_parentsMany_8 : decode cX12_parentsMany 8 = .ok (.getfield 125, 3) := by decide +kernel
theorem dX12_parentsMany_11 : decode cX12_parentsMany 11 = .ok (.iload_n 2, 1) := by decide +kernel
theorem dX12_parentsMany_12 : decode cX12_parentsMany 12 = .ok (.aload_n 0, 1) := by decide +kernel
theorem dX12_parentsMany_13 : decode cX12_parentsMany 13 = .ok (.iload_n 2, 1) := by decide +kernel
theorem dX12_parentsMany_14 : decode cX12_parentsMany 14 = .ok (.invokevirtual 398, 3) := by decide +kernel
theorem dX12_parentsMany_17 : decode cX12_parentsMany 17 = .ok (.ifCond .eq 7, 3) := by decide +kernel
theorem dX12_parentsMany_20 : decode cX12_parentsMany 20 = .ok (.iconst 1, 1) := by decide +kernel
theorem dX12_parentsMany_21 : decode cX12_parentsMany 21 = .ok (.goto 4, 3) := by decide +kernel
theorem dX12_parentsMany_24 : decode cX12_parentsMany 24 = .ok (.iconst 0, 1) := by decide +kernel
theorem dX12_parentsMany_25 : decode cX12_parentsMany 25 = .ok (.iastore, 1) := by decide +kernel
theorem dX12_parentsMany_26 : decode cX12_parentsMany 26 = .ok (.iinc 2 1, 3) := by decide +kernel
theorem dX12_parentsMany_29 : decode cX12_parentsMany 29 = .ok (.goto (-27), 3) := by decide +kernel
theorem dX12_parentsMany_32 : decode cX12_parentsMany 32 = .ok (.iconst 0, 1) := by decide +kernel
theorem dX12_parentsMany_33 : decode cX12_parentsMany 33 = .ok (.istore_n 2, 1) := by decide +kernel
theorem dX12_parentsMany_34 : decode cX12_parentsMany 34 = .ok (.iload_n 2, 1) := by decide +kernel
theorem dX12_parentsMany_35 : decode cX12_parentsMany 35 = .ok (.aload_n 0, 1) := by decide +kernel
theorem dX12_parentsMany_36 : decode cX12_parentsMany 36 = .ok (.getfield 107, 3) := by decide +kernel
theorem dX12_parentsMany_39 : decode cX12_parentsMany 39 = .ok (.iload_n 1, 1) := by decide +kernel
theorem dX12_parentsMany_40 : decode cX12_parentsMany 40 = .ok (.iaload, 1) := by decide +kernel
theorem dX12_parentsMany_41 : decode cX12_parentsMany 41 = .ok (.if_icmp .ge 126, 3) := by decide +kernel
theorem dX12_parentsMany_44 : decode cX12_parentsMany 44 = .ok (.iconst 0, 1) := by decide +kernel
theorem dX12_parentsMany_45 : decode cX12_parentsMany 45 = .ok (.istore_n 3, 1) := by decide +kernel
theorem dX12_parentsMany_46 : decode cX12_parentsMany 46 = .ok (.iload_n 3, 1) := by decide +kernel
theorem dX12_parentsMany_47 : decode cX12_parentsMany 47 = .ok (.iconst 4, 1) := by decide +kernel
theorem dX12_parentsMany_48 : decode cX12_parentsMany 48 = .ok (.if_icmp .ge 16, 3) := by decide +kernel
theorem dX12_parentsMany_51 : decode cX12_parentsMany 51 = .ok (.aload_n 0, 1) := by decide +kernel
theorem dX12_parentsMany_52 : decode cX12_parentsMany 52 = .ok (.getfield 128, 3) := by decide +kernel
theorem dX12_parentsMany_55 : decode cX12_parentsMany 55 = .ok (.iload_n 3, 1) := by decide +kernel
theorem dX12_parentsMany_56 : decode cX12_parentsMany 56 = .ok (.iconst 0, 1) := by decide +kernel
theorem dX12_parentsMany_57 : decode cX12_parentsMany 57 = .ok (.iastore, 1) := by decide +kernel
theorem dX12_parentsMany_58 : decode cX12_parentsMany 58 = .ok (.iinc 3 1, 3) := by decide +kernel
theorem dX12_parentsMany_61 : decode cX12_parentsMany 61 = .ok (.goto (-15), 3) := by decide +kernel
theorem dX12_parentsMany_64 : decode cX12_parentsMany 64 = .ok (.iconst 0, 1) := by decide +kernel
theorem dX12_parentsMany_65 : decode cX12_parentsMany 65 = .ok (.istore_n 3, 1) := by decide +kernel
theorem dX12_parentsMany_66 : decode cX12_parentsMany 66 = .ok (.iload_n 3, 1) := by decide +kernel
theorem dX12_parentsMany_67 : decode cX12_parentsMany 67 = .ok (.bipush 16, 2) := by decide +kernel
theorem dX12_parentsMany_69 : decode cX12_parentsMany 69 = .ok (.if_icmp .ge 67, 3) := by decide +kernel
theorem dX12_parentsMany_72 : decode cX12_parentsMany 72 = .ok (.aload_n 0, 1) := by decide +kernel
theorem dX12_parentsMany_73 : decode cX12_parentsMany 73 = .ok (.iload_n 3, 1) := by decide +kernel
theorem dX12_parentsMany_74 : decode cX12_parentsMany 74 = .ok (.iconst 4, 1) := by decide +kernel
theorem dX12_parentsMany_75 : decode cX12_parentsMany 75 = .ok (.idiv, 1) := by decide +kernel
theorem dX12_parentsMany_76 : decode cX12_parentsMany 76 = .ok (.invokevirtual 398, 3) := by decide +kernel
theorem dX12_parentsMany_79 : decode cX12_parentsMany 79 = .ok (.ifCond .eq 51, 3) := by decide +kernel
theorem dX12_parentsMany_82 : decode cX12_parentsMany 82 = .ok (.aload_n 0, 1) := by decide +kernel
theorem dX12_parentsMany_83 : decode cX12_parentsMany 83 = .ok (.iload_n 3, 1) := by decide +kernel
theorem dX12_parentsMany_84 : decode cX12_parentsMany 84 = .ok (.iconst 4, 1) := by decide +kernel
theorem dX12_parentsMany_85 : decode cX12_parentsMany 85 = .ok (.irem, 1) := by decide +kernel
theorem dX12_parentsMany_86 : decode cX12_parentsMany 86 = .ok (.invokevirtual 398, 3) := by decide +kernel
theorem dX12_parentsMany_89 : decode cX12_parentsMany 89 = .ok (.ifCond .eq 41, 3) := by decide +kernel
theorem dX12_parentsMany_92 : decode cX12_parentsMany 92 = .ok (.aload_n 0, 1) := by decide +kernel
theorem dX12_parentsMany_93 : decode cX12_parentsMany 93 = .ok (.iload_n 3, 1) := by decide +kernel
theorem dX12_parentsMany_94 : decode cX12_parentsMany 94 = .ok (.iconst 4, 1) := by decide +kernel
theorem dX12_parentsMany_95 : decode cX12_parentsMany 95 = .ok (.idiv, 1) := by decide +kernel
theorem dX12_parentsMany_96 : decode cX12_parentsMany 96 = .ok (.iload_n 3, 1) := by decide +kernel
theorem dX12_parentsMany_97 : decode cX12_parentsMany 97 = .ok (.iconst 4, 1) := by decide +kernel
theorem dX12_parentsMany_98 : decode cX12_parentsMany 98 = .ok (.irem, 1) := by decide +kernel
theorem dX12_parentsMany_99 : decode cX12_parentsMany 99 = .ok (.invokevirtual 346, 3) := by decide +kernel
theorem dX12_parentsMany_102 : decode cX12_parentsMany 102 = .ok (.aload_n 0, 1) := by decide +kernel
theorem dX12_parentsMany_103 : decode cX12_parentsMany 103 = .ok (.iload_n 1, 1) := by decide +kernel
theorem dX12_parentsMany_104 : decode cX12_parentsMany 104 = .ok (.iload_n 2, 1) := by decide +kernel
theorem dX12_parentsMany_105 : decode cX12_parentsMany 105 = .ok (.invokevirtual 349, 3) := by decide +kernel
theorem dX12_parentsMany_108 : decode cX12_parentsMany 108 = .ok (.if_icmp .ne 22, 3) := by decide +kernel
theorem dX12_parentsMany_111 : decode cX12_parentsMany 111 = .ok (.aload_n 0, 1) := by decide +kernel
theorem dX12_parentsMany_112 : decode cX12_parentsMany 112 = .ok (.getfield 128, 3) := by decide +kernel
theorem dX12_parentsMany_115 : decode cX12_parentsMany 115 = .ok (.iload_n 3, 1) := by decide +kernel
theorem dX12_parentsMany_116 : decode cX12_parentsMany 116 = .ok (.iconst 4, 1) := by decide +kernel
theorem dX12_parentsMany_117 : decode cX12_parentsMany 117 = .ok (.irem, 1) := by decide +kernel
theorem dX12_parentsMany_118 : decode cX12_parentsMany 118 = .ok (.dup2, 1) := by decide +kernel
theorem dX12_parentsMany_119 : decode cX12_parentsMany 119 = .ok (.iaload, 1) := by decide +kernel
theorem dX12_parentsMany_120 : decode cX12_parentsMany 120 = .ok (.aload_n 0, 1) := by decide +kernel
theorem dX12_parentsMany_121 : decode cX12_parentsMany 121 = .ok (.getfield 125, 3) := by decide +kernel
theorem dX12_parentsMany_124 : decode cX12_parentsMany 124 = .ok (.iload_n 3, 1) := by decide +kernel
theorem dX12_parentsMany_125 : decode cX12_parentsMany 125 = .ok (.iconst 4, 1) := by decide +kernel
theorem dX12_parentsMany_126 : decode cX12_parentsMany 126 = .ok (.idiv, 1) := by decide +kernel
theorem dX12_parentsMany_127 : decode cX12_parentsMany 127 = .ok (.iaload, 1) := by decide +kernel
theorem dX12_parentsMany_128 : decode cX12_parentsMany 128 = .ok (.iadd, 1) := by decide +kernel
theorem dX12_parentsMany_129 : decode cX12_parentsMany 129 = .ok (.iastore, 1) := by decide +kernel
theorem dX12_parentsMany_130 : decode cX12_parentsMany 130 = .ok (.iinc 3 1, 3) := by decide +kernel
theorem dX12_parentsMany_133 : decode cX12_parentsMany 133 = .ok (.goto (-67), 3) := by decide +kernel
theorem dX12_parentsMany_136 : decode cX12_parentsMany 136 = .ok (.iconst 0, 1) := by decide +kernel
theorem dX12_parentsMany_137 : decode cX12_parentsMany 137 = .ok (.istore_n 3, 1) := by decide +kernel
theorem dX12_parentsMany_138 : decode cX12_parentsMany 138 = .ok (.iload_n 3, 1) := by decide +kernel
theorem dX12_parentsMany_139 : decode cX12_parentsMany 139 = .ok (.iconst 4, 1) := by decide +kernel
theorem dX12_parentsMany_140 : decode cX12_parentsMany 140 = .ok (.if_icmp .ge 21, 3) := by decide +kernel
theorem dX12_parentsMany_143 : decode cX12_parentsMany 143 = .ok (.aload_n 0, 1) := by decide +kernel
theorem dX12_parentsMany_144 : decode cX12_parentsMany 144 = .ok (.getfield 125, 3) := by decide +kernel
theorem dX12_parentsMany_147 : decode cX12_parentsMany 147 = .ok (.iload_n 3, 1) := by decide +kernel
theorem dX12_parentsMany_148 : decode cX12_parentsMany 148 = .ok (.aload_n 0, 1) := by decide +kernel
theorem dX12_parentsMany_149 : decode cX12_parentsMany 149 = .ok (.getfield 128, 3) := by decide +kernel
theorem dX12_parentsMany_152 : decode cX12_parentsMany 152 = .ok (.iload_n 3, 1) := by decide +kernel
theorem dX12_parentsMany_153 : decode cX12_parentsMany 153 = .ok (.iaload, 1) := by decide +kernel
theorem dX12_parentsMany_154 : decode cX12_parentsMany 154 = .ok (.iastore, 1) := by decide +kernel
theorem dX12_parentsMany_155 : decode cX12_parentsMany 155 = .ok (.iinc 3 1, 3) := by decide +kernel
theorem dX12_parentsMany_158 : decode cX12_parentsMany 158 = .ok (.goto (-20), 3) := by decide +kernel
theorem dX12_parentsMany_161 : decode cX12_parentsMany 161 = .ok (.iinc 2 1, 3) := by decide +kernel
theorem dX12_parentsMany_164 : decode cX12_parentsMany 164 = .ok (.goto (-130), 3) := by decide +kernel
theorem dX12_parentsMany_167 : decode cX12_parentsMany 167 = .ok (.aload_n 0, 1) := by decide +kernel
theorem dX12_parentsMany_168 : decode cX12_parentsMany 168 = .ok (.getfield 125, 3) := by decide +kernel
theorem dX12_parentsMany_171 : decode cX12_parentsMany 171 = .ok (.iconst 0, 1) := by decide +kernel
theorem dX12_parentsMany_172 : decode cX12_parentsMany 172 = .ok (.iaload, 1) := by decide +kernel
theorem dX12_parentsMany_173 : decode cX12_parentsMany 173 = .ok (.aload_n 0, 1) := by decide +kernel
theorem dX12_parentsMany_174 : decode cX12_parentsMany 174 = .ok (.getfield 125, 3) := by decide +kernel
theorem dX12_parentsMany_177 : decode cX12_parentsMany 177 = .ok (.iconst 1, 1) := by decide +kernel
theorem dX12_parentsMany_178 : decode cX12_parentsMany 178 = .ok (.iaload, 1) := by decide +kernel
theorem dX12_parentsMany_179 : decode cX12_parentsMany 179 = .ok (.iadd, 1) := by decide +kernel
theorem dX12_parentsMany_180 : decode cX12_parentsMany 180 = .ok (.aload_n 0, 1) := by decide +kernel
theorem dX12_parentsMany_181 : decode cX12_parentsMany 181 = .ok (.getfield 125, 3) := by decide +kernel
theorem dX12_parentsMany_184 : decode cX12_parentsMany 184 = .ok (.iconst 2, 1) := by decide +kernel
theorem dX12_parentsMany_185 : decode cX12_parentsMany 185 = .ok (.iaload, 1) := by decide +kernel
theorem dX12_parentsMany_186 : decode cX12_parentsMany 186 = .ok (.iadd, 1) := by decide +kernel
theorem dX12_parentsMany_187 : decode cX12_parentsMany 187 = .ok (.aload_n 0, 1) := by decide +kernel
theorem dX12_parentsMany_188 : decode cX12_parentsMany 188 = .ok (.getfield 125, 3) := by decide +kernel
theorem dX12_parentsMany_191 : decode cX12_parentsMany 191 = .ok (.iconst 3, 1) := by decide +kernel
theorem dX12_parentsMany_192 : decode cX12_parentsMany 192 = .ok (.iaload, 1) := by decide +kernel
theorem dX12_parentsMany_193 : decode cX12_parentsMany 193 = .ok (.iadd, 1) := by decide +kernel
theorem dX12_parentsMany_194 : decode cX12_parentsMany 194 = .ok (.ireturn, 1) := by decide +kernel
def xX12_parentsMany : zX := (RX12, cX12_parentsMany, 4, (some .int), false, { frames := 3, cells := 0, slots := 0, locals := 133 }, 0, 0, 0, 0)
theorem rmX12_parentsMany : z_Rm xX12_parentsMany := by unfold z_Rm xX12_parentsMany; exact ⟨by decide, by decide⟩
theorem reX12_parentsMany : z_Re xX12_parentsMany := ⟨rfl, rfl⟩
theorem rlX12_parentsMany : 1 ≤ xX12_parentsMany.2.2.2.2.2.1.frames ∧ 21 ≤ xX12_parentsMany.2.2.2.2.2.1.locals := by unfold xX12_parentsMany; exact ⟨by decide, by decide⟩
theorem meX12_parentsMany : z_Me yX12_parentsMany xX12_parentsMany 1 := ⟨wd1256, wd893, by decide, by decide, by decide +kernel⟩
theorem fitX12_parentsMany_76 : z_Fit xX12_isColour xX12_parentsMany := by unfold z_Fit; simp only [xX12_isColour, xX12_parentsMany]; exact ⟨by decide, by decide⟩
theorem fitX12_parentsMany_86 : z_Fit xX12_isColour xX12_parentsMany := by unfold z_Fit; simp only [xX12_isColour, xX12_parentsMany]; exact ⟨by decide, by decide⟩
theorem fitX12_parentsMany_99 : z_Fit xX12_childOf xX12_parentsMany := by unfold z_Fit; simp only [xX12_childOf, xX12_parentsMany]; exact ⟨by decide, by decide⟩
theorem fitX12_parentsMany_105 : z_Fit xX12_seatAt xX12_parentsMany := by unfold z_Fit; simp only [xX12_seatAt, xX12_parentsMany]; exact ⟨by decide, by decide⟩
theorem fitX12_parentsMany_14 : z_Fit xX12_isColour xX12_parentsMany := by unfold z_Fit; simp only [xX12_isColour, xX12_parentsMany]; exact ⟨by decide, by decide⟩
noncomputable def kX12_parentsMany_167 : zK zR := (q_aload 0 (q_getR 12 56 (q_push 0 (q_iald (q_aload 0 (q_getR 12 56 (q_push 1 (q_iald (q_iadd (q_aload 0 (q_getR 12 56 (q_push 2 (q_iald (q_iadd (q_aload 0 (q_getR 12 56 (q_push 3 (q_iald (q_iadd q_iret)))))))))))))))))))
noncomputable def kX12_parentsMany_161 : zK ((zL × zS) ⊕ zR) := (q_iinc 2 1 q_ag)
noncomputable def bX12_parentsMany_138 : zK ((zL × zS) ⊕ ((zL × zS) ⊕ zR)) := (q_iload 3 (q_push 4 (q_icmp_ge (q_dn kX12_parentsMany_161) (q_aload 0 (q_getR 12 56 (q_iload 3 (q_aload 0 (q_getR 12 57 (q_iload 3 (q_iald (q_iast (q_iinc 3 1 q_ag))))))))))))
noncomputable def kX12_parentsMany_138 : zK ((zL × zS) ⊕ zR) := q_lp (bX12_parentsMany_138)
noncomputable def kX12_parentsMany_136 : zK ((zL × zS) ⊕ zR) := (q_push 0 (q_istore 3 kX12_parentsMany_138))
noncomputable def kX12_parentsMany_130 : zK ((zL × zS) ⊕ ((zL × zS) ⊕ zR)) := (q_iinc 3 1 q_ag)
noncomputable def bX12_parentsMany_66 : zK ((zL × zS) ⊕ ((zL × zS) ⊕ zR)) := (q_iload 3 (q_push 16 (q_icmp_ge (q_dn kX12_parentsMany_136) (q_aload 0 (q_iload 3 (q_push 4 (q_idiv (q_callV 12 fX12_isColour 1 (q_if_eq kX12_parentsMany_130 (q_aload 0 (q_iload 3 (q_push 4 (q_irem (q_callV 12 fX12_isColour 1 (q_if_eq kX12_parentsMany_130 (q_aload 0 (q_iload 3 (q_push 4 (q_idiv (q_iload 3 (q_push 4 (q_irem (q_callV 12 fX12_childOf 2 (q_aload 0 (q_iload 1 (q_iload 2 (q_callV 12 fX12_seatAt 2 (q_icmp_ne kX12_parentsMany_130 (q_aload 0 (q_getR 12 57 (q_iload 3 (q_push 4 (q_irem (q_dup2 (q_iald (q_aload 0 (q_getR 12 56 (q_iload 3 (q_push 4 (q_idiv (q_iald (q_iadd (q_iast kX12_parentsMany_130)))))))))))))))))))))))))))))))))))))))))))
noncomputable def kX12_parentsMany_66 : zK ((zL × zS) ⊕ zR) := q_lp (bX12_parentsMany_66)
noncomputable def kX12_parentsMany_64 : zK ((zL × zS) ⊕ zR) := (q_push 0 (q_istore 3 kX12_parentsMany_66))
noncomputable def bX12_parentsMany_46 : zK ((zL × zS) ⊕ ((zL × zS) ⊕ zR)) := (q_iload 3 (q_push 4 (q_icmp_ge (q_dn kX12_parentsMany_64) (q_aload 0 (q_getR 12 57 (q_iload 3 (q_push 0 (q_iast (q_iinc 3 1 q_ag)))))))))
noncomputable def kX12_parentsMany_46 : zK ((zL × zS) ⊕ zR) := q_lp (bX12_parentsMany_46)
noncomputable def bX12_parentsMany_34 : zK ((zL × zS) ⊕ zR) := (q_iload 2 (q_aload 0 (q_getR 12 47 (q_iload 1 (q_iald (q_icmp_ge (q_dn kX12_parentsMany_167) (q_push 0 (q_istore 3 kX12_parentsMany_46))))))))
noncomputable def kX12_parentsMany_34 : zK zR := q_lp (bX12_parentsMany_34)
noncomputable def kX12_parentsMany_32 : zK zR := (q_push 0 (q_istore 2 kX12_parentsMany_34))
noncomputable def kX12_parentsMany_25 : zK ((zL × zS) ⊕ zR) := (q_iast (q_iinc 2 1 q_ag))
noncomputable def bX12_parentsMany_2 : zK ((zL × zS) ⊕ zR) := (q_iload 2 (q_push 4 (q_icmp_ge (q_dn kX12_parentsMany_32) (q_aload 0 (q_getR 12 56 (q_iload 2 (q_aload 0 (q_iload 2 (q_callV 12 fX12_isColour 1 (q_if_eq (q_push 0 kX12_parentsMany_25) (q_push 1 kX12_parentsMany_25)))))))))))
noncomputable def kX12_parentsMany_2 : zK zR := q_lp (bX12_parentsMany_2)
noncomputable def kX12_parentsMany_0 : zK zR := (q_push 0 (q_istore 2 kX12_parentsMany_2))
set_option maxRecDepth 100000 in
theorem tX12_parentsMany_167 {l : Launch} {D : zD} {B sz0 : Nat} {post : Option Value → zS → Prop} : zSnd l D B xX12_parentsMany sz0 post 167 kX12_parentsMany_167 (z_Jr post) := (s_aload_n dX12_parentsMany_167 rfl (s_getR (f := 56) dX12_parentsMany_168 clX12 (by decide) rfl wd932 (s_iconst dX12_parentsMany_171 (by decide) (s_iald dX12_parentsMany_172 (s_aload_n dX12_parentsMany_173 rfl (s_getR (f := 56) dX12_parentsMany_174 clX12 (by decide) rfl wd932 (s_iconst dX12_parentsMany_177 (by decide) (s_iald dX12_parentsMany_178 (s_iadd dX12_parentsMany_179 (s_aload_n dX12_parentsMany_180 rfl (s_getR (f := 56) dX12_parentsMany_181 clX12 (by decide) rfl wd932 (s_iconst dX12_parentsMany_184 (by decide) (s_iald dX12_parentsMany_185 (s_iadd dX12_parentsMany_186 (s_aload_n dX12_parentsMany_187 rfl (s_getR (f := 56) dX12_parentsMany_188 clX12 (by decide) rfl wd932 (s_iconst dX12_parentsMany_191 (by decide) (s_iald dX12_parentsMany_192 (s_iadd dX12_parentsMany_193 (s_iret dX12_parentsMany_194 rfl))))))))))))))))))))
set_option maxRecDepth 100000 in
theorem tX12_parentsMany_161 {l : Launch} {D : zD} {B sz0 : Nat} {post : Option Value → zS → Prop} : zSnd l D B xX12_parentsMany sz0 post 161 kX12_parentsMany_161 (z_Jl l D B xX12_parentsMany sz0 post 34 (z_Jr post)) := (s_iinc dX12_parentsMany_161 (by decide) (s_goto (tgt := 34) dX12_parentsMany_164 (by decide) s_ag))
set_option maxRecDepth 100000 in
theorem tX12_parentsMany_138 {l : Launch} {D : zD} {B sz0 : Nat} {post : Option Value → zS → Prop} : zSnd l D B xX12_parentsMany sz0 post 138 kX12_parentsMany_138 (z_Jl l D B xX12_parentsMany sz0 post 34 (z_Jr post)) := s_lp (body := bX12_parentsMany_138) (s_iload_n dX12_parentsMany_138 rfl (s_iconst dX12_parentsMany_139 (by decide) (s_icmp_ge (tgt := 161) dX12_parentsMany_140 (by decide) (s_dn tX12_parentsMany_161) (s_aload_n dX12_parentsMany_143 rfl (s_getR (f := 56) dX12_parentsMany_144 clX12 (by decide) rfl wd932 (s_iload_n dX12_parentsMany_147 rfl (s_aload_n dX12_parentsMany_148 rfl (s_getR (f := 57) dX12_parentsMany_149 clX12 (by decide) rfl wd933 (s_iload_n dX12_parentsMany_152 rfl (s_iald dX12_parentsMany_153 (s_iast dX12_parentsMany_154 (s_iinc dX12_parentsMany_155 (by decide) (s_goto (tgt := 138) dX12_parentsMany_158 (by decide) s_ag)))))))))))))
set_option maxRecDepth 100000 in
theorem tX12_parentsMany_136 {l : Launch} {D : zD} {B sz0 : Nat} {post : Option Value → zS → Prop} : zSnd l D B xX12_parentsMany sz0 post 136 kX12_parentsMany_136 (z_Jl l D B xX12_parentsMany sz0 post 34 (z_Jr post)) := (s_iconst dX12_parentsMany_136 (by decide) (s_istore_n dX12_parentsMany_137 rfl tX12_parentsMany_138))
set_option maxRecDepth 100000 in
theorem tX12_parentsMany_130 {l : Launch} {D : zD} {B sz0 : Nat} {post : Option Value → zS → Prop} : zSnd l D B xX12_parentsMany sz0 post 130 kX12_parentsMany_130 (z_Jl l D B xX12_parentsMany sz0 post 66 (z_Jl l D B xX12_parentsMany sz0 post 34 (z_Jr post))) := (s_iinc dX12_parentsMany_130 (by decide) (s_goto (tgt := 66) dX12_parentsMany_133 (by decide) s_ag))
set_option maxRecDepth 100000 in
theorem tX12_parentsMany_66 {l : Launch} {D : zD} {B sz0 : Nat} {post : Option Value → zS → Prop} : zSnd l D B xX12_parentsMany sz0 post 66 kX12_parentsMany_66 (z_Jl l D B xX12_parentsMany sz0 post 34 (z_Jr post)) := s_lp (body := bX12_parentsMany_66) (s_iload_n dX12_parentsMany_66 rfl (s_bipush dX12_parentsMany_67 (by decide) (s_icmp_ge (tgt := 136) dX12_parentsMany_69 (by decide) (s_dn tX12_parentsMany_136) (s_aload_n dX12_parentsMany_72 rfl (s_iload_n dX12_parentsMany_73 rfl (s_iconst dX12_parentsMany_74 (by decide) (s_idiv dX12_parentsMany_75 (s_callV (r := (RX12, TX12, 74)) dX12_parentsMany_76 mX12_isColour meX12_isColour wd1174 wd1175 rfl rfl reX12_isColour rmX12_parentsMany (fitX12_parentsMany_76) wd1176 (s_if_eq (tgt := 130) dX12_parentsMany_79 (by decide) tX12_parentsMany_130 (s_aload_n dX12_parentsMany_82 rfl (s_iload_n dX12_parentsMany_83 rfl (s_iconst dX12_parentsMany_84 (by decide) (s_irem dX12_parentsMany_85 (s_callV (r := (RX12, TX12, 74)) dX12_parentsMany_86 mX12_isColour meX12_isColour wd1174 wd1175 rfl rfl reX12_isColour rmX12_parentsMany (fitX12_parentsMany_86) wd1176 (s_if_eq (tgt := 130) dX12_parentsMany_89 (by decide) tX12_parentsMany_130 (s_aload_n dX12_parentsMany_92 rfl (s_iload_n dX12_parentsMany_93 rfl (s_iconst dX12_parentsMany_94 (by decide) (s_idiv dX12_parentsMany_95 (s_iload_n dX12_parentsMany_96 rfl (s_iconst dX12_parentsMany_97 (by decide) (s_irem dX12_parentsMany_98 (s_callV (r := (RX12, TX12, 74)) dX12_parentsMany_99 mX12_childOf meX12_childOf wd1102 wd1103 rfl rfl reX12_childOf rmX12_parentsMany (fitX12_parentsMany_99) wd1104 (s_aload_n dX12_parentsMany_102 rfl (s_iload_n dX12_parentsMany_103 rfl (s_iload_n dX12_parentsMany_104 rfl (s_callV (r := (RX12, TX12, 74)) dX12_parentsMany_105 mX12_seatAt meX12_seatAt wd1109 wd1110 rfl rfl reX12_seatAt rmX12_parentsMany (fitX12_parentsMany_105) wd1111 (s_icmp_ne (tgt := 130) dX12_parentsMany_108 (by decide) tX12_parentsMany_130 (s_aload_n dX12_parentsMany_111 rfl (s_getR (f := 57) dX12_parentsMany_112 clX12 (by decide) rfl wd933 (s_iload_n dX12_parentsMany_115 rfl (s_iconst dX12_parentsMany_116 (by decide) (s_irem dX12_parentsMany_117 (s_dup2 dX12_parentsMany_118 (s_iald dX12_parentsMany_119 (s_aload_n dX12_parentsMany_120 rfl (s_getR (f := 56) dX12_parentsMany_121 clX12 (by decide) rfl wd932 (s_iload_n dX12_parentsMany_124 rfl (s_iconst dX12_parentsMany_125 (by decide) (s_idiv dX12_parentsMany_126 (s_iald dX12_parentsMany_127 (s_iadd dX12_parentsMany_128 (s_iast dX12_parentsMany_129 tX12_parentsMany_130)))))))))))))))))))))))))))))))))))))))))))
set_option maxRecDepth 100000 in
theorem tX12_parentsMany_64 {l : Launch} {D : zD} {B sz0 : Nat} {post : Option Value → zS → Prop} : zSnd l D B xX12_parentsMany sz0 post 64 kX12_parentsMany_64 (z_Jl l D B xX12_parentsMany sz0 post 34 (z_Jr post)) := (s_iconst dX12_parentsMany_64 (by decide) (s_istore_n dX12_parentsMany_65 rfl tX12_parentsMany_66))
set_option maxRecDepth 100000 in
theorem tX12_parentsMany_46 {l : Launch} {D : zD} {B sz0 : Nat} {post : Option Value → zS → Prop} : zSnd l D B xX12_parentsMany sz0 post 46 kX12_parentsMany_46 (z_Jl l D B xX12_parentsMany sz0 post 34 (z_Jr post)) := s_lp (body := bX12_parentsMany_46) (s_iload_n dX12_parentsMany_46 rfl (s_iconst dX12_parentsMany_47 (by decide) (s_icmp_ge (tgt := 64) dX12_parentsMany_48 (by decide) (s_dn tX12_parentsMany_64) (s_aload_n dX12_parentsMany_51 rfl (s_getR (f := 57) dX12_parentsMany_52 clX12 (by decide) rfl wd933 (s_iload_n dX12_parentsMany_55 rfl (s_iconst dX12_parentsMany_56 (by decide) (s_iast dX12_parentsMany_57 (s_iinc dX12_parentsMany_58 (by decide) (s_goto (tgt := 46) dX12_parentsMany_61 (by decide) s_ag))))))))))
set_option maxRecDepth 100000 in
theorem tX12_parentsMany_34 {l : Launch} {D : zD} {B sz0 : Nat} {post : Option Value → zS → Prop} : zSnd l D B xX12_parentsMany sz0 post 34 kX12_parentsMany_34 (z_Jr post) := s_lp (body := bX12_parentsMany_34) (s_iload_n dX12_parentsMany_34 rfl (s_aload_n dX12_parentsMany_35 rfl (s_getR (f := 47) dX12_parentsMany_36 clX12 (by decide) rfl wd901 (s_iload_n dX12_parentsMany_39 rfl (s_iald dX12_parentsMany_40 (s_icmp_ge (tgt := 167) dX12_parentsMany_41 (by decide) (s_dn tX12_parentsMany_167) (s_iconst dX12_parentsMany_44 (by decide) (s_istore_n dX12_parentsMany_45 rfl tX12_parentsMany_46))))))))
set_option maxRecDepth 100000 in
theorem tX12_parentsMany_32 {l : Launch} {D : zD} {B sz0 : Nat} {post : Option Value → zS → Prop} : zSnd l D B xX12_parentsMany sz0 post 32 kX12_parentsMany_32 (z_Jr post) := (s_iconst dX12_parentsMany_32 (by decide) (s_istore_n dX12_parentsMany_33 rfl tX12_parentsMany_34))
set_option maxRecDepth 100000 in
theorem tX12_parentsMany_25 {l : Launch} {D : zD} {B sz0 : Nat} {post : Option Value → zS → Prop} : zSnd l D B xX12_parentsMany sz0 post 25 kX12_parentsMany_25 (z_Jl l D B xX12_parentsMany sz0 post 2 (z_Jr post)) := (s_iast dX12_parentsMany_25 (s_iinc dX12_parentsMany_26 (by decide) (s_goto (tgt := 2) dX12_parentsMany_29 (by decide) s_ag)))
set_option maxRecDepth 100000 in
theorem tX12_parentsMany_2 {l : Launch} {D : zD} {B sz0 : Nat} {post : Option Value → zS → Prop} : zSnd l D B xX12_parentsMany sz0 post 2 kX12_parentsMany_2 (z_Jr post) := s_lp (body := bX12_parentsMany_2) (s_iload_n dX12_parentsMany_2 rfl (s_iconst dX12_parentsMany_3 (by decide) (s_icmp_ge (tgt := 32) dX12_parentsMany_4 (by decide) (s_dn tX12_parentsMany_32) (s_aload_n dX12_parentsMany_7 rfl (s_getR (f := 56) dX12_parentsMany_8 clX12 (by decide) rfl wd932 (s_iload_n dX12_parentsMany_11 rfl (s_aload_n dX12_parentsMany_12 rfl (s_iload_n dX12_parentsMany_13 rfl (s_callV (r := (RX12, TX12, 74)) dX12_parentsMany_14 mX12_isColour meX12_isColour wd1174 wd1175 rfl rfl reX12_isColour rmX12_parentsMany (fitX12_parentsMany_14) wd1176 (s_if_eq (tgt := 24) dX12_parentsMany_17 (by decide) (s_iconst dX12_parentsMany_24 (by decide) tX12_parentsMany_25) (s_iconst dX12_parentsMany_20 (by decide) (s_goto (tgt := 25) dX12_parentsMany_21 (by decide) tX12_parentsMany_25))))))))))))
set_option maxRecDepth 100000 in
theorem tX12_parentsMany_0 {l : Launch} {D : zD} {B sz0 : Nat} {post : Option Value → zS → Prop} : zSnd l D B xX12_parentsMany sz0 post 0 kX12_parentsMany_0 (z_Jr post) := (s_iconst dX12_parentsMany_0 (by decide) (s_istore_n dX12_parentsMany_1 rfl tX12_parentsMany_2))
noncomputable def fX12_parentsMany : zF := z_fn 4 kX12_parentsMany_0
theorem mX12_parentsMany {l : Launch} {D : zD} {B : Nat} : z_MF l D B yX12_parentsMany xX12_parentsMany fX12_parentsMany := z_mf (by decide) rfl (fun h => by cases h) rfl (fun as σ r h => ⟨z_fn_len h, kX12_parentsMany_0, z_fn_run h, fun _ => tX12_parentsMany_0⟩)
/-! ===== RowChildrenModel.lowestOf ===== -/
theorem dX12_lowestOf_0 : decode cX12_lowestOf 0 = .ok (.iconst 0, 1) := by decide +kernel
theorem dX12_lowestOf_1 : decode cX12_lowestOf 1 = .ok (.istore_n 1, 1) := by decide +kernel
theorem dX12_lowestOf_2 : decode cX12_lowestOf 2 = .ok (.iload_n 0, 1) := by decide +kernel
theorem dX12_lowestOf_3 : decode cX12_lowestOf 3 = .ok (.iload_n 1, 1) := by decide +kernel
theorem dX12_lowestOf_4 : decode cX12_lowestOf 4 = .ok (.ishr, 1) := by decide +kernel
theorem dX12_lowestOf_5 : decode cX12_lowestOf 5 = .ok (.iconst 1, 1) := by decide +kernel
theorem dX12_lowestOf_6 : decode cX12_lowestOf 6 = .ok (.iand, 1) := by decide +kernel
theorem dX12_lowestOf_7 : decode cX12_lowestOf 7 = .ok (.ifCond .ne 9, 3) := by decide +kernel
theorem dX12_lowestOf_10 : decode cX12_lowestOf 10 = .ok (.iinc 1 1, 3) := by decide +kernel
theorem dX12_lowestOf_13 : decode cX12_lowestOf 13 = .ok (.goto (-11), 3) := by decide +kernel
theorem dX12_lowestOf_16 : decode cX12_lowestOf 16 = .ok (.iload_n 1, 1) := by decide +kernel
theorem dX12_lowestOf_17 : decode cX12_lowestOf 17 = .ok (.ireturn, 1) := by decide +kernel
def xX12_lowestOf : zX := (RX12, cX12_lowestOf, 2, (some .int), false, { frames := 1, cells := 0, slots := 0, locals := 90 }, 0, 0, 0, 0)
theorem rmX12_lowestOf : z_Rm xX12_lowestOf := by unfold z_Rm xX12_lowestOf; exact ⟨by decide, by decide⟩
theorem reX12_lowestOf : z_Re xX12_lowestOf := ⟨rfl, rfl⟩
theorem rlX12_lowestOf : 1 ≤ xX12_lowestOf.2.2.2.2.2.1.frames ∧ 21 ≤ xX12_lowestOf.2.2.2.2.2.1.locals := by unfold xX12_lowestOf; exact ⟨by decide, by decide⟩
theorem meX12_lowestOf : z_Me yX12_lowestOf xX12_lowestOf 1 := ⟨wd1257, wd893, by decide, by decide, by decide +kernel⟩
noncomputable def kX12_lowestOf_16 : zK zR := (q_iload 1 q_iret)
noncomputable def bX12_lowestOf_2 : zK ((zL × zS) ⊕ zR) := (q_iload 0 (q_iload 1 (q_ishr (q_push 1 (q_iand (q_if_ne (q_dn kX12_lowestOf_16) (q_iinc 1 1 q_ag)))))))
noncomputable def kX12_lowestOf_2 : zK zR := q_lp (bX12_lowestOf_2)
noncomputable def kX12_lowestOf_0 : zK zR := (q_push 0 (q_istore 1 kX12_lowestOf_2))
set_option maxRecDepth 100000 in
theorem tX12_lowestOf_16 {l : Launch} {D : zD} {B sz0 : Nat} {post : Option Value → zS → Prop} : zSnd l D B xX12_lowestOf sz0 post 16 kX12_lowestOf_16 (z_Jr post) := (s_iload_n dX12_lowestOf_16 rfl (s_iret dX12_lowestOf_17 rfl))
set_option maxRecDepth 100000 in
theorem tX12_lowestOf_2 {l : Launch} {D : zD} {B sz0 : Nat} {post : Option Value → zS → Prop} : zSnd l D B xX12_lowestOf sz0 post 2 kX12_lowestOf_2 (z_Jr post) := s_lp (body := bX12_lowestOf_2) (s_iload_n dX12_lowestOf_2 rfl (s_iload_n dX12_lowestOf_3 rfl (s_ishr dX12_lowestOf_4 (s_iconst dX12_lowestOf_5 (by decide) (s_iand dX12_lowestOf_6 (s_if_ne (tgt := 16) dX12_lowestOf_7 (by decide) (s_dn tX12_lowestOf_16) (s_iinc dX12_lowestOf_10 (by decide) (s_goto (tgt := 2) dX12_lowestOf_13 (by decide) s_ag))))))))
set_option maxRecDepth 100000 in
theorem tX12_lowestOf_0 {l : Launch} {D : zD} {B sz0 : Nat} {post : Option Value → zS → Prop} : zSnd l D B xX12_lowestOf sz0 post 0 kX12_lowestOf_0 (z_Jr post) := (s_iconst dX12_lowestOf_0 (by decide) (s_istore_n dX12_lowestOf_1 rfl tX12_lowestOf_2))
noncomputable def fX12_lowestOf : zF := z_fn 2 kX12_lowestOf_0
theorem mX12_lowestOf {l : Launch} {D : zD} {B : Nat} : z_MF l D B yX12_lowestOf xX12_lowestOf fX12_lowestOf := z_mf (by decide) rfl (fun h => by cases h) rfl (fun as σ r h => ⟨z_fn_len h, kX12_lowestOf_0, z_fn_run h, fun _ => tX12_lowestOf_0⟩)
/-! ===== RowChildrenModel.parents ===== -/
theorem dX12_parents_0 : decode cX12_parents 0 = .ok (.aload_n 0, 1) := by decide +kernel
theorem dX12_parents_1 : decode cX12_parents 1 = .ok (.iload_n 1, 1) := by decide +kernel
theorem dX12_parents_2 : decode cX12_parents 2 = .ok (.invokevirtual 330, 3) := by decide +kernel
theorem dX12_parents_5 : decode cX12_parents 5 = .ok (.ifCond .eq 12, 3) := by decide +kernel
theorem dX12_parents_8 : decode cX12_parents 8 = .ok (.iload_n 2, 1) := by decide +kernel
theorem dX12_parents_9 : decode cX12_parents 9 = .ok (.iconst 0, 1) := by decide +kernel
theorem dX12_parents_10 : decode cX12_parents 10 = .ok (.iconst 1, 1) := by decide +kernel
theorem dX12_parents_11 : decode cX12_parents 11 = .ok (.invokestatic 323, 3) := by decide +kernel
theorem dX12_parents_14 : decode cX12_parents 14 = .ok (.ifCond .ne 5, 3) := by decide +kernel
theorem dX12_parents_17 : decode cX12_parents 17 = .ok (.iconst (-1), 1) := by decide +kernel
theorem dX12_parents_18 : decode cX12_parents 18 = .ok (.ireturn, 1) := by decide +kernel
theorem dX12_parents_19 : decode cX12_parents 19 = .ok (.aload_n 0, 1) := by decide +kernel
theorem dX12_parents_20 : decode cX12_parents 20 = .ok (.invokevirtual 401, 3) := by decide +kernel
theorem dX12_parents_23 : decode cX12_parents 23 = .ok (.iload_n 2, 1) := by decide +kernel
theorem dX12_parents_24 : decode cX12_parents 24 = .ok (.ifCond .ne 9, 3) := by decide +kernel
theorem dX12_parents_27 : decode cX12_parents 27 = .ok (.aload_n 0, 1) := by decide +kernel
theorem dX12_parents_28 : decode cX12_parents 28 = .ok (.iload_n 1, 1) := by decide +kernel
theorem dX12_parents_29 : decode cX12_parents 29 = .ok (.invokevirtual 460, 3) := by decide +kernel
theorem dX12_parents_32 : decode cX12_parents 32 = .ok (.ireturn, 1) := by decide +kernel
theorem dX12_parents_33 : decode cX12_parents 33 = .ok (.aload_n 0, 1) := by decide +kernel
theorem dX12_parents_34 : decode cX12_parents 34 = .ok (.iload_n 1, 1) := by decide +kernel
theorem dX12_parents_35 : decode cX12_parents 35 = .ok (.invokevirtual 463, 3) := by decide +kernel
theorem dX12_parents_38 : decode cX12_parents 38 = .ok (.aload_n 0, 1) := by decide +kernel
theorem dX12_parents_39 : decode cX12_parents 39 = .ok (.getfield 122, 3) := by decide +kernel
theorem dX12_parents_42 : decode cX12_parents 42 = .ok (.iconst 0, 1) := by decide +kernel
theorem dX12_parents_43 : decode cX12_parents 43 = .ok (.iaload, 1) := by decide +kernel
theorem dX12_parents_44 : decode cX12_parents 44 = .ok (.ifCond .ne 6, 3) := by decide +kernel
theorem dX12_parents_47 : decode cX12_parents 47 = .ok (.bipush (-2), 2) := by decide +kernel
theorem dX12_parents_49 : decode cX12_parents 49 = .ok (.ireturn, 1) := by decide +kernel
theorem dX12_parents_50 : decode cX12_parents 50 = .ok (.aload_n 0, 1) := by decide +kernel
theorem dX12_parents_51 : decode cX12_parents 51 = .ok (.getfield 122, 3) := by decide +kernel
theorem dX12_parents_54 : decode cX12_parents 54 = .ok (.iconst 0, 1) := by decide +kernel
theorem dX12_parents_55 : decode cX12_parents 55 = .ok (.iaload, 1) := by decide +kernel
theorem dX12_parents_56 : decode cX12_parents 56 = .ok (.invokestatic 466, 3) := by decide +kernel
theorem dX12_parents_59 : decode cX12_parents 59 = .ok (.istore_n 3, 1) := by decide +kernel
theorem dX12_parents_60 : decode cX12_parents 60 = .ok (.iload_n 3, 1) := by decide +kernel
theorem dX12_parents_61 : decode cX12_parents 61 = .ok (.istore 4, 2) := by decide +kernel
theorem dX12_parents_63 : decode cX12_parents 63 = .ok (.iconst 0, 1) := by decide +kernel
theorem dX12_parents_64 : decode cX12_parents 64 = .ok (.istore 5, 2) := by decide +kernel
theorem dX12_parents_66 : decode cX12_parents 66 = .ok (.iload 5, 2) := by decide +kernel
theorem dX12_parents_68 : decode cX12_parents 68 = .ok (.aload_n 0, 1) := by decide +kernel
theorem dX12_parents_69 : decode cX12_parents 69 = .ok (.getfield 107, 3) := by decide +kernel
theorem dX12_parents_72 : decode cX12_parents 72 = .ok (.iload_n 1, 1) := by decide +kernel
theorem dX12_parents_73 : decode cX12_parents 73 = .ok (.iaload, 1) := by decide +kernel
theorem dX12_parents_74 : decode cX12_parents 74 = .ok (.if_icmp .ge 67, 3) := by decide +kernel
theorem dX12_parents_77 : decode cX12_parents 77 = .ok (.iconst 0, 1) := by decide +kernel
theorem dX12_parents_78 : decode cX12_parents 78 = .ok (.istore 6, 2) := by decide +kernel
theorem dX12_parents_80 : decode cX12_parents 80 = .ok (.aload_n 0, 1) := by decide +kernel
theorem dX12_parents_81 : decode cX12_parents 81 = .ok (.getfield 122, 3) := by decide +kernel
theorem dX12_parents_84 : decode cX12_parents 84 = .ok (.iload 5, 2) := by decide +kernel
theorem dX12_parents_86 : decode cX12_parents 86 = .ok (.iconst 1, 1) := by decide +kernel
theorem dX12_parents_87 : decode cX12_parents 87 = .ok (.iadd, 1) := by decide +kernel
theorem dX12_parents_88 : decode cX12_parents 88 = .ok (.iaload, 1) := by decide +kernel
theorem dX12_parents_89 : decode cX12_parents 89 = .ok (.iload 6, 2) := by decide +kernel
theorem dX12_parents_91 : decode cX12_parents 91 = .ok (.ishr, 1) := by decide +kernel
theorem dX12_parents_92 : decode cX12_parents 92 = .ok (.iconst 1, 1) := by decide +kernel
theorem dX12_parents_93 : decode cX12_parents 93 = .ok (.iand, 1) := by decide +kernel
theorem dX12_parents_94 : decode cX12_parents 94 = .ok (.ifCond .eq 20, 3) := by decide +kernel
theorem dX12_parents_97 : decode cX12_parents 97 = .ok (.aload_n 0, 1) := by decide +kernel
theorem dX12_parents_98 : decode cX12_parents 98 = .ok (.iload_n 3, 1) := by decide +kernel
theorem dX12_parents_99 : decode cX12_parents 99 = .ok (.iload 6, 2) := by decide +kernel
theorem dX12_parents_101 : decode cX12_parents 101 = .ok (.invokevirtual 346, 3) := by decide +kernel
theorem dX12_parents_104 : decode cX12_parents 104 = .ok (.aload_n 0, 1) := by decide +kernel
theorem dX12_parents_105 : decode cX12_parents 105 = .ok (.iload_n 1, 1) := by decide +kernel
theorem dX12_parents_106 : decode cX12_parents 106 = .ok (.iload 5, 2) := by decide +kernel
theorem dX12_parents_108 : decode cX12_parents 108 = .ok (.invokevirtual 349, 3) := by decide +kernel
theorem dX12_parents_111 : decode cX12_parents 111 = .ok (.if_icmp .eq 9, 3) := by decide +kernel
theorem dX12_parents_114 : decode cX12_parents 114 = .ok (.iinc 6 1, 3) := by decide +kernel
theorem dX12_parents_117 : decode cX12_parents 117 = .ok (.goto (-37), 3) := by decide +kernel
theorem dX12_parents_120 : decode cX12_parents 120 = .ok (.iload 4, 2) := by decide +kernel
theorem dX12_parents_122 : decode cX12_parents 122 = .ok (.aload_n 0, 1) := by decide +kernel
theorem dX12_parents_123 : decode cX12_parents 123 = .ok (.invokevirtual 327, 3) := by decide +kernel
theorem dX12_parents_126 : decode cX12_parents 126 = .ok (.imul, 1) := by decide +kernel
theorem dX12_parents_127 : decode cX12_parents 127 = .ok (.iload 6, 2) := by decide +kernel
theorem dX12_parents_129 : decode cX12_parents 129 = .ok (.iadd, 1) := by decide +kernel
theorem dX12_parents_130 : decode cX12_parents 130 = .ok (.istore 4, 2) := by decide +kernel
theorem dX12_parents_132 : decode cX12_parents 132 = .ok (.iload 6, 2) := by decide +kernel
theorem dX12_parents_134 : decode cX12_parents 134 = .ok (.istore_n 3, 1) := by decide +kernel
theorem dX12_parents_135 : decode cX12_parents 135 = .ok (.iinc 5 1, 3) := by decide +kernel
theorem dX12_parents_138 : decode cX12_parents 138 = .ok (.goto (-72), 3) := by decide +kernel
theorem dX12_parents_141 : decode cX12_parents 141 = .ok (.iload 4, 2) := by decide +kernel
theorem dX12_parents_143 : decode cX12_parents 143 = .ok (.ireturn, 1) := by decide +kernel
def xX12_parents : zX := (RX12, cX12_parents, 7, (some .int), false, { frames := 4, cells := 0, slots := 0, locals := 156 }, 0, 0, 0, 0)
theorem rmX12_parents : z_Rm xX12_parents := by unfold z_Rm xX12_parents; exact ⟨by decide, by decide⟩
theorem reX12_parents : z_Re xX12_parents := ⟨rfl, rfl⟩
theorem rlX12_parents : 1 ≤ xX12_parents.2.2.2.2.2.1.frames ∧ 21 ≤ xX12_parents.2.2.2.2.2.1.locals := by unfold xX12_parents; exact ⟨by decide, by decide⟩
theorem meX12_parents : z_Me yX12_parents xX12_parents 2 := ⟨wd1266, wd893, by decide, by decide, by decide +kernel⟩
theorem fitX12_parents_2 : z_Fit xX12_isRow xX12_parents := by unfold z_Fit; simp only [xX12_isRow, xX12_parents]; exact ⟨by decide, by decide⟩
theorem fitX12_parents_11 : z_Fit xX12_in xX12_parents := by unfold z_Fit; simp only [xX12_in, xX12_parents]; exact ⟨by decide, by decide⟩
theorem fitX12_parents_20 : z_Fit xX12_copies xX12_parents := by unfold z_Fit; simp only [xX12_copies, xX12_parents]; exact ⟨by decide, by decide⟩
theorem fitX12_parents_35 : z_Fit xX12_fillsCan xX12_parents := by unfold z_Fit; simp only [xX12_fillsCan, xX12_parents]; exact ⟨by decide, by decide⟩
theorem fitX12_parents_56 : z_Fit xX12_lowestOf xX12_parents := by unfold z_Fit; simp only [xX12_lowestOf, xX12_parents]; exact ⟨by decide, by decide⟩
theorem fitX12_parents_101 : z_Fit xX12_childOf xX12_parents := by unfold z_Fit; simp only [xX12_childOf, xX12_parents]; exact ⟨by decide, by decide⟩
theorem fitX12_parents_108 : z_Fit xX12_seatAt xX12_parents := by unfold z_Fit; simp only [xX12_seatAt, xX12_parents]; exact ⟨by decide, by decide⟩
theorem fitX12_parents_123 : z_Fit xX12_base xX12_parents := by unfold z_Fit; simp only [xX12_base, xX12_parents]; exact ⟨by decide, by decide⟩
theorem fitX12_parents_29 : z_Fit xX12_parentsMany xX12_parents := by unfold z_Fit; simp only [xX12_parentsMany, xX12_parents]; exact ⟨by decide, by decide⟩
noncomputable def kX12_parents_17 : zK zR := (q_push (-1) q_iret)
noncomputable def kX12_parents_141 : zK zR := (q_iload 4 q_iret)
noncomputable def kX12_parents_114 : zK ((zL × zS) ⊕ ((zL × zS) ⊕ zR)) := (q_iinc 6 1 q_ag)
noncomputable def kX12_parents_120 : zK ((zL × zS) ⊕ zR) := (q_iload 4 (q_aload 0 (q_callV 12 fX12_base 0 (q_imul (q_iload 6 (q_iadd (q_istore 4 (q_iload 6 (q_istore 3 (q_iinc 5 1 q_ag))))))))))
noncomputable def bX12_parents_80 : zK ((zL × zS) ⊕ ((zL × zS) ⊕ zR)) := (q_aload 0 (q_getR 12 55 (q_iload 5 (q_push 1 (q_iadd (q_iald (q_iload 6 (q_ishr (q_push 1 (q_iand (q_if_eq kX12_parents_114 (q_aload 0 (q_iload 3 (q_iload 6 (q_callV 12 fX12_childOf 2 (q_aload 0 (q_iload 1 (q_iload 5 (q_callV 12 fX12_seatAt 2 (q_icmp_eq (q_dn kX12_parents_120) kX12_parents_114))))))))))))))))))))
noncomputable def kX12_parents_80 : zK ((zL × zS) ⊕ zR) := q_lp (bX12_parents_80)
noncomputable def bX12_parents_66 : zK ((zL × zS) ⊕ zR) := (q_iload 5 (q_aload 0 (q_getR 12 47 (q_iload 1 (q_iald (q_icmp_ge (q_dn kX12_parents_141) (q_push 0 (q_istore 6 kX12_parents_80))))))))
noncomputable def kX12_parents_66 : zK zR := q_lp (bX12_parents_66)
noncomputable def kX12_parents_0 : zK zR := (q_aload 0 (q_iload 1 (q_callV 12 fX12_isRow 1 (q_if_eq kX12_parents_17 (q_iload 2 (q_push 0 (q_push 1 (q_callS fX12_in 3 (q_if_ne (q_aload 0 (q_callV 12 fX12_copies 0 (q_iload 2 (q_if_ne (q_aload 0 (q_iload 1 (q_callV 12 fX12_fillsCan 1 (q_aload 0 (q_getR 12 55 (q_push 0 (q_iald (q_if_ne (q_aload 0 (q_getR 12 55 (q_push 0 (q_iald (q_callS fX12_lowestOf 1 (q_istore 3 (q_iload 3 (q_istore 4 (q_push 0 (q_istore 5 kX12_parents_66)))))))))) (q_push (-2) q_iret))))))))) (q_aload 0 (q_iload 1 (q_callV 12 fX12_parentsMany 1 q_iret))))))) kX12_parents_17)))))))))
set_option maxRecDepth 100000 in
theorem tX12_parents_17 {l : Launch} {D : zD} {B sz0 : Nat} {post : Option Value → zS → Prop} : zSnd l D B xX12_parents sz0 post 17 kX12_parents_17 (z_Jr post) := (s_iconst dX12_parents_17 (by decide) (s_iret dX12_parents_18 rfl))
set_option maxRecDepth 100000 in
theorem tX12_parents_141 {l : Launch} {D : zD} {B sz0 : Nat} {post : Option Value → zS → Prop} : zSnd l D B xX12_parents sz0 post 141 kX12_parents_141 (z_Jr post) := (s_iload dX12_parents_141 (s_iret dX12_parents_143 rfl))
set_option maxRecDepth 100000 in
theorem tX12_parents_114 {l : Launch} {D : zD} {B sz0 : Nat} {post : Option Value → zS → Prop} : zSnd l D B xX12_parents sz0 post 114 kX12_parents_114 (z_Jl l D B xX12_parents sz0 post 80 (z_Jl l D B xX12_parents sz0 post 66 (z_Jr post))) := (s_iinc dX12_parents_114 (by decide) (s_goto (tgt := 80) dX12_parents_117 (by decide) s_ag))
set_option maxRecDepth 100000 in
theorem tX12_parents_120 {l : Launch} {D : zD} {B sz0 : Nat} {post : Option Value → zS → Prop} : zSnd l D B xX12_parents sz0 post 120 kX12_parents_120 (z_Jl l D B xX12_parents sz0 post 66 (z_Jr post)) := (s_iload dX12_parents_120 (s_aload_n dX12_parents_122 rfl (s_callV (r := (RX12, TX12, 74)) dX12_parents_123 mX12_base meX12_base wd1081 wd1082 rfl rfl reX12_base rmX12_parents (fitX12_parents_123) wd1083 (s_imul dX12_parents_126 (s_iload dX12_parents_127 (s_iadd dX12_parents_129 (s_istore dX12_parents_130 (s_iload dX12_parents_132 (s_istore_n dX12_parents_134 rfl (s_iinc dX12_parents_135 (by decide) (s_goto (tgt := 66) dX12_parents_138 (by decide) s_ag)))))))))))
set_option maxRecDepth 100000 in
theorem tX12_parents_80 {l : Launch} {D : zD} {B sz0 : Nat} {post : Option Value → zS → Prop} : zSnd l D B xX12_parents sz0 post 80 kX12_parents_80 (z_Jl l D B xX12_parents sz0 post 66 (z_Jr post)) := s_lp (body := bX12_parents_80) (s_aload_n dX12_parents_80 rfl (s_getR (f := 55) dX12_parents_81 clX12 (by decide) rfl wd931 (s_iload dX12_parents_84 (s_iconst dX12_parents_86 (by decide) (s_iadd dX12_parents_87 (s_iald dX12_parents_88 (s_iload dX12_parents_89 (s_ishr dX12_parents_91 (s_iconst dX12_parents_92 (by decide) (s_iand dX12_parents_93 (s_if_eq (tgt := 114) dX12_parents_94 (by decide) tX12_parents_114 (s_aload_n dX12_parents_97 rfl (s_iload_n dX12_parents_98 rfl (s_iload dX12_parents_99 (s_callV (r := (RX12, TX12, 74)) dX12_parents_101 mX12_childOf meX12_childOf wd1102 wd1103 rfl rfl reX12_childOf rmX12_parents (fitX12_parents_101) wd1104 (s_aload_n dX12_parents_104 rfl (s_iload_n dX12_parents_105 rfl (s_iload dX12_parents_106 (s_callV (r := (RX12, TX12, 74)) dX12_parents_108 mX12_seatAt meX12_seatAt wd1109 wd1110 rfl rfl reX12_seatAt rmX12_parents (fitX12_parents_108) wd1111 (s_icmp_eq (tgt := 120) dX12_parents_111 (by decide) (s_dn tX12_parents_120) tX12_parents_114))))))))))))))))))))
set_option maxRecDepth 100000 in
theorem tX12_parents_66 {l : Launch} {D : zD} {B sz0 : Nat} {post : Option Value → zS → Prop} : zSnd l D B xX12_parents sz0 post 66 kX12_parents_66 (z_Jr post) := s_lp (body := bX12_parents_66) (s_iload dX12_parents_66 (s_aload_n dX12_parents_68 rfl (s_getR (f := 47) dX12_parents_69 clX12 (by decide) rfl wd901 (s_iload_n dX12_parents_72 rfl (s_iald dX12_parents_73 (s_icmp_ge (tgt := 141) dX12_parents_74 (by decide) (s_dn tX12_parents_141) (s_iconst dX12_parents_77 (by decide) (s_istore dX12_parents_78 tX12_parents_80))))))))
set_option maxRecDepth 100000 in
theorem tX12_parents_0 {l : Launch} {D : zD} {B sz0 : Nat} {post : Option Value → zS → Prop} : zSnd l D B xX12_parents sz0 post 0 kX12_parents_0 (z_Jr post) := (s_aload_n dX12_parents_0 rfl (s_iload_n dX12_parents_1 rfl (s_callV (r := (RX12, TX12, 74)) dX12_parents_2 mX12_isRow meX12_isRow wd1087 wd1088 rfl rfl reX12_isRow rmX12_parents (fitX12_parents_2) wd1089 (s_if_eq (tgt := 17) dX12_parents_5 (by decide) tX12_parents_17 (s_iload_n dX12_parents_8 rfl (s_iconst dX12_parents_9 (by decide) (s_iconst dX12_parents_10 (by decide) (s_callS dX12_parents_11 mX12_in meX12_in wd1078 rfl reX12_in rmX12_parents (fitX12_parents_11) wd1079 (s_if_ne (tgt := 19) dX12_parents_14 (by decide) (s_aload_n dX12_parents_19 rfl (s_callV (r := (RX12, TX12, 74)) dX12_parents_20 mX12_copies meX12_copies wd1178 wd1179 rfl rfl reX12_copies rmX12_parents (fitX12_parents_20) wd1180 (s_iload_n dX12_parents_23 rfl (s_if_ne (tgt := 33) dX12_parents_24 (by decide) (s_aload_n dX12_parents_33 rfl (s_iload_n dX12_parents_34 rfl (s_callV (r := (RX12, TX12, 74)) dX12_parents_35 mX12_fillsCan meX12_fillsCan wd1258 wd1259 rfl rfl reX12_fillsCan rmX12_parents (fitX12_parents_35) wd1260 (s_aload_n dX12_parents_38 rfl (s_getR (f := 55) dX12_parents_39 clX12 (by decide) rfl wd931 (s_iconst dX12_parents_42 (by decide) (s_iald dX12_parents_43 (s_if_ne (tgt := 50) dX12_parents_44 (by decide) (s_aload_n dX12_parents_50 rfl (s_getR (f := 55) dX12_parents_51 clX12 (by decide) rfl wd931 (s_iconst dX12_parents_54 (by decide) (s_iald dX12_parents_55 (s_callS dX12_parents_56 mX12_lowestOf meX12_lowestOf wd1261 rfl reX12_lowestOf rmX12_parents (fitX12_parents_56) wd1262 (s_istore_n dX12_parents_59 rfl (s_iload_n dX12_parents_60 rfl (s_istore dX12_parents_61 (s_iconst dX12_parents_63 (by decide) (s_istore dX12_parents_64 tX12_parents_66)))))))))) (s_bipush dX12_parents_47 (by decide) (s_iret dX12_parents_49 rfl)))))))))) (s_aload_n dX12_parents_27 rfl (s_iload_n dX12_parents_28 rfl (s_callV (r := (RX12, TX12, 74)) dX12_parents_29 mX12_parentsMany meX12_parentsMany wd1263 wd1264 rfl rfl reX12_parentsMany rmX12_parents (fitX12_parents_29) wd1265 (s_iret dX12_parents_32 rfl)))))))) tX12_parents_17)))))))))
noncomputable def fX12_parents : zF := z_fn 7 kX12_parents_0
theorem mX12_parents {l : Launch} {D : zD} {B : Nat} : z_MF l D B yX12_parents xX12_parents fX12_parents := z_mf (by decide) rfl (fun h => by cases h) rfl (fun as σ r h => ⟨z_fn_len h, kX12_parents_0, z_fn_run h, fun _ => tX12_parents_0⟩)
/-! ===== RowChildrenModel.onFrom ===== -/
theorem dX12_onFrom_0 : decode cX12_onFrom 0 = .ok (.iconst 0, 1) := by decide +kernel
theorem dX12_onFrom_1 : decode cX12_onFrom 1 = .ok (.istore_n 3, 1) := by decide +kernel
theorem dX12_onFrom_2 : decode cX12_onFrom 2 = .ok (.iconst 0, 1) := by decide +kernel
theorem dX12_onFrom_3 : decode cX12_onFrom 3 = .ok (.istore 4, 2) := by decide +kernel
theorem dX12_onFrom_5 : decode cX12_onFrom 5 = .ok (.iload 4, 2) := by decide +kernel
theorem dX12_onFrom_7 : decode cX12_onFrom 7 = .ok (.bipush 16, 2) := by decide +kernel
theorem dX12_onFrom_9 : decode cX12_onFrom 9 = .ok (.if_icmp .ge 57, 3) := by decide +kernel
theorem dX12_onFrom_12 : decode cX12_onFrom 12 = .ok (.iload_n 1, 1) := by decide +kernel
theorem dX12_onFrom_13 : decode cX12_onFrom 13 = .ok (.iload 4, 2) := by decide +kernel
theorem dX12_onFrom_15 : decode cX12_onFrom 15 = .ok (.iconst 4, 1) := by decide +kernel
theorem dX12_onFrom_16 : decode cX12_onFrom 16 = .ok (.idiv, 1) := by decide +kernel
theorem dX12_onFrom_17 : decode cX12_onFrom 17 = .ok (.ishr, 1) := by decide +kernel
theorem dX12_onFrom_18 : decode cX12_onFrom 18 = .ok (.iconst 1, 1) := by decide +kernel
theorem dX12_onFrom_19 : decode cX12_onFrom 19 = .ok (.iand, 1) := by decide +kernel
theorem dX12_onFrom_20 : decode cX12_onFrom 20 = .ok (.iconst 1, 1) := by decide +kernel
theorem dX12_onFrom_21 : decode cX12_onFrom 21 = .ok (.if_icmp .ne 39, 3) := by decide +kernel
theorem dX12_onFrom_24 : decode cX12_onFrom 24 = .ok (.aload_n 0, 1) := by decide +kernel
theorem dX12_onFrom_25 : decode cX12_onFrom 25 = .ok (.iload 4, 2) := by decide +kernel
theorem dX12_onFrom_27 : decode cX12_onFrom 27 = .ok (.iconst 4, 1) := by decide +kernel
theorem dX12_onFrom_28 : decode cX12_onFrom 28 = .ok (.irem, 1) := by decide +kernel
theorem dX12_onFrom_29 : decode cX12_onFrom 29 = .ok (.invokevirtual 398, 3) := by decide +kernel
theorem dX12_onFrom_32 : decode cX12_onFrom 32 = .ok (.ifCond .eq 28, 3) := by decide +kernel
theorem dX12_onFrom_35 : decode cX12_onFrom 35 = .ok (.aload_n 0, 1) := by decide +kernel
theorem dX12_onFrom_36 : decode cX12_onFrom 36 = .ok (.iload 4, 2) := by decide +kernel
theorem dX12_onFrom_38 : decode cX12_onFrom 38 = .ok (.iconst 4, 1) := by decide +kernel
theorem dX12_onFrom_39 : decode cX12_onFrom 39 = .ok (.idiv, 1) := by decide +kernel
theorem dX12_onFrom_40 : decode cX12_onFrom 40 = .ok (.iload 4, 2) := by decide +kernel
theorem dX12_onFrom_42 : decode cX12_onFrom 42 = .ok (.iconst 4, 1) := by decide +kernel
theorem dX12_onFrom_43 : decode cX12_onFrom 43 = .ok (.irem, 1) := by decide +kernel
theorem dX12_onFrom_44 : decode cX12_onFrom 44 = .ok (.invokevirtual 346, 3) := by decide +kernel
theorem dX12_onFrom_47 : decode cX12_onFrom 47 = .ok (.iload_n 2, 1) := by decide +kernel
theorem dX12_onFrom_48 : decode cX12_onFrom 48 = .ok (.if_icmp .ne 12, 3) := by decide +kernel
theorem dX12_onFrom_51 : decode cX12_onFrom 51 = .ok (.iload_n 3, 1) := by decide +kernel
theorem dX12_onFrom_52 : decode cX12_onFrom 52 = .ok (.iconst 1, 1) := by decide +kernel
theorem dX12_onFrom_53 : decode cX12_onFrom 53 = .ok (.iload 4, 2) := by decide +kernel
theorem dX12_onFrom_55 : decode cX12_onFrom 55 = .ok (.iconst 4, 1) := by decide +kernel
theorem dX12_onFrom_56 : decode cX12_onFrom 56 = .ok (.irem, 1) := by decide +kernel
theorem dX12_onFrom_57 : decode cX12_onFrom 57 = .ok (.ishl, 1) := by decide +kernel
theorem dX12_onFrom_58 : decode cX12_onFrom 58 = .ok (.ior, 1) := by decide +kernel
theorem dX12_onFrom_59 : decode cX12_onFrom 59 = .ok (.istore_n 3, 1) := by decide +kernel
theorem dX12_onFrom_60 : decode cX12_onFrom 60 = .ok (.iinc 4 1, 3) := by decide +kernel
theorem dX12_onFrom_63 : decode cX12_onFrom 63 = .ok (.goto (-58), 3) := by decide +kernel
theorem dX12_onFrom_66 : decode cX12_onFrom 66 = .ok (.iload_n 3, 1) := by decide +kernel
theorem dX12_onFrom_67 : decode cX12_onFrom 67 = .ok (.ireturn, 1) := by decide +kernel
def xX12_onFrom : zX := (RX12, cX12_onFrom, 5, (some .int), false, { frames := 3, cells := 0, slots := 0, locals := 133 }, 0, 0, 0, 0)
theorem rmX12_onFrom : z_Rm xX12_onFrom := by unfold z_Rm xX12_onFrom; exact ⟨by decide, by decide⟩
theorem reX12_onFrom : z_Re xX12_onFrom := ⟨rfl, rfl⟩
theorem rlX12_onFrom : 1 ≤ xX12_onFrom.2.2.2.2.2.1.frames ∧ 21 ≤ xX12_onFrom.2.2.2.2.2.1.locals := by unfold xX12_onFrom; exact ⟨by decide, by decide⟩
theorem meX12_onFrom : z_Me yX12_onFrom xX12_onFrom 2 := ⟨wd1267, wd893, by decide, by decide, by decide +kernel⟩
theorem fitX12_onFrom_29 : z_Fit xX12_isColour xX12_onFrom := by unfold z_Fit; simp only [xX12_isColour, xX12_onFrom]; exact ⟨by decide, by decide⟩
theorem fitX12_onFrom_44 : z_Fit xX12_childOf xX12_onFrom := by unfold z_Fit; simp only [xX12_childOf, xX12_onFrom]; exact ⟨by decide, by decide⟩
noncomputable def kX12_onFrom_66 : zK zR := (q_iload 3 q_iret)
noncomputable def kX12_onFrom_60 : zK ((zL × zS) ⊕ zR) := (q_iinc 4 1 q_ag)
noncomputable def bX12_onFrom_5 : zK ((zL × zS) ⊕ zR) := (q_iload 4 (q_push 16 (q_icmp_ge (q_dn kX12_onFrom_66) (q_iload 1 (q_iload 4 (q_push 4 (q_idiv (q_ishr (q_push 1 (q_iand (q_push 1 (q_icmp_ne kX12_onFrom_60 (q_aload 0 (q_iload 4 (q_push 4 (q_irem (q_callV 12 fX12_isColour 1 (q_if_eq kX12_onFrom_60 (q_aload 0 (q_iload 4 (q_push 4 (q_idiv (q_iload 4 (q_push 4 (q_irem (q_callV 12 fX12_childOf 2 (q_iload 2 (q_icmp_ne kX12_onFrom_60 (q_iload 3 (q_push 1 (q_iload 4 (q_push 4 (q_irem (q_ishl (q_ior (q_istore 3 kX12_onFrom_60))))))))))))))))))))))))))))))))))))
noncomputable def kX12_onFrom_5 : zK zR := q_lp (bX12_onFrom_5)
noncomputable def kX12_onFrom_0 : zK zR := (q_push 0 (q_istore 3 (q_push 0 (q_istore 4 kX12_onFrom_5))))
set_option maxRecDepth 100000 in
theorem tX12_onFrom_66 {l : Launch} {D : zD} {B sz0 : Nat} {post : Option Value → zS → Prop} : zSnd l D B xX12_onFrom sz0 post 66 kX12_onFrom_66 (z_Jr post) := (s_iload_n dX12_onFrom_66 rfl (s_iret dX12_onFrom_67 rfl))
set_option maxRecDepth 100000 in
theorem tX12_onFrom_60 {l : Launch} {D : zD} {B sz0 : Nat} {post : Option Value → zS → Prop} : zSnd l D B xX12_onFrom sz0 post 60 kX12_onFrom_60 (z_Jl l D B xX12_onFrom sz0 post 5 (z_Jr post)) := (s_iinc dX12_onFrom_60 (by decide) (s_goto (tgt := 5) dX12_onFrom_63 (by decide) s_ag))
set_option maxRecDepth 100000 in
theorem tX12_onFrom_5 {l : Launch} {D : zD} {B sz0 : Nat} {post : Option Value → zS → Prop} : zSnd l D B xX12_onFrom sz0 post 5 kX12_onFrom_5 (z_Jr post) := s_lp (body := bX12_onFrom_5) (s_iload dX12_onFrom_5 (s_bipush dX12_onFrom_7 (by decide) (s_icmp_ge (tgt := 66) dX12_onFrom_9 (by decide) (s_dn tX12_onFrom_66) (s_iload_n dX12_onFrom_12 rfl (s_iload dX12_onFrom_13 (s_iconst dX12_onFrom_15 (by decide) (s_idiv dX12_onFrom_16 (s_ishr dX12_onFrom_17 (s_iconst dX12_onFrom_18 (by decide) (s_iand dX12_onFrom_19 (s_iconst dX12_onFrom_20 (by decide) (s_icmp_ne (tgt := 60) dX12_onFrom_21 (by decide) tX12_onFrom_60 (s_aload_n dX12_onFrom_24 rfl (s_iload dX12_onFrom_25 (s_iconst dX12_onFrom_27 (by decide) (s_irem dX12_onFrom_28 (s_callV (r := (RX12, TX12, 74)) dX12_onFrom_29 mX12_isColour meX12_isColour wd1174 wd1175 rfl rfl reX12_isColour rmX12_onFrom (fitX12_onFrom_29) wd1176 (s_if_eq (tgt := 60) dX12_onFrom_32 (by decide) tX12_onFrom_60 (s_aload_n dX12_onFrom_35 rfl (s_iload dX12_onFrom_36 (s_iconst dX12_onFrom_38 (by decide) (s_idiv dX12_onFrom_39 (s_iload dX12_onFrom_40 (s_iconst dX12_onFrom_42 (by decide) (s_irem dX12_onFrom_43 (s_callV (r := (RX12, TX12, 74)) dX12_onFrom_44 mX12_childOf meX12_childOf wd1102 wd1103 rfl rfl reX12_childOf rmX12_onFrom (fitX12_onFrom_44) wd1104 (s_iload_n dX12_onFrom_47 rfl (s_icmp_ne (tgt := 60) dX12_onFrom_48 (by decide) tX12_onFrom_60 (s_iload_n dX12_onFrom_51 rfl (s_iconst dX12_onFrom_52 (by decide) (s_iload dX12_onFrom_53 (s_iconst dX12_onFrom_55 (by decide) (s_irem dX12_onFrom_56 (s_ishl dX12_onFrom_57 (s_ior dX12_onFrom_58 (s_istore_n dX12_onFrom_59 rfl tX12_onFrom_60))))))))))))))))))))))))))))))))))))
set_option maxRecDepth 100000 in
theorem tX12_onFrom_0 {l : Launch} {D : zD} {B sz0 : Nat} {post : Option Value → zS → Prop} : zSnd l D B xX12_onFrom sz0 post 0 kX12_onFrom_0 (z_Jr post) := (s_iconst dX12_onFrom_0 (by decide) (s_istore_n dX12_onFrom_1 rfl (s_iconst dX12_onFrom_2 (by decide) (s_istore dX12_onFrom_3 tX12_onFrom_5))))
noncomputable def fX12_onFrom : zF := z_fn 5 kX12_onFrom_0
theorem mX12_onFrom {l : Launch} {D : zD} {B : Nat} : z_MF l D B yX12_onFrom xX12_onFrom fX12_onFrom := z_mf (by decide) rfl (fun h => by cases h) rfl (fun as σ r h => ⟨z_fn_len h, kX12_onFrom_0, z_fn_run h, fun _ => tX12_onFrom_0⟩)
/-! ===== RowChildrenModel.orphans ===== -/
theorem dX12_orphans_0 : decode cX12_orphans 0 = .ok (.iload_n 1, 1) := by decide +kernel
theorem dX12_orphans_1 : decode cX12_orphans 1 = .ok (.invokestatic 442, 3) := by decide +kernel
theorem dX12_orphans_4 : decode cX12_orphans 4 = .ok (.ifCond .ne 5, 3) := by decide +kernel
theorem dX12_orphans_7 : decode cX12_orphans 7 = .ok (.iconst (-1), 1) := by decide +kernel
theorem dX12_orphans_8 : decode cX12_orphans 8 = .ok (.ireturn, 1) := by decide +kernel
theorem dX12_orphans_9 : decode cX12_orphans 9 = .ok (.iconst 0, 1) := by decide +kernel
theorem dX12_orphans_10 : decode cX12_orphans 10 = .ok (.istore_n 2, 1) := by decide +kernel
theorem dX12_orphans_11 : decode cX12_orphans 11 = .ok (.iload_n 2, 1) := by decide +kernel
theorem dX12_orphans_12 : decode cX12_orphans 12 = .ok (.bipush 16, 2) := by decide +kernel
theorem dX12_orphans_14 : decode cX12_orphans 14 = .ok (.if_icmp .ge 16, 3) := by decide +kernel
theorem dX12_orphans_17 : decode cX12_orphans 17 = .ok (.aload_n 0, 1) := by decide +kernel
theorem dX12_orphans_18 : decode cX12_orphans 18 = .ok (.getfield 131, 3) := by decide +kernel
theorem dX12_orphans_21 : decode cX12_orphans 21 = .ok (.iload_n 2, 1) := by decide +kernel
theorem dX12_orphans_22 : decode cX12_orphans 22 = .ok (.iconst 0, 1) := by decide +kernel
theorem dX12_orphans_23 : decode cX12_orphans 23 = .ok (.iastore, 1) := by decide +kernel
theorem dX12_orphans_24 : decode cX12_orphans 24 = .ok (.iinc 2 1, 3) := by decide +kernel
theorem dX12_orphans_27 : decode cX12_orphans 27 = .ok (.goto (-16), 3) := by decide +kernel
theorem dX12_orphans_30 : decode cX12_orphans 30 = .ok (.aload_n 0, 1) := by decide +kernel
theorem dX12_orphans_31 : decode cX12_orphans 31 = .ok (.getfield 131, 3) := by decide +kernel
theorem dX12_orphans_34 : decode cX12_orphans 34 = .ok (.iconst 1, 1) := by decide +kernel
theorem dX12_orphans_35 : decode cX12_orphans 35 = .ok (.aload_n 0, 1) := by decide +kernel
theorem dX12_orphans_36 : decode cX12_orphans 36 = .ok (.invokevirtual 327, 3) := by decide +kernel
theorem dX12_orphans_39 : decode cX12_orphans 39 = .ok (.ishl, 1) := by decide +kernel
theorem dX12_orphans_40 : decode cX12_orphans 40 = .ok (.iconst 1, 1) := by decide +kernel
theorem dX12_orphans_41 : decode cX12_orphans 41 = .ok (.isub, 1) := by decide +kernel
theorem dX12_orphans_42 : decode cX12_orphans 42 = .ok (.iconst 1, 1) := by decide +kernel
theorem dX12_orphans_43 : decode cX12_orphans 43 = .ok (.iastore, 1) := by decide +kernel
theorem dX12_orphans_44 : decode cX12_orphans 44 = .ok (.iconst 0, 1) := by decide +kernel
theorem dX12_orphans_45 : decode cX12_orphans 45 = .ok (.istore_n 2, 1) := by decide +kernel
theorem dX12_orphans_46 : decode cX12_orphans 46 = .ok (.iload_n 2, 1) := by decide +kernel
theorem dX12_orphans_47 : decode cX12_orphans 47 = .ok (.iload_n 1, 1) := by decide +kernel
theorem dX12_orphans_48 : decode cX12_orphans 48 = .ok (.if_icmp .ge 109, 3) := by decide +kernel
theorem dX12_orphans_51 : decode cX12_orphans 51 = .ok (.iconst 0, 1) := by decide +kernel
theorem dX12_orphans_52 : decode cX12_orphans 52 = .ok (.istore_n 3, 1) := by decide +kernel
theorem dX12_orphans_53 : decode cX12_orphans 53 = .ok (.iload_n 3, 1) := by decide +kernel
theorem dX12_orphans_54 : decode cX12_orphans 54 = .ok (.bipush 16, 2) := by decide +kernel
theorem dX12_orphans_56 : decode cX12_orphans 56 = .ok (.if_icmp .ge 16, 3) := by decide +kernel
theorem dX12_orphans_59 : decode cX12_orphans 59 = .ok (.aload_n 0, 1) := by decide +kernel
theorem dX12_orphans_60 : decode cX12_orphans 60 = .ok (.getfield 134, 3) := by decide +kernel
theorem dX12_orphans_63 : decode cX12_orphans 63 = .ok (.iload_n 3, 1) := by decide +kernel
theorem dX12_orphans_64 : decode cX12_orphans 64 = .ok (.iconst 0, 1) := by decide +kernel
theorem dX12_orphans_65 : decode cX12_orphans 65 = .ok (.iastore, 1) := by decide +kernel
theorem dX12_orphans_66 : decode cX12_orphans 66 = .ok (.iinc 3 1, 3) := by decide +kernel
theorem dX12_orphans_69 : decode cX12_orphans 69 = .ok (.goto (-16), 3) := by decide +kernel
theorem dX12_orphans_72 : decode cX12_orphans 72 = .ok (.iconst 0, 1) := by decide +kernel
theorem dX12_orphans_73 : decode cX12_orphans 73 = .ok (.istore_n 3, 1) := by decide +kernel
theorem dX12_orphans_74 : decode cX12_orphans 74 = .ok (.iload_n 3, 1) := by decide +kernel
theorem dX12_orphans_75 : decode cX12_orphans 75 = .ok (.bipush 16, 2) := by decide +kernel
theorem dX12_orphans_77 : decode cX12_orphans 77 = .ok (.if_icmp .ge 48, 3) := by decide +kernel
theorem dX12_orphans_80 : decode cX12_orphans 80 = .ok (.iconst 0, 1) := by decide +kernel
theorem dX12_orphans_81 : decode cX12_orphans 81 = .ok (.istore 4, 2) := by decide +kernel
theorem dX12_orphans_83 : decode cX12_orphans 83 = .ok (.iload 4, 2) := by decide +kernel
theorem dX12_orphans_85 : decode cX12_orphans 85 = .ok (.aload_n 0, 1) := by decide +kernel
theorem dX12_orphans_86 : decode cX12_orphans 86 = .ok (.invokevirtual 327, 3) := by decide +kernel
theorem dX12_orphans_89 : decode cX12_orphans 89 = .ok (.if_icmp .ge 30, 3) := by decide +kernel
theorem dX12_orphans_92 : decode cX12_orphans 92 = .ok (.aload_n 0, 1) := by decide +kernel
theorem dX12_orphans_93 : decode cX12_orphans 93 = .ok (.getfield 134, 3) := by decide +kernel
theorem dX12_orphans_96 : decode cX12_orphans 96 = .ok (.aload_n 0, 1) := by decide +kernel
theorem dX12_orphans_97 : decode cX12_orphans 97 = .ok (.iload_n 3, 1) := by decide +kernel
theorem dX12_orphans_98 : decode cX12_orphans 98 = .ok (.iload 4, 2) := by decide +kernel
theorem dX12_orphans_100 : decode cX12_orphans 100 = .ok (.invokevirtual 469, 3) := by decide +kernel
theorem dX12_orphans_103 : decode cX12_orphans 103 = .ok (.dup2, 1) := by decide +kernel
theorem dX12_orphans_104 : decode cX12_orphans 104 = .ok (.iaload, 1) := by decide +kernel
theorem dX12_orphans_105 : decode cX12_orphans 105 = .ok (.aload_n 0, 1) := by decide +kernel
theorem dX12_orphans_106 : decode cX12_orphans 106 = .ok (.getfield 131, 3) := by decide +kernel
theorem dX12_orphans_109 : decode cX12_orphans 109 = .ok (.iload_n 3, 1) := by decide +kernel
theorem dX12_orphans_110 : decode cX12_orphans 110 = .ok (.iaload, 1) := by decide +kernel
theorem dX12_orphans_111 : decode cX12_orphans 111 = .ok (.iadd, 1) := by decide +kernel
theorem dX12_orphans_112 : decode cX12_orphans 112 = .ok (.iastore, 1) := by decide +kernel
theorem dX12_orphans_113 : decode cX12_orphans 113 = .ok (.iinc 4 1, 3) := by decide +kernel
theorem dX12_orphans_116 : decode cX12_orphans 116 = .ok (.goto (-33), 3) := by decide +kernel
theorem dX12_orphans_119 : decode cX12_orphans 119 = .ok (.iinc 3 1, 3) := by decide +kernel
theorem dX12_orphans_122 : decode cX12_orphans 122 = .ok (.goto (-48), 3) := by decide +kernel
theorem dX12_orphans_125 : decode cX12_orphans 125 = .ok (.iconst 0, 1) := by decide +kernel
theorem dX12_orphans_126 : decode cX12_orphans 126 = .ok (.istore_n 3, 1) := by decide +kernel
theorem dX12_orphans_127 : decode cX12_orphans 127 = .ok (.iload_n 3, 1) := by decide +kernel
theorem dX12_orphans_128 : decode cX12_orphans 128 = .ok (.bipush 16, 2) := by decide +kernel
theorem dX12_orphans_130 : decode cX12_orphans 130 = .ok (.if_icmp .ge 21, 3) := by decide +kernel
theorem dX12_orphans_133 : decode cX12_orphans 133 = .ok (.aload_n 0, 1) := by decide +kernel
theorem dX12_orphans_134 : decode cX12_orphans 134 = .ok (.getfield 131, 3) := by decide +kernel
theorem dX12_orphans_137 : decode cX12_orphans 137 = .ok (.iload_n 3, 1) := by decide +kernel
theorem dX12_orphans_138 : decode cX12_orphans 138 = .ok (.aload_n 0, 1) := by decide +kernel
theorem dX12_orphans_139 : decode cX12_orphans 139 = .ok (.getfield 134, 3) := by decide +kernel
theorem dX12_orphans_142 : decode cX12_orphans 142 = .ok (.iload_n 3, 1) := by decide +kernel
theorem dX12_orphans_143 : decode cX12_orphans 143 = .ok (.iaload, 1) := by decide +kernel
theorem dX12_orphans_144 : decode cX12_orphans 144 = .ok (.iastore, 1) := by decide +kernel
theorem dX12_orphans_145 : decode cX12_orphans 145 = .ok (.iinc 3 1, 3) := by decide +kernel
theorem dX12_orphans_148 : decode cX12_orphans 148 = .ok (.goto (-21), 3) := by decide +kernel
theorem dX12_orphans_151 : decode cX12_orphans 151 = .ok (.iinc 2 1, 3) := by decide +kernel
theorem dX12_orphans_154 : decode cX12_orphans 154 = .ok (.goto (-108), 3) := by decide +kernel
theorem dX12_orphans_157 : decode cX12_orphans 157 = .ok (.aload_n 0, 1) := by decide +kernel
theorem dX12_orphans_158 : decode cX12_orphans 158 = .ok (.getfield 131, 3) := by decide +kernel
theorem dX12_orphans_161 : decode cX12_orphans 161 = .ok (.iconst 0, 1) := by decide +kernel
theorem dX12_orphans_162 : decode cX12_orphans 162 = .ok (.iaload, 1) := by decide +kernel
theorem dX12_orphans_163 : decode cX12_orphans 163 = .ok (.ireturn, 1) := by decide +kernel
def xX12_orphans : zX := (RX12, cX12_orphans, 5, (some .int), false, { frames := 4, cells := 0, slots := 0, locals := 157 }, 0, 0, 0, 0)
theorem rmX12_orphans : z_Rm xX12_orphans := by unfold z_Rm xX12_orphans; exact ⟨by decide, by decide⟩
theorem reX12_orphans : z_Re xX12_orphans := ⟨rfl, rfl⟩
theorem rlX12_orphans : 1 ≤ xX12_orphans.2.2.2.2.2.1.frames ∧ 21 ≤ xX12_orphans.2.2.2.2.2.1.locals := by unfold xX12_orphans; exact ⟨by decide, by decide⟩
theorem meX12_orphans : z_Me yX12_orphans xX12_orphans 1 := ⟨wd1271, wd893, by decide, by decide, by decide +kernel⟩
theorem fitX12_orphans_1 : z_Fit xX12_isLength xX12_orphans := by unfold z_Fit; simp only [xX12_isLength, xX12_orphans]; exact ⟨by decide, by decide⟩
theorem fitX12_orphans_36 : z_Fit xX12_base xX12_orphans := by unfold z_Fit; simp only [xX12_base, xX12_orphans]; exact ⟨by decide, by decide⟩
theorem fitX12_orphans_86 : z_Fit xX12_base xX12_orphans := by unfold z_Fit; simp only [xX12_base, xX12_orphans]; exact ⟨by decide, by decide⟩
theorem fitX12_orphans_100 : z_Fit xX12_onFrom xX12_orphans := by unfold z_Fit; simp only [xX12_onFrom, xX12_orphans]; exact ⟨by decide, by decide⟩
noncomputable def kX12_orphans_157 : zK zR := (q_aload 0 (q_getR 12 58 (q_push 0 (q_iald q_iret))))
noncomputable def kX12_orphans_151 : zK ((zL × zS) ⊕ zR) := (q_iinc 2 1 q_ag)
noncomputable def bX12_orphans_127 : zK ((zL × zS) ⊕ ((zL × zS) ⊕ zR)) := (q_iload 3 (q_push 16 (q_icmp_ge (q_dn kX12_orphans_151) (q_aload 0 (q_getR 12 58 (q_iload 3 (q_aload 0 (q_getR 12 59 (q_iload 3 (q_iald (q_iast (q_iinc 3 1 q_ag))))))))))))
noncomputable def kX12_orphans_127 : zK ((zL × zS) ⊕ zR) := q_lp (bX12_orphans_127)
noncomputable def kX12_orphans_125 : zK ((zL × zS) ⊕ zR) := (q_push 0 (q_istore 3 kX12_orphans_127))
noncomputable def kX12_orphans_119 : zK ((zL × zS) ⊕ ((zL × zS) ⊕ zR)) := (q_iinc 3 1 q_ag)
noncomputable def bX12_orphans_83 : zK ((zL × zS) ⊕ ((zL × zS) ⊕ ((zL × zS) ⊕ zR))) := (q_iload 4 (q_aload 0 (q_callV 12 fX12_base 0 (q_icmp_ge (q_dn kX12_orphans_119) (q_aload 0 (q_getR 12 59 (q_aload 0 (q_iload 3 (q_iload 4 (q_callV 12 fX12_onFrom 2 (q_dup2 (q_iald (q_aload 0 (q_getR 12 58 (q_iload 3 (q_iald (q_iadd (q_iast (q_iinc 4 1 q_ag)))))))))))))))))))
noncomputable def kX12_orphans_83 : zK ((zL × zS) ⊕ ((zL × zS) ⊕ zR)) := q_lp (bX12_orphans_83)
noncomputable def bX12_orphans_74 : zK ((zL × zS) ⊕ ((zL × zS) ⊕ zR)) := (q_iload 3 (q_push 16 (q_icmp_ge (q_dn kX12_orphans_125) (q_push 0 (q_istore 4 kX12_orphans_83)))))
noncomputable def kX12_orphans_74 : zK ((zL × zS) ⊕ zR) := q_lp (bX12_orphans_74)
noncomputable def kX12_orphans_72 : zK ((zL × zS) ⊕ zR) := (q_push 0 (q_istore 3 kX12_orphans_74))
noncomputable def bX12_orphans_53 : zK ((zL × zS) ⊕ ((zL × zS) ⊕ zR)) := (q_iload 3 (q_push 16 (q_icmp_ge (q_dn kX12_orphans_72) (q_aload 0 (q_getR 12 59 (q_iload 3 (q_push 0 (q_iast (q_iinc 3 1 q_ag)))))))))
noncomputable def kX12_orphans_53 : zK ((zL × zS) ⊕ zR) := q_lp (bX12_orphans_53)
noncomputable def bX12_orphans_46 : zK ((zL × zS) ⊕ zR) := (q_iload 2 (q_iload 1 (q_icmp_ge (q_dn kX12_orphans_157) (q_push 0 (q_istore 3 kX12_orphans_53)))))
noncomputable def kX12_orphans_46 : zK zR := q_lp (bX12_orphans_46)
noncomputable def kX12_orphans_30 : zK zR := (q_aload 0 (q_getR 12 58 (q_push 1 (q_aload 0 (q_callV 12 fX12_base 0 (q_ishl (q_push 1 (q_isub (q_push 1 (q_iast (q_push 0 (q_istore 2 kX12_orphans_46))))))))))))
noncomputable def bX12_orphans_11 : zK ((zL × zS) ⊕ zR) := (q_iload 2 (q_push 16 (q_icmp_ge (q_dn kX12_orphans_30) (q_aload 0 (q_getR 12 58 (q_iload 2 (q_push 0 (q_iast (q_iinc 2 1 q_ag)))))))))
noncomputable def kX12_orphans_11 : zK zR := q_lp (bX12_orphans_11)
noncomputable def kX12_orphans_0 : zK zR := (q_iload 1 (q_callS fX12_isLength 1 (q_if_ne (q_push 0 (q_istore 2 kX12_orphans_11)) (q_push (-1) q_iret))))
set_option maxRecDepth 100000 in
theorem tX12_orphans_157 {l : Launch} {D : zD} {B sz0 : Nat} {post : Option Value → zS → Prop} : zSnd l D B xX12_orphans sz0 post 157 kX12_orphans_157 (z_Jr post) := (s_aload_n dX12_orphans_157 rfl (s_getR (f := 58) dX12_orphans_158 clX12 (by decide) rfl wd934 (s_iconst dX12_orphans_161 (by decide) (s_iald dX12_orphans_162 (s_iret dX12_orphans_163 rfl)))))
set_option maxRecDepth 100000 in
theorem tX12_orphans_151 {l : Launch} {D : zD} {B sz0 : Nat} {post : Option Value → zS → Prop} : zSnd l D B xX12_orphans sz0 post 151 kX12_orphans_151 (z_Jl l D B xX12_orphans sz0 post 46 (z_Jr post)) := (s_iinc dX12_orphans_151 (by decide) (s_goto (tgt := 46) dX12_orphans_154 (by decide) s_ag))
set_option maxRecDepth 100000 in
theorem tX12_orphans_127 {l : Launch} {D : zD} {B sz0 : Nat} {post : Option Value → zS → Prop} : zSnd l D B xX12_orphans sz0 post 127 kX12_orphans_127 (z_Jl l D B xX12_orphans sz0 post 46 (z_Jr post)) := s_lp (body := bX12_orphans_127) (s_iload_n dX12_orphans_127 rfl (s_bipush dX12_orphans_128 (by decide) (s_icmp_ge (tgt := 151) dX12_orphans_130 (by decide) (s_dn tX12_orphans_151) (s_aload_n dX12_orphans_133 rfl (s_getR (f := 58) dX12_orphans_134 clX12 (by decide) rfl wd934 (s_iload_n dX12_orphans_137 rfl (s_aload_n dX12_orphans_138 rfl (s_getR (f := 59) dX12_orphans_139 clX12 (by decide) rfl wd935 (s_iload_n dX12_orphans_142 rfl (s_iald dX12_orphans_143 (s_iast dX12_orphans_144 (s_iinc dX12_orphans_145 (by decide) (s_goto (tgt := 127) dX12_orphans_148 (by decide) s_ag)))))))))))))
set_option maxRecDepth 100000 in
theorem tX12_orphans_125 {l : Launch} {D : zD} {B sz0 : Nat} {post : Option Value → zS → Prop} : zSnd l D B xX12_orphans sz0 post 125 kX12_orphans_125 (z_Jl l D B xX12_orphans sz0 post 46 (z_Jr post)) := (s_iconst dX12_orphans_125 (by decide) (s_istore_n dX12_orphans_126 rfl tX12_orphans_127))
set_option maxRecDepth 100000 in
theorem tX12_orphans_119 {l : Launch} {D : zD} {B sz0 : Nat} {post : Option Value → zS → Prop} : zSnd l D B xX12_orphans sz0 post 119 kX12_orphans_119 (z_Jl l D B xX12_orphans sz0 post 74 (z_Jl l D B xX12_orphans sz0 post 46 (z_Jr post))) := (s_iinc dX12_orphans_119 (by decide) (s_goto (tgt := 74) dX12_orphans_122 (by decide) s_ag))
set_option maxRecDepth 100000 in
theorem tX12_orphans_83 {l : Launch} {D : zD} {B sz0 : Nat} {post : Option Value → zS → Prop} : zSnd l D B xX12_orphans sz0 post 83 kX12_orphans_83 (z_Jl l D B xX12_orphans sz0 post 74 (z_Jl l D B xX12_orphans sz0 post 46 (z_Jr post))) := s_lp (body := bX12_orphans_83) (s_iload dX12_orphans_83 (s_aload_n dX12_orphans_85 rfl (s_callV (r := (RX12, TX12, 74)) dX12_orphans_86 mX12_base meX12_base wd1081 wd1082 rfl rfl reX12_base rmX12_orphans (fitX12_orphans_86) wd1083 (s_icmp_ge (tgt := 119) dX12_orphans_89 (by decide) (s_dn tX12_orphans_119) (s_aload_n dX12_orphans_92 rfl (s_getR (f := 59) dX12_orphans_93 clX12 (by decide) rfl wd935 (s_aload_n dX12_orphans_96 rfl (s_iload_n dX12_orphans_97 rfl (s_iload dX12_orphans_98 (s_callV (r := (RX12, TX12, 74)) dX12_orphans_100 mX12_onFrom meX12_onFrom wd1268 wd1269 rfl rfl reX12_onFrom rmX12_orphans (fitX12_orphans_100) wd1270 (s_dup2 dX12_orphans_103 (s_iald dX12_orphans_104 (s_aload_n dX12_orphans_105 rfl (s_getR (f := 58) dX12_orphans_106 clX12 (by decide) rfl wd934 (s_iload_n dX12_orphans_109 rfl (s_iald dX12_orphans_110 (s_iadd dX12_orphans_111 (s_iast dX12_orphans_112 (s_iinc dX12_orphans_113 (by decide) (s_goto (tgt := 83) dX12_orphans_116 (by decide) s_ag))))))))))))))))))))
set_option maxRecDepth 100000 in
theorem tX12_orphans_74 {l : Launch} {D : zD} {B sz0 : Nat} {post : Option Value → zS → Prop} : zSnd l D B xX12_orphans sz0 post 74 kX12_orphans_74 (z_Jl l D B xX12_orphans sz0 post 46 (z_Jr post)) := s_lp (body := bX12_orphans_74) (s_iload_n dX12_orphans_74 rfl (s_bipush dX12_orphans_75 (by decide) (s_icmp_ge (tgt := 125) dX12_orphans_77 (by decide) (s_dn tX12_orphans_125) (s_iconst dX12_orphans_80 (by decide) (s_istore dX12_orphans_81 tX12_orphans_83)))))
set_option maxRecDepth 100000 in
theorem tX12_orphans_72 {l : Launch} {D : zD} {B sz0 : Nat} {post : Option Value → zS → Prop} : zSnd l D B xX12_orphans sz0 post 72 kX12_orphans_72 (z_Jl l D B xX12_orphans sz0 post 46 (z_Jr post)) := (s_iconst dX12_orphans_72 (by decide) (s_istore_n dX12_orphans_73 rfl tX12_orphans_74))
set_option maxRecDepth 100000 in
theorem tX12_orphans_53 {l : Launch} {D : zD} {B sz0 : Nat} {post : Option Value → zS → Prop} : zSnd l D B xX12_orphans sz0 post 53 kX12_orphans_53 (z_Jl l D B xX12_orphans sz0 post 46 (z_Jr post)) := s_lp (body := bX12_orphans_53) (s_iload_n dX12_orphans_53 rfl (s_bipush dX12_orphans_54 (by decide) (s_icmp_ge (tgt := 72) dX12_orphans_56 (by decide) (s_dn tX12_orphans_72) (s_aload_n dX12_orphans_59 rfl (s_getR (f := 59) dX12_orphans_60 clX12 (by decide) rfl wd935 (s_iload_n dX12_orphans_63 rfl (s_iconst dX12_orphans_64 (by decide) (s_iast dX12_orphans_65 (s_iinc dX12_orphans_66 (by decide) (s_goto (tgt := 53) dX12_orphans_69 (by decide) s_ag))))))))))
set_option maxRecDepth 100000 in
theorem tX12_orphans_46 {l : Launch} {D : zD} {B sz0 : Nat} {post : Option Value → zS → Prop} : zSnd l D B xX12_orphans sz0 post 46 kX12_orphans_46 (z_Jr post) := s_lp (body := bX12_orphans_46) (s_iload_n dX12_orphans_46 rfl (s_iload_n dX12_orphans_47 rfl (s_icmp_ge (tgt := 157) dX12_orphans_48 (by decide) (s_dn tX12_orphans_157) (s_iconst dX12_orphans_51 (by decide) (s_istore_n dX12_orphans_52 rfl tX12_orphans_53)))))
set_option maxRecDepth 100000 in
theorem tX12_orphans_30 {l : Launch} {D : zD} {B sz0 : Nat} {post : Option Value → zS → Prop} : zSnd l D B xX12_orphans sz0 post 30 kX12_orphans_30 (z_Jr post) := (s_aload_n dX12_orphans_30 rfl (s_getR (f := 58) dX12_orphans_31 clX12 (by decide) rfl wd934 (s_iconst dX12_orphans_34 (by decide) (s_aload_n dX12_orphans_35 rfl (s_callV (r := (RX12, TX12, 74)) dX12_orphans_36 mX12_base meX12_base wd1081 wd1082 rfl rfl reX12_base rmX12_orphans (fitX12_orphans_36) wd1083 (s_ishl dX12_orphans_39 (s_iconst dX12_orphans_40 (by decide) (s_isub dX12_orphans_41 (s_iconst dX12_orphans_42 (by decide) (s_iast dX12_orphans_43 (s_iconst dX12_orphans_44 (by decide) (s_istore_n dX12_orphans_45 rfl tX12_orphans_46))))))))))))
set_option maxRecDepth 100000 in
theorem tX12_orphans_11 {l : Launch} {D : zD} {B sz0 : Nat} {post : Option Value → zS → Prop} : zSnd l D B xX12_orphans sz0 post 11 kX12_orphans_11 (z_Jr post) := s_lp (body := bX12_orphans_11) (s_iload_n dX12_orphans_11 rfl (s_bipush dX12_orphans_12 (by decide) (s_icmp_ge (tgt := 30) dX12_orphans_14 (by decide) (s_dn tX12_orphans_30) (s_aload_n dX12_orphans_17 rfl (s_getR (f := 58) dX12_orphans_18 clX12 (by decide) rfl wd934 (s_iload_n dX12_orphans_21 rfl (s_iconst dX12_orphans_22 (by decide) (s_iast dX12_orphans_23 (s_iinc dX12_orphans_24 (by decide) (s_goto (tgt := 11) dX12_orphans_27 (by decide) s_ag))))))))))
set_option maxRecDepth 100000 in
theorem tX12_orphans_0 {l : Launch} {D : zD} {B sz0 : Nat} {post : Option Value → zS → Prop} : zSnd l D B xX12_orphans sz0 post 0 kX12_orphans_0 (z_Jr post) := (s_iload_n dX12_orphans_0 rfl (s_callS dX12_orphans_1 mX12_isLength meX12_isLength wd1231 rfl reX12_isLength rmX12_orphans (fitX12_orphans_1) wd1232 (s_if_ne (tgt := 9) dX12_orphans_4 (by decide) (s_iconst dX12_orphans_9 (by decide) (s_istore_n dX12_orphans_10 rfl tX12_orphans_11)) (s_iconst dX12_orphans_7 (by decide) (s_iret dX12_orphans_8 rfl)))))
noncomputable def fX12_orphans : zF := z_fn 5 kX12_orphans_0
theorem mX12_orphans {l : Launch} {D : zD} {B : Nat} : z_MF l D B yX12_orphans xX12_orphans fX12_orphans := z_mf (by decide) rfl (fun h => by cases h) rfl (fun as σ r h => ⟨z_fn_len h, kX12_orphans_0, z_fn_run h, fun _ => tX12_orphans_0⟩)
/-! ===== RowChildrenModel.ringsRow ===== -/
theorem dX12_ringsRow_0 : decode cX12_ringsRow 0 = .ok (.aload_n 0, 1) := by decide +kernel
theorem dX12_ringsRow_1 : decode cX12_ringsRow 1 = .ok (.aload_n 0, 1) := by decide +kernel
theorem dX12_ringsRow_2 : decode cX12_ringsRow 2 = .ok (.getfield 104, 3) := by decide +kernel
theorem dX12_ringsRow_5 : decode cX12_ringsRow 5 = .ok (.iload_n 1, 1) := by decide +kernel
theorem dX12_ringsRow_6 : decode cX12_ringsRow 6 = .ok (.iaload, 1) := by decide +kernel
theorem dX12_ringsRow_7 : decode cX12_ringsRow 7 = .ok (.putfield 472, 3) := by decide +kernel
theorem dX12_ringsRow_10 : decode cX12_ringsRow 10 = .ok (.iconst 0, 1) := by decide +kernel
theorem dX12_ringsRow_11 : decode cX12_ringsRow 11 = .ok (.istore_n 2, 1) := by decide +kernel
theorem dX12_ringsRow_12 : decode cX12_ringsRow 12 = .ok (.iload_n 2, 1) := by decide +kernel
theorem dX12_ringsRow_13 : decode cX12_ringsRow 13 = .ok (.aload_n 0, 1) := by decide +kernel
theorem dX12_ringsRow_14 : decode cX12_ringsRow 14 = .ok (.getfield 472, 3) := by decide +kernel
theorem dX12_ringsRow_17 : decode cX12_ringsRow 17 = .ok (.if_icmp .ge 28, 3) := by decide +kernel
theorem dX12_ringsRow_20 : decode cX12_ringsRow 20 = .ok (.aload_n 0, 1) := by decide +kernel
theorem dX12_ringsRow_21 : decode cX12_ringsRow 21 = .ok (.getfield 141, 3) := by decide +kernel
theorem dX12_ringsRow_24 : decode cX12_ringsRow 24 = .ok (.iload_n 2, 1) := by decide +kernel
theorem dX12_ringsRow_25 : decode cX12_ringsRow 25 = .ok (.aload_n 0, 1) := by decide +kernel
theorem dX12_ringsRow_26 : decode cX12_ringsRow 26 = .ok (.getfield 104, 3) := by decide +kernel
theorem dX12_ringsRow_29 : decode cX12_ringsRow 29 = .ok (.iconst 4, 1) := by decide +kernel
theorem dX12_ringsRow_30 : decode cX12_ringsRow 30 = .ok (.bipush 8, 2) := by decide +kernel
theorem dX12_ringsRow_32 : decode cX12_ringsRow 32 = .ok (.iload_n 1, 1) := by decide +kernel
theorem dX12_ringsRow_33 : decode cX12_ringsRow 33 = .ok (.imul, 1) := by decide +kernel
theorem dX12_ringsRow_34 : decode cX12_ringsRow 34 = .ok (.iadd, 1) := by decide +kernel
theorem dX12_ringsRow_35 : decode cX12_ringsRow 35 = .ok (.iload_n 2, 1) := by decide +kernel
theorem dX12_ringsRow_36 : decode cX12_ringsRow 36 = .ok (.iadd, 1) := by decide +kernel
theorem dX12_ringsRow_37 : decode cX12_ringsRow 37 = .ok (.iaload, 1) := by decide +kernel
theorem dX12_ringsRow_38 : decode cX12_ringsRow 38 = .ok (.iastore, 1) := by decide +kernel
theorem dX12_ringsRow_39 : decode cX12_ringsRow 39 = .ok (.iinc 2 1, 3) := by decide +kernel
theorem dX12_ringsRow_42 : decode cX12_ringsRow 42 = .ok (.goto (-30), 3) := by decide +kernel
theorem dX12_ringsRow_45 : decode cX12_ringsRow 45 = .ok (.return_, 1) := by decide +kernel
def xX12_ringsRow : zX := (RX12, cX12_ringsRow, 3, none, false, { frames := 1, cells := 0, slots := 0, locals := 90 }, 0, 0, 0, 0)
theorem rmX12_ringsRow : z_Rm xX12_ringsRow := by unfold z_Rm xX12_ringsRow; exact ⟨by decide, by decide⟩
theorem reX12_ringsRow : z_Re xX12_ringsRow := ⟨rfl, rfl⟩
theorem rlX12_ringsRow : 1 ≤ xX12_ringsRow.2.2.2.2.2.1.frames ∧ 21 ≤ xX12_ringsRow.2.2.2.2.2.1.locals := by unfold xX12_ringsRow; exact ⟨by decide, by decide⟩
theorem meX12_ringsRow : z_Me yX12_ringsRow xX12_ringsRow 1 := ⟨wd1273, wd893, by decide, by decide, by decide +kernel⟩
noncomputable def kX12_ringsRow_45 : zK zR := q_vret
noncomputable def bX12_ringsRow_12 : zK ((zL × zS) ⊕ zR) := (q_iload 2 (q_aload 0 (q_getI 12 62 (q_icmp_ge (q_dn kX12_ringsRow_45) (q_aload 0 (q_getR 12 61 (q_iload 2 (q_aload 0 (q_getR 12 46 (q_push 4 (q_push 8 (q_iload 1 (q_imul (q_iadd (q_iload 2 (q_iadd (q_iald (q_iast (q_iinc 2 1 q_ag)))))))))))))))))))
noncomputable def kX12_ringsRow_12 : zK zR := q_lp (bX12_ringsRow_12)
noncomputable def kX12_ringsRow_0 : zK zR := (q_aload 0 (q_aload 0 (q_getR 12 46 (q_iload 1 (q_iald (q_putI 12 62 (q_push 0 (q_istore 2 kX12_ringsRow_12))))))))
set_option maxRecDepth 100000 in
theorem tX12_ringsRow_45 {l : Launch} {D : zD} {B sz0 : Nat} {post : Option Value → zS → Prop} : zSnd l D B xX12_ringsRow sz0 post 45 kX12_ringsRow_45 (z_Jr post) := (s_vret dX12_ringsRow_45 rfl)
set_option maxRecDepth 100000 in
theorem tX12_ringsRow_12 {l : Launch} {D : zD} {B sz0 : Nat} {post : Option Value → zS → Prop} : zSnd l D B xX12_ringsRow sz0 post 12 kX12_ringsRow_12 (z_Jr post) := s_lp (body := bX12_ringsRow_12) (s_iload_n dX12_ringsRow_12 rfl (s_aload_n dX12_ringsRow_13 rfl (s_getI (f := 62) dX12_ringsRow_14 clX12 (by decide) rfl wd1272 (s_icmp_ge (tgt := 45) dX12_ringsRow_17 (by decide) (s_dn tX12_ringsRow_45) (s_aload_n dX12_ringsRow_20 rfl (s_getR (f := 61) dX12_ringsRow_21 clX12 (by decide) rfl wd938 (s_iload_n dX12_ringsRow_24 rfl (s_aload_n dX12_ringsRow_25 rfl (s_getR (f := 46) dX12_ringsRow_26 clX12 (by decide) rfl wd905 (s_iconst dX12_ringsRow_29 (by decide) (s_bipush dX12_ringsRow_30 (by decide) (s_iload_n dX12_ringsRow_32 rfl (s_imul dX12_ringsRow_33 (s_iadd dX12_ringsRow_34 (s_iload_n dX12_ringsRow_35 rfl (s_iadd dX12_ringsRow_36 (s_iald dX12_ringsRow_37 (s_iast dX12_ringsRow_38 (s_iinc dX12_ringsRow_39 (by decide) (s_goto (tgt := 12) dX12_ringsRow_42 (by decide) s_ag))))))))))))))))))))
set_option maxRecDepth 100000 in
theorem tX12_ringsRow_0 {l : Launch} {D : zD} {B sz0 : Nat} {post : Option Value → zS → Prop} : zSnd l D B xX12_ringsRow sz0 post 0 kX12_ringsRow_0 (z_Jr post) := (s_aload_n dX12_ringsRow_0 rfl (s_aload_n dX12_ringsRow_1 rfl (s_getR (f := 46) dX12_ringsRow_2 clX12 (by decide) rfl wd905 (s_iload_n dX12_ringsRow_5 rfl (s_iald dX12_ringsRow_6 (s_putI (f := 62) dX12_ringsRow_7 clX12 (by decide) rfl rfl rfl wd1272 (s_iconst dX12_ringsRow_10 (by decide) (s_istore_n dX12_ringsRow_11 rfl tX12_ringsRow_12))))))))
noncomputable def fX12_ringsRow : zF := z_fn 3 kX12_ringsRow_0
theorem mX12_ringsRow {l : Launch} {D : zD} {B : Nat} : z_MF l D B yX12_ringsRow xX12_ringsRow fX12_ringsRow := z_mf (by decide) rfl (fun h => by cases h) rfl (fun as σ r h => ⟨z_fn_len h, kX12_ringsRow_0, z_fn_run h, fun _ => tX12_ringsRow_0⟩)
/-! ===== RowChildrenModel.numberRing ===== -/
theorem dX12_numberRing_0 : decode cX12_numberRing 0 = .ok (.iconst 0, 1) := by decide +kernel
theorem dX12_numberRing_1 : decode cX12_numberRing 1 = .ok (.istore_n 1, 1) := by decide +kernel
theorem dX12_numberRing_2 : decode cX12_numberRing 2 = .ok (.iconst 0, 1) := by decide +kernel
theorem dX12_numberRing_3 : decode cX12_numberRing 3 = .ok (.istore_n 2, 1) := by decide +kernel
theorem dX12_numberRing_4 : decode cX12_numberRing 4 = .ok (.iload_n 2, 1) := by decide +kernel
theorem dX12_numberRing_5 : decode cX12_numberRing 5 = .ok (.aload_n 0, 1) := by decide +kernel
theorem dX12_numberRing_6 : decode cX12_numberRing 6 = .ok (.getfield 472, 3) := by decide +kernel
theorem dX12_numberRing_9 : decode cX12_numberRing 9 = .ok (.if_icmp .ge 23, 3) := by decide +kernel
theorem dX12_numberRing_12 : decode cX12_numberRing 12 = .ok (.iload_n 1, 1) := by decide +kernel
theorem dX12_numberRing_13 : decode cX12_numberRing 13 = .ok (.aload_n 0, 1) := by decide +kernel
theorem dX12_numberRing_14 : decode cX12_numberRing 14 = .ok (.invokevirtual 327, 3) := by decide +kernel
theorem dX12_numberRing_17 : decode cX12_numberRing 17 = .ok (.imul, 1) := by decide +kernel
theorem dX12_numberRing_18 : decode cX12_numberRing 18 = .ok (.aload_n 0, 1) := by decide +kernel
theorem dX12_numberRing_19 : decode cX12_numberRing 19 = .ok (.getfield 141, 3) := by decide +kernel
theorem dX12_numberRing_22 : decode cX12_numberRing 22 = .ok (.iload_n 2, 1) := by decide +kernel
theorem dX12_numberRing_23 : decode cX12_numberRing 23 = .ok (.iaload, 1) := by decide +kernel
theorem dX12_numberRing_24 : decode cX12_numberRing 24 = .ok (.iadd, 1) := by decide +kernel
theorem dX12_numberRing_25 : decode cX12_numberRing 25 = .ok (.istore_n 1, 1) := by decide +kernel
theorem dX12_numberRing_26 : decode cX12_numberRing 26 = .ok (.iinc 2 1, 3) := by decide +kernel
theorem dX12_numberRing_29 : decode cX12_numberRing 29 = .ok (.goto (-25), 3) := by decide +kernel
theorem dX12_numberRing_32 : decode cX12_numberRing 32 = .ok (.iload_n 1, 1) := by decide +kernel
theorem dX12_numberRing_33 : decode cX12_numberRing 33 = .ok (.ireturn, 1) := by decide +kernel
def xX12_numberRing : zX := (RX12, cX12_numberRing, 3, (some .int), false, { frames := 2, cells := 0, slots := 0, locals := 110 }, 0, 0, 0, 0)
theorem rmX12_numberRing : z_Rm xX12_numberRing := by unfold z_Rm xX12_numberRing; exact ⟨by decide, by decide⟩
theorem reX12_numberRing : z_Re xX12_numberRing := ⟨rfl, rfl⟩
theorem rlX12_numberRing : 1 ≤ xX12_numberRing.2.2.2.2.2.1.frames ∧ 21 ≤ xX12_numberRing.2.2.2.2.2.1.locals := by unfold xX12_numberRing; exact ⟨by decide, by decide⟩
theorem meX12_numberRing : z_Me yX12_numberRing xX12_numberRing 0 := ⟨wd1274, wd893, by decide, by decide, by decide +kernel⟩
theorem fitX12_numberRing_14 : z_Fit xX12_base xX12_numberRing := by unfold z_Fit; simp only [xX12_base, xX12_numberRing]; exact ⟨by decide, by decide⟩
noncomputable def kX12_numberRing_32 : zK zR := (q_iload 1 q_iret)
noncomputable def bX12_numberRing_4 : zK ((zL × zS) ⊕ zR) := (q_iload 2 (q_aload 0 (q_getI 12 62 (q_icmp_ge (q_dn kX12_numberRing_32) (q_iload 1 (q_aload 0 (q_callV 12 fX12_base 0 (q_imul (q_aload 0 (q_getR 12 61 (q_iload 2 (q_iald (q_iadd (q_istore 1 (q_iinc 2 1 q_ag)))))))))))))))
noncomputable def kX12_numberRing_4 : zK zR := q_lp (bX12_numberRing_4)
noncomputable def kX12_numberRing_0 : zK zR := (q_push 0 (q_istore 1 (q_push 0 (q_istore 2 kX12_numberRing_4))))
set_option maxRecDepth 100000 in
theorem tX12_numberRing_32 {l : Launch} {D : zD} {B sz0 : Nat} {post : Option Value → zS → Prop} : zSnd l D B xX12_numberRing sz0 post 32 kX12_numberRing_32 (z_Jr post) := (s_iload_n dX12_numberRing_32 rfl (s_iret dX12_numberRing_33 rfl))
set_option maxRecDepth 100000 in
theorem tX12_numberRing_4 {l : Launch} {D : zD} {B sz0 : Nat} {post : Option Value → zS → Prop} : zSnd l D B xX12_numberRing sz0 post 4 kX12_numberRing_4 (z_Jr post) := s_lp (body := bX12_numberRing_4) (s_iload_n dX12_numberRing_4 rfl (s_aload_n dX12_numberRing_5 rfl (s_getI (f := 62) dX12_numberRing_6 clX12 (by decide) rfl wd1272 (s_icmp_ge (tgt := 32) dX12_numberRing_9 (by decide) (s_dn tX12_numberRing_32) (s_iload_n dX12_numberRing_12 rfl (s_aload_n dX12_numberRing_13 rfl (s_callV (r := (RX12, TX12, 74)) dX12_numberRing_14 mX12_base meX12_base wd1081 wd1082 rfl rfl reX12_base rmX12_numberRing (fitX12_numberRing_14) wd1083 (s_imul dX12_numberRing_17 (s_aload_n dX12_numberRing_18 rfl (s_getR (f := 61) dX12_numberRing_19 clX12 (by decide) rfl wd938 (s_iload_n dX12_numberRing_22 rfl (s_iald dX12_numberRing_23 (s_iadd dX12_numberRing_24 (s_istore_n dX12_numberRing_25 rfl (s_iinc dX12_numberRing_26 (by decide) (s_goto (tgt := 4) dX12_numberRing_29 (by decide) s_ag))))))))))))))))
set_option maxRecDepth 100000 in
theorem tX12_numberRing_0 {l : Launch} {D : zD} {B sz0 : Nat} {post : Option Value → zS → Prop} : zSnd l D B xX12_numberRing sz0 post 0 kX12_numberRing_0 (z_Jr post) := (s_iconst dX12_numberRing_0 (by decide) (s_istore_n dX12_numberRing_1 rfl (s_iconst dX12_numberRing_2 (by decide) (s_istore_n dX12_numberRing_3 rfl tX12_numberRing_4))))
noncomputable def fX12_numberRing : zF := z_fn 3 kX12_numberRing_0
theorem mX12_numberRing {l : Launch} {D : zD} {B : Nat} : z_MF l D B yX12_numberRing xX12_numberRing fX12_numberRing := z_mf (by decide) rfl (fun h => by cases h) rfl (fun as σ r h => ⟨z_fn_len h, kX12_numberRing_0, z_fn_run h, fun _ => tX12_numberRing_0⟩)
/-! ===== RowChildrenModel.ringSteps ===== -/
theorem dX12_ringSteps_0 : decode cX12_ringSteps 0 = .ok (.aload_n 0, 1) := by decide +kernel
theorem dX12_ringSteps_1 : decode cX12_ringSteps 1 = .ok (.getfield 141, 3) := by decide +kernel
theorem dX12_ringSteps_4 : decode cX12_ringSteps 4 = .ok (.iconst 0, 1) := by decide +kernel
theorem dX12_ringSteps_5 : decode cX12_ringSteps 5 = .ok (.iaload, 1) := by decide +kernel
theorem dX12_ringSteps_6 : decode cX12_ringSteps 6 = .ok (.istore_n 1, 1) := by decide +kernel
theorem dX12_ringSteps_7 : decode cX12_ringSteps 7 = .ok (.iconst 0, 1) := by decide +kernel
theorem dX12_ringSteps_8 : decode cX12_ringSteps 8 = .ok (.istore_n 2, 1) := by decide +kernel
theorem dX12_ringSteps_9 : decode cX12_ringSteps 9 = .ok (.iload_n 2, 1) := by decide +kernel
theorem dX12_ringSteps_10 : decode cX12_ringSteps 10 = .ok (.aload_n 0, 1) := by decide +kernel
theorem dX12_ringSteps_11 : decode cX12_ringSteps 11 = .ok (.getfield 472, 3) := by decide +kernel
theorem dX12_ringSteps_14 : decode cX12_ringSteps 14 = .ok (.if_icmp .ge 47, 3) := by decide +kernel
theorem dX12_ringSteps_17 : decode cX12_ringSteps 17 = .ok (.aload_n 0, 1) := by decide +kernel
theorem dX12_ringSteps_18 : decode cX12_ringSteps 18 = .ok (.getfield 141, 3) := by decide +kernel
theorem dX12_ringSteps_21 : decode cX12_ringSteps 21 = .ok (.iload_n 2, 1) := by decide +kernel
theorem dX12_ringSteps_22 : decode cX12_ringSteps 22 = .ok (.aload_n 0, 1) := by decide +kernel
theorem dX12_ringSteps_23 : decode cX12_ringSteps 23 = .ok (.aload_n 0, 1) := by decide +kernel
theorem dX12_ringSteps_24 : decode cX12_ringSteps 24 = .ok (.getfield 141, 3) := by decide +kernel
theorem dX12_ringSteps_27 : decode cX12_ringSteps 27 = .ok (.iload_n 2, 1) := by decide +kernel
theorem dX12_ringSteps_28 : decode cX12_ringSteps 28 = .ok (.iaload, 1) := by decide +kernel
theorem dX12_ringSteps_29 : decode cX12_ringSteps 29 = .ok (.iload_n 2, 1) := by decide +kernel
theorem dX12_ringSteps_30 : decode cX12_ringSteps 30 = .ok (.iconst 1, 1) := by decide +kernel
theorem dX12_ringSteps_31 : decode cX12_ringSteps 31 = .ok (.iadd, 1) := by decide +kernel
theorem dX12_ringSteps_32 : decode cX12_ringSteps 32 = .ok (.aload_n 0, 1) := by decide +kernel
theorem dX12_ringSteps_33 : decode cX12_ringSteps 33 = .ok (.getfield 472, 3) := by decide +kernel
theorem dX12_ringSteps_36 : decode cX12_ringSteps 36 = .ok (.if_icmp .ge 14, 3) := by decide +kernel
theorem dX12_ringSteps_39 : decode cX12_ringSteps 39 = .ok (.aload_n 0, 1) := by decide +kernel
theorem dX12_ringSteps_40 : decode cX12_ringSteps 40 = .ok (.getfield 141, 3) := by decide +kernel
theorem dX12_ringSteps_43 : decode cX12_ringSteps 43 = .ok (.iload_n 2, 1) := by decide +kernel
theorem dX12_ringSteps_44 : decode cX12_ringSteps 44 = .ok (.iconst 1, 1) := by decide +kernel
theorem dX12_ringSteps_45 : decode cX12_ringSteps 45 = .ok (.iadd, 1) := by decide +kernel
theorem dX12_ringSteps_46 : decode cX12_ringSteps 46 = .ok (.iaload, 1) := by decide +kernel
theorem dX12_ringSteps_47 : decode cX12_ringSteps 47 = .ok (.goto 4, 3) := by decide +kernel
theorem dX12_ringSteps_50 : decode cX12_ringSteps 50 = .ok (.iload_n 1, 1) := by decide +kernel
theorem dX12_ringSteps_51 : decode cX12_ringSteps 51 = .ok (.invokevirtual 346, 3) := by decide +kernel
theorem dX12_ringSteps_54 : decode cX12_ringSteps 54 = .ok (.iastore, 1) := by decide +kernel
theorem dX12_ringSteps_55 : decode cX12_ringSteps 55 = .ok (.iinc 2 1, 3) := by decide +kernel
theorem dX12_ringSteps_58 : decode cX12_ringSteps 58 = .ok (.goto (-49), 3) := by decide +kernel
theorem dX12_ringSteps_61 : decode cX12_ringSteps 61 = .ok (.return_, 1) := by decide +kernel
def xX12_ringSteps : zX := (RX12, cX12_ringSteps, 3, none, false, { frames := 3, cells := 0, slots := 0, locals := 133 }, 0, 0, 0, 0)
theorem rmX12_ringSteps : z_Rm xX12_ringSteps := by unfold z_Rm xX12_ringSteps; exact ⟨by decide, by decide⟩
theorem reX12_ringSteps : z_Re xX12_ringSteps := ⟨rfl, rfl⟩
theorem rlX12_ringSteps : 1 ≤ xX12_ringSteps.2.2.2.2.2.1.frames ∧ 21 ≤ xX12_ringSteps.2.2.2.2.2.1.locals := by unfold xX12_ringSteps; exact ⟨by decide, by decide⟩
theorem meX12_ringSteps : z_Me yX12_ringSteps xX12_ringSteps 0 := ⟨wd1275, wd893, by decide, by decide, by decide +kernel⟩
theorem fitX12_ringSteps_51 : z_Fit xX12_childOf xX12_ringSteps := by unfold z_Fit; simp only [xX12_childOf, xX12_ringSteps]; exact ⟨by decide, by decide⟩
noncomputable def kX12_ringSteps_61 : zK zR := q_vret
noncomputable def kX12_ringSteps_51 : zK ((zL × zS) ⊕ zR) := (q_callV 12 fX12_childOf 2 (q_iast (q_iinc 2 1 q_ag)))
noncomputable def bX12_ringSteps_9 : zK ((zL × zS) ⊕ zR) := (q_iload 2 (q_aload 0 (q_getI 12 62 (q_icmp_ge (q_dn kX12_ringSteps_61) (q_aload 0 (q_getR 12 61 (q_iload 2 (q_aload 0 (q_aload 0 (q_getR 12 61 (q_iload 2 (q_iald (q_iload 2 (q_push 1 (q_iadd (q_aload 0 (q_getI 12 62 (q_icmp_ge (q_iload 1 kX12_ringSteps_51) (q_aload 0 (q_getR 12 61 (q_iload 2 (q_push 1 (q_iadd (q_iald kX12_ringSteps_51))))))))))))))))))))))))
noncomputable def kX12_ringSteps_9 : zK zR := q_lp (bX12_ringSteps_9)
noncomputable def kX12_ringSteps_0 : zK zR := (q_aload 0 (q_getR 12 61 (q_push 0 (q_iald (q_istore 1 (q_push 0 (q_istore 2 kX12_ringSteps_9)))))))
set_option maxRecDepth 100000 in
theorem tX12_ringSteps_61 {l : Launch} {D : zD} {B sz0 : Nat} {post : Option Value → zS → Prop} : zSnd l D B xX12_ringSteps sz0 post 61 kX12_ringSteps_61 (z_Jr post) := (s_vret dX12_ringSteps_61 rfl)
set_option maxRecDepth 100000 in
theorem tX12_ringSteps_51 {l : Launch} {D : zD} {B sz0 : Nat} {post : Option Value → zS → Prop} : zSnd l D B xX12_ringSteps sz0 post 51 kX12_ringSteps_51 (z_Jl l D B xX12_ringSteps sz0 post 9 (z_Jr post)) := (s_callV (r := (RX12, TX12, 74)) dX12_ringSteps_51 mX12_childOf meX12_childOf wd1102 wd1103 rfl rfl reX12_childOf rmX12_ringSteps (fitX12_ringSteps_51) wd1104 (s_iast dX12_ringSteps_54 (s_iinc dX12_ringSteps_55 (by decide) (s_goto (tgt := 9) dX12_ringSteps_58 (by decide) s_ag))))
set_option maxRecDepth 100000 in
theorem tX12_ringSteps_9 {l : Launch} {D : zD} {B sz0 : Nat} {post : Option Value → zS → Prop} : zSnd l D B xX12_ringSteps sz0 post 9 kX12_ringSteps_9 (z_Jr post) := s_lp (body := bX12_ringSteps_9) (s_iload_n dX12_ringSteps_9 rfl (s_aload_n dX12_ringSteps_10 rfl (s_getI (f := 62) dX12_ringSteps_11 clX12 (by decide) rfl wd1272 (s_icmp_ge (tgt := 61) dX12_ringSteps_14 (by decide) (s_dn tX12_ringSteps_61) (s_aload_n dX12_ringSteps_17 rfl (s_getR (f := 61) dX12_ringSteps_18 clX12 (by decide) rfl wd938 (s_iload_n dX12_ringSteps_21 rfl (s_aload_n dX12_ringSteps_22 rfl (s_aload_n dX12_ringSteps_23 rfl (s_getR (f := 61) dX12_ringSteps_24 clX12 (by decide) rfl wd938 (s_iload_n dX12_ringSteps_27 rfl (s_iald dX12_ringSteps_28 (s_iload_n dX12_ringSteps_29 rfl (s_iconst dX12_ringSteps_30 (by decide) (s_iadd dX12_ringSteps_31 (s_aload_n dX12_ringSteps_32 rfl (s_getI (f := 62) dX12_ringSteps_33 clX12 (by decide) rfl wd1272 (s_icmp_ge (tgt := 50) dX12_ringSteps_36 (by decide) (s_iload_n dX12_ringSteps_50 rfl tX12_ringSteps_51) (s_aload_n dX12_ringSteps_39 rfl (s_getR (f := 61) dX12_ringSteps_40 clX12 (by decide) rfl wd938 (s_iload_n dX12_ringSteps_43 rfl (s_iconst dX12_ringSteps_44 (by decide) (s_iadd dX12_ringSteps_45 (s_iald dX12_ringSteps_46 (s_goto (tgt := 51) dX12_ringSteps_47 (by decide) tX12_ringSteps_51)))))))))))))))))))))))))
set_option maxRecDepth 100000 in
theorem tX12_ringSteps_0 {l : Launch} {D : zD} {B sz0 : Nat} {post : Option Value → zS → Prop} : zSnd l D B xX12_ringSteps sz0 post 0 kX12_ringSteps_0 (z_Jr post) := (s_aload_n dX12_ringSteps_0 rfl (s_getR (f := 61) dX12_ringSteps_1 clX12 (by decide) rfl wd938 (s_iconst dX12_ringSteps_4 (by decide) (s_iald dX12_ringSteps_5 (s_istore_n dX12_ringSteps_6 rfl (s_iconst dX12_ringSteps_7 (by decide) (s_istore_n dX12_ringSteps_8 rfl tX12_ringSteps_9)))))))
noncomputable def fX12_ringSteps : zF := z_fn 3 kX12_ringSteps_0
theorem mX12_ringSteps {l : Launch} {D : zD} {B : Nat} : z_MF l D B yX12_ringSteps xX12_ringSteps fX12_ringSteps := z_mf (by decide) rfl (fun h => by cases h) rfl (fun as σ r h => ⟨z_fn_len h, kX12_ringSteps_0, z_fn_run h, fun _ => tX12_ringSteps_0⟩)
/-! ===== RowChildrenModel.fillsRing ===== -/
theorem dX12_fillsRing_0 : decode cX12_fillsRing 0 = .ok (.aload_n 0, 1) := by decide +kernel
theorem dX12_fillsRing_1 : decode cX12_fillsRing 1 = .ok (.iload_n 1, 1) := by decide +kernel
theorem dX12_fillsRing_2 : decode cX12_fillsRing 2 = .ok (.invokevirtual 475, 3) := by decide +kernel
theorem dX12_fillsRing_5 : decode cX12_fillsRing 5 = .ok (.iconst 0, 1) := by decide +kernel
theorem dX12_fillsRing_6 : decode cX12_fillsRing 6 = .ok (.istore_n 2, 1) := by decide +kernel
theorem dX12_fillsRing_7 : decode cX12_fillsRing 7 = .ok (.iload_n 2, 1) := by decide +kernel
theorem dX12_fillsRing_8 : decode cX12_fillsRing 8 = .ok (.aload_n 0, 1) := by decide +kernel
theorem dX12_fillsRing_9 : decode cX12_fillsRing 9 = .ok (.aload_n 0, 1) := by decide +kernel
theorem dX12_fillsRing_10 : decode cX12_fillsRing 10 = .ok (.getfield 472, 3) := by decide +kernel
theorem dX12_fillsRing_13 : decode cX12_fillsRing 13 = .ok (.invokevirtual 445, 3) := by decide +kernel
theorem dX12_fillsRing_16 : decode cX12_fillsRing 16 = .ok (.if_icmp .ge 16, 3) := by decide +kernel
theorem dX12_fillsRing_19 : decode cX12_fillsRing 19 = .ok (.aload_n 0, 1) := by decide +kernel
theorem dX12_fillsRing_20 : decode cX12_fillsRing 20 = .ok (.getfield 138, 3) := by decide +kernel
theorem dX12_fillsRing_23 : decode cX12_fillsRing 23 = .ok (.iload_n 2, 1) := by decide +kernel
theorem dX12_fillsRing_24 : decode cX12_fillsRing 24 = .ok (.iconst 0, 1) := by decide +kernel
theorem dX12_fillsRing_25 : decode cX12_fillsRing 25 = .ok (.iastore, 1) := by decide +kernel
theorem dX12_fillsRing_26 : decode cX12_fillsRing 26 = .ok (.iinc 2 1, 3) := by decide +kernel
theorem dX12_fillsRing_29 : decode cX12_fillsRing 29 = .ok (.goto (-22), 3) := by decide +kernel
theorem dX12_fillsRing_32 : decode cX12_fillsRing 32 = .ok (.iconst 1, 1) := by decide +kernel
theorem dX12_fillsRing_33 : decode cX12_fillsRing 33 = .ok (.istore_n 2, 1) := by decide +kernel
theorem dX12_fillsRing_34 : decode cX12_fillsRing 34 = .ok (.aload_n 0, 1) := by decide +kernel
theorem dX12_fillsRing_35 : decode cX12_fillsRing 35 = .ok (.getfield 138, 3) := by decide +kernel
theorem dX12_fillsRing_38 : decode cX12_fillsRing 38 = .ok (.aload_n 0, 1) := by decide +kernel
theorem dX12_fillsRing_39 : decode cX12_fillsRing 39 = .ok (.invokevirtual 478, 3) := by decide +kernel
theorem dX12_fillsRing_42 : decode cX12_fillsRing 42 = .ok (.iaload, 1) := by decide +kernel
theorem dX12_fillsRing_43 : decode cX12_fillsRing 43 = .ok (.ifCond .ne 23, 3) := by decide +kernel
theorem dX12_fillsRing_46 : decode cX12_fillsRing 46 = .ok (.aload_n 0, 1) := by decide +kernel
theorem dX12_fillsRing_47 : decode cX12_fillsRing 47 = .ok (.getfield 138, 3) := by decide +kernel
theorem dX12_fillsRing_50 : decode cX12_fillsRing 50 = .ok (.aload_n 0, 1) := by decide +kernel
theorem dX12_fillsRing_51 : decode cX12_fillsRing 51 = .ok (.invokevirtual 478, 3) := by decide +kernel
theorem dX12_fillsRing_54 : decode cX12_fillsRing 54 = .ok (.iload_n 2, 1) := by decide +kernel
theorem dX12_fillsRing_55 : decode cX12_fillsRing 55 = .ok (.iastore, 1) := by decide +kernel
theorem dX12_fillsRing_56 : decode cX12_fillsRing 56 = .ok (.aload_n 0, 1) := by decide +kernel
theorem dX12_fillsRing_57 : decode cX12_fillsRing 57 = .ok (.invokevirtual 481, 3) := by decide +kernel
theorem dX12_fillsRing_60 : decode cX12_fillsRing 60 = .ok (.iinc 2 1, 3) := by decide +kernel
theorem dX12_fillsRing_63 : decode cX12_fillsRing 63 = .ok (.goto (-29), 3) := by decide +kernel
theorem dX12_fillsRing_66 : decode cX12_fillsRing 66 = .ok (.aload_n 0, 1) := by decide +kernel
theorem dX12_fillsRing_67 : decode cX12_fillsRing 67 = .ok (.aload_n 0, 1) := by decide +kernel
theorem dX12_fillsRing_68 : decode cX12_fillsRing 68 = .ok (.getfield 138, 3) := by decide +kernel
theorem dX12_fillsRing_71 : decode cX12_fillsRing 71 = .ok (.aload_n 0, 1) := by decide +kernel
theorem dX12_fillsRing_72 : decode cX12_fillsRing 72 = .ok (.invokevirtual 478, 3) := by decide +kernel
theorem dX12_fillsRing_75 : decode cX12_fillsRing 75 = .ok (.iaload, 1) := by decide +kernel
theorem dX12_fillsRing_76 : decode cX12_fillsRing 76 = .ok (.iconst 1, 1) := by decide +kernel
theorem dX12_fillsRing_77 : decode cX12_fillsRing 77 = .ok (.isub, 1) := by decide +kernel
theorem dX12_fillsRing_78 : decode cX12_fillsRing 78 = .ok (.putfield 484, 3) := by decide +kernel
theorem dX12_fillsRing_81 : decode cX12_fillsRing 81 = .ok (.aload_n 0, 1) := by decide +kernel
theorem dX12_fillsRing_82 : decode cX12_fillsRing 82 = .ok (.iload_n 2, 1) := by decide +kernel
theorem dX12_fillsRing_83 : decode cX12_fillsRing 83 = .ok (.iconst 1, 1) := by decide +kernel
theorem dX12_fillsRing_84 : decode cX12_fillsRing 84 = .ok (.isub, 1) := by decide +kernel
theorem dX12_fillsRing_85 : decode cX12_fillsRing 85 = .ok (.aload_n 0, 1) := by decide +kernel
theorem dX12_fillsRing_86 : decode cX12_fillsRing 86 = .ok (.getfield 484, 3) := by decide +kernel
theorem dX12_fillsRing_89 : decode cX12_fillsRing 89 = .ok (.isub, 1) := by decide +kernel
theorem dX12_fillsRing_90 : decode cX12_fillsRing 90 = .ok (.putfield 487, 3) := by decide +kernel
theorem dX12_fillsRing_93 : decode cX12_fillsRing 93 = .ok (.return_, 1) := by decide +kernel
def xX12_fillsRing : zX := (RX12, cX12_fillsRing, 3, none, false, { frames := 4, cells := 0, slots := 0, locals := 155 }, 0, 0, 0, 0)
theorem rmX12_fillsRing : z_Rm xX12_fillsRing := by unfold z_Rm xX12_fillsRing; exact ⟨by decide, by decide⟩
theorem reX12_fillsRing : z_Re xX12_fillsRing := ⟨rfl, rfl⟩
theorem rlX12_fillsRing : 1 ≤ xX12_fillsRing.2.2.2.2.2.1.frames ∧ 21 ≤ xX12_fillsRing.2.2.2.2.2.1.locals := by unfold xX12_fillsRing; exact ⟨by decide, by decide⟩
theorem meX12_fillsRing : z_Me yX12_fillsRing xX12_fillsRing 1 := ⟨wd1287, wd893, by decide, by decide, by decide +kernel⟩
theorem fitX12_fillsRing_2 : z_Fit xX12_ringsRow xX12_fillsRing := by unfold z_Fit; simp only [xX12_ringsRow, xX12_fillsRing]; exact ⟨by decide, by decide⟩
theorem fitX12_fillsRing_13 : z_Fit xX12_rowsOf xX12_fillsRing := by unfold z_Fit; simp only [xX12_rowsOf, xX12_fillsRing]; exact ⟨by decide, by decide⟩
theorem fitX12_fillsRing_39 : z_Fit xX12_numberRing xX12_fillsRing := by unfold z_Fit; simp only [xX12_numberRing, xX12_fillsRing]; exact ⟨by decide, by decide⟩
theorem fitX12_fillsRing_72 : z_Fit xX12_numberRing xX12_fillsRing := by unfold z_Fit; simp only [xX12_numberRing, xX12_fillsRing]; exact ⟨by decide, by decide⟩
theorem fitX12_fillsRing_51 : z_Fit xX12_numberRing xX12_fillsRing := by unfold z_Fit; simp only [xX12_numberRing, xX12_fillsRing]; exact ⟨by decide, by decide⟩
theorem fitX12_fillsRing_57 : z_Fit xX12_ringSteps xX12_fillsRing := by unfold z_Fit; simp only [xX12_ringSteps, xX12_fillsRing]; exact ⟨by decide, by decide⟩
noncomputable def kX12_fillsRing_66 : zK zR := (q_aload 0 (q_aload 0 (q_getR 12 60 (q_aload 0 (q_callV 12 fX12_numberRing 0 (q_iald (q_push 1 (q_isub (q_putI 12 63 (q_aload 0 (q_iload 2 (q_push 1 (q_isub (q_aload 0 (q_getI 12 63 (q_isub (q_putI 12 64 q_vret)))))))))))))))))
noncomputable def bX12_fillsRing_34 : zK ((zL × zS) ⊕ zR) := (q_aload 0 (q_getR 12 60 (q_aload 0 (q_callV 12 fX12_numberRing 0 (q_iald (q_if_ne (q_dn kX12_fillsRing_66) (q_aload 0 (q_getR 12 60 (q_aload 0 (q_callV 12 fX12_numberRing 0 (q_iload 2 (q_iast (q_aload 0 (q_callV 12 fX12_ringSteps 0 (q_iinc 2 1 q_ag)))))))))))))))
noncomputable def kX12_fillsRing_34 : zK zR := q_lp (bX12_fillsRing_34)
noncomputable def kX12_fillsRing_32 : zK zR := (q_push 1 (q_istore 2 kX12_fillsRing_34))
noncomputable def bX12_fillsRing_7 : zK ((zL × zS) ⊕ zR) := (q_iload 2 (q_aload 0 (q_aload 0 (q_getI 12 62 (q_callV 12 fX12_rowsOf 1 (q_icmp_ge (q_dn kX12_fillsRing_32) (q_aload 0 (q_getR 12 60 (q_iload 2 (q_push 0 (q_iast (q_iinc 2 1 q_ag))))))))))))
noncomputable def kX12_fillsRing_7 : zK zR := q_lp (bX12_fillsRing_7)
noncomputable def kX12_fillsRing_0 : zK zR := (q_aload 0 (q_iload 1 (q_callV 12 fX12_ringsRow 1 (q_push 0 (q_istore 2 kX12_fillsRing_7)))))
set_option maxRecDepth 100000 in
theorem tX12_fillsRing_66 {l : Launch} {D : zD} {B sz0 : Nat} {post : Option Value → zS → Prop} : zSnd l D B xX12_fillsRing sz0 post 66 kX12_fillsRing_66 (z_Jr post) := (s_aload_n dX12_fillsRing_66 rfl (s_aload_n dX12_fillsRing_67 rfl (s_getR (f := 60) dX12_fillsRing_68 clX12 (by decide) rfl wd937 (s_aload_n dX12_fillsRing_71 rfl (s_callV (r := (RX12, TX12, 74)) dX12_fillsRing_72 mX12_numberRing meX12_numberRing wd1279 wd1280 rfl rfl reX12_numberRing rmX12_fillsRing (fitX12_fillsRing_72) wd1281 (s_iald dX12_fillsRing_75 (s_iconst dX12_fillsRing_76 (by decide) (s_isub dX12_fillsRing_77 (s_putI (f := 63) dX12_fillsRing_78 clX12 (by decide) rfl rfl rfl wd1282 (s_aload_n dX12_fillsRing_81 rfl (s_iload_n dX12_fillsRing_82 rfl (s_iconst dX12_fillsRing_83 (by decide) (s_isub dX12_fillsRing_84 (s_aload_n dX12_fillsRing_85 rfl (s_getI (f := 63) dX12_fillsRing_86 clX12 (by decide) rfl wd1282 (s_isub dX12_fillsRing_89 (s_putI (f := 64) dX12_fillsRing_90 clX12 (by decide) rfl rfl rfl wd1283 (s_vret dX12_fillsRing_93 rfl))))))))))))))))))
set_option maxRecDepth 100000 in
theorem tX12_fillsRing_34 {l : Launch} {D : zD} {B sz0 : Nat} {post : Option Value → zS → Prop} : zSnd l D B xX12_fillsRing sz0 post 34 kX12_fillsRing_34 (z_Jr post) := s_lp (body := bX12_fillsRing_34) (s_aload_n dX12_fillsRing_34 rfl (s_getR (f := 60) dX12_fillsRing_35 clX12 (by decide) rfl wd937 (s_aload_n dX12_fillsRing_38 rfl (s_callV (r := (RX12, TX12, 74)) dX12_fillsRing_39 mX12_numberRing meX12_numberRing wd1279 wd1280 rfl rfl reX12_numberRing rmX12_fillsRing (fitX12_fillsRing_39) wd1281 (s_iald dX12_fillsRing_42 (s_if_ne (tgt := 66) dX12_fillsRing_43 (by decide) (s_dn tX12_fillsRing_66) (s_aload_n dX12_fillsRing_46 rfl (s_getR (f := 60) dX12_fillsRing_47 clX12 (by decide) rfl wd937 (s_aload_n dX12_fillsRing_50 rfl (s_callV (r := (RX12, TX12, 74)) dX12_fillsRing_51 mX12_numberRing meX12_numberRing wd1279 wd1280 rfl rfl reX12_numberRing rmX12_fillsRing (fitX12_fillsRing_51) wd1281 (s_iload_n dX12_fillsRing_54 rfl (s_iast dX12_fillsRing_55 (s_aload_n dX12_fillsRing_56 rfl (s_callV (r := (RX12, TX12, 74)) dX12_fillsRing_57 mX12_ringSteps meX12_ringSteps wd1284 wd1285 rfl rfl reX12_ringSteps rmX12_fillsRing (fitX12_fillsRing_57) wd1286 (s_iinc dX12_fillsRing_60 (by decide) (s_goto (tgt := 34) dX12_fillsRing_63 (by decide) s_ag))))))))))))))))
set_option maxRecDepth 100000 in
theorem tX12_fillsRing_32 {l : Launch} {D : zD} {B sz0 : Nat} {post : Option Value → zS → Prop} : zSnd l D B xX12_fillsRing sz0 post 32 kX12_fillsRing_32 (z_Jr post) := (s_iconst dX12_fillsRing_32 (by decide) (s_istore_n dX12_fillsRing_33 rfl tX12_fillsRing_34))
set_option maxRecDepth 100000 in
theorem tX12_fillsRing_7 {l : Launch} {D : zD} {B sz0 : Nat} {post : Option Value → zS → Prop} : zSnd l D B xX12_fillsRing sz0 post 7 kX12_fillsRing_7 (z_Jr post) := s_lp (body := bX12_fillsRing_7) (s_iload_n dX12_fillsRing_7 rfl (s_aload_n dX12_fillsRing_8 rfl (s_aload_n dX12_fillsRing_9 rfl (s_getI (f := 62) dX12_fillsRing_10 clX12 (by decide) rfl wd1272 (s_callV (r := (RX12, TX12, 74)) dX12_fillsRing_13 mX12_rowsOf meX12_rowsOf wd1233 wd1234 rfl rfl reX12_rowsOf rmX12_fillsRing (fitX12_fillsRing_13) wd1235 (s_icmp_ge (tgt := 32) dX12_fillsRing_16 (by decide) (s_dn tX12_fillsRing_32) (s_aload_n dX12_fillsRing_19 rfl (s_getR (f := 60) dX12_fillsRing_20 clX12 (by decide) rfl wd937 (s_iload_n dX12_fillsRing_23 rfl (s_iconst dX12_fillsRing_24 (by decide) (s_iast dX12_fillsRing_25 (s_iinc dX12_fillsRing_26 (by decide) (s_goto (tgt := 7) dX12_fillsRing_29 (by decide) s_ag)))))))))))))
set_option maxRecDepth 100000 in
theorem tX12_fillsRing_0 {l : Launch} {D : zD} {B sz0 : Nat} {post : Option Value → zS → Prop} : zSnd l D B xX12_fillsRing sz0 post 0 kX12_fillsRing_0 (z_Jr post) := (s_aload_n dX12_fillsRing_0 rfl (s_iload_n dX12_fillsRing_1 rfl (s_callV (r := (RX12, TX12, 74)) dX12_fillsRing_2 mX12_ringsRow meX12_ringsRow wd1276 wd1277 rfl rfl reX12_ringsRow rmX12_fillsRing (fitX12_fillsRing_2) wd1278 (s_iconst dX12_fillsRing_5 (by decide) (s_istore_n dX12_fillsRing_6 rfl tX12_fillsRing_7)))))
noncomputable def fX12_fillsRing : zF := z_fn 3 kX12_fillsRing_0
theorem mX12_fillsRing {l : Launch} {D : zD} {B : Nat} : z_MF l D B yX12_fillsRing xX12_fillsRing fX12_fillsRing := z_mf (by decide) rfl (fun h => by cases h) rfl (fun as σ r h => ⟨z_fn_len h, kX12_fillsRing_0, z_fn_run h, fun _ => tX12_fillsRing_0⟩)
/-! ===== RowChildrenModel.ring ===== -/
theorem dX12_ring_0 : decode cX12_ring 0 = .ok (.aload_n 0, 1) := by decide +kernel
theorem dX12_ring_1 : decode cX12_ring 1 = .ok (.iload_n 1, 1) := by decide +kernel
theorem dX12_ring_2 : decode cX12_ring 2 = .ok (.invokevirtual 330, 3) := by decide +kernel
theorem dX12_ring_5 : decode cX12_ring 5 = .ok (.ifCond .eq 12, 3) := by decide +kernel
theorem dX12_ring_8 : decode cX12_ring 8 = .ok (.iload_n 2, 1) := by decide +kernel
theorem dX12_ring_9 : decode cX12_ring 9 = .ok (.iconst 0, 1) := by decide +kernel
theorem dX12_ring_10 : decode cX12_ring 10 = .ok (.iconst 1, 1) := by decide +kernel
theorem dX12_ring_11 : decode cX12_ring 11 = .ok (.invokestatic 323, 3) := by decide +kernel
theorem dX12_ring_14 : decode cX12_ring 14 = .ok (.ifCond .ne 5, 3) := by decide +kernel
theorem dX12_ring_17 : decode cX12_ring 17 = .ok (.iconst (-1), 1) := by decide +kernel
theorem dX12_ring_18 : decode cX12_ring 18 = .ok (.ireturn, 1) := by decide +kernel
theorem dX12_ring_19 : decode cX12_ring 19 = .ok (.aload_n 0, 1) := by decide +kernel
theorem dX12_ring_20 : decode cX12_ring 20 = .ok (.iload_n 1, 1) := by decide +kernel
theorem dX12_ring_21 : decode cX12_ring 21 = .ok (.invokevirtual 490, 3) := by decide +kernel
theorem dX12_ring_24 : decode cX12_ring 24 = .ok (.iload_n 2, 1) := by decide +kernel
theorem dX12_ring_25 : decode cX12_ring 25 = .ok (.ifCond .ne 10, 3) := by decide +kernel
theorem dX12_ring_28 : decode cX12_ring 28 = .ok (.aload_n 0, 1) := by decide +kernel
theorem dX12_ring_29 : decode cX12_ring 29 = .ok (.getfield 484, 3) := by decide +kernel
theorem dX12_ring_32 : decode cX12_ring 32 = .ok (.goto 7, 3) := by decide +kernel
theorem dX12_ring_35 : decode cX12_ring 35 = .ok (.aload_n 0, 1) := by decide +kernel
theorem dX12_ring_36 : decode cX12_ring 36 = .ok (.getfield 487, 3) := by decide +kernel
theorem dX12_ring_39 : decode cX12_ring 39 = .ok (.ireturn, 1) := by decide +kernel
def xX12_ring : zX := (RX12, cX12_ring, 3, (some .int), false, { frames := 5, cells := 0, slots := 0, locals := 177 }, 0, 0, 0, 0)
theorem rmX12_ring : z_Rm xX12_ring := by unfold z_Rm xX12_ring; exact ⟨by decide, by decide⟩
theorem reX12_ring : z_Re xX12_ring := ⟨rfl, rfl⟩
theorem rlX12_ring : 1 ≤ xX12_ring.2.2.2.2.2.1.frames ∧ 21 ≤ xX12_ring.2.2.2.2.2.1.locals := by unfold xX12_ring; exact ⟨by decide, by decide⟩
theorem meX12_ring : z_Me yX12_ring xX12_ring 2 := ⟨wd1291, wd893, by decide, by decide, by decide +kernel⟩
theorem fitX12_ring_2 : z_Fit xX12_isRow xX12_ring := by unfold z_Fit; simp only [xX12_isRow, xX12_ring]; exact ⟨by decide, by decide⟩
theorem fitX12_ring_11 : z_Fit xX12_in xX12_ring := by unfold z_Fit; simp only [xX12_in, xX12_ring]; exact ⟨by decide, by decide⟩
theorem fitX12_ring_21 : z_Fit xX12_fillsRing xX12_ring := by unfold z_Fit; simp only [xX12_fillsRing, xX12_ring]; exact ⟨by decide, by decide⟩
noncomputable def kX12_ring_17 : zK zR := (q_push (-1) q_iret)
noncomputable def kX12_ring_39 : zK zR := q_iret
noncomputable def kX12_ring_0 : zK zR := (q_aload 0 (q_iload 1 (q_callV 12 fX12_isRow 1 (q_if_eq kX12_ring_17 (q_iload 2 (q_push 0 (q_push 1 (q_callS fX12_in 3 (q_if_ne (q_aload 0 (q_iload 1 (q_callV 12 fX12_fillsRing 1 (q_iload 2 (q_if_ne (q_aload 0 (q_getI 12 64 kX12_ring_39)) (q_aload 0 (q_getI 12 63 kX12_ring_39))))))) kX12_ring_17)))))))))
set_option maxRecDepth 100000 in
theorem tX12_ring_17 {l : Launch} {D : zD} {B sz0 : Nat} {post : Option Value → zS → Prop} : zSnd l D B xX12_ring sz0 post 17 kX12_ring_17 (z_Jr post) := (s_iconst dX12_ring_17 (by decide) (s_iret dX12_ring_18 rfl))
set_option maxRecDepth 100000 in
theorem tX12_ring_39 {l : Launch} {D : zD} {B sz0 : Nat} {post : Option Value → zS → Prop} : zSnd l D B xX12_ring sz0 post 39 kX12_ring_39 (z_Jr post) := (s_iret dX12_ring_39 rfl)
set_option maxRecDepth 100000 in
theorem tX12_ring_0 {l : Launch} {D : zD} {B sz0 : Nat} {post : Option Value → zS → Prop} : zSnd l D B xX12_ring sz0 post 0 kX12_ring_0 (z_Jr post) := (s_aload_n dX12_ring_0 rfl (s_iload_n dX12_ring_1 rfl (s_callV (r := (RX12, TX12, 74)) dX12_ring_2 mX12_isRow meX12_isRow wd1087 wd1088 rfl rfl reX12_isRow rmX12_ring (fitX12_ring_2) wd1089 (s_if_eq (tgt := 17) dX12_ring_5 (by decide) tX12_ring_17 (s_iload_n dX12_ring_8 rfl (s_iconst dX12_ring_9 (by decide) (s_iconst dX12_ring_10 (by decide) (s_callS dX12_ring_11 mX12_in meX12_in wd1078 rfl reX12_in rmX12_ring (fitX12_ring_11) wd1079 (s_if_ne (tgt := 19) dX12_ring_14 (by decide) (s_aload_n dX12_ring_19 rfl (s_iload_n dX12_ring_20 rfl (s_callV (r := (RX12, TX12, 74)) dX12_ring_21 mX12_fillsRing meX12_fillsRing wd1288 wd1289 rfl rfl reX12_fillsRing rmX12_ring (fitX12_ring_21) wd1290 (s_iload_n dX12_ring_24 rfl (s_if_ne (tgt := 35) dX12_ring_25 (by decide) (s_aload_n dX12_ring_35 rfl (s_getI (f := 64) dX12_ring_36 clX12 (by decide) rfl wd1283 tX12_ring_39)) (s_aload_n dX12_ring_28 rfl (s_getI (f := 63) dX12_ring_29 clX12 (by decide) rfl wd1282 (s_goto (tgt := 39) dX12_ring_32 (by decide) tX12_ring_39)))))))) tX12_ring_17)))))))))
noncomputable def fX12_ring : zF := z_fn 3 kX12_ring_0
theorem mX12_ring {l : Launch} {D : zD} {B : Nat} : z_MF l D B yX12_ring xX12_ring fX12_ring := z_mf (by decide) rfl (fun h => by cases h) rfl (fun as σ r h => ⟨z_fn_len h, kX12_ring_0, z_fn_run h, fun _ => tX12_ring_0⟩)
/-! ===== RowChildrenModel.after ===== -/
theorem dX12_after_0 : decode cX12_after 0 = .ok (.aload_n 0, 1) := by decide +kernel
theorem dX12_after_1 : decode cX12_after 1 = .ok (.iload_n 1, 1) := by decide +kernel
theorem dX12_after_2 : decode cX12_after 2 = .ok (.iload_n 3, 1) := by decide +kernel
theorem dX12_after_3 : decode cX12_after 3 = .ok (.invokevirtual 424, 3) := by decide +kernel
theorem dX12_after_6 : decode cX12_after 6 = .ok (.ifCond .eq 14, 3) := by decide +kernel
theorem dX12_after_9 : decode cX12_after 9 = .ok (.iload_n 2, 1) := by decide +kernel
theorem dX12_after_10 : decode cX12_after 10 = .ok (.iconst 0, 1) := by decide +kernel
theorem dX12_after_11 : decode cX12_after 11 = .ok (.ldc_w 493, 3) := by decide +kernel
theorem dX12_after_14 : decode cX12_after 14 = .ok (.invokestatic 323, 3) := by decide +kernel
theorem dX12_after_17 : decode cX12_after 17 = .ok (.ifCond .ne 5, 3) := by decide +kernel
theorem dX12_after_20 : decode cX12_after 20 = .ok (.iconst (-1), 1) := by decide +kernel
theorem dX12_after_21 : decode cX12_after 21 = .ok (.ireturn, 1) := by decide +kernel
theorem dX12_after_22 : decode cX12_after 22 = .ok (.aload_n 0, 1) := by decide +kernel
theorem dX12_after_23 : decode cX12_after 23 = .ok (.iload_n 1, 1) := by decide +kernel
theorem dX12_after_24 : decode cX12_after 24 = .ok (.invokevirtual 490, 3) := by decide +kernel
theorem dX12_after_27 : decode cX12_after 27 = .ok (.iload_n 2, 1) := by decide +kernel
theorem dX12_after_28 : decode cX12_after 28 = .ok (.aload_n 0, 1) := by decide +kernel
theorem dX12_after_29 : decode cX12_after 29 = .ok (.getfield 484, 3) := by decide +kernel
theorem dX12_after_32 : decode cX12_after 32 = .ok (.if_icmp .ge 7, 3) := by decide +kernel
theorem dX12_after_35 : decode cX12_after 35 = .ok (.iload_n 2, 1) := by decide +kernel
theorem dX12_after_36 : decode cX12_after 36 = .ok (.goto 19, 3) := by decide +kernel
theorem dX12_after_39 : decode cX12_after 39 = .ok (.aload_n 0, 1) := by decide +kernel
theorem dX12_after_40 : decode cX12_after 40 = .ok (.getfield 484, 3) := by decide +kernel
theorem dX12_after_43 : decode cX12_after 43 = .ok (.iload_n 2, 1) := by decide +kernel
theorem dX12_after_44 : decode cX12_after 44 = .ok (.aload_n 0, 1) := by decide +kernel
theorem dX12_after_45 : decode cX12_after 45 = .ok (.getfield 484, 3) := by decide +kernel
theorem dX12_after_48 : decode cX12_after 48 = .ok (.isub, 1) := by decide +kernel
theorem dX12_after_49 : decode cX12_after 49 = .ok (.aload_n 0, 1) := by decide +kernel
theorem dX12_after_50 : decode cX12_after 50 = .ok (.getfield 487, 3) := by decide +kernel
theorem dX12_after_53 : decode cX12_after 53 = .ok (.irem, 1) := by decide +kernel
theorem dX12_after_54 : decode cX12_after 54 = .ok (.iadd, 1) := by decide +kernel
theorem dX12_after_55 : decode cX12_after 55 = .ok (.istore 4, 2) := by decide +kernel
theorem dX12_after_57 : decode cX12_after 57 = .ok (.aload_n 0, 1) := by decide +kernel
theorem dX12_after_58 : decode cX12_after 58 = .ok (.iload_n 1, 1) := by decide +kernel
theorem dX12_after_59 : decode cX12_after 59 = .ok (.invokevirtual 475, 3) := by decide +kernel
theorem dX12_after_62 : decode cX12_after 62 = .ok (.iconst 0, 1) := by decide +kernel
theorem dX12_after_63 : decode cX12_after 63 = .ok (.istore 5, 2) := by decide +kernel
theorem dX12_after_65 : decode cX12_after 65 = .ok (.iload 5, 2) := by decide +kernel
theorem dX12_after_67 : decode cX12_after 67 = .ok (.iload 4, 2) := by decide +kernel
theorem dX12_after_69 : decode cX12_after 69 = .ok (.if_icmp .ge 13, 3) := by decide +kernel
theorem dX12_after_72 : decode cX12_after 72 = .ok (.aload_n 0, 1) := by decide +kernel
theorem dX12_after_73 : decode cX12_after 73 = .ok (.invokevirtual 481, 3) := by decide +kernel
theorem dX12_after_76 : decode cX12_after 76 = .ok (.iinc 5 1, 3) := by decide +kernel
theorem dX12_after_79 : decode cX12_after 79 = .ok (.goto (-14), 3) := by decide +kernel
theorem dX12_after_82 : decode cX12_after 82 = .ok (.aload_n 0, 1) := by decide +kernel
theorem dX12_after_83 : decode cX12_after 83 = .ok (.getfield 141, 3) := by decide +kernel
theorem dX12_after_86 : decode cX12_after 86 = .ok (.iload_n 3, 1) := by decide +kernel
theorem dX12_after_87 : decode cX12_after 87 = .ok (.iaload, 1) := by decide +kernel
theorem dX12_after_88 : decode cX12_after 88 = .ok (.ireturn, 1) := by decide +kernel
def xX12_after : zX := (RX12, cX12_after, 6, (some .int), false, { frames := 5, cells := 0, slots := 0, locals := 177 }, 0, 0, 0, 0)
theorem rmX12_after : z_Rm xX12_after := by unfold z_Rm xX12_after; exact ⟨by decide, by decide⟩
theorem reX12_after : z_Re xX12_after := ⟨rfl, rfl⟩
theorem rlX12_after : 1 ≤ xX12_after.2.2.2.2.2.1.frames ∧ 21 ≤ xX12_after.2.2.2.2.2.1.locals := by unfold xX12_after; exact ⟨by decide, by decide⟩
theorem meX12_after : z_Me yX12_after xX12_after 3 := ⟨wd1293, wd893, by decide, by decide, by decide +kernel⟩
theorem fitX12_after_3 : z_Fit xX12_isSeat xX12_after := by unfold z_Fit; simp only [xX12_isSeat, xX12_after]; exact ⟨by decide, by decide⟩
theorem fitX12_after_14 : z_Fit xX12_in xX12_after := by unfold z_Fit; simp only [xX12_in, xX12_after]; exact ⟨by decide, by decide⟩
theorem fitX12_after_24 : z_Fit xX12_fillsRing xX12_after := by unfold z_Fit; simp only [xX12_fillsRing, xX12_after]; exact ⟨by decide, by decide⟩
theorem fitX12_after_59 : z_Fit xX12_ringsRow xX12_after := by unfold z_Fit; simp only [xX12_ringsRow, xX12_after]; exact ⟨by decide, by decide⟩
theorem fitX12_after_73 : z_Fit xX12_ringSteps xX12_after := by unfold z_Fit; simp only [xX12_ringSteps, xX12_after]; exact ⟨by decide, by decide⟩
noncomputable def kX12_after_20 : zK zR := (q_push (-1) q_iret)
noncomputable def kX12_after_82 : zK zR := (q_aload 0 (q_getR 12 61 (q_iload 3 (q_iald q_iret))))
noncomputable def bX12_after_65 : zK ((zL × zS) ⊕ zR) := (q_iload 5 (q_iload 4 (q_icmp_ge (q_dn kX12_after_82) (q_aload 0 (q_callV 12 fX12_ringSteps 0 (q_iinc 5 1 q_ag))))))
noncomputable def kX12_after_65 : zK zR := q_lp (bX12_after_65)
noncomputable def kX12_after_55 : zK zR := (q_istore 4 (q_aload 0 (q_iload 1 (q_callV 12 fX12_ringsRow 1 (q_push 0 (q_istore 5 kX12_after_65))))))
noncomputable def kX12_after_0 : zK zR := (q_aload 0 (q_iload 1 (q_iload 3 (q_callV 12 fX12_isSeat 2 (q_if_eq kX12_after_20 (q_iload 2 (q_push 0 (q_push 1000000000 (q_callS fX12_in 3 (q_if_ne (q_aload 0 (q_iload 1 (q_callV 12 fX12_fillsRing 1 (q_iload 2 (q_aload 0 (q_getI 12 63 (q_icmp_ge (q_aload 0 (q_getI 12 63 (q_iload 2 (q_aload 0 (q_getI 12 63 (q_isub (q_aload 0 (q_getI 12 64 (q_irem (q_iadd kX12_after_55)))))))))) (q_iload 2 kX12_after_55)))))))) kX12_after_20))))))))))
set_option maxRecDepth 100000 in
theorem tX12_after_20 {l : Launch} {D : zD} {B sz0 : Nat} {post : Option Value → zS → Prop} : zSnd l D B xX12_after sz0 post 20 kX12_after_20 (z_Jr post) := (s_iconst dX12_after_20 (by decide) (s_iret dX12_after_21 rfl))
set_option maxRecDepth 100000 in
theorem tX12_after_82 {l : Launch} {D : zD} {B sz0 : Nat} {post : Option Value → zS → Prop} : zSnd l D B xX12_after sz0 post 82 kX12_after_82 (z_Jr post) := (s_aload_n dX12_after_82 rfl (s_getR (f := 61) dX12_after_83 clX12 (by decide) rfl wd938 (s_iload_n dX12_after_86 rfl (s_iald dX12_after_87 (s_iret dX12_after_88 rfl)))))
set_option maxRecDepth 100000 in
theorem tX12_after_65 {l : Launch} {D : zD} {B sz0 : Nat} {post : Option Value → zS → Prop} : zSnd l D B xX12_after sz0 post 65 kX12_after_65 (z_Jr post) := s_lp (body := bX12_after_65) (s_iload dX12_after_65 (s_iload dX12_after_67 (s_icmp_ge (tgt := 82) dX12_after_69 (by decide) (s_dn tX12_after_82) (s_aload_n dX12_after_72 rfl (s_callV (r := (RX12, TX12, 74)) dX12_after_73 mX12_ringSteps meX12_ringSteps wd1284 wd1285 rfl rfl reX12_ringSteps rmX12_after (fitX12_after_73) wd1286 (s_iinc dX12_after_76 (by decide) (s_goto (tgt := 65) dX12_after_79 (by decide) s_ag)))))))
set_option maxRecDepth 100000 in
theorem tX12_after_55 {l : Launch} {D : zD} {B sz0 : Nat} {post : Option Value → zS → Prop} : zSnd l D B xX12_after sz0 post 55 kX12_after_55 (z_Jr post) := (s_istore dX12_after_55 (s_aload_n dX12_after_57 rfl (s_iload_n dX12_after_58 rfl (s_callV (r := (RX12, TX12, 74)) dX12_after_59 mX12_ringsRow meX12_ringsRow wd1276 wd1277 rfl rfl reX12_ringsRow rmX12_after (fitX12_after_59) wd1278 (s_iconst dX12_after_62 (by decide) (s_istore dX12_after_63 tX12_after_65))))))
set_option maxRecDepth 100000 in
theorem tX12_after_0 {l : Launch} {D : zD} {B sz0 : Nat} {post : Option Value → zS → Prop} : zSnd l D B xX12_after sz0 post 0 kX12_after_0 (z_Jr post) := (s_aload_n dX12_after_0 rfl (s_iload_n dX12_after_1 rfl (s_iload_n dX12_after_2 rfl (s_callV (r := (RX12, TX12, 74)) dX12_after_3 mX12_isSeat meX12_isSeat wd1203 wd1204 rfl rfl reX12_isSeat rmX12_after (fitX12_after_3) wd1205 (s_if_eq (tgt := 20) dX12_after_6 (by decide) tX12_after_20 (s_iload_n dX12_after_9 rfl (s_iconst dX12_after_10 (by decide) (s_ldcw dX12_after_11 wd1292 (s_callS dX12_after_14 mX12_in meX12_in wd1078 rfl reX12_in rmX12_after (fitX12_after_14) wd1079 (s_if_ne (tgt := 22) dX12_after_17 (by decide) (s_aload_n dX12_after_22 rfl (s_iload_n dX12_after_23 rfl (s_callV (r := (RX12, TX12, 74)) dX12_after_24 mX12_fillsRing meX12_fillsRing wd1288 wd1289 rfl rfl reX12_fillsRing rmX12_after (fitX12_after_24) wd1290 (s_iload_n dX12_after_27 rfl (s_aload_n dX12_after_28 rfl (s_getI (f := 63) dX12_after_29 clX12 (by decide) rfl wd1282 (s_icmp_ge (tgt := 39) dX12_after_32 (by decide) (s_aload_n dX12_after_39 rfl (s_getI (f := 63) dX12_after_40 clX12 (by decide) rfl wd1282 (s_iload_n dX12_after_43 rfl (s_aload_n dX12_after_44 rfl (s_getI (f := 63) dX12_after_45 clX12 (by decide) rfl wd1282 (s_isub dX12_after_48 (s_aload_n dX12_after_49 rfl (s_getI (f := 64) dX12_after_50 clX12 (by decide) rfl wd1283 (s_irem dX12_after_53 (s_iadd dX12_after_54 tX12_after_55)))))))))) (s_iload_n dX12_after_35 rfl (s_goto (tgt := 55) dX12_after_36 (by decide) tX12_after_55))))))))) tX12_after_20))))))))))
noncomputable def fX12_after : zF := z_fn 6 kX12_after_0
theorem mX12_after {l : Launch} {D : zD} {B : Nat} : z_MF l D B yX12_after xX12_after fX12_after := z_mf (by decide) rfl (fun h => by cases h) rfl (fun as σ r h => ⟨z_fn_len h, kX12_after_0, z_fn_run h, fun _ => tX12_after_0⟩)
