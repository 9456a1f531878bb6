/-! ===== RowChildrenModel.chosen ===== -/
theorem dX12_chosen_0 : decode cX12_chosen 0 = .ok (.iload_n 1, 1) := by decide +kernel
theorem dX12_chosen_1 : decode cX12_chosen 1 = .ok (.iload_n 0, 1) := by decide +kernel
theorem dX12_chosen_2 : decode cX12_chosen 2 = .ok (.if_icmp .le 7, 3) := by decide +kernel
theorem dX12_chosen_5 : decode cX12_chosen 5 = .ok (.iconst 0, 1) := by decide +kernel
theorem dX12_chosen_6 : decode cX12_chosen 6 = .ok (.goto 18, 3) := by decide +kernel
theorem dX12_chosen_9 : decode cX12_chosen 9 = .ok (.iload_n 0, 1) := by decide +kernel
theorem dX12_chosen_10 : decode cX12_chosen 10 = .ok (.iconst 2, 1) := by decide +kernel
theorem dX12_chosen_11 : decode cX12_chosen 11 = .ok (.if_icmp .ne 12, 3) := by decide +kernel
theorem dX12_chosen_14 : decode cX12_chosen 14 = .ok (.iload_n 1, 1) := by decide +kernel
theorem dX12_chosen_15 : decode cX12_chosen 15 = .ok (.iconst 1, 1) := by decide +kernel
theorem dX12_chosen_16 : decode cX12_chosen 16 = .ok (.if_icmp .ne 7, 3) := by decide +kernel
theorem dX12_chosen_19 : decode cX12_chosen 19 = .ok (.iconst 2, 1) := by decide +kernel
theorem dX12_chosen_20 : decode cX12_chosen 20 = .ok (.goto 4, 3) := by decide +kernel
theorem dX12_chosen_23 : decode cX12_chosen 23 = .ok (.iconst 1, 1) := by decide +kernel
theorem dX12_chosen_24 : decode cX12_chosen 24 = .ok (.ireturn, 1) := by decide +kernel
def xX12_chosen : zX := (RX12, cX12_chosen, 2, (some .int), false, { frames := 1, cells := 0, slots := 0, locals := 90 }, 0, 0, 0, 0)
theorem rmX12_chosen : z_Rm xX12_chosen := by unfold z_Rm xX12_chosen; exact ⟨by decide, by decide⟩
theorem reX12_chosen : z_Re xX12_chosen := ⟨rfl, rfl⟩
theorem rlX12_chosen : 1 ≤ xX12_chosen.2.2.2.2.2.1.frames ∧ 21 ≤ xX12_chosen.2.2.2.2.2.1.locals := by unfold xX12_chosen; exact ⟨by decide, by decide⟩
theorem meX12_chosen : z_Me yX12_chosen xX12_chosen 2 := ⟨wd1279, wd848, by decide, by decide, by decide +kernel⟩
noncomputable def kX12_chosen_24 : zK zR := q_iret
noncomputable def kX12_chosen_23 : zK zR := (q_push 1 kX12_chosen_24)
noncomputable def kX12_chosen_0 : zK zR := (q_iload 1 (q_iload 0 (q_icmp_le (q_iload 0 (q_push 2 (q_icmp_ne kX12_chosen_23 (q_iload 1 (q_push 1 (q_icmp_ne kX12_chosen_23 (q_push 2 kX12_chosen_24))))))) (q_push 0 kX12_chosen_24))))
set_option maxRecDepth 100000 in
theorem tX12_chosen_24 {l : Launch} {D : zD} {B sz0 : Nat} {post : Option Value → zS → Prop} : zSnd l D B xX12_chosen sz0 post 24 kX12_chosen_24 (z_Jr post) := (s_iret dX12_chosen_24 rfl)
set_option maxRecDepth 100000 in
theorem tX12_chosen_23 {l : Launch} {D : zD} {B sz0 : Nat} {post : Option Value → zS → Prop} : zSnd l D B xX12_chosen sz0 post 23 kX12_chosen_23 (z_Jr post) := (s_iconst dX12_chosen_23 (by decide) tX12_chosen_24)
set_option maxRecDepth 100000 in
theorem tX12_chosen_0 {l : Launch} {D : zD} {B sz0 : Nat} {post : Option Value → zS → Prop} : zSnd l D B xX12_chosen sz0 post 0 kX12_chosen_0 (z_Jr post) := (s_iload_n dX12_chosen_0 rfl (s_iload_n dX12_chosen_1 rfl (s_icmp_le (tgt := 9) dX12_chosen_2 (by decide) (s_iload_n dX12_chosen_9 rfl (s_iconst dX12_chosen_10 (by decide) (s_icmp_ne (tgt := 23) dX12_chosen_11 (by decide) tX12_chosen_23 (s_iload_n dX12_chosen_14 rfl (s_iconst dX12_chosen_15 (by decide) (s_icmp_ne (tgt := 23) dX12_chosen_16 (by decide) tX12_chosen_23 (s_iconst dX12_chosen_19 (by decide) (s_goto (tgt := 24) dX12_chosen_20 (by decide) tX12_chosen_24)))))))) (s_iconst dX12_chosen_5 (by decide) (s_goto (tgt := 24) dX12_chosen_6 (by decide) tX12_chosen_24)))))
noncomputable def fX12_chosen : zF := z_fn 2 kX12_chosen_0
theorem mX12_chosen {l : Launch} {D : zD} {B : Nat} : z_MF l D B yX12_chosen xX12_chosen fX12_chosen := z_mf (by decide) rfl (fun h => by cases h) rfl (fun as σ r h => ⟨z_fn_len h, kX12_chosen_0, z_fn_run h, fun _ => tX12_chosen_0⟩)
/-! ===== RowChildrenModel.deep ===== -/
theorem dX12_deep_0 : decode cX12_deep 0 = .ok (.iload_n 1, 1) := by decide +kernel
theorem dX12_deep_1 : decode cX12_deep 1 = .ok (.iconst 0, 1) := by decide +kernel
theorem dX12_deep_2 : decode cX12_deep 2 = .ok (.ldc_w 493, 3) := by decide +kernel
theorem dX12_deep_5 : decode cX12_deep 5 = .ok (.invokestatic 323, 3) := by decide +kernel
theorem dX12_deep_8 : decode cX12_deep 8 = .ok (.ifCond .eq 12, 3) := by decide +kernel
theorem dX12_deep_11 : decode cX12_deep 11 = .ok (.iload_n 2, 1) := by decide +kernel
theorem dX12_deep_12 : decode cX12_deep 12 = .ok (.iconst 0, 1) := by decide +kernel
theorem dX12_deep_13 : decode cX12_deep 13 = .ok (.iload_n 1, 1) := by decide +kernel
theorem dX12_deep_14 : decode cX12_deep 14 = .ok (.invokestatic 323, 3) := by decide +kernel
theorem dX12_deep_17 : decode cX12_deep 17 = .ok (.ifCond .ne 5, 3) := by decide +kernel
theorem dX12_deep_20 : decode cX12_deep 20 = .ok (.iconst (-1), 1) := by decide +kernel
theorem dX12_deep_21 : decode cX12_deep 21 = .ok (.ireturn, 1) := by decide +kernel
theorem dX12_deep_22 : decode cX12_deep 22 = .ok (.aload_n 0, 1) := by decide +kernel
theorem dX12_deep_23 : decode cX12_deep 23 = .ok (.invokevirtual 327, 3) := by decide +kernel
theorem dX12_deep_26 : decode cX12_deep 26 = .ok (.iconst 4, 1) := by decide +kernel
theorem dX12_deep_27 : decode cX12_deep 27 = .ok (.if_icmp .ne 6, 3) := by decide +kernel
theorem dX12_deep_30 : decode cX12_deep 30 = .ok (.bipush (-2), 2) := by decide +kernel
theorem dX12_deep_32 : decode cX12_deep 32 = .ok (.ireturn, 1) := by decide +kernel
theorem dX12_deep_33 : decode cX12_deep 33 = .ok (.iconst 1, 1) := by decide +kernel
theorem dX12_deep_34 : decode cX12_deep 34 = .ok (.istore_n 3, 1) := by decide +kernel
theorem dX12_deep_35 : decode cX12_deep 35 = .ok (.iload_n 1, 1) := by decide +kernel
theorem dX12_deep_36 : decode cX12_deep 36 = .ok (.istore 4, 2) := by decide +kernel
theorem dX12_deep_38 : decode cX12_deep 38 = .ok (.iload_n 2, 1) := by decide +kernel
theorem dX12_deep_39 : decode cX12_deep 39 = .ok (.istore 5, 2) := by decide +kernel
theorem dX12_deep_41 : decode cX12_deep 41 = .ok (.iload 4, 2) := by decide +kernel
theorem dX12_deep_43 : decode cX12_deep 43 = .ok (.ifCond .le 49, 3) := by decide +kernel
theorem dX12_deep_46 : decode cX12_deep 46 = .ok (.iload_n 3, 1) := by decide +kernel
theorem dX12_deep_47 : decode cX12_deep 47 = .ok (.iload 4, 2) := by decide +kernel
theorem dX12_deep_49 : decode cX12_deep 49 = .ok (.aload_n 0, 1) := by decide +kernel
theorem dX12_deep_50 : decode cX12_deep 50 = .ok (.invokevirtual 327, 3) := by decide +kernel
theorem dX12_deep_53 : decode cX12_deep 53 = .ok (.irem, 1) := by decide +kernel
theorem dX12_deep_54 : decode cX12_deep 54 = .ok (.iload 5, 2) := by decide +kernel
theorem dX12_deep_56 : decode cX12_deep 56 = .ok (.aload_n 0, 1) := by decide +kernel
theorem dX12_deep_57 : decode cX12_deep 57 = .ok (.invokevirtual 327, 3) := by decide +kernel
theorem dX12_deep_60 : decode cX12_deep 60 = .ok (.irem, 1) := by decide +kernel
theorem dX12_deep_61 : decode cX12_deep 61 = .ok (.invokestatic 517, 3) := by decide +kernel
theorem dX12_deep_64 : decode cX12_deep 64 = .ok (.imul, 1) := by decide +kernel
theorem dX12_deep_65 : decode cX12_deep 65 = .ok (.aload_n 0, 1) := by decide +kernel
theorem dX12_deep_66 : decode cX12_deep 66 = .ok (.invokevirtual 327, 3) := by decide +kernel
theorem dX12_deep_69 : decode cX12_deep 69 = .ok (.irem, 1) := by decide +kernel
theorem dX12_deep_70 : decode cX12_deep 70 = .ok (.istore_n 3, 1) := by decide +kernel
theorem dX12_deep_71 : decode cX12_deep 71 = .ok (.iload 4, 2) := by decide +kernel
theorem dX12_deep_73 : decode cX12_deep 73 = .ok (.aload_n 0, 1) := by decide +kernel
theorem dX12_deep_74 : decode cX12_deep 74 = .ok (.invokevirtual 327, 3) := by decide +kernel
theorem dX12_deep_77 : decode cX12_deep 77 = .ok (.idiv, 1) := by decide +kernel
theorem dX12_deep_78 : decode cX12_deep 78 = .ok (.istore 4, 2) := by decide +kernel
theorem dX12_deep_80 : decode cX12_deep 80 = .ok (.iload 5, 2) := by decide +kernel
theorem dX12_deep_82 : decode cX12_deep 82 = .ok (.aload_n 0, 1) := by decide +kernel
theorem dX12_deep_83 : decode cX12_deep 83 = .ok (.invokevirtual 327, 3) := by decide +kernel
theorem dX12_deep_86 : decode cX12_deep 86 = .ok (.idiv, 1) := by decide +kernel
theorem dX12_deep_87 : decode cX12_deep 87 = .ok (.istore 5, 2) := by decide +kernel
theorem dX12_deep_89 : decode cX12_deep 89 = .ok (.goto (-48), 3) := by decide +kernel
theorem dX12_deep_92 : decode cX12_deep 92 = .ok (.iload_n 3, 1) := by decide +kernel
theorem dX12_deep_93 : decode cX12_deep 93 = .ok (.ireturn, 1) := by decide +kernel
def xX12_deep : zX := (RX12, cX12_deep, 6, (some .int), false, { frames := 2, cells := 0, slots := 0, locals := 112 }, 0, 0, 0, 0)
theorem rmX12_deep : z_Rm xX12_deep := by unfold z_Rm xX12_deep; exact ⟨by decide, by decide⟩
theorem reX12_deep : z_Re xX12_deep := ⟨rfl, rfl⟩
theorem rlX12_deep : 1 ≤ xX12_deep.2.2.2.2.2.1.frames ∧ 21 ≤ xX12_deep.2.2.2.2.2.1.locals := by unfold xX12_deep; exact ⟨by decide, by decide⟩
theorem meX12_deep : z_Me yX12_deep xX12_deep 2 := ⟨wd1282, wd848, by decide, by decide, by decide +kernel⟩
theorem fitX12_deep_5 : z_Fit xX12_in xX12_deep := by unfold z_Fit; simp only [xX12_in, xX12_deep]; exact ⟨by decide, by decide⟩
theorem fitX12_deep_14 : z_Fit xX12_in xX12_deep := by unfold z_Fit; simp only [xX12_in, xX12_deep]; exact ⟨by decide, by decide⟩
theorem fitX12_deep_23 : z_Fit xX12_base xX12_deep := by unfold z_Fit; simp only [xX12_base, xX12_deep]; exact ⟨by decide, by decide⟩
theorem fitX12_deep_50 : z_Fit xX12_base xX12_deep := by unfold z_Fit; simp only [xX12_base, xX12_deep]; exact ⟨by decide, by decide⟩
theorem fitX12_deep_57 : z_Fit xX12_base xX12_deep := by unfold z_Fit; simp only [xX12_base, xX12_deep]; exact ⟨by decide, by decide⟩
theorem fitX12_deep_61 : z_Fit xX12_chosen xX12_deep := by unfold z_Fit; simp only [xX12_chosen, xX12_deep]; exact ⟨by decide, by decide⟩
theorem fitX12_deep_66 : z_Fit xX12_base xX12_deep := by unfold z_Fit; simp only [xX12_base, xX12_deep]; exact ⟨by decide, by decide⟩
theorem fitX12_deep_74 : z_Fit xX12_base xX12_deep := by unfold z_Fit; simp only [xX12_base, xX12_deep]; exact ⟨by decide, by decide⟩
theorem fitX12_deep_83 : z_Fit xX12_base xX12_deep := by unfold z_Fit; simp only [xX12_base, xX12_deep]; exact ⟨by decide, by decide⟩
noncomputable def kX12_deep_20 : zK zR := (q_push (-1) q_iret)
noncomputable def kX12_deep_92 : zK zR := (q_iload 3 q_iret)
noncomputable def bX12_deep_41 : zK ((zL × zS) ⊕ zR) := (q_iload 4 (q_if_le (q_dn kX12_deep_92) (q_iload 3 (q_iload 4 (q_aload 0 (q_callV 12 fX12_base 0 (q_irem (q_iload 5 (q_aload 0 (q_callV 12 fX12_base 0 (q_irem (q_callS fX12_chosen 2 (q_imul (q_aload 0 (q_callV 12 fX12_base 0 (q_irem (q_istore 3 (q_iload 4 (q_aload 0 (q_callV 12 fX12_base 0 (q_idiv (q_istore 4 (q_iload 5 (q_aload 0 (q_callV 12 fX12_base 0 (q_idiv (q_istore 5 q_ag)))))))))))))))))))))))))))
noncomputable def kX12_deep_41 : zK zR := q_lp (bX12_deep_41)
noncomputable def kX12_deep_0 : zK zR := (q_iload 1 (q_push 0 (q_push 1000000000 (q_callS fX12_in 3 (q_if_eq kX12_deep_20 (q_iload 2 (q_push 0 (q_iload 1 (q_callS fX12_in 3 (q_if_ne (q_aload 0 (q_callV 12 fX12_base 0 (q_push 4 (q_icmp_ne (q_push 1 (q_istore 3 (q_iload 1 (q_istore 4 (q_iload 2 (q_istore 5 kX12_deep_41)))))) (q_push (-2) q_iret))))) kX12_deep_20))))))))))
set_option maxRecDepth 100000 in
theorem tX12_deep_20 {l : Launch} {D : zD} {B sz0 : Nat} {post : Option Value → zS → Prop} : zSnd l D B xX12_deep sz0 post 20 kX12_deep_20 (z_Jr post) := (s_iconst dX12_deep_20 (by decide) (s_iret dX12_deep_21 rfl))
set_option maxRecDepth 100000 in
theorem tX12_deep_92 {l : Launch} {D : zD} {B sz0 : Nat} {post : Option Value → zS → Prop} : zSnd l D B xX12_deep sz0 post 92 kX12_deep_92 (z_Jr post) := (s_iload_n dX12_deep_92 rfl (s_iret dX12_deep_93 rfl))
set_option maxRecDepth 100000 in
theorem tX12_deep_41 {l : Launch} {D : zD} {B sz0 : Nat} {post : Option Value → zS → Prop} : zSnd l D B xX12_deep sz0 post 41 kX12_deep_41 (z_Jr post) := s_lp (body := bX12_deep_41) (s_iload dX12_deep_41 (s_if_le (tgt := 92) dX12_deep_43 (by decide) (s_dn tX12_deep_92) (s_iload_n dX12_deep_46 rfl (s_iload dX12_deep_47 (s_aload_n dX12_deep_49 rfl (s_callV (r := (RX12, TX12, 74)) dX12_deep_50 mX12_base meX12_base wd1036 wd1037 rfl rfl reX12_base rmX12_deep (fitX12_deep_50) wd1038 (s_irem dX12_deep_53 (s_iload dX12_deep_54 (s_aload_n dX12_deep_56 rfl (s_callV (r := (RX12, TX12, 74)) dX12_deep_57 mX12_base meX12_base wd1036 wd1037 rfl rfl reX12_base rmX12_deep (fitX12_deep_57) wd1038 (s_irem dX12_deep_60 (s_callS dX12_deep_61 mX12_chosen meX12_chosen wd1280 rfl reX12_chosen rmX12_deep (fitX12_deep_61) wd1281 (s_imul dX12_deep_64 (s_aload_n dX12_deep_65 rfl (s_callV (r := (RX12, TX12, 74)) dX12_deep_66 mX12_base meX12_base wd1036 wd1037 rfl rfl reX12_base rmX12_deep (fitX12_deep_66) wd1038 (s_irem dX12_deep_69 (s_istore_n dX12_deep_70 rfl (s_iload dX12_deep_71 (s_aload_n dX12_deep_73 rfl (s_callV (r := (RX12, TX12, 74)) dX12_deep_74 mX12_base meX12_base wd1036 wd1037 rfl rfl reX12_base rmX12_deep (fitX12_deep_74) wd1038 (s_idiv dX12_deep_77 (s_istore dX12_deep_78 (s_iload dX12_deep_80 (s_aload_n dX12_deep_82 rfl (s_callV (r := (RX12, TX12, 74)) dX12_deep_83 mX12_base meX12_base wd1036 wd1037 rfl rfl reX12_base rmX12_deep (fitX12_deep_83) wd1038 (s_idiv dX12_deep_86 (s_istore dX12_deep_87 (s_goto (tgt := 41) dX12_deep_89 (by decide) s_ag))))))))))))))))))))))))))))
set_option maxRecDepth 100000 in
theorem tX12_deep_0 {l : Launch} {D : zD} {B sz0 : Nat} {post : Option Value → zS → Prop} : zSnd l D B xX12_deep sz0 post 0 kX12_deep_0 (z_Jr post) := (s_iload_n dX12_deep_0 rfl (s_iconst dX12_deep_1 (by decide) (s_ldcw dX12_deep_2 wd1247 (s_callS dX12_deep_5 mX12_in meX12_in wd1033 rfl reX12_in rmX12_deep (fitX12_deep_5) wd1034 (s_if_eq (tgt := 20) dX12_deep_8 (by decide) tX12_deep_20 (s_iload_n dX12_deep_11 rfl (s_iconst dX12_deep_12 (by decide) (s_iload_n dX12_deep_13 rfl (s_callS dX12_deep_14 mX12_in meX12_in wd1033 rfl reX12_in rmX12_deep (fitX12_deep_14) wd1034 (s_if_ne (tgt := 22) dX12_deep_17 (by decide) (s_aload_n dX12_deep_22 rfl (s_callV (r := (RX12, TX12, 74)) dX12_deep_23 mX12_base meX12_base wd1036 wd1037 rfl rfl reX12_base rmX12_deep (fitX12_deep_23) wd1038 (s_iconst dX12_deep_26 (by decide) (s_icmp_ne (tgt := 33) dX12_deep_27 (by decide) (s_iconst dX12_deep_33 (by decide) (s_istore_n dX12_deep_34 rfl (s_iload_n dX12_deep_35 rfl (s_istore dX12_deep_36 (s_iload_n dX12_deep_38 rfl (s_istore dX12_deep_39 tX12_deep_41)))))) (s_bipush dX12_deep_30 (by decide) (s_iret dX12_deep_32 rfl)))))) tX12_deep_20))))))))))
noncomputable def fX12_deep : zF := z_fn 6 kX12_deep_0
theorem mX12_deep {l : Launch} {D : zD} {B : Nat} : z_MF l D B yX12_deep xX12_deep fX12_deep := z_mf (by decide) rfl (fun h => by cases h) rfl (fun as σ r h => ⟨z_fn_len h, kX12_deep_0, z_fn_run h, fun _ => tX12_deep_0⟩)
/-! ===== RowChildrenModel.wonWith ===== -/
theorem dX12_wonWith_0 : decode cX12_wonWith 0 = .ok (.iconst 0, 1) := by decide +kernel
theorem dX12_wonWith_1 : decode cX12_wonWith 1 = .ok (.istore_n 3, 1) := by decide +kernel
theorem dX12_wonWith_2 : decode cX12_wonWith 2 = .ok (.iload_n 3, 1) := by decide +kernel
theorem dX12_wonWith_3 : decode cX12_wonWith 3 = .ok (.aload_n 0, 1) := by decide +kernel
theorem dX12_wonWith_4 : decode cX12_wonWith 4 = .ok (.invokevirtual 327, 3) := by decide +kernel
theorem dX12_wonWith_7 : decode cX12_wonWith 7 = .ok (.if_icmp .ge 37, 3) := by decide +kernel
theorem dX12_wonWith_10 : decode cX12_wonWith 10 = .ok (.aload_n 0, 1) := by decide +kernel
theorem dX12_wonWith_11 : decode cX12_wonWith 11 = .ok (.getfield 144, 3) := by decide +kernel
theorem dX12_wonWith_14 : decode cX12_wonWith 14 = .ok (.iload_n 1, 1) := by decide +kernel
theorem dX12_wonWith_15 : decode cX12_wonWith 15 = .ok (.aload_n 0, 1) := by decide +kernel
theorem dX12_wonWith_16 : decode cX12_wonWith 16 = .ok (.invokevirtual 327, 3) := by decide +kernel
theorem dX12_wonWith_19 : decode cX12_wonWith 19 = .ok (.imul, 1) := by decide +kernel
theorem dX12_wonWith_20 : decode cX12_wonWith 20 = .ok (.iload_n 3, 1) := by decide +kernel
theorem dX12_wonWith_21 : decode cX12_wonWith 21 = .ok (.iadd, 1) := by decide +kernel
theorem dX12_wonWith_22 : decode cX12_wonWith 22 = .ok (.iaload, 1) := by decide +kernel
theorem dX12_wonWith_23 : decode cX12_wonWith 23 = .ok (.iconst 1, 1) := by decide +kernel
theorem dX12_wonWith_24 : decode cX12_wonWith 24 = .ok (.if_icmp .ne 7, 3) := by decide +kernel
theorem dX12_wonWith_27 : decode cX12_wonWith 27 = .ok (.iconst 1, 1) := by decide +kernel
theorem dX12_wonWith_28 : decode cX12_wonWith 28 = .ok (.goto 4, 3) := by decide +kernel
theorem dX12_wonWith_31 : decode cX12_wonWith 31 = .ok (.iconst 0, 1) := by decide +kernel
theorem dX12_wonWith_32 : decode cX12_wonWith 32 = .ok (.iload_n 2, 1) := by decide +kernel
theorem dX12_wonWith_33 : decode cX12_wonWith 33 = .ok (.if_icmp .ne 5, 3) := by decide +kernel
theorem dX12_wonWith_36 : decode cX12_wonWith 36 = .ok (.iload_n 3, 1) := by decide +kernel
theorem dX12_wonWith_37 : decode cX12_wonWith 37 = .ok (.ireturn, 1) := by decide +kernel
theorem dX12_wonWith_38 : decode cX12_wonWith 38 = .ok (.iinc 3 1, 3) := by decide +kernel
theorem dX12_wonWith_41 : decode cX12_wonWith 41 = .ok (.goto (-39), 3) := by decide +kernel
theorem dX12_wonWith_44 : decode cX12_wonWith 44 = .ok (.iconst (-1), 1) := by decide +kernel
theorem dX12_wonWith_45 : decode cX12_wonWith 45 = .ok (.ireturn, 1) := by decide +kernel
def xX12_wonWith : zX := (RX12, cX12_wonWith, 4, (some .int), false, { frames := 2, cells := 0, slots := 0, locals := 110 }, 0, 0, 0, 0)
theorem rmX12_wonWith : z_Rm xX12_wonWith := by unfold z_Rm xX12_wonWith; exact ⟨by decide, by decide⟩
theorem reX12_wonWith : z_Re xX12_wonWith := ⟨rfl, rfl⟩
theorem rlX12_wonWith : 1 ≤ xX12_wonWith.2.2.2.2.2.1.frames ∧ 21 ≤ xX12_wonWith.2.2.2.2.2.1.locals := by unfold xX12_wonWith; exact ⟨by decide, by decide⟩
theorem meX12_wonWith : z_Me yX12_wonWith xX12_wonWith 2 := ⟨wd1283, wd848, by decide, by decide, by decide +kernel⟩
theorem fitX12_wonWith_4 : z_Fit xX12_base xX12_wonWith := by unfold z_Fit; simp only [xX12_base, xX12_wonWith]; exact ⟨by decide, by decide⟩
theorem fitX12_wonWith_16 : z_Fit xX12_base xX12_wonWith := by unfold z_Fit; simp only [xX12_base, xX12_wonWith]; exact ⟨by decide, by decide⟩
noncomputable def kX12_wonWith_44 : zK zR := (q_push (-1) q_iret)
noncomputable def kX12_wonWith_36 : zK zR := (q_iload 3 q_iret)
noncomputable def kX12_wonWith_32 : zK ((zL × zS) ⊕ zR) := (q_iload 2 (q_icmp_ne (q_iinc 3 1 q_ag) (q_dn kX12_wonWith_36)))
noncomputable def bX12_wonWith_2 : zK ((zL × zS) ⊕ zR) := (q_iload 3 (q_aload 0 (q_callV 12 fX12_base 0 (q_icmp_ge (q_dn kX12_wonWith_44) (q_aload 0 (q_getR 12 65 (q_iload 1 (q_aload 0 (q_callV 12 fX12_base 0 (q_imul (q_iload 3 (q_iadd (q_iald (q_push 1 (q_icmp_ne (q_push 0 kX12_wonWith_32) (q_push 1 kX12_wonWith_32))))))))))))))))
noncomputable def kX12_wonWith_2 : zK zR := q_lp (bX12_wonWith_2)
noncomputable def kX12_wonWith_0 : zK zR := (q_push 0 (q_istore 3 kX12_wonWith_2))
set_option maxRecDepth 100000 in
theorem tX12_wonWith_44 {l : Launch} {D : zD} {B sz0 : Nat} {post : Option Value → zS → Prop} : zSnd l D B xX12_wonWith sz0 post 44 kX12_wonWith_44 (z_Jr post) := (s_iconst dX12_wonWith_44 (by decide) (s_iret dX12_wonWith_45 rfl))
set_option maxRecDepth 100000 in
theorem tX12_wonWith_36 {l : Launch} {D : zD} {B sz0 : Nat} {post : Option Value → zS → Prop} : zSnd l D B xX12_wonWith sz0 post 36 kX12_wonWith_36 (z_Jr post) := (s_iload_n dX12_wonWith_36 rfl (s_iret dX12_wonWith_37 rfl))
set_option maxRecDepth 100000 in
theorem tX12_wonWith_32 {l : Launch} {D : zD} {B sz0 : Nat} {post : Option Value → zS → Prop} : zSnd l D B xX12_wonWith sz0 post 32 kX12_wonWith_32 (z_Jl l D B xX12_wonWith sz0 post 2 (z_Jr post)) := (s_iload_n dX12_wonWith_32 rfl (s_icmp_ne (tgt := 38) dX12_wonWith_33 (by decide) (s_iinc dX12_wonWith_38 (by decide) (s_goto (tgt := 2) dX12_wonWith_41 (by decide) s_ag)) (s_dn tX12_wonWith_36)))
set_option maxRecDepth 100000 in
theorem tX12_wonWith_2 {l : Launch} {D : zD} {B sz0 : Nat} {post : Option Value → zS → Prop} : zSnd l D B xX12_wonWith sz0 post 2 kX12_wonWith_2 (z_Jr post) := s_lp (body := bX12_wonWith_2) (s_iload_n dX12_wonWith_2 rfl (s_aload_n dX12_wonWith_3 rfl (s_callV (r := (RX12, TX12, 74)) dX12_wonWith_4 mX12_base meX12_base wd1036 wd1037 rfl rfl reX12_base rmX12_wonWith (fitX12_wonWith_4) wd1038 (s_icmp_ge (tgt := 44) dX12_wonWith_7 (by decide) (s_dn tX12_wonWith_44) (s_aload_n dX12_wonWith_10 rfl (s_getR (f := 65) dX12_wonWith_11 clX12 (by decide) rfl wd894 (s_iload_n dX12_wonWith_14 rfl (s_aload_n dX12_wonWith_15 rfl (s_callV (r := (RX12, TX12, 74)) dX12_wonWith_16 mX12_base meX12_base wd1036 wd1037 rfl rfl reX12_base rmX12_wonWith (fitX12_wonWith_16) wd1038 (s_imul dX12_wonWith_19 (s_iload_n dX12_wonWith_20 rfl (s_iadd dX12_wonWith_21 (s_iald dX12_wonWith_22 (s_iconst dX12_wonWith_23 (by decide) (s_icmp_ne (tgt := 31) dX12_wonWith_24 (by decide) (s_iconst dX12_wonWith_31 (by decide) tX12_wonWith_32) (s_iconst dX12_wonWith_27 (by decide) (s_goto (tgt := 32) dX12_wonWith_28 (by decide) tX12_wonWith_32)))))))))))))))))
set_option maxRecDepth 100000 in
theorem tX12_wonWith_0 {l : Launch} {D : zD} {B sz0 : Nat} {post : Option Value → zS → Prop} : zSnd l D B xX12_wonWith sz0 post 0 kX12_wonWith_0 (z_Jr post) := (s_iconst dX12_wonWith_0 (by decide) (s_istore_n dX12_wonWith_1 rfl tX12_wonWith_2))
noncomputable def fX12_wonWith : zF := z_fn 4 kX12_wonWith_0
theorem mX12_wonWith {l : Launch} {D : zD} {B : Nat} : z_MF l D B yX12_wonWith xX12_wonWith fX12_wonWith := z_mf (by decide) rfl (fun h => by cases h) rfl (fun as σ r h => ⟨z_fn_len h, kX12_wonWith_0, z_fn_run h, fun _ => tX12_wonWith_0⟩)
/-! ===== RowChildrenModel.game ===== -/
theorem dX12_game_0 : decode cX12_game 0 = .ok (.aload_n 0, 1) := by decide +kernel
theorem dX12_game_1 : decode cX12_game 1 = .ok (.iload_n 1, 1) := by decide +kernel
theorem dX12_game_2 : decode cX12_game 2 = .ok (.invokevirtual 398, 3) := by decide +kernel
theorem dX12_game_5 : decode cX12_game 5 = .ok (.ifCond .eq 19, 3) := by decide +kernel
theorem dX12_game_8 : decode cX12_game 8 = .ok (.iload_n 2, 1) := by decide +kernel
theorem dX12_game_9 : decode cX12_game 9 = .ok (.invokestatic 442, 3) := by decide +kernel
theorem dX12_game_12 : decode cX12_game 12 = .ok (.ifCond .eq 12, 3) := by decide +kernel
theorem dX12_game_15 : decode cX12_game 15 = .ok (.iload_n 3, 1) := by decide +kernel
theorem dX12_game_16 : decode cX12_game 16 = .ok (.iconst 0, 1) := by decide +kernel
theorem dX12_game_17 : decode cX12_game 17 = .ok (.iconst 1, 1) := by decide +kernel
theorem dX12_game_18 : decode cX12_game 18 = .ok (.invokestatic 323, 3) := by decide +kernel
theorem dX12_game_21 : decode cX12_game 21 = .ok (.ifCond .ne 5, 3) := by decide +kernel
theorem dX12_game_24 : decode cX12_game 24 = .ok (.iconst (-1), 1) := by decide +kernel
theorem dX12_game_25 : decode cX12_game 25 = .ok (.ireturn, 1) := by decide +kernel
theorem dX12_game_26 : decode cX12_game 26 = .ok (.iconst 0, 1) := by decide +kernel
theorem dX12_game_27 : decode cX12_game 27 = .ok (.istore 4, 2) := by decide +kernel
theorem dX12_game_29 : decode cX12_game 29 = .ok (.iload 4, 2) := by decide +kernel
theorem dX12_game_31 : decode cX12_game 31 = .ok (.aload_n 0, 1) := by decide +kernel
theorem dX12_game_32 : decode cX12_game 32 = .ok (.iload_n 2, 1) := by decide +kernel
theorem dX12_game_33 : decode cX12_game 33 = .ok (.invokevirtual 445, 3) := by decide +kernel
theorem dX12_game_36 : decode cX12_game 36 = .ok (.if_icmp .ge 36, 3) := by decide +kernel
theorem dX12_game_39 : decode cX12_game 39 = .ok (.aload_n 0, 1) := by decide +kernel
theorem dX12_game_40 : decode cX12_game 40 = .ok (.iload 4, 2) := by decide +kernel
theorem dX12_game_42 : decode cX12_game 42 = .ok (.iload_n 2, 1) := by decide +kernel
theorem dX12_game_43 : decode cX12_game 43 = .ok (.invokevirtual 448, 3) := by decide +kernel
theorem dX12_game_46 : decode cX12_game 46 = .ok (.aload_n 0, 1) := by decide +kernel
theorem dX12_game_47 : decode cX12_game 47 = .ok (.getfield 144, 3) := by decide +kernel
theorem dX12_game_50 : decode cX12_game 50 = .ok (.iload 4, 2) := by decide +kernel
theorem dX12_game_52 : decode cX12_game 52 = .ok (.aload_n 0, 1) := by decide +kernel
theorem dX12_game_53 : decode cX12_game 53 = .ok (.invokevirtual 407, 3) := by decide +kernel
theorem dX12_game_56 : decode cX12_game 56 = .ok (.iload_n 1, 1) := by decide +kernel
theorem dX12_game_57 : decode cX12_game 57 = .ok (.if_icmp .ne 7, 3) := by decide +kernel
theorem dX12_game_60 : decode cX12_game 60 = .ok (.iconst 1, 1) := by decide +kernel
theorem dX12_game_61 : decode cX12_game 61 = .ok (.goto 4, 3) := by decide +kernel
theorem dX12_game_64 : decode cX12_game 64 = .ok (.iconst 0, 1) := by decide +kernel
theorem dX12_game_65 : decode cX12_game 65 = .ok (.iastore, 1) := by decide +kernel
theorem dX12_game_66 : decode cX12_game 66 = .ok (.iinc 4 1, 3) := by decide +kernel
theorem dX12_game_69 : decode cX12_game 69 = .ok (.goto (-40), 3) := by decide +kernel
theorem dX12_game_72 : decode cX12_game 72 = .ok (.iload_n 2, 1) := by decide +kernel
theorem dX12_game_73 : decode cX12_game 73 = .ok (.iconst 1, 1) := by decide +kernel
theorem dX12_game_74 : decode cX12_game 74 = .ok (.isub, 1) := by decide +kernel
theorem dX12_game_75 : decode cX12_game 75 = .ok (.istore 4, 2) := by decide +kernel
theorem dX12_game_77 : decode cX12_game 77 = .ok (.iload 4, 2) := by decide +kernel
theorem dX12_game_79 : decode cX12_game 79 = .ok (.ifCond .le 76, 3) := by decide +kernel
theorem dX12_game_82 : decode cX12_game 82 = .ok (.iload 4, 2) := by decide +kernel
theorem dX12_game_84 : decode cX12_game 84 = .ok (.iconst 2, 1) := by decide +kernel
theorem dX12_game_85 : decode cX12_game 85 = .ok (.irem, 1) := by decide +kernel
theorem dX12_game_86 : decode cX12_game 86 = .ok (.ifCond .ne 7, 3) := by decide +kernel
theorem dX12_game_89 : decode cX12_game 89 = .ok (.iconst 1, 1) := by decide +kernel
theorem dX12_game_90 : decode cX12_game 90 = .ok (.goto 4, 3) := by decide +kernel
theorem dX12_game_93 : decode cX12_game 93 = .ok (.iconst 0, 1) := by decide +kernel
theorem dX12_game_94 : decode cX12_game 94 = .ok (.istore 5, 2) := by decide +kernel
theorem dX12_game_96 : decode cX12_game 96 = .ok (.iconst 0, 1) := by decide +kernel
theorem dX12_game_97 : decode cX12_game 97 = .ok (.istore 6, 2) := by decide +kernel
theorem dX12_game_99 : decode cX12_game 99 = .ok (.iload 6, 2) := by decide +kernel
theorem dX12_game_101 : decode cX12_game 101 = .ok (.aload_n 0, 1) := by decide +kernel
theorem dX12_game_102 : decode cX12_game 102 = .ok (.iload 4, 2) := by decide +kernel
theorem dX12_game_104 : decode cX12_game 104 = .ok (.invokevirtual 445, 3) := by decide +kernel
theorem dX12_game_107 : decode cX12_game 107 = .ok (.if_icmp .ge 42, 3) := by decide +kernel
theorem dX12_game_110 : decode cX12_game 110 = .ok (.aload_n 0, 1) := by decide +kernel
theorem dX12_game_111 : decode cX12_game 111 = .ok (.getfield 144, 3) := by decide +kernel
theorem dX12_game_114 : decode cX12_game 114 = .ok (.iload 6, 2) := by decide +kernel
theorem dX12_game_116 : decode cX12_game 116 = .ok (.aload_n 0, 1) := by decide +kernel
theorem dX12_game_117 : decode cX12_game 117 = .ok (.iload 6, 2) := by decide +kernel
theorem dX12_game_119 : decode cX12_game 119 = .ok (.iload 5, 2) := by decide +kernel
theorem dX12_game_121 : decode cX12_game 121 = .ok (.invokevirtual 520, 3) := by decide +kernel
theorem dX12_game_124 : decode cX12_game 124 = .ok (.ifCond .lt 7, 3) := by decide +kernel
theorem dX12_game_127 : decode cX12_game 127 = .ok (.iconst 1, 1) := by decide +kernel
theorem dX12_game_128 : decode cX12_game 128 = .ok (.goto 4, 3) := by decide +kernel
theorem dX12_game_131 : decode cX12_game 131 = .ok (.iconst 0, 1) := by decide +kernel
theorem dX12_game_132 : decode cX12_game 132 = .ok (.iload 5, 2) := by decide +kernel
theorem dX12_game_134 : decode cX12_game 134 = .ok (.if_icmp .ne 7, 3) := by decide +kernel
theorem dX12_game_137 : decode cX12_game 137 = .ok (.iconst 1, 1) := by decide +kernel
theorem dX12_game_138 : decode cX12_game 138 = .ok (.goto 4, 3) := by decide +kernel
theorem dX12_game_141 : decode cX12_game 141 = .ok (.iconst 0, 1) := by decide +kernel
theorem dX12_game_142 : decode cX12_game 142 = .ok (.iastore, 1) := by decide +kernel
theorem dX12_game_143 : decode cX12_game 143 = .ok (.iinc 6 1, 3) := by decide +kernel
theorem dX12_game_146 : decode cX12_game 146 = .ok (.goto (-47), 3) := by decide +kernel
theorem dX12_game_149 : decode cX12_game 149 = .ok (.iinc 4 (-1), 3) := by decide +kernel
theorem dX12_game_152 : decode cX12_game 152 = .ok (.goto (-75), 3) := by decide +kernel
theorem dX12_game_155 : decode cX12_game 155 = .ok (.aload_n 0, 1) := by decide +kernel
theorem dX12_game_156 : decode cX12_game 156 = .ok (.iconst 0, 1) := by decide +kernel
theorem dX12_game_157 : decode cX12_game 157 = .ok (.iconst 1, 1) := by decide +kernel
theorem dX12_game_158 : decode cX12_game 158 = .ok (.invokevirtual 520, 3) := by decide +kernel
theorem dX12_game_161 : decode cX12_game 161 = .ok (.istore 4, 2) := by decide +kernel
theorem dX12_game_163 : decode cX12_game 163 = .ok (.iload_n 3, 1) := by decide +kernel
theorem dX12_game_164 : decode cX12_game 164 = .ok (.ifCond .ne 16, 3) := by decide +kernel
theorem dX12_game_167 : decode cX12_game 167 = .ok (.iload 4, 2) := by decide +kernel
theorem dX12_game_169 : decode cX12_game 169 = .ok (.ifCond .lt 7, 3) := by decide +kernel
theorem dX12_game_172 : decode cX12_game 172 = .ok (.iconst 1, 1) := by decide +kernel
theorem dX12_game_173 : decode cX12_game 173 = .ok (.goto 19, 3) := by decide +kernel
theorem dX12_game_176 : decode cX12_game 176 = .ok (.iconst 2, 1) := by decide +kernel
theorem dX12_game_177 : decode cX12_game 177 = .ok (.goto 15, 3) := by decide +kernel
theorem dX12_game_180 : decode cX12_game 180 = .ok (.iload 4, 2) := by decide +kernel
theorem dX12_game_182 : decode cX12_game 182 = .ok (.ifCond .lt 8, 3) := by decide +kernel
theorem dX12_game_185 : decode cX12_game 185 = .ok (.iload 4, 2) := by decide +kernel
theorem dX12_game_187 : decode cX12_game 187 = .ok (.goto 5, 3) := by decide +kernel
theorem dX12_game_190 : decode cX12_game 190 = .ok (.bipush (-2), 2) := by decide +kernel
theorem dX12_game_192 : decode cX12_game 192 = .ok (.ireturn, 1) := by decide +kernel
def xX12_game : zX := (RX12, cX12_game, 7, (some .int), false, { frames := 5, cells := 0, slots := 0, locals := 179 }, 0, 0, 0, 0)
theorem rmX12_game : z_Rm xX12_game := by unfold z_Rm xX12_game; exact ⟨by decide, by decide⟩
theorem reX12_game : z_Re xX12_game := ⟨rfl, rfl⟩
theorem rlX12_game : 1 ≤ xX12_game.2.2.2.2.2.1.frames ∧ 21 ≤ xX12_game.2.2.2.2.2.1.locals := by unfold xX12_game; exact ⟨by decide, by decide⟩
theorem meX12_game : z_Me yX12_game xX12_game 3 := ⟨wd1287, wd848, by decide, by decide, by decide +kernel⟩
theorem fitX12_game_2 : z_Fit xX12_isColour xX12_game := by unfold z_Fit; simp only [xX12_isColour, xX12_game]; exact ⟨by decide, by decide⟩
theorem fitX12_game_9 : z_Fit xX12_isLength xX12_game := by unfold z_Fit; simp only [xX12_isLength, xX12_game]; exact ⟨by decide, by decide⟩
theorem fitX12_game_18 : z_Fit xX12_in xX12_game := by unfold z_Fit; simp only [xX12_in, xX12_game]; exact ⟨by decide, by decide⟩
theorem fitX12_game_33 : z_Fit xX12_rowsOf xX12_game := by unfold z_Fit; simp only [xX12_rowsOf, xX12_game]; exact ⟨by decide, by decide⟩
theorem fitX12_game_158 : z_Fit xX12_wonWith xX12_game := by unfold z_Fit; simp only [xX12_wonWith, xX12_game]; exact ⟨by decide, by decide⟩
theorem fitX12_game_104 : z_Fit xX12_rowsOf xX12_game := by unfold z_Fit; simp only [xX12_rowsOf, xX12_game]; exact ⟨by decide, by decide⟩
theorem fitX12_game_121 : z_Fit xX12_wonWith xX12_game := by unfold z_Fit; simp only [xX12_wonWith, xX12_game]; exact ⟨by decide, by decide⟩
theorem fitX12_game_43 : z_Fit xX12_laysNumber xX12_game := by unfold z_Fit; simp only [xX12_laysNumber, xX12_game]; exact ⟨by decide, by decide⟩
theorem fitX12_game_53 : z_Fit xX12_lastLaid xX12_game := by unfold z_Fit; simp only [xX12_lastLaid, xX12_game]; exact ⟨by decide, by decide⟩
noncomputable def kX12_game_24 : zK zR := (q_push (-1) q_iret)
noncomputable def kX12_game_192 : zK zR := q_iret
noncomputable def kX12_game_155 : zK zR := (q_aload 0 (q_push 0 (q_push 1 (q_callV 12 fX12_wonWith 2 (q_istore 4 (q_iload 3 (q_if_ne (q_iload 4 (q_if_lt (q_push (-2) kX12_game_192) (q_iload 4 kX12_game_192))) (q_iload 4 (q_if_lt (q_push 2 kX12_game_192) (q_push 1 kX12_game_192))))))))))
noncomputable def kX12_game_149 : zK ((zL × zS) ⊕ zR) := (q_iinc 4 (-1) q_ag)
noncomputable def kX12_game_142 : zK ((zL × zS) ⊕ ((zL × zS) ⊕ zR)) := (q_iast (q_iinc 6 1 q_ag))
noncomputable def kX12_game_132 : zK ((zL × zS) ⊕ ((zL × zS) ⊕ zR)) := (q_iload 5 (q_icmp_ne (q_push 0 kX12_game_142) (q_push 1 kX12_game_142)))
noncomputable def bX12_game_99 : zK ((zL × zS) ⊕ ((zL × zS) ⊕ zR)) := (q_iload 6 (q_aload 0 (q_iload 4 (q_callV 12 fX12_rowsOf 1 (q_icmp_ge (q_dn kX12_game_149) (q_aload 0 (q_getR 12 65 (q_iload 6 (q_aload 0 (q_iload 6 (q_iload 5 (q_callV 12 fX12_wonWith 2 (q_if_lt (q_push 0 kX12_game_132) (q_push 1 kX12_game_132))))))))))))))
noncomputable def kX12_game_99 : zK ((zL × zS) ⊕ zR) := q_lp (bX12_game_99)
noncomputable def kX12_game_94 : zK ((zL × zS) ⊕ zR) := (q_istore 5 (q_push 0 (q_istore 6 kX12_game_99)))
noncomputable def bX12_game_77 : zK ((zL × zS) ⊕ zR) := (q_iload 4 (q_if_le (q_dn kX12_game_155) (q_iload 4 (q_push 2 (q_irem (q_if_ne (q_push 0 kX12_game_94) (q_push 1 kX12_game_94)))))))
noncomputable def kX12_game_77 : zK zR := q_lp (bX12_game_77)
noncomputable def kX12_game_72 : zK zR := (q_iload 2 (q_push 1 (q_isub (q_istore 4 kX12_game_77))))
noncomputable def kX12_game_65 : zK ((zL × zS) ⊕ zR) := (q_iast (q_iinc 4 1 q_ag))
noncomputable def bX12_game_29 : zK ((zL × zS) ⊕ zR) := (q_iload 4 (q_aload 0 (q_iload 2 (q_callV 12 fX12_rowsOf 1 (q_icmp_ge (q_dn kX12_game_72) (q_aload 0 (q_iload 4 (q_iload 2 (q_callV 12 fX12_laysNumber 2 (q_aload 0 (q_getR 12 65 (q_iload 4 (q_aload 0 (q_callV 12 fX12_lastLaid 0 (q_iload 1 (q_icmp_ne (q_push 0 kX12_game_65) (q_push 1 kX12_game_65)))))))))))))))))
noncomputable def kX12_game_29 : zK zR := q_lp (bX12_game_29)
noncomputable def kX12_game_0 : zK zR := (q_aload 0 (q_iload 1 (q_callV 12 fX12_isColour 1 (q_if_eq kX12_game_24 (q_iload 2 (q_callS fX12_isLength 1 (q_if_eq kX12_game_24 (q_iload 3 (q_push 0 (q_push 1 (q_callS fX12_in 3 (q_if_ne (q_push 0 (q_istore 4 kX12_game_29)) kX12_game_24))))))))))))
set_option maxRecDepth 100000 in
theorem tX12_game_24 {l : Launch} {D : zD} {B sz0 : Nat} {post : Option Value → zS → Prop} : zSnd l D B xX12_game sz0 post 24 kX12_game_24 (z_Jr post) := (s_iconst dX12_game_24 (by decide) (s_iret dX12_game_25 rfl))
set_option maxRecDepth 100000 in
theorem tX12_game_192 {l : Launch} {D : zD} {B sz0 : Nat} {post : Option Value → zS → Prop} : zSnd l D B xX12_game sz0 post 192 kX12_game_192 (z_Jr post) := (s_iret dX12_game_192 rfl)
set_option maxRecDepth 100000 in
theorem tX12_game_155 {l : Launch} {D : zD} {B sz0 : Nat} {post : Option Value → zS → Prop} : zSnd l D B xX12_game sz0 post 155 kX12_game_155 (z_Jr post) := (s_aload_n dX12_game_155 rfl (s_iconst dX12_game_156 (by decide) (s_iconst dX12_game_157 (by decide) (s_callV (r := (RX12, TX12, 74)) dX12_game_158 mX12_wonWith meX12_wonWith wd1284 wd1285 rfl rfl reX12_wonWith rmX12_game (fitX12_game_158) wd1286 (s_istore dX12_game_161 (s_iload_n dX12_game_163 rfl (s_if_ne (tgt := 180) dX12_game_164 (by decide) (s_iload dX12_game_180 (s_if_lt (tgt := 190) dX12_game_182 (by decide) (s_bipush dX12_game_190 (by decide) tX12_game_192) (s_iload dX12_game_185 (s_goto (tgt := 192) dX12_game_187 (by decide) tX12_game_192)))) (s_iload dX12_game_167 (s_if_lt (tgt := 176) dX12_game_169 (by decide) (s_iconst dX12_game_176 (by decide) (s_goto (tgt := 192) dX12_game_177 (by decide) tX12_game_192)) (s_iconst dX12_game_172 (by decide) (s_goto (tgt := 192) dX12_game_173 (by decide) tX12_game_192)))))))))))
set_option maxRecDepth 100000 in
theorem tX12_game_149 {l : Launch} {D : zD} {B sz0 : Nat} {post : Option Value → zS → Prop} : zSnd l D B xX12_game sz0 post 149 kX12_game_149 (z_Jl l D B xX12_game sz0 post 77 (z_Jr post)) := (s_iinc dX12_game_149 (by decide) (s_goto (tgt := 77) dX12_game_152 (by decide) s_ag))
set_option maxRecDepth 100000 in
theorem tX12_game_142 {l : Launch} {D : zD} {B sz0 : Nat} {post : Option Value → zS → Prop} : zSnd l D B xX12_game sz0 post 142 kX12_game_142 (z_Jl l D B xX12_game sz0 post 99 (z_Jl l D B xX12_game sz0 post 77 (z_Jr post))) := (s_iast dX12_game_142 (s_iinc dX12_game_143 (by decide) (s_goto (tgt := 99) dX12_game_146 (by decide) s_ag)))
set_option maxRecDepth 100000 in
theorem tX12_game_132 {l : Launch} {D : zD} {B sz0 : Nat} {post : Option Value → zS → Prop} : zSnd l D B xX12_game sz0 post 132 kX12_game_132 (z_Jl l D B xX12_game sz0 post 99 (z_Jl l D B xX12_game sz0 post 77 (z_Jr post))) := (s_iload dX12_game_132 (s_icmp_ne (tgt := 141) dX12_game_134 (by decide) (s_iconst dX12_game_141 (by decide) tX12_game_142) (s_iconst dX12_game_137 (by decide) (s_goto (tgt := 142) dX12_game_138 (by decide) tX12_game_142))))
set_option maxRecDepth 100000 in
theorem tX12_game_99 {l : Launch} {D : zD} {B sz0 : Nat} {post : Option Value → zS → Prop} : zSnd l D B xX12_game sz0 post 99 kX12_game_99 (z_Jl l D B xX12_game sz0 post 77 (z_Jr post)) := s_lp (body := bX12_game_99) (s_iload dX12_game_99 (s_aload_n dX12_game_101 rfl (s_iload dX12_game_102 (s_callV (r := (RX12, TX12, 74)) dX12_game_104 mX12_rowsOf meX12_rowsOf wd1188 wd1189 rfl rfl reX12_rowsOf rmX12_game (fitX12_game_104) wd1190 (s_icmp_ge (tgt := 149) dX12_game_107 (by decide) (s_dn tX12_game_149) (s_aload_n dX12_game_110 rfl (s_getR (f := 65) dX12_game_111 clX12 (by decide) rfl wd894 (s_iload dX12_game_114 (s_aload_n dX12_game_116 rfl (s_iload dX12_game_117 (s_iload dX12_game_119 (s_callV (r := (RX12, TX12, 74)) dX12_game_121 mX12_wonWith meX12_wonWith wd1284 wd1285 rfl rfl reX12_wonWith rmX12_game (fitX12_game_121) wd1286 (s_if_lt (tgt := 131) dX12_game_124 (by decide) (s_iconst dX12_game_131 (by decide) tX12_game_132) (s_iconst dX12_game_127 (by decide) (s_goto (tgt := 132) dX12_game_128 (by decide) tX12_game_132)))))))))))))))
set_option maxRecDepth 100000 in
theorem tX12_game_94 {l : Launch} {D : zD} {B sz0 : Nat} {post : Option Value → zS → Prop} : zSnd l D B xX12_game sz0 post 94 kX12_game_94 (z_Jl l D B xX12_game sz0 post 77 (z_Jr post)) := (s_istore dX12_game_94 (s_iconst dX12_game_96 (by decide) (s_istore dX12_game_97 tX12_game_99)))
set_option maxRecDepth 100000 in
theorem tX12_game_77 {l : Launch} {D : zD} {B sz0 : Nat} {post : Option Value → zS → Prop} : zSnd l D B xX12_game sz0 post 77 kX12_game_77 (z_Jr post) := s_lp (body := bX12_game_77) (s_iload dX12_game_77 (s_if_le (tgt := 155) dX12_game_79 (by decide) (s_dn tX12_game_155) (s_iload dX12_game_82 (s_iconst dX12_game_84 (by decide) (s_irem dX12_game_85 (s_if_ne (tgt := 93) dX12_game_86 (by decide) (s_iconst dX12_game_93 (by decide) tX12_game_94) (s_iconst dX12_game_89 (by decide) (s_goto (tgt := 94) dX12_game_90 (by decide) tX12_game_94))))))))
set_option maxRecDepth 100000 in
theorem tX12_game_72 {l : Launch} {D : zD} {B sz0 : Nat} {post : Option Value → zS → Prop} : zSnd l D B xX12_game sz0 post 72 kX12_game_72 (z_Jr post) := (s_iload_n dX12_game_72 rfl (s_iconst dX12_game_73 (by decide) (s_isub dX12_game_74 (s_istore dX12_game_75 tX12_game_77))))
set_option maxRecDepth 100000 in
theorem tX12_game_65 {l : Launch} {D : zD} {B sz0 : Nat} {post : Option Value → zS → Prop} : zSnd l D B xX12_game sz0 post 65 kX12_game_65 (z_Jl l D B xX12_game sz0 post 29 (z_Jr post)) := (s_iast dX12_game_65 (s_iinc dX12_game_66 (by decide) (s_goto (tgt := 29) dX12_game_69 (by decide) s_ag)))
set_option maxRecDepth 100000 in
theorem tX12_game_29 {l : Launch} {D : zD} {B sz0 : Nat} {post : Option Value → zS → Prop} : zSnd l D B xX12_game sz0 post 29 kX12_game_29 (z_Jr post) := s_lp (body := bX12_game_29) (s_iload dX12_game_29 (s_aload_n dX12_game_31 rfl (s_iload_n dX12_game_32 rfl (s_callV (r := (RX12, TX12, 74)) dX12_game_33 mX12_rowsOf meX12_rowsOf wd1188 wd1189 rfl rfl reX12_rowsOf rmX12_game (fitX12_game_33) wd1190 (s_icmp_ge (tgt := 72) dX12_game_36 (by decide) (s_dn tX12_game_72) (s_aload_n dX12_game_39 rfl (s_iload dX12_game_40 (s_iload_n dX12_game_42 rfl (s_callV (r := (RX12, TX12, 74)) dX12_game_43 mX12_laysNumber meX12_laysNumber wd1191 wd1192 rfl rfl reX12_laysNumber rmX12_game (fitX12_game_43) wd1193 (s_aload_n dX12_game_46 rfl (s_getR (f := 65) dX12_game_47 clX12 (by decide) rfl wd894 (s_iload dX12_game_50 (s_aload_n dX12_game_52 rfl (s_callV (r := (RX12, TX12, 74)) dX12_game_53 mX12_lastLaid meX12_lastLaid wd1139 wd1140 rfl rfl reX12_lastLaid rmX12_game (fitX12_game_53) wd1141 (s_iload_n dX12_game_56 rfl (s_icmp_ne (tgt := 64) dX12_game_57 (by decide) (s_iconst dX12_game_64 (by decide) tX12_game_65) (s_iconst dX12_game_60 (by decide) (s_goto (tgt := 65) dX12_game_61 (by decide) tX12_game_65))))))))))))))))))
set_option maxRecDepth 100000 in
theorem tX12_game_0 {l : Launch} {D : zD} {B sz0 : Nat} {post : Option Value → zS → Prop} : zSnd l D B xX12_game sz0 post 0 kX12_game_0 (z_Jr post) := (s_aload_n dX12_game_0 rfl (s_iload_n dX12_game_1 rfl (s_callV (r := (RX12, TX12, 74)) dX12_game_2 mX12_isColour meX12_isColour wd1129 wd1130 rfl rfl reX12_isColour rmX12_game (fitX12_game_2) wd1131 (s_if_eq (tgt := 24) dX12_game_5 (by decide) tX12_game_24 (s_iload_n dX12_game_8 rfl (s_callS dX12_game_9 mX12_isLength meX12_isLength wd1186 rfl reX12_isLength rmX12_game (fitX12_game_9) wd1187 (s_if_eq (tgt := 24) dX12_game_12 (by decide) tX12_game_24 (s_iload_n dX12_game_15 rfl (s_iconst dX12_game_16 (by decide) (s_iconst dX12_game_17 (by decide) (s_callS dX12_game_18 mX12_in meX12_in wd1033 rfl reX12_in rmX12_game (fitX12_game_18) wd1034 (s_if_ne (tgt := 26) dX12_game_21 (by decide) (s_iconst dX12_game_26 (by decide) (s_istore dX12_game_27 tX12_game_29)) tX12_game_24))))))))))))
noncomputable def fX12_game : zF := z_fn 7 kX12_game_0
theorem mX12_game {l : Launch} {D : zD} {B : Nat} : z_MF l D B yX12_game xX12_game fX12_game := z_mf (by decide) rfl (fun h => by cases h) rfl (fun as σ r h => ⟨z_fn_len h, kX12_game_0, z_fn_run h, fun _ => tX12_game_0⟩)
/-! ===== RowChildrenModel.then ===== -/
theorem dX12_then_0 : decode cX12_then 0 = .ok (.aload_n 0, 1) := by decide +kernel
theorem dX12_then_1 : decode cX12_then 1 = .ok (.iload_n 1, 1) := by decide +kernel
theorem dX12_then_2 : decode cX12_then 2 = .ok (.invokevirtual 330, 3) := by decide +kernel
theorem dX12_then_5 : decode cX12_then 5 = .ok (.ifCond .eq 20, 3) := by decide +kernel
theorem dX12_then_8 : decode cX12_then 8 = .ok (.iload_n 2, 1) := by decide +kernel
theorem dX12_then_9 : decode cX12_then 9 = .ok (.invokestatic 436, 3) := by decide +kernel
theorem dX12_then_12 : decode cX12_then 12 = .ok (.ifCond .eq 13, 3) := by decide +kernel
theorem dX12_then_15 : decode cX12_then 15 = .ok (.iload_n 3, 1) := by decide +kernel
theorem dX12_then_16 : decode cX12_then 16 = .ok (.iconst 0, 1) := by decide +kernel
theorem dX12_then_17 : decode cX12_then 17 = .ok (.bipush 7, 2) := by decide +kernel
theorem dX12_then_19 : decode cX12_then 19 = .ok (.invokestatic 323, 3) := by decide +kernel
theorem dX12_then_22 : decode cX12_then 22 = .ok (.ifCond .ne 5, 3) := by decide +kernel
theorem dX12_then_25 : decode cX12_then 25 = .ok (.iconst (-1), 1) := by decide +kernel
theorem dX12_then_26 : decode cX12_then 26 = .ok (.ireturn, 1) := by decide +kernel
theorem dX12_then_27 : decode cX12_then 27 = .ok (.aload_n 0, 1) := by decide +kernel
theorem dX12_then_28 : decode cX12_then 28 = .ok (.invokevirtual 401, 3) := by decide +kernel
theorem dX12_then_31 : decode cX12_then 31 = .ok (.aload_n 0, 1) := by decide +kernel
theorem dX12_then_32 : decode cX12_then 32 = .ok (.iload_n 2, 1) := by decide +kernel
theorem dX12_then_33 : decode cX12_then 33 = .ok (.invokevirtual 439, 3) := by decide +kernel
theorem dX12_then_36 : decode cX12_then 36 = .ok (.iload_n 3, 1) := by decide +kernel
theorem dX12_then_37 : decode cX12_then 37 = .ok (.aload_n 0, 1) := by decide +kernel
theorem dX12_then_38 : decode cX12_then 38 = .ok (.getfield 107, 3) := by decide +kernel
theorem dX12_then_41 : decode cX12_then 41 = .ok (.iload_n 1, 1) := by decide +kernel
theorem dX12_then_42 : decode cX12_then 42 = .ok (.iaload, 1) := by decide +kernel
theorem dX12_then_43 : decode cX12_then 43 = .ok (.if_icmp .ge 12, 3) := by decide +kernel
theorem dX12_then_46 : decode cX12_then 46 = .ok (.aload_n 0, 1) := by decide +kernel
theorem dX12_then_47 : decode cX12_then 47 = .ok (.iload_n 1, 1) := by decide +kernel
theorem dX12_then_48 : decode cX12_then 48 = .ok (.iload_n 3, 1) := by decide +kernel
theorem dX12_then_49 : decode cX12_then 49 = .ok (.invokevirtual 349, 3) := by decide +kernel
theorem dX12_then_52 : decode cX12_then 52 = .ok (.goto 5, 3) := by decide +kernel
theorem dX12_then_55 : decode cX12_then 55 = .ok (.bipush (-2), 2) := by decide +kernel
theorem dX12_then_57 : decode cX12_then 57 = .ok (.ireturn, 1) := by decide +kernel
def xX12_then : zX := (RX12, cX12_then, 4, (some .int), false, { frames := 8, cells := 0, slots := 0, locals := 248 }, 0, 0, 0, 0)
theorem rmX12_then : z_Rm xX12_then := by unfold z_Rm xX12_then; exact ⟨by decide, by decide⟩
theorem reX12_then : z_Re xX12_then := ⟨rfl, rfl⟩
theorem rlX12_then : 1 ≤ xX12_then.2.2.2.2.2.1.frames ∧ 21 ≤ xX12_then.2.2.2.2.2.1.locals := by unfold xX12_then; exact ⟨by decide, by decide⟩
theorem meX12_then : z_Me yX12_then xX12_then 3 := ⟨wd1288, wd848, by decide, by decide, by decide +kernel⟩
theorem fitX12_then_2 : z_Fit xX12_isRow xX12_then := by unfold z_Fit; simp only [xX12_isRow, xX12_then]; exact ⟨by decide, by decide⟩
theorem fitX12_then_9 : z_Fit xX12_isShort xX12_then := by unfold z_Fit; simp only [xX12_isShort, xX12_then]; exact ⟨by decide, by decide⟩
theorem fitX12_then_19 : z_Fit xX12_in xX12_then := by unfold z_Fit; simp only [xX12_in, xX12_then]; exact ⟨by decide, by decide⟩
theorem fitX12_then_28 : z_Fit xX12_copies xX12_then := by unfold z_Fit; simp only [xX12_copies, xX12_then]; exact ⟨by decide, by decide⟩
theorem fitX12_then_33 : z_Fit xX12_goes xX12_then := by unfold z_Fit; simp only [xX12_goes, xX12_then]; exact ⟨by decide, by decide⟩
theorem fitX12_then_49 : z_Fit xX12_seatAt xX12_then := by unfold z_Fit; simp only [xX12_seatAt, xX12_then]; exact ⟨by decide, by decide⟩
noncomputable def kX12_then_25 : zK zR := (q_push (-1) q_iret)
noncomputable def kX12_then_57 : zK zR := q_iret
noncomputable def kX12_then_0 : zK zR := (q_aload 0 (q_iload 1 (q_callV 12 fX12_isRow 1 (q_if_eq kX12_then_25 (q_iload 2 (q_callS fX12_isShort 1 (q_if_eq kX12_then_25 (q_iload 3 (q_push 0 (q_push 7 (q_callS fX12_in 3 (q_if_ne (q_aload 0 (q_callV 12 fX12_copies 0 (q_aload 0 (q_iload 2 (q_callV 12 fX12_goes 1 (q_iload 3 (q_aload 0 (q_getR 12 47 (q_iload 1 (q_iald (q_icmp_ge (q_push (-2) kX12_then_57) (q_aload 0 (q_iload 1 (q_iload 3 (q_callV 12 fX12_seatAt 2 kX12_then_57))))))))))))))) kX12_then_25))))))))))))
set_option maxRecDepth 100000 in
theorem tX12_then_25 {l : Launch} {D : zD} {B sz0 : Nat} {post : Option Value → zS → Prop} : zSnd l D B xX12_then sz0 post 25 kX12_then_25 (z_Jr post) := (s_iconst dX12_then_25 (by decide) (s_iret dX12_then_26 rfl))
set_option maxRecDepth 100000 in
theorem tX12_then_57 {l : Launch} {D : zD} {B sz0 : Nat} {post : Option Value → zS → Prop} : zSnd l D B xX12_then sz0 post 57 kX12_then_57 (z_Jr post) := (s_iret dX12_then_57 rfl)
set_option maxRecDepth 100000 in
theorem tX12_then_0 {l : Launch} {D : zD} {B sz0 : Nat} {post : Option Value → zS → Prop} : zSnd l D B xX12_then sz0 post 0 kX12_then_0 (z_Jr post) := (s_aload_n dX12_then_0 rfl (s_iload_n dX12_then_1 rfl (s_callV (r := (RX12, TX12, 74)) dX12_then_2 mX12_isRow meX12_isRow wd1042 wd1043 rfl rfl reX12_isRow rmX12_then (fitX12_then_2) wd1044 (s_if_eq (tgt := 25) dX12_then_5 (by decide) tX12_then_25 (s_iload_n dX12_then_8 rfl (s_callS dX12_then_9 mX12_isShort meX12_isShort wd1178 rfl reX12_isShort rmX12_then (fitX12_then_9) wd1179 (s_if_eq (tgt := 25) dX12_then_12 (by decide) tX12_then_25 (s_iload_n dX12_then_15 rfl (s_iconst dX12_then_16 (by decide) (s_bipush dX12_then_17 (by decide) (s_callS dX12_then_19 mX12_in meX12_in wd1033 rfl reX12_in rmX12_then (fitX12_then_19) wd1034 (s_if_ne (tgt := 27) dX12_then_22 (by decide) (s_aload_n dX12_then_27 rfl (s_callV (r := (RX12, TX12, 74)) dX12_then_28 mX12_copies meX12_copies wd1133 wd1134 rfl rfl reX12_copies rmX12_then (fitX12_then_28) wd1135 (s_aload_n dX12_then_31 rfl (s_iload_n dX12_then_32 rfl (s_callV (r := (RX12, TX12, 74)) dX12_then_33 mX12_goes meX12_goes wd1180 wd1181 rfl rfl reX12_goes rmX12_then (fitX12_then_33) wd1182 (s_iload_n dX12_then_36 rfl (s_aload_n dX12_then_37 rfl (s_getR (f := 47) dX12_then_38 clX12 (by decide) rfl wd856 (s_iload_n dX12_then_41 rfl (s_iald dX12_then_42 (s_icmp_ge (tgt := 55) dX12_then_43 (by decide) (s_bipush dX12_then_55 (by decide) tX12_then_57) (s_aload_n dX12_then_46 rfl (s_iload_n dX12_then_47 rfl (s_iload_n dX12_then_48 rfl (s_callV (r := (RX12, TX12, 74)) dX12_then_49 mX12_seatAt meX12_seatAt wd1064 wd1065 rfl rfl reX12_seatAt rmX12_then (fitX12_then_49) wd1066 (s_goto (tgt := 57) dX12_then_52 (by decide) tX12_then_57)))))))))))))))) tX12_then_25))))))))))))
noncomputable def fX12_then : zF := z_fn 4 kX12_then_0
theorem mX12_then {l : Launch} {D : zD} {B : Nat} : z_MF l D B yX12_then xX12_then fX12_then := z_mf (by decide) rfl (fun h => by cases h) rfl (fun as σ r h => ⟨z_fn_len h, kX12_then_0, z_fn_run h, fun _ => tX12_then_0⟩)
/-! ===== RowChildrenModel.paidIn ===== -/
theorem dX12_paidIn_0 : decode cX12_paidIn 0 = .ok (.iload_n 1, 1) := by decide +kernel
theorem dX12_paidIn_1 : decode cX12_paidIn 1 = .ok (.invokestatic 436, 3) := by decide +kernel
theorem dX12_paidIn_4 : decode cX12_paidIn 4 = .ok (.ifCond .ne 5, 3) := by decide +kernel
theorem dX12_paidIn_7 : decode cX12_paidIn 7 = .ok (.iconst (-1), 1) := by decide +kernel
theorem dX12_paidIn_8 : decode cX12_paidIn 8 = .ok (.ireturn, 1) := by decide +kernel
theorem dX12_paidIn_9 : decode cX12_paidIn 9 = .ok (.aload_n 0, 1) := by decide +kernel
theorem dX12_paidIn_10 : decode cX12_paidIn 10 = .ok (.invokevirtual 401, 3) := by decide +kernel
theorem dX12_paidIn_13 : decode cX12_paidIn 13 = .ok (.aload_n 0, 1) := by decide +kernel
theorem dX12_paidIn_14 : decode cX12_paidIn 14 = .ok (.iload_n 1, 1) := by decide +kernel
theorem dX12_paidIn_15 : decode cX12_paidIn 15 = .ok (.invokevirtual 439, 3) := by decide +kernel
theorem dX12_paidIn_18 : decode cX12_paidIn 18 = .ok (.aload_n 0, 1) := by decide +kernel
theorem dX12_paidIn_19 : decode cX12_paidIn 19 = .ok (.getfield 107, 3) := by decide +kernel
theorem dX12_paidIn_22 : decode cX12_paidIn 22 = .ok (.bipush 37, 2) := by decide +kernel
theorem dX12_paidIn_24 : decode cX12_paidIn 24 = .ok (.iaload, 1) := by decide +kernel
theorem dX12_paidIn_25 : decode cX12_paidIn 25 = .ok (.ireturn, 1) := by decide +kernel
def xX12_paidIn : zX := (RX12, cX12_paidIn, 2, (some .int), false, { frames := 8, cells := 0, slots := 0, locals := 248 }, 0, 0, 0, 0)
theorem rmX12_paidIn : z_Rm xX12_paidIn := by unfold z_Rm xX12_paidIn; exact ⟨by decide, by decide⟩
theorem reX12_paidIn : z_Re xX12_paidIn := ⟨rfl, rfl⟩
theorem rlX12_paidIn : 1 ≤ xX12_paidIn.2.2.2.2.2.1.frames ∧ 21 ≤ xX12_paidIn.2.2.2.2.2.1.locals := by unfold xX12_paidIn; exact ⟨by decide, by decide⟩
theorem meX12_paidIn : z_Me yX12_paidIn xX12_paidIn 1 := ⟨wd1289, wd848, by decide, by decide, by decide +kernel⟩
theorem fitX12_paidIn_1 : z_Fit xX12_isShort xX12_paidIn := by unfold z_Fit; simp only [xX12_isShort, xX12_paidIn]; exact ⟨by decide, by decide⟩
theorem fitX12_paidIn_10 : z_Fit xX12_copies xX12_paidIn := by unfold z_Fit; simp only [xX12_copies, xX12_paidIn]; exact ⟨by decide, by decide⟩
theorem fitX12_paidIn_15 : z_Fit xX12_goes xX12_paidIn := by unfold z_Fit; simp only [xX12_goes, xX12_paidIn]; exact ⟨by decide, by decide⟩
noncomputable def kX12_paidIn_0 : zK zR := (q_iload 1 (q_callS fX12_isShort 1 (q_if_ne (q_aload 0 (q_callV 12 fX12_copies 0 (q_aload 0 (q_iload 1 (q_callV 12 fX12_goes 1 (q_aload 0 (q_getR 12 47 (q_push 37 (q_iald q_iret))))))))) (q_push (-1) q_iret))))
set_option maxRecDepth 100000 in
theorem tX12_paidIn_0 {l : Launch} {D : zD} {B sz0 : Nat} {post : Option Value → zS → Prop} : zSnd l D B xX12_paidIn sz0 post 0 kX12_paidIn_0 (z_Jr post) := (s_iload_n dX12_paidIn_0 rfl (s_callS dX12_paidIn_1 mX12_isShort meX12_isShort wd1178 rfl reX12_isShort rmX12_paidIn (fitX12_paidIn_1) wd1179 (s_if_ne (tgt := 9) dX12_paidIn_4 (by decide) (s_aload_n dX12_paidIn_9 rfl (s_callV (r := (RX12, TX12, 74)) dX12_paidIn_10 mX12_copies meX12_copies wd1133 wd1134 rfl rfl reX12_copies rmX12_paidIn (fitX12_paidIn_10) wd1135 (s_aload_n dX12_paidIn_13 rfl (s_iload_n dX12_paidIn_14 rfl (s_callV (r := (RX12, TX12, 74)) dX12_paidIn_15 mX12_goes meX12_goes wd1180 wd1181 rfl rfl reX12_goes rmX12_paidIn (fitX12_paidIn_15) wd1182 (s_aload_n dX12_paidIn_18 rfl (s_getR (f := 47) dX12_paidIn_19 clX12 (by decide) rfl wd856 (s_bipush dX12_paidIn_22 (by decide) (s_iald dX12_paidIn_24 (s_iret dX12_paidIn_25 rfl)))))))))) (s_iconst dX12_paidIn_7 (by decide) (s_iret dX12_paidIn_8 rfl)))))
noncomputable def fX12_paidIn : zF := z_fn 2 kX12_paidIn_0
theorem mX12_paidIn {l : Launch} {D : zD} {B : Nat} : z_MF l D B yX12_paidIn xX12_paidIn fX12_paidIn := z_mf (by decide) rfl (fun h => by cases h) rfl (fun as σ r h => ⟨z_fn_len h, kX12_paidIn_0, z_fn_run h, fun _ => tX12_paidIn_0⟩)
/-! ===== RowChildrenModel.year ===== -/
theorem dX12_year_0 : decode cX12_year 0 = .ok (.aload_n 0, 1) := by decide +kernel
theorem dX12_year_1 : decode cX12_year 1 = .ok (.iload_n 1, 1) := by decide +kernel
theorem dX12_year_2 : decode cX12_year 2 = .ok (.invokevirtual 330, 3) := by decide +kernel
theorem dX12_year_5 : decode cX12_year 5 = .ok (.ifCond .eq 29, 3) := by decide +kernel
theorem dX12_year_8 : decode cX12_year 8 = .ok (.aload_n 0, 1) := by decide +kernel
theorem dX12_year_9 : decode cX12_year 9 = .ok (.iload_n 2, 1) := by decide +kernel
theorem dX12_year_10 : decode cX12_year 10 = .ok (.invokevirtual 398, 3) := by decide +kernel
theorem dX12_year_13 : decode cX12_year 13 = .ok (.ifCond .eq 21, 3) := by decide +kernel
theorem dX12_year_16 : decode cX12_year 16 = .ok (.iload_n 3, 1) := by decide +kernel
theorem dX12_year_17 : decode cX12_year 17 = .ok (.invokestatic 436, 3) := by decide +kernel
theorem dX12_year_20 : decode cX12_year 20 = .ok (.ifCond .eq 14, 3) := by decide +kernel
theorem dX12_year_23 : decode cX12_year 23 = .ok (.iload 4, 2) := by decide +kernel
theorem dX12_year_25 : decode cX12_year 25 = .ok (.iconst 1, 1) := by decide +kernel
theorem dX12_year_26 : decode cX12_year 26 = .ok (.bipush 20, 2) := by decide +kernel
theorem dX12_year_28 : decode cX12_year 28 = .ok (.invokestatic 323, 3) := by decide +kernel
theorem dX12_year_31 : decode cX12_year 31 = .ok (.ifCond .ne 5, 3) := by decide +kernel
theorem dX12_year_34 : decode cX12_year 34 = .ok (.iconst (-1), 1) := by decide +kernel
theorem dX12_year_35 : decode cX12_year 35 = .ok (.ireturn, 1) := by decide +kernel
theorem dX12_year_36 : decode cX12_year 36 = .ok (.iconst 0, 1) := by decide +kernel
theorem dX12_year_37 : decode cX12_year 37 = .ok (.istore 5, 2) := by decide +kernel
theorem dX12_year_39 : decode cX12_year 39 = .ok (.iconst 0, 1) := by decide +kernel
theorem dX12_year_40 : decode cX12_year 40 = .ok (.istore 6, 2) := by decide +kernel
theorem dX12_year_42 : decode cX12_year 42 = .ok (.iload 6, 2) := by decide +kernel
theorem dX12_year_44 : decode cX12_year 44 = .ok (.iload 4, 2) := by decide +kernel
theorem dX12_year_46 : decode cX12_year 46 = .ok (.if_icmp .ge 42, 3) := by decide +kernel
theorem dX12_year_49 : decode cX12_year 49 = .ok (.aload_n 0, 1) := by decide +kernel
theorem dX12_year_50 : decode cX12_year 50 = .ok (.invokevirtual 401, 3) := by decide +kernel
theorem dX12_year_53 : decode cX12_year 53 = .ok (.aload_n 0, 1) := by decide +kernel
theorem dX12_year_54 : decode cX12_year 54 = .ok (.dup, 1) := by decide +kernel
theorem dX12_year_55 : decode cX12_year 55 = .ok (.getfield 333, 3) := by decide +kernel
theorem dX12_year_58 : decode cX12_year 58 = .ok (.iload 6, 2) := by decide +kernel
theorem dX12_year_60 : decode cX12_year 60 = .ok (.iadd, 1) := by decide +kernel
theorem dX12_year_61 : decode cX12_year 61 = .ok (.putfield 333, 3) := by decide +kernel
theorem dX12_year_64 : decode cX12_year 64 = .ok (.aload_n 0, 1) := by decide +kernel
theorem dX12_year_65 : decode cX12_year 65 = .ok (.iload_n 3, 1) := by decide +kernel
theorem dX12_year_66 : decode cX12_year 66 = .ok (.invokevirtual 439, 3) := by decide +kernel
theorem dX12_year_69 : decode cX12_year 69 = .ok (.aload_n 0, 1) := by decide +kernel
theorem dX12_year_70 : decode cX12_year 70 = .ok (.iload_n 1, 1) := by decide +kernel
theorem dX12_year_71 : decode cX12_year 71 = .ok (.iconst 0, 1) := by decide +kernel
theorem dX12_year_72 : decode cX12_year 72 = .ok (.invokevirtual 349, 3) := by decide +kernel
theorem dX12_year_75 : decode cX12_year 75 = .ok (.iload_n 2, 1) := by decide +kernel
theorem dX12_year_76 : decode cX12_year 76 = .ok (.if_icmp .ne 6, 3) := by decide +kernel
theorem dX12_year_79 : decode cX12_year 79 = .ok (.iinc 5 1, 3) := by decide +kernel
theorem dX12_year_82 : decode cX12_year 82 = .ok (.iinc 6 1, 3) := by decide +kernel
theorem dX12_year_85 : decode cX12_year 85 = .ok (.goto (-43), 3) := by decide +kernel
theorem dX12_year_88 : decode cX12_year 88 = .ok (.iload 5, 2) := by decide +kernel
theorem dX12_year_90 : decode cX12_year 90 = .ok (.ireturn, 1) := by decide +kernel
def xX12_year : zX := (RX12, cX12_year, 7, (some .int), false, { frames := 8, cells := 0, slots := 0, locals := 248 }, 0, 0, 0, 0)
theorem rmX12_year : z_Rm xX12_year := by unfold z_Rm xX12_year; exact ⟨by decide, by decide⟩
theorem reX12_year : z_Re xX12_year := ⟨rfl, rfl⟩
theorem rlX12_year : 1 ≤ xX12_year.2.2.2.2.2.1.frames ∧ 21 ≤ xX12_year.2.2.2.2.2.1.locals := by unfold xX12_year; exact ⟨by decide, by decide⟩
theorem meX12_year : z_Me yX12_year xX12_year 4 := ⟨wd1290, wd848, by decide, by decide, by decide +kernel⟩
theorem fitX12_year_2 : z_Fit xX12_isRow xX12_year := by unfold z_Fit; simp only [xX12_isRow, xX12_year]; exact ⟨by decide, by decide⟩
theorem fitX12_year_10 : z_Fit xX12_isColour xX12_year := by unfold z_Fit; simp only [xX12_isColour, xX12_year]; exact ⟨by decide, by decide⟩
theorem fitX12_year_17 : z_Fit xX12_isShort xX12_year := by unfold z_Fit; simp only [xX12_isShort, xX12_year]; exact ⟨by decide, by decide⟩
theorem fitX12_year_28 : z_Fit xX12_in xX12_year := by unfold z_Fit; simp only [xX12_in, xX12_year]; exact ⟨by decide, by decide⟩
theorem fitX12_year_50 : z_Fit xX12_copies xX12_year := by unfold z_Fit; simp only [xX12_copies, xX12_year]; exact ⟨by decide, by decide⟩
theorem fitX12_year_66 : z_Fit xX12_goes xX12_year := by unfold z_Fit; simp only [xX12_goes, xX12_year]; exact ⟨by decide, by decide⟩
theorem fitX12_year_72 : z_Fit xX12_seatAt xX12_year := by unfold z_Fit; simp only [xX12_seatAt, xX12_year]; exact ⟨by decide, by decide⟩
noncomputable def kX12_year_34 : zK zR := (q_push (-1) q_iret)
noncomputable def kX12_year_88 : zK zR := (q_iload 5 q_iret)
noncomputable def kX12_year_82 : zK ((zL × zS) ⊕ zR) := (q_iinc 6 1 q_ag)
noncomputable def bX12_year_42 : zK ((zL × zS) ⊕ zR) := (q_iload 6 (q_iload 4 (q_icmp_ge (q_dn kX12_year_88) (q_aload 0 (q_callV 12 fX12_copies 0 (q_aload 0 (q_dup (q_getI 12 48 (q_iload 6 (q_iadd (q_putI 12 48 (q_aload 0 (q_iload 3 (q_callV 12 fX12_goes 1 (q_aload 0 (q_iload 1 (q_push 0 (q_callV 12 fX12_seatAt 2 (q_iload 2 (q_icmp_ne kX12_year_82 (q_iinc 5 1 kX12_year_82)))))))))))))))))))))
noncomputable def kX12_year_42 : zK zR := q_lp (bX12_year_42)
noncomputable def kX12_year_0 : zK zR := (q_aload 0 (q_iload 1 (q_callV 12 fX12_isRow 1 (q_if_eq kX12_year_34 (q_aload 0 (q_iload 2 (q_callV 12 fX12_isColour 1 (q_if_eq kX12_year_34 (q_iload 3 (q_callS fX12_isShort 1 (q_if_eq kX12_year_34 (q_iload 4 (q_push 1 (q_push 20 (q_callS fX12_in 3 (q_if_ne (q_push 0 (q_istore 5 (q_push 0 (q_istore 6 kX12_year_42)))) kX12_year_34))))))))))))))))
set_option maxRecDepth 100000 in
theorem tX12_year_34 {l : Launch} {D : zD} {B sz0 : Nat} {post : Option Value → zS → Prop} : zSnd l D B xX12_year sz0 post 34 kX12_year_34 (z_Jr post) := (s_iconst dX12_year_34 (by decide) (s_iret dX12_year_35 rfl))
set_option maxRecDepth 100000 in
theorem tX12_year_88 {l : Launch} {D : zD} {B sz0 : Nat} {post : Option Value → zS → Prop} : zSnd l D B xX12_year sz0 post 88 kX12_year_88 (z_Jr post) := (s_iload dX12_year_88 (s_iret dX12_year_90 rfl))
set_option maxRecDepth 100000 in
theorem tX12_year_82 {l : Launch} {D : zD} {B sz0 : Nat} {post : Option Value → zS → Prop} : zSnd l D B xX12_year sz0 post 82 kX12_year_82 (z_Jl l D B xX12_year sz0 post 42 (z_Jr post)) := (s_iinc dX12_year_82 (by decide) (s_goto (tgt := 42) dX12_year_85 (by decide) s_ag))
set_option maxRecDepth 100000 in
theorem tX12_year_42 {l : Launch} {D : zD} {B sz0 : Nat} {post : Option Value → zS → Prop} : zSnd l D B xX12_year sz0 post 42 kX12_year_42 (z_Jr post) := s_lp (body := bX12_year_42) (s_iload dX12_year_42 (s_iload dX12_year_44 (s_icmp_ge (tgt := 88) dX12_year_46 (by decide) (s_dn tX12_year_88) (s_aload_n dX12_year_49 rfl (s_callV (r := (RX12, TX12, 74)) dX12_year_50 mX12_copies meX12_copies wd1133 wd1134 rfl rfl reX12_copies rmX12_year (fitX12_year_50) wd1135 (s_aload_n dX12_year_53 rfl (s_dup dX12_year_54 (s_getI (f := 48) dX12_year_55 clX12 (by decide) rfl wd855 (s_iload dX12_year_58 (s_iadd dX12_year_60 (s_putI (f := 48) dX12_year_61 clX12 (by decide) rfl rfl rfl wd855 (s_aload_n dX12_year_64 rfl (s_iload_n dX12_year_65 rfl (s_callV (r := (RX12, TX12, 74)) dX12_year_66 mX12_goes meX12_goes wd1180 wd1181 rfl rfl reX12_goes rmX12_year (fitX12_year_66) wd1182 (s_aload_n dX12_year_69 rfl (s_iload_n dX12_year_70 rfl (s_iconst dX12_year_71 (by decide) (s_callV (r := (RX12, TX12, 74)) dX12_year_72 mX12_seatAt meX12_seatAt wd1064 wd1065 rfl rfl reX12_seatAt rmX12_year (fitX12_year_72) wd1066 (s_iload_n dX12_year_75 rfl (s_icmp_ne (tgt := 82) dX12_year_76 (by decide) tX12_year_82 (s_iinc dX12_year_79 (by decide) tX12_year_82)))))))))))))))))))))
set_option maxRecDepth 100000 in
theorem tX12_year_0 {l : Launch} {D : zD} {B sz0 : Nat} {post : Option Value → zS → Prop} : zSnd l D B xX12_year sz0 post 0 kX12_year_0 (z_Jr post) := (s_aload_n dX12_year_0 rfl (s_iload_n dX12_year_1 rfl (s_callV (r := (RX12, TX12, 74)) dX12_year_2 mX12_isRow meX12_isRow wd1042 wd1043 rfl rfl reX12_isRow rmX12_year (fitX12_year_2) wd1044 (s_if_eq (tgt := 34) dX12_year_5 (by decide) tX12_year_34 (s_aload_n dX12_year_8 rfl (s_iload_n dX12_year_9 rfl (s_callV (r := (RX12, TX12, 74)) dX12_year_10 mX12_isColour meX12_isColour wd1129 wd1130 rfl rfl reX12_isColour rmX12_year (fitX12_year_10) wd1131 (s_if_eq (tgt := 34) dX12_year_13 (by decide) tX12_year_34 (s_iload_n dX12_year_16 rfl (s_callS dX12_year_17 mX12_isShort meX12_isShort wd1178 rfl reX12_isShort rmX12_year (fitX12_year_17) wd1179 (s_if_eq (tgt := 34) dX12_year_20 (by decide) tX12_year_34 (s_iload dX12_year_23 (s_iconst dX12_year_25 (by decide) (s_bipush dX12_year_26 (by decide) (s_callS dX12_year_28 mX12_in meX12_in wd1033 rfl reX12_in rmX12_year (fitX12_year_28) wd1034 (s_if_ne (tgt := 36) dX12_year_31 (by decide) (s_iconst dX12_year_36 (by decide) (s_istore dX12_year_37 (s_iconst dX12_year_39 (by decide) (s_istore dX12_year_40 tX12_year_42)))) tX12_year_34))))))))))))))))
noncomputable def fX12_year : zF := z_fn 7 kX12_year_0
theorem mX12_year {l : Launch} {D : zD} {B : Nat} : z_MF l D B yX12_year xX12_year fX12_year := z_mf (by decide) rfl (fun h => by cases h) rfl (fun as σ r h => ⟨z_fn_len h, kX12_year_0, z_fn_run h, fun _ => tX12_year_0⟩)
/-! ===== RowChildrenModel.tell ===== -/
theorem dX12_tell_0 : decode cX12_tell 0 = .ok (.aload_n 0, 1) := by decide +kernel
theorem dX12_tell_1 : decode cX12_tell 1 = .ok (.getfield 274, 3) := by decide +kernel
theorem dX12_tell_4 : decode cX12_tell 4 = .ok (.bipush 20, 2) := by decide +kernel
theorem dX12_tell_6 : decode cX12_tell 6 = .ok (.if_icmp .eq 29, 3) := by decide +kernel
theorem dX12_tell_9 : decode cX12_tell 9 = .ok (.iload_n 1, 1) := by decide +kernel
theorem dX12_tell_10 : decode cX12_tell 10 = .ok (.iconst 0, 1) := by decide +kernel
theorem dX12_tell_11 : decode cX12_tell 11 = .ok (.iconst 5, 1) := by decide +kernel
theorem dX12_tell_12 : decode cX12_tell 12 = .ok (.invokestatic 323, 3) := by decide +kernel
theorem dX12_tell_15 : decode cX12_tell 15 = .ok (.ifCond .eq 20, 3) := by decide +kernel
theorem dX12_tell_18 : decode cX12_tell 18 = .ok (.iload_n 2, 1) := by decide +kernel
theorem dX12_tell_19 : decode cX12_tell 19 = .ok (.iconst 0, 1) := by decide +kernel
theorem dX12_tell_20 : decode cX12_tell 20 = .ok (.iconst 5, 1) := by decide +kernel
theorem dX12_tell_21 : decode cX12_tell 21 = .ok (.invokestatic 323, 3) := by decide +kernel
theorem dX12_tell_24 : decode cX12_tell 24 = .ok (.ifCond .eq 11, 3) := by decide +kernel
theorem dX12_tell_27 : decode cX12_tell 27 = .ok (.aload_n 0, 1) := by decide +kernel
theorem dX12_tell_28 : decode cX12_tell 28 = .ok (.iload_n 3, 1) := by decide +kernel
theorem dX12_tell_29 : decode cX12_tell 29 = .ok (.invokevirtual 398, 3) := by decide +kernel
theorem dX12_tell_32 : decode cX12_tell 32 = .ok (.ifCond .ne 5, 3) := by decide +kernel
theorem dX12_tell_35 : decode cX12_tell 35 = .ok (.iconst (-1), 1) := by decide +kernel
theorem dX12_tell_36 : decode cX12_tell 36 = .ok (.ireturn, 1) := by decide +kernel
theorem dX12_tell_37 : decode cX12_tell 37 = .ok (.aload_n 0, 1) := by decide +kernel
theorem dX12_tell_38 : decode cX12_tell 38 = .ok (.getfield 147, 3) := by decide +kernel
theorem dX12_tell_41 : decode cX12_tell 41 = .ok (.aload_n 0, 1) := by decide +kernel
theorem dX12_tell_42 : decode cX12_tell 42 = .ok (.getfield 274, 3) := by decide +kernel
theorem dX12_tell_45 : decode cX12_tell 45 = .ok (.iload_n 1, 1) := by decide +kernel
theorem dX12_tell_46 : decode cX12_tell 46 = .ok (.iastore, 1) := by decide +kernel
theorem dX12_tell_47 : decode cX12_tell 47 = .ok (.aload_n 0, 1) := by decide +kernel
theorem dX12_tell_48 : decode cX12_tell 48 = .ok (.getfield 150, 3) := by decide +kernel
theorem dX12_tell_51 : decode cX12_tell 51 = .ok (.aload_n 0, 1) := by decide +kernel
theorem dX12_tell_52 : decode cX12_tell 52 = .ok (.getfield 274, 3) := by decide +kernel
theorem dX12_tell_55 : decode cX12_tell 55 = .ok (.iload_n 2, 1) := by decide +kernel
theorem dX12_tell_56 : decode cX12_tell 56 = .ok (.iastore, 1) := by decide +kernel
theorem dX12_tell_57 : decode cX12_tell 57 = .ok (.aload_n 0, 1) := by decide +kernel
theorem dX12_tell_58 : decode cX12_tell 58 = .ok (.getfield 153, 3) := by decide +kernel
theorem dX12_tell_61 : decode cX12_tell 61 = .ok (.aload_n 0, 1) := by decide +kernel
theorem dX12_tell_62 : decode cX12_tell 62 = .ok (.getfield 274, 3) := by decide +kernel
theorem dX12_tell_65 : decode cX12_tell 65 = .ok (.iload_n 3, 1) := by decide +kernel
theorem dX12_tell_66 : decode cX12_tell 66 = .ok (.iastore, 1) := by decide +kernel
theorem dX12_tell_67 : decode cX12_tell 67 = .ok (.aload_n 0, 1) := by decide +kernel
theorem dX12_tell_68 : decode cX12_tell 68 = .ok (.getfield 156, 3) := by decide +kernel
theorem dX12_tell_71 : decode cX12_tell 71 = .ok (.aload_n 0, 1) := by decide +kernel
theorem dX12_tell_72 : decode cX12_tell 72 = .ok (.getfield 274, 3) := by decide +kernel
theorem dX12_tell_75 : decode cX12_tell 75 = .ok (.iload 4, 2) := by decide +kernel
theorem dX12_tell_77 : decode cX12_tell 77 = .ok (.bastore, 1) := by decide +kernel
theorem dX12_tell_78 : decode cX12_tell 78 = .ok (.aload_n 0, 1) := by decide +kernel
theorem dX12_tell_79 : decode cX12_tell 79 = .ok (.dup, 1) := by decide +kernel
theorem dX12_tell_80 : decode cX12_tell 80 = .ok (.getfield 274, 3) := by decide +kernel
theorem dX12_tell_83 : decode cX12_tell 83 = .ok (.iconst 1, 1) := by decide +kernel
theorem dX12_tell_84 : decode cX12_tell 84 = .ok (.iadd, 1) := by decide +kernel
theorem dX12_tell_85 : decode cX12_tell 85 = .ok (.putfield 274, 3) := by decide +kernel
theorem dX12_tell_88 : decode cX12_tell 88 = .ok (.aload_n 0, 1) := by decide +kernel
theorem dX12_tell_89 : decode cX12_tell 89 = .ok (.getfield 274, 3) := by decide +kernel
theorem dX12_tell_92 : decode cX12_tell 92 = .ok (.iconst 1, 1) := by decide +kernel
theorem dX12_tell_93 : decode cX12_tell 93 = .ok (.isub, 1) := by decide +kernel
theorem dX12_tell_94 : decode cX12_tell 94 = .ok (.ireturn, 1) := by decide +kernel
def xX12_tell : zX := (RX12, cX12_tell, 5, (some .int), false, { frames := 3, cells := 0, slots := 0, locals := 133 }, 0, 0, 0, 0)
theorem rmX12_tell : z_Rm xX12_tell := by unfold z_Rm xX12_tell; exact ⟨by decide, by decide⟩
theorem reX12_tell : z_Re xX12_tell := ⟨rfl, rfl⟩
theorem rlX12_tell : 1 ≤ xX12_tell.2.2.2.2.2.1.frames ∧ 21 ≤ xX12_tell.2.2.2.2.2.1.locals := by unfold xX12_tell; exact ⟨by decide, by decide⟩
theorem meX12_tell : z_Me yX12_tell xX12_tell 4 := ⟨wd1291, wd848, by decide, by decide, by decide +kernel⟩
theorem fitX12_tell_12 : z_Fit xX12_in xX12_tell := by unfold z_Fit; simp only [xX12_in, xX12_tell]; exact ⟨by decide, by decide⟩
theorem fitX12_tell_21 : z_Fit xX12_in xX12_tell := by unfold z_Fit; simp only [xX12_in, xX12_tell]; exact ⟨by decide, by decide⟩
theorem fitX12_tell_29 : z_Fit xX12_isColour xX12_tell := by unfold z_Fit; simp only [xX12_isColour, xX12_tell]; exact ⟨by decide, by decide⟩
noncomputable def kX12_tell_35 : zK zR := (q_push (-1) q_iret)
noncomputable def kX12_tell_0 : zK zR := (q_aload 0 (q_getI 12 66 (q_push 20 (q_icmp_eq kX12_tell_35 (q_iload 1 (q_push 0 (q_push 5 (q_callS fX12_in 3 (q_if_eq kX12_tell_35 (q_iload 2 (q_push 0 (q_push 5 (q_callS fX12_in 3 (q_if_eq kX12_tell_35 (q_aload 0 (q_iload 3 (q_callV 12 fX12_isColour 1 (q_if_ne (q_aload 0 (q_getR 12 67 (q_aload 0 (q_getI 12 66 (q_iload 1 (q_iast (q_aload 0 (q_getR 12 68 (q_aload 0 (q_getI 12 66 (q_iload 2 (q_iast (q_aload 0 (q_getR 12 69 (q_aload 0 (q_getI 12 66 (q_iload 3 (q_iast (q_aload 0 (q_getR 12 70 (q_aload 0 (q_getI 12 66 (q_iload 4 (q_zast (q_aload 0 (q_dup (q_getI 12 66 (q_push 1 (q_iadd (q_putI 12 66 (q_aload 0 (q_getI 12 66 (q_push 1 (q_isub q_iret)))))))))))))))))))))))))))))))))) kX12_tell_35))))))))))))))))))
set_option maxRecDepth 100000 in
theorem tX12_tell_35 {l : Launch} {D : zD} {B sz0 : Nat} {post : Option Value → zS → Prop} : zSnd l D B xX12_tell sz0 post 35 kX12_tell_35 (z_Jr post) := (s_iconst dX12_tell_35 (by decide) (s_iret dX12_tell_36 rfl))
set_option maxRecDepth 100000 in
theorem tX12_tell_0 {l : Launch} {D : zD} {B sz0 : Nat} {post : Option Value → zS → Prop} : zSnd l D B xX12_tell sz0 post 0 kX12_tell_0 (z_Jr post) := (s_aload_n dX12_tell_0 rfl (s_getI (f := 66) dX12_tell_1 clX12 (by decide) rfl wd1022 (s_bipush dX12_tell_4 (by decide) (s_icmp_eq (tgt := 35) dX12_tell_6 (by decide) tX12_tell_35 (s_iload_n dX12_tell_9 rfl (s_iconst dX12_tell_10 (by decide) (s_iconst dX12_tell_11 (by decide) (s_callS dX12_tell_12 mX12_in meX12_in wd1033 rfl reX12_in rmX12_tell (fitX12_tell_12) wd1034 (s_if_eq (tgt := 35) dX12_tell_15 (by decide) tX12_tell_35 (s_iload_n dX12_tell_18 rfl (s_iconst dX12_tell_19 (by decide) (s_iconst dX12_tell_20 (by decide) (s_callS dX12_tell_21 mX12_in meX12_in wd1033 rfl reX12_in rmX12_tell (fitX12_tell_21) wd1034 (s_if_eq (tgt := 35) dX12_tell_24 (by decide) tX12_tell_35 (s_aload_n dX12_tell_27 rfl (s_iload_n dX12_tell_28 rfl (s_callV (r := (RX12, TX12, 74)) dX12_tell_29 mX12_isColour meX12_isColour wd1129 wd1130 rfl rfl reX12_isColour rmX12_tell (fitX12_tell_29) wd1131 (s_if_ne (tgt := 37) dX12_tell_32 (by decide) (s_aload_n dX12_tell_37 rfl (s_getR (f := 67) dX12_tell_38 clX12 (by decide) rfl wd895 (s_aload_n dX12_tell_41 rfl (s_getI (f := 66) dX12_tell_42 clX12 (by decide) rfl wd1022 (s_iload_n dX12_tell_45 rfl (s_iast dX12_tell_46 (s_aload_n dX12_tell_47 rfl (s_getR (f := 68) dX12_tell_48 clX12 (by decide) rfl wd896 (s_aload_n dX12_tell_51 rfl (s_getI (f := 66) dX12_tell_52 clX12 (by decide) rfl wd1022 (s_iload_n dX12_tell_55 rfl (s_iast dX12_tell_56 (s_aload_n dX12_tell_57 rfl (s_getR (f := 69) dX12_tell_58 clX12 (by decide) rfl wd897 (s_aload_n dX12_tell_61 rfl (s_getI (f := 66) dX12_tell_62 clX12 (by decide) rfl wd1022 (s_iload_n dX12_tell_65 rfl (s_iast dX12_tell_66 (s_aload_n dX12_tell_67 rfl (s_getR (f := 70) dX12_tell_68 clX12 (by decide) rfl wd898 (s_aload_n dX12_tell_71 rfl (s_getI (f := 66) dX12_tell_72 clX12 (by decide) rfl wd1022 (s_iload dX12_tell_75 (s_zast dX12_tell_77 (s_aload_n dX12_tell_78 rfl (s_dup dX12_tell_79 (s_getI (f := 66) dX12_tell_80 clX12 (by decide) rfl wd1022 (s_iconst dX12_tell_83 (by decide) (s_iadd dX12_tell_84 (s_putI (f := 66) dX12_tell_85 clX12 (by decide) rfl rfl rfl wd1022 (s_aload_n dX12_tell_88 rfl (s_getI (f := 66) dX12_tell_89 clX12 (by decide) rfl wd1022 (s_iconst dX12_tell_92 (by decide) (s_isub dX12_tell_93 (s_iret dX12_tell_94 rfl))))))))))))))))))))))))))))))))))) tX12_tell_35))))))))))))))))))
noncomputable def fX12_tell : zF := z_fn 5 kX12_tell_0
theorem mX12_tell {l : Launch} {D : zD} {B : Nat} : z_MF l D B yX12_tell xX12_tell fX12_tell := z_mf (by decide) rfl (fun h => by cases h) rfl (fun as σ r h => ⟨z_fn_len h, kX12_tell_0, z_fn_run h, fun _ => tX12_tell_0⟩)
/-! ===== RowChildrenModel.forget ===== -/
theorem dX12_forget_0 : decode cX12_forget 0 = .ok (.aload_n 0, 1) := by decide +kernel
theorem dX12_forget_1 : decode cX12_forget 1 = .ok (.getfield 274, 3) := by decide +kernel
theorem dX12_forget_4 : decode cX12_forget 4 = .ok (.istore_n 1, 1) := by decide +kernel
theorem dX12_forget_5 : decode cX12_forget 5 = .ok (.aload_n 0, 1) := by decide +kernel
theorem dX12_forget_6 : decode cX12_forget 6 = .ok (.iconst 0, 1) := by decide +kernel
theorem dX12_forget_7 : decode cX12_forget 7 = .ok (.putfield 274, 3) := by decide +kernel
theorem dX12_forget_10 : decode cX12_forget 10 = .ok (.iload_n 1, 1) := by decide +kernel
theorem dX12_forget_11 : decode cX12_forget 11 = .ok (.ireturn, 1) := by decide +kernel
def xX12_forget : zX := (RX12, cX12_forget, 2, (some .int), false, { frames := 1, cells := 0, slots := 0, locals := 90 }, 0, 0, 0, 0)
theorem rmX12_forget : z_Rm xX12_forget := by unfold z_Rm xX12_forget; exact ⟨by decide, by decide⟩
theorem reX12_forget : z_Re xX12_forget := ⟨rfl, rfl⟩
theorem rlX12_forget : 1 ≤ xX12_forget.2.2.2.2.2.1.frames ∧ 21 ≤ xX12_forget.2.2.2.2.2.1.locals := by unfold xX12_forget; exact ⟨by decide, by decide⟩
theorem meX12_forget : z_Me yX12_forget xX12_forget 0 := ⟨wd1292, wd848, by decide, by decide, by decide +kernel⟩
noncomputable def kX12_forget_0 : zK zR := (q_aload 0 (q_getI 12 66 (q_istore 1 (q_aload 0 (q_push 0 (q_putI 12 66 (q_iload 1 q_iret)))))))
set_option maxRecDepth 100000 in
theorem tX12_forget_0 {l : Launch} {D : zD} {B sz0 : Nat} {post : Option Value → zS → Prop} : zSnd l D B xX12_forget sz0 post 0 kX12_forget_0 (z_Jr post) := (s_aload_n dX12_forget_0 rfl (s_getI (f := 66) dX12_forget_1 clX12 (by decide) rfl wd1022 (s_istore_n dX12_forget_4 rfl (s_aload_n dX12_forget_5 rfl (s_iconst dX12_forget_6 (by decide) (s_putI (f := 66) dX12_forget_7 clX12 (by decide) rfl rfl rfl wd1022 (s_iload_n dX12_forget_10 rfl (s_iret dX12_forget_11 rfl))))))))
noncomputable def fX12_forget : zF := z_fn 2 kX12_forget_0
theorem mX12_forget {l : Launch} {D : zD} {B : Nat} : z_MF l D B yX12_forget xX12_forget fX12_forget := z_mf (by decide) rfl (fun h => by cases h) rfl (fun as σ r h => ⟨z_fn_len h, kX12_forget_0, z_fn_run h, fun _ => tX12_forget_0⟩)
/-! ===== RowChildrenModel.doesFit ===== -/
theorem dX12_doesFit_0 : decode cX12_doesFit 0 = .ok (.aload_n 0, 1) := by decide +kernel
theorem dX12_doesFit_1 : decode cX12_doesFit 1 = .ok (.iload_n 1, 1) := by decide +kernel
theorem dX12_doesFit_2 : decode cX12_doesFit 2 = .ok (.iload_n 3, 1) := by decide +kernel
theorem dX12_doesFit_3 : decode cX12_doesFit 3 = .ok (.invokevirtual 448, 3) := by decide +kernel
theorem dX12_doesFit_6 : decode cX12_doesFit 6 = .ok (.iconst 0, 1) := by decide +kernel
theorem dX12_doesFit_7 : decode cX12_doesFit 7 = .ok (.istore 4, 2) := by decide +kernel
theorem dX12_doesFit_9 : decode cX12_doesFit 9 = .ok (.iload 4, 2) := by decide +kernel
theorem dX12_doesFit_11 : decode cX12_doesFit 11 = .ok (.iload_n 2, 1) := by decide +kernel
theorem dX12_doesFit_12 : decode cX12_doesFit 12 = .ok (.if_icmp .ge 77, 3) := by decide +kernel
theorem dX12_doesFit_15 : decode cX12_doesFit 15 = .ok (.aload_n 0, 1) := by decide +kernel
theorem dX12_doesFit_16 : decode cX12_doesFit 16 = .ok (.aload_n 0, 1) := by decide +kernel
theorem dX12_doesFit_17 : decode cX12_doesFit 17 = .ok (.getfield 147, 3) := by decide +kernel
theorem dX12_doesFit_20 : decode cX12_doesFit 20 = .ok (.iload 4, 2) := by decide +kernel
theorem dX12_doesFit_22 : decode cX12_doesFit 22 = .ok (.iaload, 1) := by decide +kernel
theorem dX12_doesFit_23 : decode cX12_doesFit 23 = .ok (.aload_n 0, 1) := by decide +kernel
theorem dX12_doesFit_24 : decode cX12_doesFit 24 = .ok (.getfield 150, 3) := by decide +kernel
theorem dX12_doesFit_27 : decode cX12_doesFit 27 = .ok (.iload 4, 2) := by decide +kernel
theorem dX12_doesFit_29 : decode cX12_doesFit 29 = .ok (.iaload, 1) := by decide +kernel
theorem dX12_doesFit_30 : decode cX12_doesFit 30 = .ok (.invokevirtual 420, 3) := by decide +kernel
theorem dX12_doesFit_33 : decode cX12_doesFit 33 = .ok (.ifCond .ne 5, 3) := by decide +kernel
theorem dX12_doesFit_36 : decode cX12_doesFit 36 = .ok (.iconst 0, 1) := by decide +kernel
theorem dX12_doesFit_37 : decode cX12_doesFit 37 = .ok (.ireturn, 1) := by decide +kernel
theorem dX12_doesFit_38 : decode cX12_doesFit 38 = .ok (.aload_n 0, 1) := by decide +kernel
theorem dX12_doesFit_39 : decode cX12_doesFit 39 = .ok (.aload_n 0, 1) := by decide +kernel
theorem dX12_doesFit_40 : decode cX12_doesFit 40 = .ok (.getfield 147, 3) := by decide +kernel
theorem dX12_doesFit_43 : decode cX12_doesFit 43 = .ok (.iload 4, 2) := by decide +kernel
theorem dX12_doesFit_45 : decode cX12_doesFit 45 = .ok (.iaload, 1) := by decide +kernel
theorem dX12_doesFit_46 : decode cX12_doesFit 46 = .ok (.aload_n 0, 1) := by decide +kernel
theorem dX12_doesFit_47 : decode cX12_doesFit 47 = .ok (.getfield 150, 3) := by decide +kernel
theorem dX12_doesFit_50 : decode cX12_doesFit 50 = .ok (.iload 4, 2) := by decide +kernel
theorem dX12_doesFit_52 : decode cX12_doesFit 52 = .ok (.iaload, 1) := by decide +kernel
theorem dX12_doesFit_53 : decode cX12_doesFit 53 = .ok (.invokevirtual 343, 3) := by decide +kernel
theorem dX12_doesFit_56 : decode cX12_doesFit 56 = .ok (.aload_n 0, 1) := by decide +kernel
theorem dX12_doesFit_57 : decode cX12_doesFit 57 = .ok (.getfield 153, 3) := by decide +kernel
theorem dX12_doesFit_60 : decode cX12_doesFit 60 = .ok (.iload 4, 2) := by decide +kernel
theorem dX12_doesFit_62 : decode cX12_doesFit 62 = .ok (.iaload, 1) := by decide +kernel
theorem dX12_doesFit_63 : decode cX12_doesFit 63 = .ok (.if_icmp .ne 7, 3) := by decide +kernel
theorem dX12_doesFit_66 : decode cX12_doesFit 66 = .ok (.iconst 1, 1) := by decide +kernel
theorem dX12_doesFit_67 : decode cX12_doesFit 67 = .ok (.goto 4, 3) := by decide +kernel
theorem dX12_doesFit_70 : decode cX12_doesFit 70 = .ok (.iconst 0, 1) := by decide +kernel
theorem dX12_doesFit_71 : decode cX12_doesFit 71 = .ok (.aload_n 0, 1) := by decide +kernel
theorem dX12_doesFit_72 : decode cX12_doesFit 72 = .ok (.getfield 156, 3) := by decide +kernel
theorem dX12_doesFit_75 : decode cX12_doesFit 75 = .ok (.iload 4, 2) := by decide +kernel
theorem dX12_doesFit_77 : decode cX12_doesFit 77 = .ok (.baload, 1) := by decide +kernel
theorem dX12_doesFit_78 : decode cX12_doesFit 78 = .ok (.if_icmp .eq 5, 3) := by decide +kernel
theorem dX12_doesFit_81 : decode cX12_doesFit 81 = .ok (.iconst 0, 1) := by decide +kernel
theorem dX12_doesFit_82 : decode cX12_doesFit 82 = .ok (.ireturn, 1) := by decide +kernel
theorem dX12_doesFit_83 : decode cX12_doesFit 83 = .ok (.iinc 4 1, 3) := by decide +kernel
theorem dX12_doesFit_86 : decode cX12_doesFit 86 = .ok (.goto (-77), 3) := by decide +kernel
theorem dX12_doesFit_89 : decode cX12_doesFit 89 = .ok (.iconst 1, 1) := by decide +kernel
theorem dX12_doesFit_90 : decode cX12_doesFit 90 = .ok (.ireturn, 1) := by decide +kernel
def xX12_doesFit : zX := (RX12, cX12_doesFit, 5, (some .boolean), false, { frames := 5, cells := 0, slots := 0, locals := 179 }, 0, 0, 0, 0)
theorem rmX12_doesFit : z_Rm xX12_doesFit := by unfold z_Rm xX12_doesFit; exact ⟨by decide, by decide⟩
theorem reX12_doesFit : z_Re xX12_doesFit := ⟨rfl, rfl⟩
theorem rlX12_doesFit : 1 ≤ xX12_doesFit.2.2.2.2.2.1.frames ∧ 21 ≤ xX12_doesFit.2.2.2.2.2.1.locals := by unfold xX12_doesFit; exact ⟨by decide, by decide⟩
theorem meX12_doesFit : z_Me yX12_doesFit xX12_doesFit 3 := ⟨wd1293, wd848, by decide, by decide, by decide +kernel⟩
theorem fitX12_doesFit_3 : z_Fit xX12_laysNumber xX12_doesFit := by unfold z_Fit; simp only [xX12_laysNumber, xX12_doesFit]; exact ⟨by decide, by decide⟩
theorem fitX12_doesFit_30 : z_Fit xX12_isInside xX12_doesFit := by unfold z_Fit; simp only [xX12_isInside, xX12_doesFit]; exact ⟨by decide, by decide⟩
theorem fitX12_doesFit_53 : z_Fit xX12_laidAt xX12_doesFit := by unfold z_Fit; simp only [xX12_laidAt, xX12_doesFit]; exact ⟨by decide, by decide⟩
noncomputable def kX12_doesFit_89 : zK zR := (q_push 1 q_zret)
noncomputable def kX12_doesFit_81 : zK zR := (q_push 0 q_zret)
noncomputable def kX12_doesFit_71 : zK ((zL × zS) ⊕ zR) := (q_aload 0 (q_getR 12 70 (q_iload 4 (q_zald (q_icmp_eq (q_iinc 4 1 q_ag) (q_dn kX12_doesFit_81))))))
noncomputable def kX12_doesFit_36 : zK zR := (q_push 0 q_zret)
noncomputable def bX12_doesFit_9 : zK ((zL × zS) ⊕ zR) := (q_iload 4 (q_iload 2 (q_icmp_ge (q_dn kX12_doesFit_89) (q_aload 0 (q_aload 0 (q_getR 12 67 (q_iload 4 (q_iald (q_aload 0 (q_getR 12 68 (q_iload 4 (q_iald (q_callV 12 fX12_isInside 2 (q_if_ne (q_aload 0 (q_aload 0 (q_getR 12 67 (q_iload 4 (q_iald (q_aload 0 (q_getR 12 68 (q_iload 4 (q_iald (q_callV 12 fX12_laidAt 2 (q_aload 0 (q_getR 12 69 (q_iload 4 (q_iald (q_icmp_ne (q_push 0 kX12_doesFit_71) (q_push 1 kX12_doesFit_71)))))))))))))))) (q_dn kX12_doesFit_36)))))))))))))))
noncomputable def kX12_doesFit_9 : zK zR := q_lp (bX12_doesFit_9)
noncomputable def kX12_doesFit_0 : zK zR := (q_aload 0 (q_iload 1 (q_iload 3 (q_callV 12 fX12_laysNumber 2 (q_push 0 (q_istore 4 kX12_doesFit_9))))))
set_option maxRecDepth 100000 in
theorem tX12_doesFit_89 {l : Launch} {D : zD} {B sz0 : Nat} {post : Option Value → zS → Prop} : zSnd l D B xX12_doesFit sz0 post 89 kX12_doesFit_89 (z_Jr post) := (s_iconst dX12_doesFit_89 (by decide) (s_zret dX12_doesFit_90 rfl))
set_option maxRecDepth 100000 in
theorem tX12_doesFit_81 {l : Launch} {D : zD} {B sz0 : Nat} {post : Option Value → zS → Prop} : zSnd l D B xX12_doesFit sz0 post 81 kX12_doesFit_81 (z_Jr post) := (s_iconst dX12_doesFit_81 (by decide) (s_zret dX12_doesFit_82 rfl))
set_option maxRecDepth 100000 in
theorem tX12_doesFit_71 {l : Launch} {D : zD} {B sz0 : Nat} {post : Option Value → zS → Prop} : zSnd l D B xX12_doesFit sz0 post 71 kX12_doesFit_71 (z_Jl l D B xX12_doesFit sz0 post 9 (z_Jr post)) := (s_aload_n dX12_doesFit_71 rfl (s_getR (f := 70) dX12_doesFit_72 clX12 (by decide) rfl wd898 (s_iload dX12_doesFit_75 (s_zald dX12_doesFit_77 (s_icmp_eq (tgt := 83) dX12_doesFit_78 (by decide) (s_iinc dX12_doesFit_83 (by decide) (s_goto (tgt := 9) dX12_doesFit_86 (by decide) s_ag)) (s_dn tX12_doesFit_81))))))
set_option maxRecDepth 100000 in
theorem tX12_doesFit_36 {l : Launch} {D : zD} {B sz0 : Nat} {post : Option Value → zS → Prop} : zSnd l D B xX12_doesFit sz0 post 36 kX12_doesFit_36 (z_Jr post) := (s_iconst dX12_doesFit_36 (by decide) (s_zret dX12_doesFit_37 rfl))
set_option maxRecDepth 100000 in
theorem tX12_doesFit_9 {l : Launch} {D : zD} {B sz0 : Nat} {post : Option Value → zS → Prop} : zSnd l D B xX12_doesFit sz0 post 9 kX12_doesFit_9 (z_Jr post) := s_lp (body := bX12_doesFit_9) (s_iload dX12_doesFit_9 (s_iload_n dX12_doesFit_11 rfl (s_icmp_ge (tgt := 89) dX12_doesFit_12 (by decide) (s_dn tX12_doesFit_89) (s_aload_n dX12_doesFit_15 rfl (s_aload_n dX12_doesFit_16 rfl (s_getR (f := 67) dX12_doesFit_17 clX12 (by decide) rfl wd895 (s_iload dX12_doesFit_20 (s_iald dX12_doesFit_22 (s_aload_n dX12_doesFit_23 rfl (s_getR (f := 68) dX12_doesFit_24 clX12 (by decide) rfl wd896 (s_iload dX12_doesFit_27 (s_iald dX12_doesFit_29 (s_callV (r := (RX12, TX12, 74)) dX12_doesFit_30 mX12_isInside meX12_isInside wd1152 wd1153 rfl rfl reX12_isInside rmX12_doesFit (fitX12_doesFit_30) wd1154 (s_if_ne (tgt := 38) dX12_doesFit_33 (by decide) (s_aload_n dX12_doesFit_38 rfl (s_aload_n dX12_doesFit_39 rfl (s_getR (f := 67) dX12_doesFit_40 clX12 (by decide) rfl wd895 (s_iload dX12_doesFit_43 (s_iald dX12_doesFit_45 (s_aload_n dX12_doesFit_46 rfl (s_getR (f := 68) dX12_doesFit_47 clX12 (by decide) rfl wd896 (s_iload dX12_doesFit_50 (s_iald dX12_doesFit_52 (s_callV (r := (RX12, TX12, 74)) dX12_doesFit_53 mX12_laidAt meX12_laidAt wd1054 wd1055 rfl rfl reX12_laidAt rmX12_doesFit (fitX12_doesFit_53) wd1056 (s_aload_n dX12_doesFit_56 rfl (s_getR (f := 69) dX12_doesFit_57 clX12 (by decide) rfl wd897 (s_iload dX12_doesFit_60 (s_iald dX12_doesFit_62 (s_icmp_ne (tgt := 70) dX12_doesFit_63 (by decide) (s_iconst dX12_doesFit_70 (by decide) tX12_doesFit_71) (s_iconst dX12_doesFit_66 (by decide) (s_goto (tgt := 71) dX12_doesFit_67 (by decide) tX12_doesFit_71))))))))))))))))) (s_dn tX12_doesFit_36)))))))))))))))
set_option maxRecDepth 100000 in
theorem tX12_doesFit_0 {l : Launch} {D : zD} {B sz0 : Nat} {post : Option Value → zS → Prop} : zSnd l D B xX12_doesFit sz0 post 0 kX12_doesFit_0 (z_Jr post) := (s_aload_n dX12_doesFit_0 rfl (s_iload_n dX12_doesFit_1 rfl (s_iload_n dX12_doesFit_2 rfl (s_callV (r := (RX12, TX12, 74)) dX12_doesFit_3 mX12_laysNumber meX12_laysNumber wd1191 wd1192 rfl rfl reX12_laysNumber rmX12_doesFit (fitX12_doesFit_3) wd1193 (s_iconst dX12_doesFit_6 (by decide) (s_istore dX12_doesFit_7 tX12_doesFit_9))))))
noncomputable def fX12_doesFit : zF := z_fn 5 kX12_doesFit_0
theorem mX12_doesFit {l : Launch} {D : zD} {B : Nat} : z_MF l D B yX12_doesFit xX12_doesFit fX12_doesFit := z_mf (by decide) rfl (fun h => by cases h) rfl (fun as σ r h => ⟨z_fn_len h, kX12_doesFit_0, z_fn_run h, fun _ => tX12_doesFit_0⟩)
/-! ===== RowChildrenModel.isAsked ===== -/
theorem dX12_isAsked_0 : decode cX12_isAsked 0 = .ok (.iload_n 1, 1) := by decide +kernel
theorem dX12_isAsked_1 : decode cX12_isAsked 1 = .ok (.iconst 0, 1) := by decide +kernel
theorem dX12_isAsked_2 : decode cX12_isAsked 2 = .ok (.aload_n 0, 1) := by decide +kernel
theorem dX12_isAsked_3 : decode cX12_isAsked 3 = .ok (.getfield 274, 3) := by decide +kernel
theorem dX12_isAsked_6 : decode cX12_isAsked 6 = .ok (.invokestatic 323, 3) := by decide +kernel
theorem dX12_isAsked_9 : decode cX12_isAsked 9 = .ok (.ifCond .eq 17, 3) := by decide +kernel
theorem dX12_isAsked_12 : decode cX12_isAsked 12 = .ok (.iload_n 2, 1) := by decide +kernel
theorem dX12_isAsked_13 : decode cX12_isAsked 13 = .ok (.iconst 1, 1) := by decide +kernel
theorem dX12_isAsked_14 : decode cX12_isAsked 14 = .ok (.bipush 6, 2) := by decide +kernel
theorem dX12_isAsked_16 : decode cX12_isAsked 16 = .ok (.invokestatic 323, 3) := by decide +kernel
theorem dX12_isAsked_19 : decode cX12_isAsked 19 = .ok (.ifCond .eq 7, 3) := by decide +kernel
theorem dX12_isAsked_22 : decode cX12_isAsked 22 = .ok (.iconst 1, 1) := by decide +kernel
theorem dX12_isAsked_23 : decode cX12_isAsked 23 = .ok (.goto 4, 3) := by decide +kernel
theorem dX12_isAsked_26 : decode cX12_isAsked 26 = .ok (.iconst 0, 1) := by decide +kernel
theorem dX12_isAsked_27 : decode cX12_isAsked 27 = .ok (.ireturn, 1) := by decide +kernel
def xX12_isAsked : zX := (RX12, cX12_isAsked, 3, (some .boolean), false, { frames := 2, cells := 0, slots := 0, locals := 112 }, 0, 0, 0, 0)
theorem rmX12_isAsked : z_Rm xX12_isAsked := by unfold z_Rm xX12_isAsked; exact ⟨by decide, by decide⟩
theorem reX12_isAsked : z_Re xX12_isAsked := ⟨rfl, rfl⟩
theorem rlX12_isAsked : 1 ≤ xX12_isAsked.2.2.2.2.2.1.frames ∧ 21 ≤ xX12_isAsked.2.2.2.2.2.1.locals := by unfold xX12_isAsked; exact ⟨by decide, by decide⟩
theorem meX12_isAsked : z_Me yX12_isAsked xX12_isAsked 2 := ⟨wd1294, wd848, by decide, by decide, by decide +kernel⟩
theorem fitX12_isAsked_6 : z_Fit xX12_in xX12_isAsked := by unfold z_Fit; simp only [xX12_in, xX12_isAsked]; exact ⟨by decide, by decide⟩
theorem fitX12_isAsked_16 : z_Fit xX12_in xX12_isAsked := by unfold z_Fit; simp only [xX12_in, xX12_isAsked]; exact ⟨by decide, by decide⟩
noncomputable def kX12_isAsked_27 : zK zR := q_zret
noncomputable def kX12_isAsked_26 : zK zR := (q_push 0 kX12_isAsked_27)
noncomputable def kX12_isAsked_0 : zK zR := (q_iload 1 (q_push 0 (q_aload 0 (q_getI 12 66 (q_callS fX12_in 3 (q_if_eq kX12_isAsked_26 (q_iload 2 (q_push 1 (q_push 6 (q_callS fX12_in 3 (q_if_eq kX12_isAsked_26 (q_push 1 kX12_isAsked_27))))))))))))
set_option maxRecDepth 100000 in
theorem tX12_isAsked_27 {l : Launch} {D : zD} {B sz0 : Nat} {post : Option Value → zS → Prop} : zSnd l D B xX12_isAsked sz0 post 27 kX12_isAsked_27 (z_Jr post) := (s_zret dX12_isAsked_27 rfl)
set_option maxRecDepth 100000 in
theorem tX12_isAsked_26 {l : Launch} {D : zD} {B sz0 : Nat} {post : Option Value → zS → Prop} : zSnd l D B xX12_isAsked sz0 post 26 kX12_isAsked_26 (z_Jr post) := (s_iconst dX12_isAsked_26 (by decide) tX12_isAsked_27)
set_option maxRecDepth 100000 in
theorem tX12_isAsked_0 {l : Launch} {D : zD} {B sz0 : Nat} {post : Option Value → zS → Prop} : zSnd l D B xX12_isAsked sz0 post 0 kX12_isAsked_0 (z_Jr post) := (s_iload_n dX12_isAsked_0 rfl (s_iconst dX12_isAsked_1 (by decide) (s_aload_n dX12_isAsked_2 rfl (s_getI (f := 66) dX12_isAsked_3 clX12 (by decide) rfl wd1022 (s_callS dX12_isAsked_6 mX12_in meX12_in wd1033 rfl reX12_in rmX12_isAsked (fitX12_isAsked_6) wd1034 (s_if_eq (tgt := 26) dX12_isAsked_9 (by decide) tX12_isAsked_26 (s_iload_n dX12_isAsked_12 rfl (s_iconst dX12_isAsked_13 (by decide) (s_bipush dX12_isAsked_14 (by decide) (s_callS dX12_isAsked_16 mX12_in meX12_in wd1033 rfl reX12_in rmX12_isAsked (fitX12_isAsked_16) wd1034 (s_if_eq (tgt := 26) dX12_isAsked_19 (by decide) tX12_isAsked_26 (s_iconst dX12_isAsked_22 (by decide) (s_goto (tgt := 27) dX12_isAsked_23 (by decide) tX12_isAsked_27)))))))))))))
noncomputable def fX12_isAsked : zF := z_fn 3 kX12_isAsked_0
theorem mX12_isAsked {l : Launch} {D : zD} {B : Nat} : z_MF l D B yX12_isAsked xX12_isAsked fX12_isAsked := z_mf (by decide) rfl (fun h => by cases h) rfl (fun as σ r h => ⟨z_fn_len h, kX12_isAsked_0, z_fn_run h, fun _ => tX12_isAsked_0⟩)
/-! ===== RowChildrenModel.rows ===== -/
theorem dX12_rows_0 : decode cX12_rows 0 = .ok (.aload_n 0, 1) := by decide +kernel
theorem dX12_rows_1 : decode cX12_rows 1 = .ok (.iload_n 1, 1) := by decide +kernel
theorem dX12_rows_2 : decode cX12_rows 2 = .ok (.iload_n 2, 1) := by decide +kernel
theorem dX12_rows_3 : decode cX12_rows 3 = .ok (.invokevirtual 524, 3) := by decide +kernel
theorem dX12_rows_6 : decode cX12_rows 6 = .ok (.ifCond .eq 12, 3) := by decide +kernel
theorem dX12_rows_9 : decode cX12_rows 9 = .ok (.iload_n 3, 1) := by decide +kernel
theorem dX12_rows_10 : decode cX12_rows 10 = .ok (.iconst 0, 1) := by decide +kernel
theorem dX12_rows_11 : decode cX12_rows 11 = .ok (.iconst 1, 1) := by decide +kernel
theorem dX12_rows_12 : decode cX12_rows 12 = .ok (.invokestatic 323, 3) := by decide +kernel
theorem dX12_rows_15 : decode cX12_rows 15 = .ok (.ifCond .ne 5, 3) := by decide +kernel
theorem dX12_rows_18 : decode cX12_rows 18 = .ok (.iconst (-1), 1) := by decide +kernel
theorem dX12_rows_19 : decode cX12_rows 19 = .ok (.ireturn, 1) := by decide +kernel
theorem dX12_rows_20 : decode cX12_rows 20 = .ok (.iconst 0, 1) := by decide +kernel
theorem dX12_rows_21 : decode cX12_rows 21 = .ok (.istore 4, 2) := by decide +kernel
theorem dX12_rows_23 : decode cX12_rows 23 = .ok (.bipush (-2), 2) := by decide +kernel
theorem dX12_rows_25 : decode cX12_rows 25 = .ok (.istore 5, 2) := by decide +kernel
theorem dX12_rows_27 : decode cX12_rows 27 = .ok (.aload_n 0, 1) := by decide +kernel
theorem dX12_rows_28 : decode cX12_rows 28 = .ok (.iload_n 2, 1) := by decide +kernel
theorem dX12_rows_29 : decode cX12_rows 29 = .ok (.invokevirtual 445, 3) := by decide +kernel
theorem dX12_rows_32 : decode cX12_rows 32 = .ok (.iconst 1, 1) := by decide +kernel
theorem dX12_rows_33 : decode cX12_rows 33 = .ok (.isub, 1) := by decide +kernel
theorem dX12_rows_34 : decode cX12_rows 34 = .ok (.istore 6, 2) := by decide +kernel
theorem dX12_rows_36 : decode cX12_rows 36 = .ok (.iload 6, 2) := by decide +kernel
theorem dX12_rows_38 : decode cX12_rows 38 = .ok (.ifCond .lt 30, 3) := by decide +kernel
theorem dX12_rows_41 : decode cX12_rows 41 = .ok (.aload_n 0, 1) := by decide +kernel
theorem dX12_rows_42 : decode cX12_rows 42 = .ok (.iload 6, 2) := by decide +kernel
theorem dX12_rows_44 : decode cX12_rows 44 = .ok (.iload_n 1, 1) := by decide +kernel
theorem dX12_rows_45 : decode cX12_rows 45 = .ok (.iload_n 2, 1) := by decide +kernel
theorem dX12_rows_46 : decode cX12_rows 46 = .ok (.invokevirtual 527, 3) := by decide +kernel
theorem dX12_rows_49 : decode cX12_rows 49 = .ok (.ifCond .ne 6, 3) := by decide +kernel
theorem dX12_rows_52 : decode cX12_rows 52 = .ok (.goto 10, 3) := by decide +kernel
theorem dX12_rows_55 : decode cX12_rows 55 = .ok (.iinc 4 1, 3) := by decide +kernel
theorem dX12_rows_58 : decode cX12_rows 58 = .ok (.iload 6, 2) := by decide +kernel
theorem dX12_rows_60 : decode cX12_rows 60 = .ok (.istore 5, 2) := by decide +kernel
theorem dX12_rows_62 : decode cX12_rows 62 = .ok (.iinc 6 (-1), 3) := by decide +kernel
theorem dX12_rows_65 : decode cX12_rows 65 = .ok (.goto (-29), 3) := by decide +kernel
theorem dX12_rows_68 : decode cX12_rows 68 = .ok (.iload_n 3, 1) := by decide +kernel
theorem dX12_rows_69 : decode cX12_rows 69 = .ok (.ifCond .ne 8, 3) := by decide +kernel
theorem dX12_rows_72 : decode cX12_rows 72 = .ok (.iload 4, 2) := by decide +kernel
theorem dX12_rows_74 : decode cX12_rows 74 = .ok (.goto 5, 3) := by decide +kernel
theorem dX12_rows_77 : decode cX12_rows 77 = .ok (.iload 5, 2) := by decide +kernel
theorem dX12_rows_79 : decode cX12_rows 79 = .ok (.ireturn, 1) := by decide +kernel
def xX12_rows : zX := (RX12, cX12_rows, 7, (some .int), false, { frames := 6, cells := 0, slots := 0, locals := 203 }, 0, 0, 0, 0)
theorem rmX12_rows : z_Rm xX12_rows := by unfold z_Rm xX12_rows; exact ⟨by decide, by decide⟩
theorem reX12_rows : z_Re xX12_rows := ⟨rfl, rfl⟩
theorem rlX12_rows : 1 ≤ xX12_rows.2.2.2.2.2.1.frames ∧ 21 ≤ xX12_rows.2.2.2.2.2.1.locals := by unfold xX12_rows; exact ⟨by decide, by decide⟩
theorem meX12_rows : z_Me yX12_rows xX12_rows 3 := ⟨wd1301, wd848, by decide, by decide, by decide +kernel⟩
theorem fitX12_rows_3 : z_Fit xX12_isAsked xX12_rows := by unfold z_Fit; simp only [xX12_isAsked, xX12_rows]; exact ⟨by decide, by decide⟩
theorem fitX12_rows_12 : z_Fit xX12_in xX12_rows := by unfold z_Fit; simp only [xX12_in, xX12_rows]; exact ⟨by decide, by decide⟩
theorem fitX12_rows_29 : z_Fit xX12_rowsOf xX12_rows := by unfold z_Fit; simp only [xX12_rowsOf, xX12_rows]; exact ⟨by decide, by decide⟩
theorem fitX12_rows_46 : z_Fit xX12_doesFit xX12_rows := by unfold z_Fit; simp only [xX12_doesFit, xX12_rows]; exact ⟨by decide, by decide⟩
noncomputable def kX12_rows_18 : zK zR := (q_push (-1) q_iret)
noncomputable def kX12_rows_79 : zK zR := q_iret
noncomputable def kX12_rows_68 : zK zR := (q_iload 3 (q_if_ne (q_iload 5 kX12_rows_79) (q_iload 4 kX12_rows_79)))
noncomputable def kX12_rows_62 : zK ((zL × zS) ⊕ zR) := (q_iinc 6 (-1) q_ag)
noncomputable def bX12_rows_36 : zK ((zL × zS) ⊕ zR) := (q_iload 6 (q_if_lt (q_dn kX12_rows_68) (q_aload 0 (q_iload 6 (q_iload 1 (q_iload 2 (q_callV 12 fX12_doesFit 3 (q_if_ne (q_iinc 4 1 (q_iload 6 (q_istore 5 kX12_rows_62))) kX12_rows_62))))))))
noncomputable def kX12_rows_36 : zK zR := q_lp (bX12_rows_36)
noncomputable def kX12_rows_0 : zK zR := (q_aload 0 (q_iload 1 (q_iload 2 (q_callV 12 fX12_isAsked 2 (q_if_eq kX12_rows_18 (q_iload 3 (q_push 0 (q_push 1 (q_callS fX12_in 3 (q_if_ne (q_push 0 (q_istore 4 (q_push (-2) (q_istore 5 (q_aload 0 (q_iload 2 (q_callV 12 fX12_rowsOf 1 (q_push 1 (q_isub (q_istore 6 kX12_rows_36)))))))))) kX12_rows_18))))))))))
set_option maxRecDepth 100000 in
theorem tX12_rows_18 {l : Launch} {D : zD} {B sz0 : Nat} {post : Option Value → zS → Prop} : zSnd l D B xX12_rows sz0 post 18 kX12_rows_18 (z_Jr post) := (s_iconst dX12_rows_18 (by decide) (s_iret dX12_rows_19 rfl))
set_option maxRecDepth 100000 in
theorem tX12_rows_79 {l : Launch} {D : zD} {B sz0 : Nat} {post : Option Value → zS → Prop} : zSnd l D B xX12_rows sz0 post 79 kX12_rows_79 (z_Jr post) := (s_iret dX12_rows_79 rfl)
set_option maxRecDepth 100000 in
theorem tX12_rows_68 {l : Launch} {D : zD} {B sz0 : Nat} {post : Option Value → zS → Prop} : zSnd l D B xX12_rows sz0 post 68 kX12_rows_68 (z_Jr post) := (s_iload_n dX12_rows_68 rfl (s_if_ne (tgt := 77) dX12_rows_69 (by decide) (s_iload dX12_rows_77 tX12_rows_79) (s_iload dX12_rows_72 (s_goto (tgt := 79) dX12_rows_74 (by decide) tX12_rows_79))))
set_option maxRecDepth 100000 in
theorem tX12_rows_62 {l : Launch} {D : zD} {B sz0 : Nat} {post : Option Value → zS → Prop} : zSnd l D B xX12_rows sz0 post 62 kX12_rows_62 (z_Jl l D B xX12_rows sz0 post 36 (z_Jr post)) := (s_iinc dX12_rows_62 (by decide) (s_goto (tgt := 36) dX12_rows_65 (by decide) s_ag))
set_option maxRecDepth 100000 in
theorem tX12_rows_36 {l : Launch} {D : zD} {B sz0 : Nat} {post : Option Value → zS → Prop} : zSnd l D B xX12_rows sz0 post 36 kX12_rows_36 (z_Jr post) := s_lp (body := bX12_rows_36) (s_iload dX12_rows_36 (s_if_lt (tgt := 68) dX12_rows_38 (by decide) (s_dn tX12_rows_68) (s_aload_n dX12_rows_41 rfl (s_iload dX12_rows_42 (s_iload_n dX12_rows_44 rfl (s_iload_n dX12_rows_45 rfl (s_callV (r := (RX12, TX12, 74)) dX12_rows_46 mX12_doesFit meX12_doesFit wd1298 wd1299 rfl rfl reX12_doesFit rmX12_rows (fitX12_rows_46) wd1300 (s_if_ne (tgt := 55) dX12_rows_49 (by decide) (s_iinc dX12_rows_55 (by decide) (s_iload dX12_rows_58 (s_istore dX12_rows_60 tX12_rows_62))) (s_goto (tgt := 62) dX12_rows_52 (by decide) tX12_rows_62)))))))))
set_option maxRecDepth 100000 in
theorem tX12_rows_0 {l : Launch} {D : zD} {B sz0 : Nat} {post : Option Value → zS → Prop} : zSnd l D B xX12_rows sz0 post 0 kX12_rows_0 (z_Jr post) := (s_aload_n dX12_rows_0 rfl (s_iload_n dX12_rows_1 rfl (s_iload_n dX12_rows_2 rfl (s_callV (r := (RX12, TX12, 74)) dX12_rows_3 mX12_isAsked meX12_isAsked wd1295 wd1296 rfl rfl reX12_isAsked rmX12_rows (fitX12_rows_3) wd1297 (s_if_eq (tgt := 18) dX12_rows_6 (by decide) tX12_rows_18 (s_iload_n dX12_rows_9 rfl (s_iconst dX12_rows_10 (by decide) (s_iconst dX12_rows_11 (by decide) (s_callS dX12_rows_12 mX12_in meX12_in wd1033 rfl reX12_in rmX12_rows (fitX12_rows_12) wd1034 (s_if_ne (tgt := 20) dX12_rows_15 (by decide) (s_iconst dX12_rows_20 (by decide) (s_istore dX12_rows_21 (s_bipush dX12_rows_23 (by decide) (s_istore dX12_rows_25 (s_aload_n dX12_rows_27 rfl (s_iload_n dX12_rows_28 rfl (s_callV (r := (RX12, TX12, 74)) dX12_rows_29 mX12_rowsOf meX12_rowsOf wd1188 wd1189 rfl rfl reX12_rowsOf rmX12_rows (fitX12_rows_29) wd1190 (s_iconst dX12_rows_32 (by decide) (s_isub dX12_rows_33 (s_istore dX12_rows_34 tX12_rows_36)))))))))) tX12_rows_18))))))))))
noncomputable def fX12_rows : zF := z_fn 7 kX12_rows_0
theorem mX12_rows {l : Launch} {D : zD} {B : Nat} : z_MF l D B yX12_rows xX12_rows fX12_rows := z_mf (by decide) rfl (fun h => by cases h) rfl (fun as σ r h => ⟨z_fn_len h, kX12_rows_0, z_fn_run h, fun _ => tX12_rows_0⟩)
/-! ===== RowChildrenModel.worstAt ===== -/
theorem dX12_worstAt_0 : decode cX12_worstAt 0 = .ok (.iconst 0, 1) := by decide +kernel
theorem dX12_worstAt_1 : decode cX12_worstAt 1 = .ok (.istore_n 2, 1) := by decide +kernel
theorem dX12_worstAt_2 : decode cX12_worstAt 2 = .ok (.iconst 0, 1) := by decide +kernel
theorem dX12_worstAt_3 : decode cX12_worstAt 3 = .ok (.istore_n 3, 1) := by decide +kernel
theorem dX12_worstAt_4 : decode cX12_worstAt 4 = .ok (.iload_n 3, 1) := by decide +kernel
theorem dX12_worstAt_5 : decode cX12_worstAt 5 = .ok (.iconst 4, 1) := by decide +kernel
theorem dX12_worstAt_6 : decode cX12_worstAt 6 = .ok (.if_icmp .ge 34, 3) := by decide +kernel
theorem dX12_worstAt_9 : decode cX12_worstAt 9 = .ok (.aload_n 0, 1) := by decide +kernel
theorem dX12_worstAt_10 : decode cX12_worstAt 10 = .ok (.getfield 159, 3) := by decide +kernel
theorem dX12_worstAt_13 : decode cX12_worstAt 13 = .ok (.iconst 4, 1) := by decide +kernel
theorem dX12_worstAt_14 : decode cX12_worstAt 14 = .ok (.iload_n 1, 1) := by decide +kernel
theorem dX12_worstAt_15 : decode cX12_worstAt 15 = .ok (.imul, 1) := by decide +kernel
theorem dX12_worstAt_16 : decode cX12_worstAt 16 = .ok (.iload_n 3, 1) := by decide +kernel
theorem dX12_worstAt_17 : decode cX12_worstAt 17 = .ok (.iadd, 1) := by decide +kernel
theorem dX12_worstAt_18 : decode cX12_worstAt 18 = .ok (.iaload, 1) := by decide +kernel
theorem dX12_worstAt_19 : decode cX12_worstAt 19 = .ok (.iload_n 2, 1) := by decide +kernel
theorem dX12_worstAt_20 : decode cX12_worstAt 20 = .ok (.if_icmp .le 14, 3) := by decide +kernel
theorem dX12_worstAt_23 : decode cX12_worstAt 23 = .ok (.aload_n 0, 1) := by decide +kernel
theorem dX12_worstAt_24 : decode cX12_worstAt 24 = .ok (.getfield 159, 3) := by decide +kernel
theorem dX12_worstAt_27 : decode cX12_worstAt 27 = .ok (.iconst 4, 1) := by decide +kernel
theorem dX12_worstAt_28 : decode cX12_worstAt 28 = .ok (.iload_n 1, 1) := by decide +kernel
theorem dX12_worstAt_29 : decode cX12_worstAt 29 = .ok (.imul, 1) := by decide +kernel
theorem dX12_worstAt_30 : decode cX12_worstAt 30 = .ok (.iload_n 3, 1) := by decide +kernel
theorem dX12_worstAt_31 : decode cX12_worstAt 31 = .ok (.iadd, 1) := by decide +kernel
theorem dX12_worstAt_32 : decode cX12_worstAt 32 = .ok (.iaload, 1) := by decide +kernel
theorem dX12_worstAt_33 : decode cX12_worstAt 33 = .ok (.istore_n 2, 1) := by decide +kernel
theorem dX12_worstAt_34 : decode cX12_worstAt 34 = .ok (.iinc 3 1, 3) := by decide +kernel
theorem dX12_worstAt_37 : decode cX12_worstAt 37 = .ok (.goto (-33), 3) := by decide +kernel
theorem dX12_worstAt_40 : decode cX12_worstAt 40 = .ok (.iload_n 2, 1) := by decide +kernel
theorem dX12_worstAt_41 : decode cX12_worstAt 41 = .ok (.ireturn, 1) := by decide +kernel
def xX12_worstAt : zX := (RX12, cX12_worstAt, 4, (some .int), false, { frames := 1, cells := 0, slots := 0, locals := 90 }, 0, 0, 0, 0)
theorem rmX12_worstAt : z_Rm xX12_worstAt := by unfold z_Rm xX12_worstAt; exact ⟨by decide, by decide⟩
theorem reX12_worstAt : z_Re xX12_worstAt := ⟨rfl, rfl⟩
theorem rlX12_worstAt : 1 ≤ xX12_worstAt.2.2.2.2.2.1.frames ∧ 21 ≤ xX12_worstAt.2.2.2.2.2.1.locals := by unfold xX12_worstAt; exact ⟨by decide, by decide⟩
theorem meX12_worstAt : z_Me yX12_worstAt xX12_worstAt 1 := ⟨wd1302, wd848, by decide, by decide, by decide +kernel⟩
noncomputable def kX12_worstAt_40 : zK zR := (q_iload 2 q_iret)
noncomputable def kX12_worstAt_34 : zK ((zL × zS) ⊕ zR) := (q_iinc 3 1 q_ag)
noncomputable def bX12_worstAt_4 : zK ((zL × zS) ⊕ zR) := (q_iload 3 (q_push 4 (q_icmp_ge (q_dn kX12_worstAt_40) (q_aload 0 (q_getR 12 71 (q_push 4 (q_iload 1 (q_imul (q_iload 3 (q_iadd (q_iald (q_iload 2 (q_icmp_le kX12_worstAt_34 (q_aload 0 (q_getR 12 71 (q_push 4 (q_iload 1 (q_imul (q_iload 3 (q_iadd (q_iald (q_istore 2 kX12_worstAt_34))))))))))))))))))))))
noncomputable def kX12_worstAt_4 : zK zR := q_lp (bX12_worstAt_4)
noncomputable def kX12_worstAt_0 : zK zR := (q_push 0 (q_istore 2 (q_push 0 (q_istore 3 kX12_worstAt_4))))
set_option maxRecDepth 100000 in
theorem tX12_worstAt_40 {l : Launch} {D : zD} {B sz0 : Nat} {post : Option Value → zS → Prop} : zSnd l D B xX12_worstAt sz0 post 40 kX12_worstAt_40 (z_Jr post) := (s_iload_n dX12_worstAt_40 rfl (s_iret dX12_worstAt_41 rfl))
set_option maxRecDepth 100000 in
theorem tX12_worstAt_34 {l : Launch} {D : zD} {B sz0 : Nat} {post : Option Value → zS → Prop} : zSnd l D B xX12_worstAt sz0 post 34 kX12_worstAt_34 (z_Jl l D B xX12_worstAt sz0 post 4 (z_Jr post)) := (s_iinc dX12_worstAt_34 (by decide) (s_goto (tgt := 4) dX12_worstAt_37 (by decide) s_ag))
set_option maxRecDepth 100000 in
theorem tX12_worstAt_4 {l : Launch} {D : zD} {B sz0 : Nat} {post : Option Value → zS → Prop} : zSnd l D B xX12_worstAt sz0 post 4 kX12_worstAt_4 (z_Jr post) := s_lp (body := bX12_worstAt_4) (s_iload_n dX12_worstAt_4 rfl (s_iconst dX12_worstAt_5 (by decide) (s_icmp_ge (tgt := 40) dX12_worstAt_6 (by decide) (s_dn tX12_worstAt_40) (s_aload_n dX12_worstAt_9 rfl (s_getR (f := 71) dX12_worstAt_10 clX12 (by decide) rfl wd899 (s_iconst dX12_worstAt_13 (by decide) (s_iload_n dX12_worstAt_14 rfl (s_imul dX12_worstAt_15 (s_iload_n dX12_worstAt_16 rfl (s_iadd dX12_worstAt_17 (s_iald dX12_worstAt_18 (s_iload_n dX12_worstAt_19 rfl (s_icmp_le (tgt := 34) dX12_worstAt_20 (by decide) tX12_worstAt_34 (s_aload_n dX12_worstAt_23 rfl (s_getR (f := 71) dX12_worstAt_24 clX12 (by decide) rfl wd899 (s_iconst dX12_worstAt_27 (by decide) (s_iload_n dX12_worstAt_28 rfl (s_imul dX12_worstAt_29 (s_iload_n dX12_worstAt_30 rfl (s_iadd dX12_worstAt_31 (s_iald dX12_worstAt_32 (s_istore_n dX12_worstAt_33 rfl tX12_worstAt_34))))))))))))))))))))))
set_option maxRecDepth 100000 in
theorem tX12_worstAt_0 {l : Launch} {D : zD} {B sz0 : Nat} {post : Option Value → zS → Prop} : zSnd l D B xX12_worstAt sz0 post 0 kX12_worstAt_0 (z_Jr post) := (s_iconst dX12_worstAt_0 (by decide) (s_istore_n dX12_worstAt_1 rfl (s_iconst dX12_worstAt_2 (by decide) (s_istore_n dX12_worstAt_3 rfl tX12_worstAt_4))))
noncomputable def fX12_worstAt : zF := z_fn 4 kX12_worstAt_0
theorem mX12_worstAt {l : Launch} {D : zD} {B : Nat} : z_MF l D B yX12_worstAt xX12_worstAt fX12_worstAt := z_mf (by decide) rfl (fun h => by cases h) rfl (fun as σ r h => ⟨z_fn_len h, kX12_worstAt_0, z_fn_run h, fun _ => tX12_worstAt_0⟩)
/-! ===== RowChildrenModel.look ===== -/
theorem dX12_look_0 : decode cX12_look 0 = .ok (.aload_n 0, 1) := by decide +kernel
theorem dX12_look_1 : decode cX12_look 1 = .ok (.iload_n 1, 1) := by decide +kernel
theorem dX12_look_2 : decode cX12_look 2 = .ok (.iload_n 2, 1) := by decide +kernel
theorem dX12_look_3 : decode cX12_look 3 = .ok (.invokevirtual 524, 3) := by decide +kernel
theorem dX12_look_6 : decode cX12_look 6 = .ok (.ifCond .ne 5, 3) := by decide +kernel
theorem dX12_look_9 : decode cX12_look 9 = .ok (.iconst (-1), 1) := by decide +kernel
theorem dX12_look_10 : decode cX12_look 10 = .ok (.ireturn, 1) := by decide +kernel
theorem dX12_look_11 : decode cX12_look 11 = .ok (.iconst 0, 1) := by decide +kernel
theorem dX12_look_12 : decode cX12_look 12 = .ok (.istore_n 3, 1) := by decide +kernel
theorem dX12_look_13 : decode cX12_look 13 = .ok (.iload_n 3, 1) := by decide +kernel
theorem dX12_look_14 : decode cX12_look 14 = .ok (.sipush 256, 3) := by decide +kernel
theorem dX12_look_17 : decode cX12_look 17 = .ok (.if_icmp .ge 16, 3) := by decide +kernel
theorem dX12_look_20 : decode cX12_look 20 = .ok (.aload_n 0, 1) := by decide +kernel
theorem dX12_look_21 : decode cX12_look 21 = .ok (.getfield 159, 3) := by decide +kernel
theorem dX12_look_24 : decode cX12_look 24 = .ok (.iload_n 3, 1) := by decide +kernel
theorem dX12_look_25 : decode cX12_look 25 = .ok (.iconst 0, 1) := by decide +kernel
theorem dX12_look_26 : decode cX12_look 26 = .ok (.iastore, 1) := by decide +kernel
theorem dX12_look_27 : decode cX12_look 27 = .ok (.iinc 3 1, 3) := by decide +kernel
theorem dX12_look_30 : decode cX12_look 30 = .ok (.goto (-17), 3) := by decide +kernel
theorem dX12_look_33 : decode cX12_look 33 = .ok (.iconst 0, 1) := by decide +kernel
theorem dX12_look_34 : decode cX12_look 34 = .ok (.istore_n 3, 1) := by decide +kernel
theorem dX12_look_35 : decode cX12_look 35 = .ok (.iconst 0, 1) := by decide +kernel
theorem dX12_look_36 : decode cX12_look 36 = .ok (.istore 4, 2) := by decide +kernel
theorem dX12_look_38 : decode cX12_look 38 = .ok (.iload 4, 2) := by decide +kernel
theorem dX12_look_40 : decode cX12_look 40 = .ok (.aload_n 0, 1) := by decide +kernel
theorem dX12_look_41 : decode cX12_look 41 = .ok (.iload_n 2, 1) := by decide +kernel
theorem dX12_look_42 : decode cX12_look 42 = .ok (.invokevirtual 445, 3) := by decide +kernel
theorem dX12_look_45 : decode cX12_look 45 = .ok (.if_icmp .ge 86, 3) := by decide +kernel
theorem dX12_look_48 : decode cX12_look 48 = .ok (.aload_n 0, 1) := by decide +kernel
theorem dX12_look_49 : decode cX12_look 49 = .ok (.iload 4, 2) := by decide +kernel
theorem dX12_look_51 : decode cX12_look 51 = .ok (.iload_n 1, 1) := by decide +kernel
theorem dX12_look_52 : decode cX12_look 52 = .ok (.iload_n 2, 1) := by decide +kernel
theorem dX12_look_53 : decode cX12_look 53 = .ok (.invokevirtual 527, 3) := by decide +kernel
theorem dX12_look_56 : decode cX12_look 56 = .ok (.ifCond .ne 6, 3) := by decide +kernel
theorem dX12_look_59 : decode cX12_look 59 = .ok (.goto 66, 3) := by decide +kernel
theorem dX12_look_62 : decode cX12_look 62 = .ok (.iconst 1, 1) := by decide +kernel
theorem dX12_look_63 : decode cX12_look 63 = .ok (.istore_n 3, 1) := by decide +kernel
theorem dX12_look_64 : decode cX12_look 64 = .ok (.iconst 0, 1) := by decide +kernel
theorem dX12_look_65 : decode cX12_look 65 = .ok (.istore 5, 2) := by decide +kernel
theorem dX12_look_67 : decode cX12_look 67 = .ok (.iload 5, 2) := by decide +kernel
theorem dX12_look_69 : decode cX12_look 69 = .ok (.iload_n 2, 1) := by decide +kernel
theorem dX12_look_70 : decode cX12_look 70 = .ok (.if_icmp .ge 55, 3) := by decide +kernel
theorem dX12_look_73 : decode cX12_look 73 = .ok (.iconst 0, 1) := by decide +kernel
theorem dX12_look_74 : decode cX12_look 74 = .ok (.istore 6, 2) := by decide +kernel
theorem dX12_look_76 : decode cX12_look 76 = .ok (.iload 6, 2) := by decide +kernel
theorem dX12_look_78 : decode cX12_look 78 = .ok (.iload_n 2, 1) := by decide +kernel
theorem dX12_look_79 : decode cX12_look 79 = .ok (.iload 5, 2) := by decide +kernel
theorem dX12_look_81 : decode cX12_look 81 = .ok (.isub, 1) := by decide +kernel
theorem dX12_look_82 : decode cX12_look 82 = .ok (.if_icmp .ge 37, 3) := by decide +kernel
theorem dX12_look_85 : decode cX12_look 85 = .ok (.aload_n 0, 1) := by decide +kernel
theorem dX12_look_86 : decode cX12_look 86 = .ok (.getfield 159, 3) := by decide +kernel
theorem dX12_look_89 : decode cX12_look 89 = .ok (.iconst 4, 1) := by decide +kernel
theorem dX12_look_90 : decode cX12_look 90 = .ok (.bipush 8, 2) := by decide +kernel
theorem dX12_look_92 : decode cX12_look 92 = .ok (.iload 5, 2) := by decide +kernel
theorem dX12_look_94 : decode cX12_look 94 = .ok (.imul, 1) := by decide +kernel
theorem dX12_look_95 : decode cX12_look 95 = .ok (.iload 6, 2) := by decide +kernel
theorem dX12_look_97 : decode cX12_look 97 = .ok (.iadd, 1) := by decide +kernel
theorem dX12_look_98 : decode cX12_look 98 = .ok (.imul, 1) := by decide +kernel
theorem dX12_look_99 : decode cX12_look 99 = .ok (.aload_n 0, 1) := by decide +kernel
theorem dX12_look_100 : decode cX12_look 100 = .ok (.iload 5, 2) := by decide +kernel
theorem dX12_look_102 : decode cX12_look 102 = .ok (.iload 6, 2) := by decide +kernel
theorem dX12_look_104 : decode cX12_look 104 = .ok (.invokevirtual 343, 3) := by decide +kernel
theorem dX12_look_107 : decode cX12_look 107 = .ok (.iadd, 1) := by decide +kernel
theorem dX12_look_108 : decode cX12_look 108 = .ok (.dup2, 1) := by decide +kernel
theorem dX12_look_109 : decode cX12_look 109 = .ok (.iaload, 1) := by decide +kernel
theorem dX12_look_110 : decode cX12_look 110 = .ok (.iconst 1, 1) := by decide +kernel
theorem dX12_look_111 : decode cX12_look 111 = .ok (.iadd, 1) := by decide +kernel
theorem dX12_look_112 : decode cX12_look 112 = .ok (.iastore, 1) := by decide +kernel
theorem dX12_look_113 : decode cX12_look 113 = .ok (.iinc 6 1, 3) := by decide +kernel
theorem dX12_look_116 : decode cX12_look 116 = .ok (.goto (-40), 3) := by decide +kernel
theorem dX12_look_119 : decode cX12_look 119 = .ok (.iinc 5 1, 3) := by decide +kernel
theorem dX12_look_122 : decode cX12_look 122 = .ok (.goto (-55), 3) := by decide +kernel
theorem dX12_look_125 : decode cX12_look 125 = .ok (.iinc 4 1, 3) := by decide +kernel
theorem dX12_look_128 : decode cX12_look 128 = .ok (.goto (-90), 3) := by decide +kernel
theorem dX12_look_131 : decode cX12_look 131 = .ok (.bipush (-2), 2) := by decide +kernel
theorem dX12_look_133 : decode cX12_look 133 = .ok (.istore 4, 2) := by decide +kernel
theorem dX12_look_135 : decode cX12_look 135 = .ok (.iconst 0, 1) := by decide +kernel
theorem dX12_look_136 : decode cX12_look 136 = .ok (.istore 5, 2) := by decide +kernel
theorem dX12_look_138 : decode cX12_look 138 = .ok (.iconst 0, 1) := by decide +kernel
theorem dX12_look_139 : decode cX12_look 139 = .ok (.istore 6, 2) := by decide +kernel
theorem dX12_look_141 : decode cX12_look 141 = .ok (.iload 6, 2) := by decide +kernel
theorem dX12_look_143 : decode cX12_look 143 = .ok (.iload_n 2, 1) := by decide +kernel
theorem dX12_look_144 : decode cX12_look 144 = .ok (.if_icmp .ge 80, 3) := by decide +kernel
theorem dX12_look_147 : decode cX12_look 147 = .ok (.iload_n 3, 1) := by decide +kernel
theorem dX12_look_148 : decode cX12_look 148 = .ok (.ifCond .eq 76, 3) := by decide +kernel
theorem dX12_look_151 : decode cX12_look 151 = .ok (.iconst 0, 1) := by decide +kernel
theorem dX12_look_152 : decode cX12_look 152 = .ok (.istore 7, 2) := by decide +kernel
theorem dX12_look_154 : decode cX12_look 154 = .ok (.iload 7, 2) := by decide +kernel
theorem dX12_look_156 : decode cX12_look 156 = .ok (.iload_n 2, 1) := by decide +kernel
theorem dX12_look_157 : decode cX12_look 157 = .ok (.iload 6, 2) := by decide +kernel
theorem dX12_look_159 : decode cX12_look 159 = .ok (.isub, 1) := by decide +kernel
theorem dX12_look_160 : decode cX12_look 160 = .ok (.if_icmp .ge 58, 3) := by decide +kernel
theorem dX12_look_163 : decode cX12_look 163 = .ok (.iload 4, 2) := by decide +kernel
theorem dX12_look_165 : decode cX12_look 165 = .ok (.ifCond .lt 23, 3) := by decide +kernel
theorem dX12_look_168 : decode cX12_look 168 = .ok (.aload_n 0, 1) := by decide +kernel
theorem dX12_look_169 : decode cX12_look 169 = .ok (.bipush 8, 2) := by decide +kernel
theorem dX12_look_171 : decode cX12_look 171 = .ok (.iload 6, 2) := by decide +kernel
theorem dX12_look_173 : decode cX12_look 173 = .ok (.imul, 1) := by decide +kernel
theorem dX12_look_174 : decode cX12_look 174 = .ok (.iload 7, 2) := by decide +kernel
theorem dX12_look_176 : decode cX12_look 176 = .ok (.iadd, 1) := by decide +kernel
theorem dX12_look_177 : decode cX12_look 177 = .ok (.invokevirtual 530, 3) := by decide +kernel
theorem dX12_look_180 : decode cX12_look 180 = .ok (.iload 5, 2) := by decide +kernel
theorem dX12_look_182 : decode cX12_look 182 = .ok (.if_icmp .lt 6, 3) := by decide +kernel
theorem dX12_look_185 : decode cX12_look 185 = .ok (.goto 27, 3) := by decide +kernel
theorem dX12_look_188 : decode cX12_look 188 = .ok (.bipush 10, 2) := by decide +kernel
theorem dX12_look_190 : decode cX12_look 190 = .ok (.iload 6, 2) := by decide +kernel
theorem dX12_look_192 : decode cX12_look 192 = .ok (.imul, 1) := by decide +kernel
theorem dX12_look_193 : decode cX12_look 193 = .ok (.iload 7, 2) := by decide +kernel
theorem dX12_look_195 : decode cX12_look 195 = .ok (.iadd, 1) := by decide +kernel
theorem dX12_look_196 : decode cX12_look 196 = .ok (.istore 4, 2) := by decide +kernel
theorem dX12_look_198 : decode cX12_look 198 = .ok (.aload_n 0, 1) := by decide +kernel
theorem dX12_look_199 : decode cX12_look 199 = .ok (.bipush 8, 2) := by decide +kernel
theorem dX12_look_201 : decode cX12_look 201 = .ok (.iload 6, 2) := by decide +kernel
theorem dX12_look_203 : decode cX12_look 203 = .ok (.imul, 1) := by decide +kernel
theorem dX12_look_204 : decode cX12_look 204 = .ok (.iload 7, 2) := by decide +kernel
theorem dX12_look_206 : decode cX12_look 206 = .ok (.iadd, 1) := by decide +kernel
theorem dX12_look_207 : decode cX12_look 207 = .ok (.invokevirtual 530, 3) := by decide +kernel
theorem dX12_look_210 : decode cX12_look 210 = .ok (.istore 5, 2) := by decide +kernel
theorem dX12_look_212 : decode cX12_look 212 = .ok (.iinc 7 1, 3) := by decide +kernel
theorem dX12_look_215 : decode cX12_look 215 = .ok (.goto (-61), 3) := by decide +kernel
theorem dX12_look_218 : decode cX12_look 218 = .ok (.iinc 6 1, 3) := by decide +kernel
theorem dX12_look_221 : decode cX12_look 221 = .ok (.goto (-80), 3) := by decide +kernel
theorem dX12_look_224 : decode cX12_look 224 = .ok (.iload 4, 2) := by decide +kernel
theorem dX12_look_226 : decode cX12_look 226 = .ok (.ireturn, 1) := by decide +kernel
def xX12_look : zX := (RX12, cX12_look, 8, (some .int), false, { frames := 6, cells := 0, slots := 0, locals := 203 }, 0, 0, 0, 0)
theorem rmX12_look : z_Rm xX12_look := by unfold z_Rm xX12_look; exact ⟨by decide, by decide⟩
theorem reX12_look : z_Re xX12_look := ⟨rfl, rfl⟩
theorem rlX12_look : 1 ≤ xX12_look.2.2.2.2.2.1.frames ∧ 21 ≤ xX12_look.2.2.2.2.2.1.locals := by unfold xX12_look; exact ⟨by decide, by decide⟩
theorem meX12_look : z_Me yX12_look xX12_look 2 := ⟨wd1306, wd848, by decide, by decide, by decide +kernel⟩
theorem fitX12_look_3 : z_Fit xX12_isAsked xX12_look := by unfold z_Fit; simp only [xX12_isAsked, xX12_look]; exact ⟨by decide, by decide⟩
theorem fitX12_look_42 : z_Fit xX12_rowsOf xX12_look := by unfold z_Fit; simp only [xX12_rowsOf, xX12_look]; exact ⟨by decide, by decide⟩
theorem fitX12_look_207 : z_Fit xX12_worstAt xX12_look := by unfold z_Fit; simp only [xX12_worstAt, xX12_look]; exact ⟨by decide, by decide⟩
theorem fitX12_look_177 : z_Fit xX12_worstAt xX12_look := by unfold z_Fit; simp only [xX12_worstAt, xX12_look]; exact ⟨by decide, by decide⟩
theorem fitX12_look_53 : z_Fit xX12_doesFit xX12_look := by unfold z_Fit; simp only [xX12_doesFit, xX12_look]; exact ⟨by decide, by decide⟩
theorem fitX12_look_104 : z_Fit xX12_laidAt xX12_look := by unfold z_Fit; simp only [xX12_laidAt, xX12_look]; exact ⟨by decide, by decide⟩
noncomputable def kX12_look_224 : zK zR := (q_iload 4 q_iret)
noncomputable def kX12_look_218 : zK ((zL × zS) ⊕ zR) := (q_iinc 6 1 q_ag)
noncomputable def kX12_look_212 : zK ((zL × zS) ⊕ ((zL × zS) ⊕ zR)) := (q_iinc 7 1 q_ag)
noncomputable def kX12_look_188 : zK ((zL × zS) ⊕ ((zL × zS) ⊕ zR)) := (q_push 10 (q_iload 6 (q_imul (q_iload 7 (q_iadd (q_istore 4 (q_aload 0 (q_push 8 (q_iload 6 (q_imul (q_iload 7 (q_iadd (q_callV 12 fX12_worstAt 1 (q_istore 5 kX12_look_212))))))))))))))
noncomputable def bX12_look_154 : zK ((zL × zS) ⊕ ((zL × zS) ⊕ zR)) := (q_iload 7 (q_iload 2 (q_iload 6 (q_isub (q_icmp_ge (q_dn kX12_look_218) (q_iload 4 (q_if_lt kX12_look_188 (q_aload 0 (q_push 8 (q_iload 6 (q_imul (q_iload 7 (q_iadd (q_callV 12 fX12_worstAt 1 (q_iload 5 (q_icmp_lt kX12_look_188 kX12_look_212))))))))))))))))
noncomputable def kX12_look_154 : zK ((zL × zS) ⊕ zR) := q_lp (bX12_look_154)
noncomputable def bX12_look_141 : zK ((zL × zS) ⊕ zR) := (q_iload 6 (q_iload 2 (q_icmp_ge (q_dn kX12_look_224) (q_iload 3 (q_if_eq (q_dn kX12_look_224) (q_push 0 (q_istore 7 kX12_look_154)))))))
noncomputable def kX12_look_141 : zK zR := q_lp (bX12_look_141)
noncomputable def kX12_look_131 : zK zR := (q_push (-2) (q_istore 4 (q_push 0 (q_istore 5 (q_push 0 (q_istore 6 kX12_look_141))))))
noncomputable def kX12_look_125 : zK ((zL × zS) ⊕ zR) := (q_iinc 4 1 q_ag)
noncomputable def kX12_look_119 : zK ((zL × zS) ⊕ ((zL × zS) ⊕ zR)) := (q_iinc 5 1 q_ag)
noncomputable def bX12_look_76 : zK ((zL × zS) ⊕ ((zL × zS) ⊕ ((zL × zS) ⊕ zR))) := (q_iload 6 (q_iload 2 (q_iload 5 (q_isub (q_icmp_ge (q_dn kX12_look_119) (q_aload 0 (q_getR 12 71 (q_push 4 (q_push 8 (q_iload 5 (q_imul (q_iload 6 (q_iadd (q_imul (q_aload 0 (q_iload 5 (q_iload 6 (q_callV 12 fX12_laidAt 2 (q_iadd (q_dup2 (q_iald (q_push 1 (q_iadd (q_iast (q_iinc 6 1 q_ag)))))))))))))))))))))))))
noncomputable def kX12_look_76 : zK ((zL × zS) ⊕ ((zL × zS) ⊕ zR)) := q_lp (bX12_look_76)
noncomputable def bX12_look_67 : zK ((zL × zS) ⊕ ((zL × zS) ⊕ zR)) := (q_iload 5 (q_iload 2 (q_icmp_ge (q_dn kX12_look_125) (q_push 0 (q_istore 6 kX12_look_76)))))
noncomputable def kX12_look_67 : zK ((zL × zS) ⊕ zR) := q_lp (bX12_look_67)
noncomputable def bX12_look_38 : zK ((zL × zS) ⊕ zR) := (q_iload 4 (q_aload 0 (q_iload 2 (q_callV 12 fX12_rowsOf 1 (q_icmp_ge (q_dn kX12_look_131) (q_aload 0 (q_iload 4 (q_iload 1 (q_iload 2 (q_callV 12 fX12_doesFit 3 (q_if_ne (q_push 1 (q_istore 3 (q_push 0 (q_istore 5 kX12_look_67)))) kX12_look_125)))))))))))
noncomputable def kX12_look_38 : zK zR := q_lp (bX12_look_38)
noncomputable def kX12_look_33 : zK zR := (q_push 0 (q_istore 3 (q_push 0 (q_istore 4 kX12_look_38))))
noncomputable def bX12_look_13 : zK ((zL × zS) ⊕ zR) := (q_iload 3 (q_push 256 (q_icmp_ge (q_dn kX12_look_33) (q_aload 0 (q_getR 12 71 (q_iload 3 (q_push 0 (q_iast (q_iinc 3 1 q_ag)))))))))
noncomputable def kX12_look_13 : zK zR := q_lp (bX12_look_13)
noncomputable def kX12_look_0 : zK zR := (q_aload 0 (q_iload 1 (q_iload 2 (q_callV 12 fX12_isAsked 2 (q_if_ne (q_push 0 (q_istore 3 kX12_look_13)) (q_push (-1) q_iret))))))
set_option maxRecDepth 100000 in
theorem tX12_look_224 {l : Launch} {D : zD} {B sz0 : Nat} {post : Option Value → zS → Prop} : zSnd l D B xX12_look sz0 post 224 kX12_look_224 (z_Jr post) := (s_iload dX12_look_224 (s_iret dX12_look_226 rfl))
set_option maxRecDepth 100000 in
theorem tX12_look_218 {l : Launch} {D : zD} {B sz0 : Nat} {post : Option Value → zS → Prop} : zSnd l D B xX12_look sz0 post 218 kX12_look_218 (z_Jl l D B xX12_look sz0 post 141 (z_Jr post)) := (s_iinc dX12_look_218 (by decide) (s_goto (tgt := 141) dX12_look_221 (by decide) s_ag))
set_option maxRecDepth 100000 in
theorem tX12_look_212 {l : Launch} {D : zD} {B sz0 : Nat} {post : Option Value → zS → Prop} : zSnd l D B xX12_look sz0 post 212 kX12_look_212 (z_Jl l D B xX12_look sz0 post 154 (z_Jl l D B xX12_look sz0 post 141 (z_Jr post))) := (s_iinc dX12_look_212 (by decide) (s_goto (tgt := 154) dX12_look_215 (by decide) s_ag))
set_option maxRecDepth 100000 in
theorem tX12_look_188 {l : Launch} {D : zD} {B sz0 : Nat} {post : Option Value → zS → Prop} : zSnd l D B xX12_look sz0 post 188 kX12_look_188 (z_Jl l D B xX12_look sz0 post 154 (z_Jl l D B xX12_look sz0 post 141 (z_Jr post))) := (s_bipush dX12_look_188 (by decide) (s_iload dX12_look_190 (s_imul dX12_look_192 (s_iload dX12_look_193 (s_iadd dX12_look_195 (s_istore dX12_look_196 (s_aload_n dX12_look_198 rfl (s_bipush dX12_look_199 (by decide) (s_iload dX12_look_201 (s_imul dX12_look_203 (s_iload dX12_look_204 (s_iadd dX12_look_206 (s_callV (r := (RX12, TX12, 74)) dX12_look_207 mX12_worstAt meX12_worstAt wd1303 wd1304 rfl rfl reX12_worstAt rmX12_look (fitX12_look_207) wd1305 (s_istore dX12_look_210 tX12_look_212))))))))))))))
set_option maxRecDepth 100000 in
theorem tX12_look_154 {l : Launch} {D : zD} {B sz0 : Nat} {post : Option Value → zS → Prop} : zSnd l D B xX12_look sz0 post 154 kX12_look_154 (z_Jl l D B xX12_look sz0 post 141 (z_Jr post)) := s_lp (body := bX12_look_154) (s_iload dX12_look_154 (s_iload_n dX12_look_156 rfl (s_iload dX12_look_157 (s_isub dX12_look_159 (s_icmp_ge (tgt := 218) dX12_look_160 (by decide) (s_dn tX12_look_218) (s_iload dX12_look_163 (s_if_lt (tgt := 188) dX12_look_165 (by decide) tX12_look_188 (s_aload_n dX12_look_168 rfl (s_bipush dX12_look_169 (by decide) (s_iload dX12_look_171 (s_imul dX12_look_173 (s_iload dX12_look_174 (s_iadd dX12_look_176 (s_callV (r := (RX12, TX12, 74)) dX12_look_177 mX12_worstAt meX12_worstAt wd1303 wd1304 rfl rfl reX12_worstAt rmX12_look (fitX12_look_177) wd1305 (s_iload dX12_look_180 (s_icmp_lt (tgt := 188) dX12_look_182 (by decide) tX12_look_188 (s_goto (tgt := 212) dX12_look_185 (by decide) tX12_look_212)))))))))))))))))
set_option maxRecDepth 100000 in
theorem tX12_look_141 {l : Launch} {D : zD} {B sz0 : Nat} {post : Option Value → zS → Prop} : zSnd l D B xX12_look sz0 post 141 kX12_look_141 (z_Jr post) := s_lp (body := bX12_look_141) (s_iload dX12_look_141 (s_iload_n dX12_look_143 rfl (s_icmp_ge (tgt := 224) dX12_look_144 (by decide) (s_dn tX12_look_224) (s_iload_n dX12_look_147 rfl (s_if_eq (tgt := 224) dX12_look_148 (by decide) (s_dn tX12_look_224) (s_iconst dX12_look_151 (by decide) (s_istore dX12_look_152 tX12_look_154)))))))
set_option maxRecDepth 100000 in
theorem tX12_look_131 {l : Launch} {D : zD} {B sz0 : Nat} {post : Option Value → zS → Prop} : zSnd l D B xX12_look sz0 post 131 kX12_look_131 (z_Jr post) := (s_bipush dX12_look_131 (by decide) (s_istore dX12_look_133 (s_iconst dX12_look_135 (by decide) (s_istore dX12_look_136 (s_iconst dX12_look_138 (by decide) (s_istore dX12_look_139 tX12_look_141))))))
set_option maxRecDepth 100000 in
theorem tX12_look_125 {l : Launch} {D : zD} {B sz0 : Nat} {post : Option Value → zS → Prop} : zSnd l D B xX12_look sz0 post 125 kX12_look_125 (z_Jl l D B xX12_look sz0 post 38 (z_Jr post)) := (s_iinc dX12_look_125 (by decide) (s_goto (tgt := 38) dX12_look_128 (by decide) s_ag))
set_option maxRecDepth 100000 in
theorem tX12_look_119 {l : Launch} {D : zD} {B sz0 : Nat} {post : Option Value → zS → Prop} : zSnd l D B xX12_look sz0 post 119 kX12_look_119 (z_Jl l D B xX12_look sz0 post 67 (z_Jl l D B xX12_look sz0 post 38 (z_Jr post))) := (s_iinc dX12_look_119 (by decide) (s_goto (tgt := 67) dX12_look_122 (by decide) s_ag))
set_option maxRecDepth 100000 in
theorem tX12_look_76 {l : Launch} {D : zD} {B sz0 : Nat} {post : Option Value → zS → Prop} : zSnd l D B xX12_look sz0 post 76 kX12_look_76 (z_Jl l D B xX12_look sz0 post 67 (z_Jl l D B xX12_look sz0 post 38 (z_Jr post))) := s_lp (body := bX12_look_76) (s_iload dX12_look_76 (s_iload_n dX12_look_78 rfl (s_iload dX12_look_79 (s_isub dX12_look_81 (s_icmp_ge (tgt := 119) dX12_look_82 (by decide) (s_dn tX12_look_119) (s_aload_n dX12_look_85 rfl (s_getR (f := 71) dX12_look_86 clX12 (by decide) rfl wd899 (s_iconst dX12_look_89 (by decide) (s_bipush dX12_look_90 (by decide) (s_iload dX12_look_92 (s_imul dX12_look_94 (s_iload dX12_look_95 (s_iadd dX12_look_97 (s_imul dX12_look_98 (s_aload_n dX12_look_99 rfl (s_iload dX12_look_100 (s_iload dX12_look_102 (s_callV (r := (RX12, TX12, 74)) dX12_look_104 mX12_laidAt meX12_laidAt wd1054 wd1055 rfl rfl reX12_laidAt rmX12_look (fitX12_look_104) wd1056 (s_iadd dX12_look_107 (s_dup2 dX12_look_108 (s_iald dX12_look_109 (s_iconst dX12_look_110 (by decide) (s_iadd dX12_look_111 (s_iast dX12_look_112 (s_iinc dX12_look_113 (by decide) (s_goto (tgt := 76) dX12_look_116 (by decide) s_ag))))))))))))))))))))))))))
set_option maxRecDepth 100000 in
theorem tX12_look_67 {l : Launch} {D : zD} {B sz0 : Nat} {post : Option Value → zS → Prop} : zSnd l D B xX12_look sz0 post 67 kX12_look_67 (z_Jl l D B xX12_look sz0 post 38 (z_Jr post)) := s_lp (body := bX12_look_67) (s_iload dX12_look_67 (s_iload_n dX12_look_69 rfl (s_icmp_ge (tgt := 125) dX12_look_70 (by decide) (s_dn tX12_look_125) (s_iconst dX12_look_73 (by decide) (s_istore dX12_look_74 tX12_look_76)))))
set_option maxRecDepth 100000 in
theorem tX12_look_38 {l : Launch} {D : zD} {B sz0 : Nat} {post : Option Value → zS → Prop} : zSnd l D B xX12_look sz0 post 38 kX12_look_38 (z_Jr post) := s_lp (body := bX12_look_38) (s_iload dX12_look_38 (s_aload_n dX12_look_40 rfl (s_iload_n dX12_look_41 rfl (s_callV (r := (RX12, TX12, 74)) dX12_look_42 mX12_rowsOf meX12_rowsOf wd1188 wd1189 rfl rfl reX12_rowsOf rmX12_look (fitX12_look_42) wd1190 (s_icmp_ge (tgt := 131) dX12_look_45 (by decide) (s_dn tX12_look_131) (s_aload_n dX12_look_48 rfl (s_iload dX12_look_49 (s_iload_n dX12_look_51 rfl (s_iload_n dX12_look_52 rfl (s_callV (r := (RX12, TX12, 74)) dX12_look_53 mX12_doesFit meX12_doesFit wd1298 wd1299 rfl rfl reX12_doesFit rmX12_look (fitX12_look_53) wd1300 (s_if_ne (tgt := 62) dX12_look_56 (by decide) (s_iconst dX12_look_62 (by decide) (s_istore_n dX12_look_63 rfl (s_iconst dX12_look_64 (by decide) (s_istore dX12_look_65 tX12_look_67)))) (s_goto (tgt := 125) dX12_look_59 (by decide) tX12_look_125))))))))))))
set_option maxRecDepth 100000 in
theorem tX12_look_33 {l : Launch} {D : zD} {B sz0 : Nat} {post : Option Value → zS → Prop} : zSnd l D B xX12_look sz0 post 33 kX12_look_33 (z_Jr post) := (s_iconst dX12_look_33 (by decide) (s_istore_n dX12_look_34 rfl (s_iconst dX12_look_35 (by decide) (s_istore dX12_look_36 tX12_look_38))))
set_option maxRecDepth 100000 in
theorem tX12_look_13 {l : Launch} {D : zD} {B sz0 : Nat} {post : Option Value → zS → Prop} : zSnd l D B xX12_look sz0 post 13 kX12_look_13 (z_Jr post) := s_lp (body := bX12_look_13) (s_iload_n dX12_look_13 rfl (s_sipush dX12_look_14 (by decide) (s_icmp_ge (tgt := 33) dX12_look_17 (by decide) (s_dn tX12_look_33) (s_aload_n dX12_look_20 rfl (s_getR (f := 71) dX12_look_21 clX12 (by decide) rfl wd899 (s_iload_n dX12_look_24 rfl (s_iconst dX12_look_25 (by decide) (s_iast dX12_look_26 (s_iinc dX12_look_27 (by decide) (s_goto (tgt := 13) dX12_look_30 (by decide) s_ag))))))))))
set_option maxRecDepth 100000 in
theorem tX12_look_0 {l : Launch} {D : zD} {B sz0 : Nat} {post : Option Value → zS → Prop} : zSnd l D B xX12_look sz0 post 0 kX12_look_0 (z_Jr post) := (s_aload_n dX12_look_0 rfl (s_iload_n dX12_look_1 rfl (s_iload_n dX12_look_2 rfl (s_callV (r := (RX12, TX12, 74)) dX12_look_3 mX12_isAsked meX12_isAsked wd1295 wd1296 rfl rfl reX12_isAsked rmX12_look (fitX12_look_3) wd1297 (s_if_ne (tgt := 11) dX12_look_6 (by decide) (s_iconst dX12_look_11 (by decide) (s_istore_n dX12_look_12 rfl tX12_look_13)) (s_iconst dX12_look_9 (by decide) (s_iret dX12_look_10 rfl)))))))
noncomputable def fX12_look : zF := z_fn 8 kX12_look_0
theorem mX12_look {l : Launch} {D : zD} {B : Nat} : z_MF l D B yX12_look xX12_look fX12_look := z_mf (by decide) rfl (fun h => by cases h) rfl (fun as σ r h => ⟨z_fn_len h, kX12_look_0, z_fn_run h, fun _ => tX12_look_0⟩)
/-! ===== RowChildrenModel.hold ===== -/
theorem dX12_hold_0 : decode cX12_hold 0 = .ok (.iload_n 1, 1) := by decide +kernel
theorem dX12_hold_1 : decode cX12_hold 1 = .ok (.iconst 0, 1) := by decide +kernel
theorem dX12_hold_2 : decode cX12_hold 2 = .ok (.iconst 2, 1) := by decide +kernel
theorem dX12_hold_3 : decode cX12_hold 3 = .ok (.invokestatic 323, 3) := by decide +kernel
theorem dX12_hold_6 : decode cX12_hold 6 = .ok (.ifCond .ne 5, 3) := by decide +kernel
theorem dX12_hold_9 : decode cX12_hold 9 = .ok (.iconst 0, 1) := by decide +kernel
theorem dX12_hold_10 : decode cX12_hold 10 = .ok (.ireturn, 1) := by decide +kernel
theorem dX12_hold_11 : decode cX12_hold 11 = .ok (.aload_n 0, 1) := by decide +kernel
theorem dX12_hold_12 : decode cX12_hold 12 = .ok (.getfield 162, 3) := by decide +kernel
theorem dX12_hold_15 : decode cX12_hold 15 = .ok (.iload_n 1, 1) := by decide +kernel
theorem dX12_hold_16 : decode cX12_hold 16 = .ok (.iconst 1, 1) := by decide +kernel
theorem dX12_hold_17 : decode cX12_hold 17 = .ok (.bastore, 1) := by decide +kernel
theorem dX12_hold_18 : decode cX12_hold 18 = .ok (.iconst 0, 1) := by decide +kernel
theorem dX12_hold_19 : decode cX12_hold 19 = .ok (.istore_n 2, 1) := by decide +kernel
theorem dX12_hold_20 : decode cX12_hold 20 = .ok (.iload_n 2, 1) := by decide +kernel
theorem dX12_hold_21 : decode cX12_hold 21 = .ok (.bipush 38, 2) := by decide +kernel
theorem dX12_hold_23 : decode cX12_hold 23 = .ok (.if_icmp .ge 26, 3) := by decide +kernel
theorem dX12_hold_26 : decode cX12_hold 26 = .ok (.aload_n 0, 1) := by decide +kernel
theorem dX12_hold_27 : decode cX12_hold 27 = .ok (.getfield 165, 3) := by decide +kernel
theorem dX12_hold_30 : decode cX12_hold 30 = .ok (.bipush 38, 2) := by decide +kernel
theorem dX12_hold_32 : decode cX12_hold 32 = .ok (.iload_n 1, 1) := by decide +kernel
theorem dX12_hold_33 : decode cX12_hold 33 = .ok (.imul, 1) := by decide +kernel
theorem dX12_hold_34 : decode cX12_hold 34 = .ok (.iload_n 2, 1) := by decide +kernel
theorem dX12_hold_35 : decode cX12_hold 35 = .ok (.iadd, 1) := by decide +kernel
theorem dX12_hold_36 : decode cX12_hold 36 = .ok (.aload_n 0, 1) := by decide +kernel
theorem dX12_hold_37 : decode cX12_hold 37 = .ok (.getfield 104, 3) := by decide +kernel
theorem dX12_hold_40 : decode cX12_hold 40 = .ok (.iload_n 2, 1) := by decide +kernel
theorem dX12_hold_41 : decode cX12_hold 41 = .ok (.iaload, 1) := by decide +kernel
theorem dX12_hold_42 : decode cX12_hold 42 = .ok (.iastore, 1) := by decide +kernel
theorem dX12_hold_43 : decode cX12_hold 43 = .ok (.iinc 2 1, 3) := by decide +kernel
theorem dX12_hold_46 : decode cX12_hold 46 = .ok (.goto (-26), 3) := by decide +kernel
theorem dX12_hold_49 : decode cX12_hold 49 = .ok (.iconst 1, 1) := by decide +kernel
theorem dX12_hold_50 : decode cX12_hold 50 = .ok (.ireturn, 1) := by decide +kernel
def xX12_hold : zX := (RX12, cX12_hold, 3, (some .boolean), false, { frames := 2, cells := 0, slots := 0, locals := 112 }, 0, 0, 0, 0)
theorem rmX12_hold : z_Rm xX12_hold := by unfold z_Rm xX12_hold; exact ⟨by decide, by decide⟩
theorem reX12_hold : z_Re xX12_hold := ⟨rfl, rfl⟩
theorem rlX12_hold : 1 ≤ xX12_hold.2.2.2.2.2.1.frames ∧ 21 ≤ xX12_hold.2.2.2.2.2.1.locals := by unfold xX12_hold; exact ⟨by decide, by decide⟩
theorem meX12_hold : z_Me yX12_hold xX12_hold 1 := ⟨wd1307, wd848, by decide, by decide, by decide +kernel⟩
theorem fitX12_hold_3 : z_Fit xX12_in xX12_hold := by unfold z_Fit; simp only [xX12_in, xX12_hold]; exact ⟨by decide, by decide⟩
noncomputable def kX12_hold_49 : zK zR := (q_push 1 q_zret)
noncomputable def bX12_hold_20 : zK ((zL × zS) ⊕ zR) := (q_iload 2 (q_push 38 (q_icmp_ge (q_dn kX12_hold_49) (q_aload 0 (q_getR 12 73 (q_push 38 (q_iload 1 (q_imul (q_iload 2 (q_iadd (q_aload 0 (q_getR 12 46 (q_iload 2 (q_iald (q_iast (q_iinc 2 1 q_ag))))))))))))))))
noncomputable def kX12_hold_20 : zK zR := q_lp (bX12_hold_20)
noncomputable def kX12_hold_0 : zK zR := (q_iload 1 (q_push 0 (q_push 2 (q_callS fX12_in 3 (q_if_ne (q_aload 0 (q_getR 12 72 (q_iload 1 (q_push 1 (q_zast (q_push 0 (q_istore 2 kX12_hold_20))))))) (q_push 0 q_zret))))))
set_option maxRecDepth 100000 in
theorem tX12_hold_49 {l : Launch} {D : zD} {B sz0 : Nat} {post : Option Value → zS → Prop} : zSnd l D B xX12_hold sz0 post 49 kX12_hold_49 (z_Jr post) := (s_iconst dX12_hold_49 (by decide) (s_zret dX12_hold_50 rfl))
set_option maxRecDepth 100000 in
theorem tX12_hold_20 {l : Launch} {D : zD} {B sz0 : Nat} {post : Option Value → zS → Prop} : zSnd l D B xX12_hold sz0 post 20 kX12_hold_20 (z_Jr post) := s_lp (body := bX12_hold_20) (s_iload_n dX12_hold_20 rfl (s_bipush dX12_hold_21 (by decide) (s_icmp_ge (tgt := 49) dX12_hold_23 (by decide) (s_dn tX12_hold_49) (s_aload_n dX12_hold_26 rfl (s_getR (f := 73) dX12_hold_27 clX12 (by decide) rfl wd901 (s_bipush dX12_hold_30 (by decide) (s_iload_n dX12_hold_32 rfl (s_imul dX12_hold_33 (s_iload_n dX12_hold_34 rfl (s_iadd dX12_hold_35 (s_aload_n dX12_hold_36 rfl (s_getR (f := 46) dX12_hold_37 clX12 (by decide) rfl wd860 (s_iload_n dX12_hold_40 rfl (s_iald dX12_hold_41 (s_iast dX12_hold_42 (s_iinc dX12_hold_43 (by decide) (s_goto (tgt := 20) dX12_hold_46 (by decide) s_ag)))))))))))))))))
set_option maxRecDepth 100000 in
theorem tX12_hold_0 {l : Launch} {D : zD} {B sz0 : Nat} {post : Option Value → zS → Prop} : zSnd l D B xX12_hold sz0 post 0 kX12_hold_0 (z_Jr post) := (s_iload_n dX12_hold_0 rfl (s_iconst dX12_hold_1 (by decide) (s_iconst dX12_hold_2 (by decide) (s_callS dX12_hold_3 mX12_in meX12_in wd1033 rfl reX12_in rmX12_hold (fitX12_hold_3) wd1034 (s_if_ne (tgt := 11) dX12_hold_6 (by decide) (s_aload_n dX12_hold_11 rfl (s_getR (f := 72) dX12_hold_12 clX12 (by decide) rfl wd900 (s_iload_n dX12_hold_15 rfl (s_iconst dX12_hold_16 (by decide) (s_zast dX12_hold_17 (s_iconst dX12_hold_18 (by decide) (s_istore_n dX12_hold_19 rfl tX12_hold_20))))))) (s_iconst dX12_hold_9 (by decide) (s_zret dX12_hold_10 rfl)))))))
noncomputable def fX12_hold : zF := z_fn 3 kX12_hold_0
theorem mX12_hold {l : Launch} {D : zD} {B : Nat} : z_MF l D B yX12_hold xX12_hold fX12_hold := z_mf (by decide) rfl (fun h => by cases h) rfl (fun as σ r h => ⟨z_fn_len h, kX12_hold_0, z_fn_run h, fun _ => tX12_hold_0⟩)
/-! ===== RowChildrenModel.restore ===== -/
theorem dX12_restore_0 : decode cX12_restore 0 = .ok (.iload_n 1, 1) := by decide +kernel
theorem dX12_restore_1 : decode cX12_restore 1 = .ok (.iconst 0, 1) := by decide +kernel
theorem dX12_restore_2 : decode cX12_restore 2 = .ok (.iconst 2, 1) := by decide +kernel
theorem dX12_restore_3 : decode cX12_restore 3 = .ok (.invokestatic 323, 3) := by decide +kernel
theorem dX12_restore_6 : decode cX12_restore 6 = .ok (.ifCond .eq 12, 3) := by decide +kernel
theorem dX12_restore_9 : decode cX12_restore 9 = .ok (.aload_n 0, 1) := by decide +kernel
theorem dX12_restore_10 : decode cX12_restore 10 = .ok (.getfield 162, 3) := by decide +kernel
theorem dX12_restore_13 : decode cX12_restore 13 = .ok (.iload_n 1, 1) := by decide +kernel
theorem dX12_restore_14 : decode cX12_restore 14 = .ok (.baload, 1) := by decide +kernel
theorem dX12_restore_15 : decode cX12_restore 15 = .ok (.ifCond .ne 5, 3) := by decide +kernel
theorem dX12_restore_18 : decode cX12_restore 18 = .ok (.iconst 0, 1) := by decide +kernel
theorem dX12_restore_19 : decode cX12_restore 19 = .ok (.ireturn, 1) := by decide +kernel
theorem dX12_restore_20 : decode cX12_restore 20 = .ok (.iconst 0, 1) := by decide +kernel
theorem dX12_restore_21 : decode cX12_restore 21 = .ok (.istore_n 2, 1) := by decide +kernel
theorem dX12_restore_22 : decode cX12_restore 22 = .ok (.iload_n 2, 1) := by decide +kernel
theorem dX12_restore_23 : decode cX12_restore 23 = .ok (.bipush 38, 2) := by decide +kernel
theorem dX12_restore_25 : decode cX12_restore 25 = .ok (.if_icmp .ge 26, 3) := by decide +kernel
theorem dX12_restore_28 : decode cX12_restore 28 = .ok (.aload_n 0, 1) := by decide +kernel
theorem dX12_restore_29 : decode cX12_restore 29 = .ok (.getfield 104, 3) := by decide +kernel
theorem dX12_restore_32 : decode cX12_restore 32 = .ok (.iload_n 2, 1) := by decide +kernel
theorem dX12_restore_33 : decode cX12_restore 33 = .ok (.aload_n 0, 1) := by decide +kernel
theorem dX12_restore_34 : decode cX12_restore 34 = .ok (.getfield 165, 3) := by decide +kernel
theorem dX12_restore_37 : decode cX12_restore 37 = .ok (.bipush 38, 2) := by decide +kernel
theorem dX12_restore_39 : decode cX12_restore 39 = .ok (.iload_n 1, 1) := by decide +kernel
theorem dX12_restore_40 : decode cX12_restore 40 = .ok (.imul, 1) := by decide +kernel
theorem dX12_restore_41 : decode cX12_restore 41 = .ok (.iload_n 2, 1) := by decide +kernel
theorem dX12_restore_42 : decode cX12_restore 42 = .ok (.iadd, 1) := by decide +kernel
theorem dX12_restore_43 : decode cX12_restore 43 = .ok (.iaload, 1) := by decide +kernel
theorem dX12_restore_44 : decode cX12_restore 44 = .ok (.iastore, 1) := by decide +kernel
theorem dX12_restore_45 : decode cX12_restore 45 = .ok (.iinc 2 1, 3) := by decide +kernel
theorem dX12_restore_48 : decode cX12_restore 48 = .ok (.goto (-26), 3) := by decide +kernel
theorem dX12_restore_51 : decode cX12_restore 51 = .ok (.aload_n 0, 1) := by decide +kernel
theorem dX12_restore_52 : decode cX12_restore 52 = .ok (.iconst 0, 1) := by decide +kernel
theorem dX12_restore_53 : decode cX12_restore 53 = .ok (.putfield 271, 3) := by decide +kernel
theorem dX12_restore_56 : decode cX12_restore 56 = .ok (.iconst 1, 1) := by decide +kernel
theorem dX12_restore_57 : decode cX12_restore 57 = .ok (.ireturn, 1) := by decide +kernel
def xX12_restore : zX := (RX12, cX12_restore, 3, (some .boolean), false, { frames := 2, cells := 0, slots := 0, locals := 112 }, 0, 0, 0, 0)
theorem rmX12_restore : z_Rm xX12_restore := by unfold z_Rm xX12_restore; exact ⟨by decide, by decide⟩
theorem reX12_restore : z_Re xX12_restore := ⟨rfl, rfl⟩
theorem rlX12_restore : 1 ≤ xX12_restore.2.2.2.2.2.1.frames ∧ 21 ≤ xX12_restore.2.2.2.2.2.1.locals := by unfold xX12_restore; exact ⟨by decide, by decide⟩
theorem meX12_restore : z_Me yX12_restore xX12_restore 1 := ⟨wd1308, wd848, by decide, by decide, by decide +kernel⟩
theorem fitX12_restore_3 : z_Fit xX12_in xX12_restore := by unfold z_Fit; simp only [xX12_in, xX12_restore]; exact ⟨by decide, by decide⟩
noncomputable def kX12_restore_18 : zK zR := (q_push 0 q_zret)
noncomputable def kX12_restore_51 : zK zR := (q_aload 0 (q_push 0 (q_putI 12 52 (q_push 1 q_zret))))
noncomputable def bX12_restore_22 : zK ((zL × zS) ⊕ zR) := (q_iload 2 (q_push 38 (q_icmp_ge (q_dn kX12_restore_51) (q_aload 0 (q_getR 12 46 (q_iload 2 (q_aload 0 (q_getR 12 73 (q_push 38 (q_iload 1 (q_imul (q_iload 2 (q_iadd (q_iald (q_iast (q_iinc 2 1 q_ag))))))))))))))))
noncomputable def kX12_restore_22 : zK zR := q_lp (bX12_restore_22)
noncomputable def kX12_restore_0 : zK zR := (q_iload 1 (q_push 0 (q_push 2 (q_callS fX12_in 3 (q_if_eq kX12_restore_18 (q_aload 0 (q_getR 12 72 (q_iload 1 (q_zald (q_if_ne (q_push 0 (q_istore 2 kX12_restore_22)) kX12_restore_18))))))))))
set_option maxRecDepth 100000 in
theorem tX12_restore_18 {l : Launch} {D : zD} {B sz0 : Nat} {post : Option Value → zS → Prop} : zSnd l D B xX12_restore sz0 post 18 kX12_restore_18 (z_Jr post) := (s_iconst dX12_restore_18 (by decide) (s_zret dX12_restore_19 rfl))
set_option maxRecDepth 100000 in
theorem tX12_restore_51 {l : Launch} {D : zD} {B sz0 : Nat} {post : Option Value → zS → Prop} : zSnd l D B xX12_restore sz0 post 51 kX12_restore_51 (z_Jr post) := (s_aload_n dX12_restore_51 rfl (s_iconst dX12_restore_52 (by decide) (s_putI (f := 52) dX12_restore_53 clX12 (by decide) rfl rfl rfl wd1021 (s_iconst dX12_restore_56 (by decide) (s_zret dX12_restore_57 rfl)))))
set_option maxRecDepth 100000 in
theorem tX12_restore_22 {l : Launch} {D : zD} {B sz0 : Nat} {post : Option Value → zS → Prop} : zSnd l D B xX12_restore sz0 post 22 kX12_restore_22 (z_Jr post) := s_lp (body := bX12_restore_22) (s_iload_n dX12_restore_22 rfl (s_bipush dX12_restore_23 (by decide) (s_icmp_ge (tgt := 51) dX12_restore_25 (by decide) (s_dn tX12_restore_51) (s_aload_n dX12_restore_28 rfl (s_getR (f := 46) dX12_restore_29 clX12 (by decide) rfl wd860 (s_iload_n dX12_restore_32 rfl (s_aload_n dX12_restore_33 rfl (s_getR (f := 73) dX12_restore_34 clX12 (by decide) rfl wd901 (s_bipush dX12_restore_37 (by decide) (s_iload_n dX12_restore_39 rfl (s_imul dX12_restore_40 (s_iload_n dX12_restore_41 rfl (s_iadd dX12_restore_42 (s_iald dX12_restore_43 (s_iast dX12_restore_44 (s_iinc dX12_restore_45 (by decide) (s_goto (tgt := 22) dX12_restore_48 (by decide) s_ag)))))))))))))))))
set_option maxRecDepth 100000 in
theorem tX12_restore_0 {l : Launch} {D : zD} {B sz0 : Nat} {post : Option Value → zS → Prop} : zSnd l D B xX12_restore sz0 post 0 kX12_restore_0 (z_Jr post) := (s_iload_n dX12_restore_0 rfl (s_iconst dX12_restore_1 (by decide) (s_iconst dX12_restore_2 (by decide) (s_callS dX12_restore_3 mX12_in meX12_in wd1033 rfl reX12_in rmX12_restore (fitX12_restore_3) wd1034 (s_if_eq (tgt := 18) dX12_restore_6 (by decide) tX12_restore_18 (s_aload_n dX12_restore_9 rfl (s_getR (f := 72) dX12_restore_10 clX12 (by decide) rfl wd900 (s_iload_n dX12_restore_13 rfl (s_zald dX12_restore_14 (s_if_ne (tgt := 20) dX12_restore_15 (by decide) (s_iconst dX12_restore_20 (by decide) (s_istore_n dX12_restore_21 rfl tX12_restore_22)) tX12_restore_18))))))))))
noncomputable def fX12_restore : zF := z_fn 3 kX12_restore_0
theorem mX12_restore {l : Launch} {D : zD} {B : Nat} : z_MF l D B yX12_restore xX12_restore fX12_restore := z_mf (by decide) rfl (fun h => by cases h) rfl (fun as σ r h => ⟨z_fn_len h, kX12_restore_0, z_fn_run h, fun _ => tX12_restore_0⟩)
/-! ===== RowChildrenModel.fairBits ===== -/
theorem dX12_fairBits_0 : decode cX12_fairBits 0 = .ok (.iconst 0, 1) := by decide +kernel
theorem dX12_fairBits_1 : decode cX12_fairBits 1 = .ok (.istore_n 1, 1) := by decide +kernel
theorem dX12_fairBits_2 : decode cX12_fairBits 2 = .ok (.iconst 0, 1) := by decide +kernel
theorem dX12_fairBits_3 : decode cX12_fairBits 3 = .ok (.istore_n 2, 1) := by decide +kernel
theorem dX12_fairBits_4 : decode cX12_fairBits 4 = .ok (.iload_n 2, 1) := by decide +kernel
theorem dX12_fairBits_5 : decode cX12_fairBits 5 = .ok (.aload_n 0, 1) := by decide +kernel
theorem dX12_fairBits_6 : decode cX12_fairBits 6 = .ok (.getfield 55, 3) := by decide +kernel
theorem dX12_fairBits_9 : decode cX12_fairBits 9 = .ok (.aload_n 0, 1) := by decide +kernel
theorem dX12_fairBits_10 : decode cX12_fairBits 10 = .ok (.getfield 249, 3) := by decide +kernel
theorem dX12_fairBits_13 : decode cX12_fairBits 13 = .ok (.iaload, 1) := by decide +kernel
theorem dX12_fairBits_14 : decode cX12_fairBits 14 = .ok (.if_icmp .ge 27, 3) := by decide +kernel
theorem dX12_fairBits_17 : decode cX12_fairBits 17 = .ok (.aload_n 0, 1) := by decide +kernel
theorem dX12_fairBits_18 : decode cX12_fairBits 18 = .ok (.iload_n 2, 1) := by decide +kernel
theorem dX12_fairBits_19 : decode cX12_fairBits 19 = .ok (.invokevirtual 380, 3) := by decide +kernel
theorem dX12_fairBits_22 : decode cX12_fairBits 22 = .ok (.aload_n 0, 1) := by decide +kernel
theorem dX12_fairBits_23 : decode cX12_fairBits 23 = .ok (.invokevirtual 410, 3) := by decide +kernel
theorem dX12_fairBits_26 : decode cX12_fairBits 26 = .ok (.ifCond .eq 9, 3) := by decide +kernel
theorem dX12_fairBits_29 : decode cX12_fairBits 29 = .ok (.iload_n 1, 1) := by decide +kernel
theorem dX12_fairBits_30 : decode cX12_fairBits 30 = .ok (.iconst 1, 1) := by decide +kernel
theorem dX12_fairBits_31 : decode cX12_fairBits 31 = .ok (.iload_n 2, 1) := by decide +kernel
theorem dX12_fairBits_32 : decode cX12_fairBits 32 = .ok (.ishl, 1) := by decide +kernel
theorem dX12_fairBits_33 : decode cX12_fairBits 33 = .ok (.ior, 1) := by decide +kernel
theorem dX12_fairBits_34 : decode cX12_fairBits 34 = .ok (.istore_n 1, 1) := by decide +kernel
theorem dX12_fairBits_35 : decode cX12_fairBits 35 = .ok (.iinc 2 1, 3) := by decide +kernel
theorem dX12_fairBits_38 : decode cX12_fairBits 38 = .ok (.goto (-34), 3) := by decide +kernel
theorem dX12_fairBits_41 : decode cX12_fairBits 41 = .ok (.iload_n 1, 1) := by decide +kernel
theorem dX12_fairBits_42 : decode cX12_fairBits 42 = .ok (.ireturn, 1) := by decide +kernel
def xX12_fairBits : zX := (RX12, cX12_fairBits, 3, (some .int), false, { frames := 5, cells := 0, slots := 0, locals := 177 }, 0, 0, 0, 0)
theorem rmX12_fairBits : z_Rm xX12_fairBits := by unfold z_Rm xX12_fairBits; exact ⟨by decide, by decide⟩
theorem reX12_fairBits : z_Re xX12_fairBits := ⟨rfl, rfl⟩
theorem rlX12_fairBits : 1 ≤ xX12_fairBits.2.2.2.2.2.1.frames ∧ 21 ≤ xX12_fairBits.2.2.2.2.2.1.locals := by unfold xX12_fairBits; exact ⟨by decide, by decide⟩
theorem meX12_fairBits : z_Me yX12_fairBits xX12_fairBits 0 := ⟨wd1309, wd848, by decide, by decide, by decide +kernel⟩
theorem fitX12_fairBits_19 : z_Fit xX12_laysRow xX12_fairBits := by unfold z_Fit; simp only [xX12_laysRow, xX12_fairBits]; exact ⟨by decide, by decide⟩
theorem fitX12_fairBits_23 : z_Fit xX12_isFair xX12_fairBits := by unfold z_Fit; simp only [xX12_isFair, xX12_fairBits]; exact ⟨by decide, by decide⟩
noncomputable def kX12_fairBits_41 : zK zR := (q_iload 1 q_iret)
noncomputable def kX12_fairBits_35 : zK ((zL × zS) ⊕ zR) := (q_iinc 2 1 q_ag)
noncomputable def bX12_fairBits_4 : zK ((zL × zS) ⊕ zR) := (q_iload 2 (q_aload 0 (q_getR 12 26 (q_aload 0 (q_getI 12 18 (q_iald (q_icmp_ge (q_dn kX12_fairBits_41) (q_aload 0 (q_iload 2 (q_callV 12 fX12_laysRow 1 (q_aload 0 (q_callV 12 fX12_isFair 0 (q_if_eq kX12_fairBits_35 (q_iload 1 (q_push 1 (q_iload 2 (q_ishl (q_ior (q_istore 1 kX12_fairBits_35)))))))))))))))))))
noncomputable def kX12_fairBits_4 : zK zR := q_lp (bX12_fairBits_4)
noncomputable def kX12_fairBits_0 : zK zR := (q_push 0 (q_istore 1 (q_push 0 (q_istore 2 kX12_fairBits_4))))
set_option maxRecDepth 100000 in
theorem tX12_fairBits_41 {l : Launch} {D : zD} {B sz0 : Nat} {post : Option Value → zS → Prop} : zSnd l D B xX12_fairBits sz0 post 41 kX12_fairBits_41 (z_Jr post) := (s_iload_n dX12_fairBits_41 rfl (s_iret dX12_fairBits_42 rfl))
set_option maxRecDepth 100000 in
theorem tX12_fairBits_35 {l : Launch} {D : zD} {B sz0 : Nat} {post : Option Value → zS → Prop} : zSnd l D B xX12_fairBits sz0 post 35 kX12_fairBits_35 (z_Jl l D B xX12_fairBits sz0 post 4 (z_Jr post)) := (s_iinc dX12_fairBits_35 (by decide) (s_goto (tgt := 4) dX12_fairBits_38 (by decide) s_ag))
set_option maxRecDepth 100000 in
theorem tX12_fairBits_4 {l : Launch} {D : zD} {B sz0 : Nat} {post : Option Value → zS → Prop} : zSnd l D B xX12_fairBits sz0 post 4 kX12_fairBits_4 (z_Jr post) := s_lp (body := bX12_fairBits_4) (s_iload_n dX12_fairBits_4 rfl (s_aload_n dX12_fairBits_5 rfl (s_getR (f := 26) dX12_fairBits_6 clX12 (by decide) rfl wd842 (s_aload_n dX12_fairBits_9 rfl (s_getI (f := 18) dX12_fairBits_10 clX12 (by decide) rfl wd854 (s_iald dX12_fairBits_13 (s_icmp_ge (tgt := 41) dX12_fairBits_14 (by decide) (s_dn tX12_fairBits_41) (s_aload_n dX12_fairBits_17 rfl (s_iload_n dX12_fairBits_18 rfl (s_callV (r := (RX12, TX12, 74)) dX12_fairBits_19 mX12_laysRow meX12_laysRow wd1108 wd1109 rfl rfl reX12_laysRow rmX12_fairBits (fitX12_fairBits_19) wd1110 (s_aload_n dX12_fairBits_22 rfl (s_callV (r := (RX12, TX12, 74)) dX12_fairBits_23 mX12_isFair meX12_isFair wd1142 wd1143 rfl rfl reX12_isFair rmX12_fairBits (fitX12_fairBits_23) wd1144 (s_if_eq (tgt := 35) dX12_fairBits_26 (by decide) tX12_fairBits_35 (s_iload_n dX12_fairBits_29 rfl (s_iconst dX12_fairBits_30 (by decide) (s_iload_n dX12_fairBits_31 rfl (s_ishl dX12_fairBits_32 (s_ior dX12_fairBits_33 (s_istore_n dX12_fairBits_34 rfl tX12_fairBits_35)))))))))))))))))))
set_option maxRecDepth 100000 in
theorem tX12_fairBits_0 {l : Launch} {D : zD} {B sz0 : Nat} {post : Option Value → zS → Prop} : zSnd l D B xX12_fairBits sz0 post 0 kX12_fairBits_0 (z_Jr post) := (s_iconst dX12_fairBits_0 (by decide) (s_istore_n dX12_fairBits_1 rfl (s_iconst dX12_fairBits_2 (by decide) (s_istore_n dX12_fairBits_3 rfl tX12_fairBits_4))))
noncomputable def fX12_fairBits : zF := z_fn 3 kX12_fairBits_0
theorem mX12_fairBits {l : Launch} {D : zD} {B : Nat} : z_MF l D B yX12_fairBits xX12_fairBits fX12_fairBits := z_mf (by decide) rfl (fun h => by cases h) rfl (fun as σ r h => ⟨z_fn_len h, kX12_fairBits_0, z_fn_run h, fun _ => tX12_fairBits_0⟩)
