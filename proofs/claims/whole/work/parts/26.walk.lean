/-! ===== RowChildrenModel.lowestOf ===== -/
theorem dX12_lowestOf_0 : decode cX12_lowestOf 0 = .ok (.iconst 0, 1) := by decide +kernel
theorem dX12_lowestOf_1 : decode cX12_lowestOf 1 = .ok (.istore_n 1, 1) := by decide +kernel
theorem dX12_lowestOf_2 : decode cX12_lowestOf 2 = .ok (.iload_n 0, 1) := by decide +kernel
theorem dX12_lowestOf_3 : decode cX12_lowestOf 3 = .ok (.iload_n 1, 1) := by decide +kernel
theorem dX12_lowestOf_4 : decode cX12_lowestOf 4 = .ok (.ishr, 1) := by decide +kernel
theorem dX12_lowestOf_5 : decode cX12_lowestOf 5 = .ok (.iconst 1, 1) := by decide +kernel
theorem dX12_lowestOf_6 : decode cX12_lowestOf 6 = .ok (.iand, 1) := by decide +kernel
theorem dX12_lowestOf_7 : decode cX12_lowestOf 7 = .ok (.ifCond .ne 9, 3) := by decide +kernel
theorem dX12_lowestOf_10 : decode cX12_lowestOf 10 = .ok (.iinc 1 1, 3) := by decide +kernel
theorem dX12_lowestOf_13 : decode cX12_lowestOf 13 = .ok (.goto (-11), 3) := by decide +kernel
theorem dX12_lowestOf_16 : decode cX12_lowestOf 16 = .ok (.iload_n 1, 1) := by decide +kernel
theorem dX12_lowestOf_17 : decode cX12_lowestOf 17 = .ok (.ireturn, 1) := by decide +kernel
def xX12_lowestOf : zX := (RX12, cX12_lowestOf, 2, (some .int), false, { frames := 1, cells := 0, slots := 0, locals := 90 }, 0, 0, 0, 0)
theorem rmX12_lowestOf : z_Rm xX12_lowestOf := by unfold z_Rm xX12_lowestOf; exact ⟨by decide, by decide⟩
theorem reX12_lowestOf : z_Re xX12_lowestOf := ⟨rfl, rfl⟩
theorem rlX12_lowestOf : 1 ≤ xX12_lowestOf.2.2.2.2.2.1.frames ∧ 21 ≤ xX12_lowestOf.2.2.2.2.2.1.locals := by unfold xX12_lowestOf; exact ⟨by decide, by decide⟩
theorem meX12_lowestOf : z_Me yX12_lowestOf xX12_lowestOf 1 := ⟨wd1212, wd848, by decide, by decide, by decide +kernel⟩
noncomputable def kX12_lowestOf_16 : zK zR := (q_iload 1 q_iret)
noncomputable def bX12_lowestOf_2 : zK ((zL × zS) ⊕ zR) := (q_iload 0 (q_iload 1 (q_ishr (q_push 1 (q_iand (q_if_ne (q_dn kX12_lowestOf_16) (q_iinc 1 1 q_ag)))))))
noncomputable def kX12_lowestOf_2 : zK zR := q_lp (bX12_lowestOf_2)
noncomputable def kX12_lowestOf_0 : zK zR := (q_push 0 (q_istore 1 kX12_lowestOf_2))
set_option maxRecDepth 100000 in
theorem tX12_lowestOf_16 {l : Launch} {D : zD} {B sz0 : Nat} {post : Option Value → zS → Prop} : zSnd l D B xX12_lowestOf sz0 post 16 kX12_lowestOf_16 (z_Jr post) := (s_iload_n dX12_lowestOf_16 rfl (s_iret dX12_lowestOf_17 rfl))
set_option maxRecDepth 100000 in
theorem tX12_lowestOf_2 {l : Launch} {D : zD} {B sz0 : Nat} {post : Option Value → zS → Prop} : zSnd l D B xX12_lowestOf sz0 post 2 kX12_lowestOf_2 (z_Jr post) := s_lp (body := bX12_lowestOf_2) (s_iload_n dX12_lowestOf_2 rfl (s_iload_n dX12_lowestOf_3 rfl (s_ishr dX12_lowestOf_4 (s_iconst dX12_lowestOf_5 (by decide) (s_iand dX12_lowestOf_6 (s_if_ne (tgt := 16) dX12_lowestOf_7 (by decide) (s_dn tX12_lowestOf_16) (s_iinc dX12_lowestOf_10 (by decide) (s_goto (tgt := 2) dX12_lowestOf_13 (by decide) s_ag))))))))
set_option maxRecDepth 100000 in
theorem tX12_lowestOf_0 {l : Launch} {D : zD} {B sz0 : Nat} {post : Option Value → zS → Prop} : zSnd l D B xX12_lowestOf sz0 post 0 kX12_lowestOf_0 (z_Jr post) := (s_iconst dX12_lowestOf_0 (by decide) (s_istore_n dX12_lowestOf_1 rfl tX12_lowestOf_2))
noncomputable def fX12_lowestOf : zF := z_fn 2 kX12_lowestOf_0
theorem mX12_lowestOf {l : Launch} {D : zD} {B : Nat} : z_MF l D B yX12_lowestOf xX12_lowestOf fX12_lowestOf := z_mf (by decide) rfl (fun h => by cases h) rfl (fun as σ r h => ⟨z_fn_len h, kX12_lowestOf_0, z_fn_run h, fun _ => tX12_lowestOf_0⟩)
/-! ===== RowChildrenModel.parents ===== -/
theorem dX12_parents_0 : decode cX12_parents 0 = .ok (.aload_n 0, 1) := by decide +kernel
theorem dX12_parents_1 : decode cX12_parents 1 = .ok (.iload_n 1, 1) := by decide +kernel
theorem dX12_parents_2 : decode cX12_parents 2 = .ok (.invokevirtual 330, 3) := by decide +kernel
theorem dX12_parents_5 : decode cX12_parents 5 = .ok (.ifCond .eq 12, 3) := by decide +kernel
theorem dX12_parents_8 : decode cX12_parents 8 = .ok (.iload_n 2, 1) := by decide +kernel
theorem dX12_parents_9 : decode cX12_parents 9 = .ok (.iconst 0, 1) := by decide +kernel
theorem dX12_parents_10 : decode cX12_parents 10 = .ok (.iconst 1, 1) := by decide +kernel
theorem dX12_parents_11 : decode cX12_parents 11 = .ok (.invokestatic 323, 3) := by decide +kernel
theorem dX12_parents_14 : decode cX12_parents 14 = .ok (.ifCond .ne 5, 3) := by decide +kernel
theorem dX12_parents_17 : decode cX12_parents 17 = .ok (.iconst (-1), 1) := by decide +kernel
theorem dX12_parents_18 : decode cX12_parents 18 = .ok (.ireturn, 1) := by decide +kernel
theorem dX12_parents_19 : decode cX12_parents 19 = .ok (.aload_n 0, 1) := by decide +kernel
theorem dX12_parents_20 : decode cX12_parents 20 = .ok (.invokevirtual 401, 3) := by decide +kernel
theorem dX12_parents_23 : decode cX12_parents 23 = .ok (.iload_n 2, 1) := by decide +kernel
theorem dX12_parents_24 : decode cX12_parents 24 = .ok (.ifCond .ne 9, 3) := by decide +kernel
theorem dX12_parents_27 : decode cX12_parents 27 = .ok (.aload_n 0, 1) := by decide +kernel
theorem dX12_parents_28 : decode cX12_parents 28 = .ok (.iload_n 1, 1) := by decide +kernel
theorem dX12_parents_29 : decode cX12_parents 29 = .ok (.invokevirtual 460, 3) := by decide +kernel
theorem dX12_parents_32 : decode cX12_parents 32 = .ok (.ireturn, 1) := by decide +kernel
theorem dX12_parents_33 : decode cX12_parents 33 = .ok (.aload_n 0, 1) := by decide +kernel
theorem dX12_parents_34 : decode cX12_parents 34 = .ok (.iload_n 1, 1) := by decide +kernel
theorem dX12_parents_35 : decode cX12_parents 35 = .ok (.invokevirtual 463, 3) := by decide +kernel
theorem dX12_parents_38 : decode cX12_parents 38 = .ok (.aload_n 0, 1) := by decide +kernel
theorem dX12_parents_39 : decode cX12_parents 39 = .ok (.getfield 122, 3) := by decide +kernel
theorem dX12_parents_42 : decode cX12_parents 42 = .ok (.iconst 0, 1) := by decide +kernel
theorem dX12_parents_43 : decode cX12_parents 43 = .ok (.iaload, 1) := by decide +kernel
theorem dX12_parents_44 : decode cX12_parents 44 = .ok (.ifCond .ne 6, 3) := by decide +kernel
theorem dX12_parents_47 : decode cX12_parents 47 = .ok (.bipush (-2), 2) := by decide +kernel
theorem dX12_parents_49 : decode cX12_parents 49 = .ok (.ireturn, 1) := by decide +kernel
theorem dX12_parents_50 : decode cX12_parents 50 = .ok (.aload_n 0, 1) := by decide +kernel
theorem dX12_parents_51 : decode cX12_parents 51 = .ok (.getfield 122, 3) := by decide +kernel
theorem dX12_parents_54 : decode cX12_parents 54 = .ok (.iconst 0, 1) := by decide +kernel
theorem dX12_parents_55 : decode cX12_parents 55 = .ok (.iaload, 1) := by decide +kernel
theorem dX12_parents_56 : decode cX12_parents 56 = .ok (.invokestatic 466, 3) := by decide +kernel
theorem dX12_parents_59 : decode cX12_parents 59 = .ok (.istore_n 3, 1) := by decide +kernel
theorem dX12_parents_60 : decode cX12_parents 60 = .ok (.iload_n 3, 1) := by decide +kernel
theorem dX12_parents_61 : decode cX12_parents 61 = .ok (.istore 4, 2) := by decide +kernel
theorem dX12_parents_63 : decode cX12_parents 63 = .ok (.iconst 0, 1) := by decide +kernel
theorem dX12_parents_64 : decode cX12_parents 64 = .ok (.istore 5, 2) := by decide +kernel
theorem dX12_parents_66 : decode cX12_parents 66 = .ok (.iload 5, 2) := by decide +kernel
theorem dX12_parents_68 : decode cX12_parents 68 = .ok (.aload_n 0, 1) := by decide +kernel
theorem dX12_parents_69 : decode cX12_parents 69 = .ok (.getfield 107, 3) := by decide +kernel
theorem dX12_parents_72 : decode cX12_parents 72 = .ok (.iload_n 1, 1) := by decide +kernel
theorem dX12_parents_73 : decode cX12_parents 73 = .ok (.iaload, 1) := by decide +kernel
theorem dX12_parents_74 : decode cX12_parents 74 = .ok (.if_icmp .ge 67, 3) := by decide +kernel
theorem dX12_parents_77 : decode cX12_parents 77 = .ok (.iconst 0, 1) := by decide +kernel
theorem dX12_parents_78 : decode cX12_parents 78 = .ok (.istore 6, 2) := by decide +kernel
theorem dX12_parents_80 : decode cX12_parents 80 = .ok (.aload_n 0, 1) := by decide +kernel
theorem dX12_parents_81 : decode cX12_parents 81 = .ok (.getfield 122, 3) := by decide +kernel
theorem dX12_parents_84 : decode cX12_parents 84 = .ok (.iload 5, 2) := by decide +kernel
theorem dX12_parents_86 : decode cX12_parents 86 = .ok (.iconst 1, 1) := by decide +kernel
theorem dX12_parents_87 : decode cX12_parents 87 = .ok (.iadd, 1) := by decide +kernel
theorem dX12_parents_88 : decode cX12_parents 88 = .ok (.iaload, 1) := by decide +kernel
theorem dX12_parents_89 : decode cX12_parents 89 = .ok (.iload 6, 2) := by decide +kernel
theorem dX12_parents_91 : decode cX12_parents 91 = .ok (.ishr, 1) := by decide +kernel
theorem dX12_parents_92 : decode cX12_parents 92 = .ok (.iconst 1, 1) := by decide +kernel
theorem dX12_parents_93 : decode cX12_parents 93 = .ok (.iand, 1) := by decide +kernel
theorem dX12_parents_94 : decode cX12_parents 94 = .ok (.ifCond .eq 20, 3) := by decide +kernel
theorem dX12_parents_97 : decode cX12_parents 97 = .ok (.aload_n 0, 1) := by decide +kernel
theorem dX12_parents_98 : decode cX12_parents 98 = .ok (.iload_n 3, 1) := by decide +kernel
theorem dX12_parents_99 : decode cX12_parents 99 = .ok (.iload 6, 2) := by decide +kernel
theorem dX12_parents_101 : decode cX12_parents 101 = .ok (.invokevirtual 346, 3) := by decide +kernel
theorem dX12_parents_104 : decode cX12_parents 104 = .ok (.aload_n 0, 1) := by decide +kernel
theorem dX12_parents_105 : decode cX12_parents 105 = .ok (.iload_n 1, 1) := by decide +kernel
theorem dX12_parents_106 : decode cX12_parents 106 = .ok (.iload 5, 2) := by decide +kernel
theorem dX12_parents_108 : decode cX12_parents 108 = .ok (.invokevirtual 349, 3) := by decide +kernel
theorem dX12_parents_111 : decode cX12_parents 111 = .ok (.if_icmp .eq 9, 3) := by decide +kernel
theorem dX12_parents_114 : decode cX12_parents 114 = .ok (.iinc 6 1, 3) := by decide +kernel
theorem dX12_parents_117 : decode cX12_parents 117 = .ok (.goto (-37), 3) := by decide +kernel
theorem dX12_parents_120 : decode cX12_parents 120 = .ok (.iload 4, 2) := by decide +kernel
theorem dX12_parents_122 : decode cX12_parents 122 = .ok (.aload_n 0, 1) := by decide +kernel
theorem dX12_parents_123 : decode cX12_parents 123 = .ok (.invokevirtual 327, 3) := by decide +kernel
theorem dX12_parents_126 : decode cX12_parents 126 = .ok (.imul, 1) := by decide +kernel
theorem dX12_parents_127 : decode cX12_parents 127 = .ok (.iload 6, 2) := by decide +kernel
theorem dX12_parents_129 : decode cX12_parents 129 = .ok (.iadd, 1) := by decide +kernel
theorem dX12_parents_130 : decode cX12_parents 130 = .ok (.istore 4, 2) := by decide +kernel
theorem dX12_parents_132 : decode cX12_parents 132 = .ok (.iload 6, 2) := by decide +kernel
theorem dX12_parents_134 : decode cX12_parents 134 = .ok (.istore_n 3, 1) := by decide +kernel
theorem dX12_parents_135 : decode cX12_parents 135 = .ok (.iinc 5 1, 3) := by decide +kernel
theorem dX12_parents_138 : decode cX12_parents 138 = .ok (.goto (-72), 3) := by decide +kernel
theorem dX12_parents_141 : decode cX12_parents 141 = .ok (.iload 4, 2) := by decide +kernel
theorem dX12_parents_143 : decode cX12_parents 143 = .ok (.ireturn, 1) := by decide +kernel
def xX12_parents : zX := (RX12, cX12_parents, 7, (some .int), false, { frames := 4, cells := 0, slots := 0, locals := 156 }, 0, 0, 0, 0)
theorem rmX12_parents : z_Rm xX12_parents := by unfold z_Rm xX12_parents; exact ⟨by decide, by decide⟩
theorem reX12_parents : z_Re xX12_parents := ⟨rfl, rfl⟩
theorem rlX12_parents : 1 ≤ xX12_parents.2.2.2.2.2.1.frames ∧ 21 ≤ xX12_parents.2.2.2.2.2.1.locals := by unfold xX12_parents; exact ⟨by decide, by decide⟩
theorem meX12_parents : z_Me yX12_parents xX12_parents 2 := ⟨wd1221, wd848, by decide, by decide, by decide +kernel⟩
theorem fitX12_parents_2 : z_Fit xX12_isRow xX12_parents := by unfold z_Fit; simp only [xX12_isRow, xX12_parents]; exact ⟨by decide, by decide⟩
theorem fitX12_parents_11 : z_Fit xX12_in xX12_parents := by unfold z_Fit; simp only [xX12_in, xX12_parents]; exact ⟨by decide, by decide⟩
theorem fitX12_parents_20 : z_Fit xX12_copies xX12_parents := by unfold z_Fit; simp only [xX12_copies, xX12_parents]; exact ⟨by decide, by decide⟩
theorem fitX12_parents_35 : z_Fit xX12_fillsCan xX12_parents := by unfold z_Fit; simp only [xX12_fillsCan, xX12_parents]; exact ⟨by decide, by decide⟩
theorem fitX12_parents_56 : z_Fit xX12_lowestOf xX12_parents := by unfold z_Fit; simp only [xX12_lowestOf, xX12_parents]; exact ⟨by decide, by decide⟩
theorem fitX12_parents_101 : z_Fit xX12_childOf xX12_parents := by unfold z_Fit; simp only [xX12_childOf, xX12_parents]; exact ⟨by decide, by decide⟩
theorem fitX12_parents_108 : z_Fit xX12_seatAt xX12_parents := by unfold z_Fit; simp only [xX12_seatAt, xX12_parents]; exact ⟨by decide, by decide⟩
theorem fitX12_parents_123 : z_Fit xX12_base xX12_parents := by unfold z_Fit; simp only [xX12_base, xX12_parents]; exact ⟨by decide, by decide⟩
theorem fitX12_parents_29 : z_Fit xX12_parentsMany xX12_parents := by unfold z_Fit; simp only [xX12_parentsMany, xX12_parents]; exact ⟨by decide, by decide⟩
noncomputable def kX12_parents_17 : zK zR := (q_push (-1) q_iret)
noncomputable def kX12_parents_141 : zK zR := (q_iload 4 q_iret)
noncomputable def kX12_parents_114 : zK ((zL × zS) ⊕ ((zL × zS) ⊕ zR)) := (q_iinc 6 1 q_ag)
noncomputable def kX12_parents_120 : zK ((zL × zS) ⊕ zR) := (q_iload 4 (q_aload 0 (q_callV 12 fX12_base 0 (q_imul (q_iload 6 (q_iadd (q_istore 4 (q_iload 6 (q_istore 3 (q_iinc 5 1 q_ag))))))))))
noncomputable def bX12_parents_80 : zK ((zL × zS) ⊕ ((zL × zS) ⊕ zR)) := (q_aload 0 (q_getR 12 55 (q_iload 5 (q_push 1 (q_iadd (q_iald (q_iload 6 (q_ishr (q_push 1 (q_iand (q_if_eq kX12_parents_114 (q_aload 0 (q_iload 3 (q_iload 6 (q_callV 12 fX12_childOf 2 (q_aload 0 (q_iload 1 (q_iload 5 (q_callV 12 fX12_seatAt 2 (q_icmp_eq (q_dn kX12_parents_120) kX12_parents_114))))))))))))))))))))
noncomputable def kX12_parents_80 : zK ((zL × zS) ⊕ zR) := q_lp (bX12_parents_80)
noncomputable def bX12_parents_66 : zK ((zL × zS) ⊕ zR) := (q_iload 5 (q_aload 0 (q_getR 12 47 (q_iload 1 (q_iald (q_icmp_ge (q_dn kX12_parents_141) (q_push 0 (q_istore 6 kX12_parents_80))))))))
noncomputable def kX12_parents_66 : zK zR := q_lp (bX12_parents_66)
noncomputable def kX12_parents_0 : zK zR := (q_aload 0 (q_iload 1 (q_callV 12 fX12_isRow 1 (q_if_eq kX12_parents_17 (q_iload 2 (q_push 0 (q_push 1 (q_callS fX12_in 3 (q_if_ne (q_aload 0 (q_callV 12 fX12_copies 0 (q_iload 2 (q_if_ne (q_aload 0 (q_iload 1 (q_callV 12 fX12_fillsCan 1 (q_aload 0 (q_getR 12 55 (q_push 0 (q_iald (q_if_ne (q_aload 0 (q_getR 12 55 (q_push 0 (q_iald (q_callS fX12_lowestOf 1 (q_istore 3 (q_iload 3 (q_istore 4 (q_push 0 (q_istore 5 kX12_parents_66)))))))))) (q_push (-2) q_iret))))))))) (q_aload 0 (q_iload 1 (q_callV 12 fX12_parentsMany 1 q_iret))))))) kX12_parents_17)))))))))
set_option maxRecDepth 100000 in
theorem tX12_parents_17 {l : Launch} {D : zD} {B sz0 : Nat} {post : Option Value → zS → Prop} : zSnd l D B xX12_parents sz0 post 17 kX12_parents_17 (z_Jr post) := (s_iconst dX12_parents_17 (by decide) (s_iret dX12_parents_18 rfl))
set_option maxRecDepth 100000 in
theorem tX12_parents_141 {l : Launch} {D : zD} {B sz0 : Nat} {post : Option Value → zS → Prop} : zSnd l D B xX12_parents sz0 post 141 kX12_parents_141 (z_Jr post) := (s_iload dX12_parents_141 (s_iret dX12_parents_143 rfl))
set_option maxRecDepth 100000 in
theorem tX12_parents_114 {l : Launch} {D : zD} {B sz0 : Nat} {post : Option Value → zS → Prop} : zSnd l D B xX12_parents sz0 post 114 kX12_parents_114 (z_Jl l D B xX12_parents sz0 post 80 (z_Jl l D B xX12_parents sz0 post 66 (z_Jr post))) := (s_iinc dX12_parents_114 (by decide) (s_goto (tgt := 80) dX12_parents_117 (by decide) s_ag))
set_option maxRecDepth 100000 in
theorem tX12_parents_120 {l : Launch} {D : zD} {B sz0 : Nat} {post : Option Value → zS → Prop} : zSnd l D B xX12_parents sz0 post 120 kX12_parents_120 (z_Jl l D B xX12_parents sz0 post 66 (z_Jr post)) := (s_iload dX12_parents_120 (s_aload_n dX12_parents_122 rfl (s_callV (r := (RX12, TX12, 74)) dX12_parents_123 mX12_base meX12_base wd1036 wd1037 rfl rfl reX12_base rmX12_parents (fitX12_parents_123) wd1038 (s_imul dX12_parents_126 (s_iload dX12_parents_127 (s_iadd dX12_parents_129 (s_istore dX12_parents_130 (s_iload dX12_parents_132 (s_istore_n dX12_parents_134 rfl (s_iinc dX12_parents_135 (by decide) (s_goto (tgt := 66) dX12_parents_138 (by decide) s_ag)))))))))))
set_option maxRecDepth 100000 in
theorem tX12_parents_80 {l : Launch} {D : zD} {B sz0 : Nat} {post : Option Value → zS → Prop} : zSnd l D B xX12_parents sz0 post 80 kX12_parents_80 (z_Jl l D B xX12_parents sz0 post 66 (z_Jr post)) := s_lp (body := bX12_parents_80) (s_aload_n dX12_parents_80 rfl (s_getR (f := 55) dX12_parents_81 clX12 (by decide) rfl wd886 (s_iload dX12_parents_84 (s_iconst dX12_parents_86 (by decide) (s_iadd dX12_parents_87 (s_iald dX12_parents_88 (s_iload dX12_parents_89 (s_ishr dX12_parents_91 (s_iconst dX12_parents_92 (by decide) (s_iand dX12_parents_93 (s_if_eq (tgt := 114) dX12_parents_94 (by decide) tX12_parents_114 (s_aload_n dX12_parents_97 rfl (s_iload_n dX12_parents_98 rfl (s_iload dX12_parents_99 (s_callV (r := (RX12, TX12, 74)) dX12_parents_101 mX12_childOf meX12_childOf wd1057 wd1058 rfl rfl reX12_childOf rmX12_parents (fitX12_parents_101) wd1059 (s_aload_n dX12_parents_104 rfl (s_iload_n dX12_parents_105 rfl (s_iload dX12_parents_106 (s_callV (r := (RX12, TX12, 74)) dX12_parents_108 mX12_seatAt meX12_seatAt wd1064 wd1065 rfl rfl reX12_seatAt rmX12_parents (fitX12_parents_108) wd1066 (s_icmp_eq (tgt := 120) dX12_parents_111 (by decide) (s_dn tX12_parents_120) tX12_parents_114))))))))))))))))))))
set_option maxRecDepth 100000 in
theorem tX12_parents_66 {l : Launch} {D : zD} {B sz0 : Nat} {post : Option Value → zS → Prop} : zSnd l D B xX12_parents sz0 post 66 kX12_parents_66 (z_Jr post) := s_lp (body := bX12_parents_66) (s_iload dX12_parents_66 (s_aload_n dX12_parents_68 rfl (s_getR (f := 47) dX12_parents_69 clX12 (by decide) rfl wd856 (s_iload_n dX12_parents_72 rfl (s_iald dX12_parents_73 (s_icmp_ge (tgt := 141) dX12_parents_74 (by decide) (s_dn tX12_parents_141) (s_iconst dX12_parents_77 (by decide) (s_istore dX12_parents_78 tX12_parents_80))))))))
set_option maxRecDepth 100000 in
theorem tX12_parents_0 {l : Launch} {D : zD} {B sz0 : Nat} {post : Option Value → zS → Prop} : zSnd l D B xX12_parents sz0 post 0 kX12_parents_0 (z_Jr post) := (s_aload_n dX12_parents_0 rfl (s_iload_n dX12_parents_1 rfl (s_callV (r := (RX12, TX12, 74)) dX12_parents_2 mX12_isRow meX12_isRow wd1042 wd1043 rfl rfl reX12_isRow rmX12_parents (fitX12_parents_2) wd1044 (s_if_eq (tgt := 17) dX12_parents_5 (by decide) tX12_parents_17 (s_iload_n dX12_parents_8 rfl (s_iconst dX12_parents_9 (by decide) (s_iconst dX12_parents_10 (by decide) (s_callS dX12_parents_11 mX12_in meX12_in wd1033 rfl reX12_in rmX12_parents (fitX12_parents_11) wd1034 (s_if_ne (tgt := 19) dX12_parents_14 (by decide) (s_aload_n dX12_parents_19 rfl (s_callV (r := (RX12, TX12, 74)) dX12_parents_20 mX12_copies meX12_copies wd1133 wd1134 rfl rfl reX12_copies rmX12_parents (fitX12_parents_20) wd1135 (s_iload_n dX12_parents_23 rfl (s_if_ne (tgt := 33) dX12_parents_24 (by decide) (s_aload_n dX12_parents_33 rfl (s_iload_n dX12_parents_34 rfl (s_callV (r := (RX12, TX12, 74)) dX12_parents_35 mX12_fillsCan meX12_fillsCan wd1213 wd1214 rfl rfl reX12_fillsCan rmX12_parents (fitX12_parents_35) wd1215 (s_aload_n dX12_parents_38 rfl (s_getR (f := 55) dX12_parents_39 clX12 (by decide) rfl wd886 (s_iconst dX12_parents_42 (by decide) (s_iald dX12_parents_43 (s_if_ne (tgt := 50) dX12_parents_44 (by decide) (s_aload_n dX12_parents_50 rfl (s_getR (f := 55) dX12_parents_51 clX12 (by decide) rfl wd886 (s_iconst dX12_parents_54 (by decide) (s_iald dX12_parents_55 (s_callS dX12_parents_56 mX12_lowestOf meX12_lowestOf wd1216 rfl reX12_lowestOf rmX12_parents (fitX12_parents_56) wd1217 (s_istore_n dX12_parents_59 rfl (s_iload_n dX12_parents_60 rfl (s_istore dX12_parents_61 (s_iconst dX12_parents_63 (by decide) (s_istore dX12_parents_64 tX12_parents_66)))))))))) (s_bipush dX12_parents_47 (by decide) (s_iret dX12_parents_49 rfl)))))))))) (s_aload_n dX12_parents_27 rfl (s_iload_n dX12_parents_28 rfl (s_callV (r := (RX12, TX12, 74)) dX12_parents_29 mX12_parentsMany meX12_parentsMany wd1218 wd1219 rfl rfl reX12_parentsMany rmX12_parents (fitX12_parents_29) wd1220 (s_iret dX12_parents_32 rfl)))))))) tX12_parents_17)))))))))
noncomputable def fX12_parents : zF := z_fn 7 kX12_parents_0
theorem mX12_parents {l : Launch} {D : zD} {B : Nat} : z_MF l D B yX12_parents xX12_parents fX12_parents := z_mf (by decide) rfl (fun h => by cases h) rfl (fun as σ r h => ⟨z_fn_len h, kX12_parents_0, z_fn_run h, fun _ => tX12_parents_0⟩)
/-! ===== RowChildrenModel.onFrom ===== -/
theorem dX12_onFrom_0 : decode cX12_onFrom 0 = .ok (.iconst 0, 1) := by decide +kernel
theorem dX12_onFrom_1 : decode cX12_onFrom 1 = .ok (.istore_n 3, 1) := by decide +kernel
theorem dX12_onFrom_2 : decode cX12_onFrom 2 = .ok (.iconst 0, 1) := by decide +kernel
theorem dX12_onFrom_3 : decode cX12_onFrom 3 = .ok (.istore 4, 2) := by decide +kernel
theorem dX12_onFrom_5 : decode cX12_onFrom 5 = .ok (.iload 4, 2) := by decide +kernel
theorem dX12_onFrom_7 : decode cX12_onFrom 7 = .ok (.bipush 16, 2) := by decide +kernel
theorem dX12_onFrom_9 : decode cX12_onFrom 9 = .ok (.if_icmp .ge 57, 3) := by decide +kernel
theorem dX12_onFrom_12 : decode cX12_onFrom 12 = .ok (.iload_n 1, 1) := by decide +kernel
theorem dX12_onFrom_13 : decode cX12_onFrom 13 = .ok (.iload 4, 2) := by decide +kernel
theorem dX12_onFrom_15 : decode cX12_onFrom 15 = .ok (.iconst 4, 1) := by decide +kernel
theorem dX12_onFrom_16 : decode cX12_onFrom 16 = .ok (.idiv, 1) := by decide +kernel
theorem dX12_onFrom_17 : decode cX12_onFrom 17 = .ok (.ishr, 1) := by decide +kernel
theorem dX12_onFrom_18 : decode cX12_onFrom 18 = .ok (.iconst 1, 1) := by decide +kernel
theorem dX12_onFrom_19 : decode cX12_onFrom 19 = .ok (.iand, 1) := by decide +kernel
theorem dX12_onFrom_20 : decode cX12_onFrom 20 = .ok (.iconst 1, 1) := by decide +kernel
theorem dX12_onFrom_21 : decode cX12_onFrom 21 = .ok (.if_icmp .ne 39, 3) := by decide +kernel
theorem dX12_onFrom_24 : decode cX12_onFrom 24 = .ok (.aload_n 0, 1) := by decide +kernel
theorem dX12_onFrom_25 : decode cX12_onFrom 25 = .ok (.iload 4, 2) := by decide +kernel
theorem dX12_onFrom_27 : decode cX12_onFrom 27 = .ok (.iconst 4, 1) := by decide +kernel
theorem dX12_onFrom_28 : decode cX12_onFrom 28 = .ok (.irem, 1) := by decide +kernel
theorem dX12_onFrom_29 : decode cX12_onFrom 29 = .ok (.invokevirtual 398, 3) := by decide +kernel
theorem dX12_onFrom_32 : decode cX12_onFrom 32 = .ok (.ifCond .eq 28, 3) := by decide +kernel
theorem dX12_onFrom_35 : decode cX12_onFrom 35 = .ok (.aload_n 0, 1) := by decide +kernel
theorem dX12_onFrom_36 : decode cX12_onFrom 36 = .ok (.iload 4, 2) := by decide +kernel
theorem dX12_onFrom_38 : decode cX12_onFrom 38 = .ok (.iconst 4, 1) := by decide +kernel
theorem dX12_onFrom_39 : decode cX12_onFrom 39 = .ok (.idiv, 1) := by decide +kernel
theorem dX12_onFrom_40 : decode cX12_onFrom 40 = .ok (.iload 4, 2) := by decide +kernel
theorem dX12_onFrom_42 : decode cX12_onFrom 42 = .ok (.iconst 4, 1) := by decide +kernel
theorem dX12_onFrom_43 : decode cX12_onFrom 43 = .ok (.irem, 1) := by decide +kernel
theorem dX12_onFrom_44 : decode cX12_onFrom 44 = .ok (.invokevirtual 346, 3) := by decide +kernel
theorem dX12_onFrom_47 : decode cX12_onFrom 47 = .ok (.iload_n 2, 1) := by decide +kernel
theorem dX12_onFrom_48 : decode cX12_onFrom 48 = .ok (.if_icmp .ne 12, 3) := by decide +kernel
theorem dX12_onFrom_51 : decode cX12_onFrom 51 = .ok (.iload_n 3, 1) := by decide +kernel
theorem dX12_onFrom_52 : decode cX12_onFrom 52 = .ok (.iconst 1, 1) := by decide +kernel
theorem dX12_onFrom_53 : decode cX12_onFrom 53 = .ok (.iload 4, 2) := by decide +kernel
theorem dX12_onFrom_55 : decode cX12_onFrom 55 = .ok (.iconst 4, 1) := by decide +kernel
theorem dX12_onFrom_56 : decode cX12_onFrom 56 = .ok (.irem, 1) := by decide +kernel
theorem dX12_onFrom_57 : decode cX12_onFrom 57 = .ok (.ishl, 1) := by decide +kernel
theorem dX12_onFrom_58 : decode cX12_onFrom 58 = .ok (.ior, 1) := by decide +kernel
theorem dX12_onFrom_59 : decode cX12_onFrom 59 = .ok (.istore_n 3, 1) := by decide +kernel
theorem dX12_onFrom_60 : decode cX12_onFrom 60 = .ok (.iinc 4 1, 3) := by decide +kernel
theorem dX12_onFrom_63 : decode cX12_onFrom 63 = .ok (.goto (-58), 3) := by decide +kernel
theorem dX12_onFrom_66 : decode cX12_onFrom 66 = .ok (.iload_n 3, 1) := by decide +kernel
theorem dX12_onFrom_67 : decode cX12_onFrom 67 = .ok (.ireturn, 1) := by decide +kernel
def xX12_onFrom : zX := (RX12, cX12_onFrom, 5, (some .int), false, { frames := 3, cells := 0, slots := 0, locals := 133 }, 0, 0, 0, 0)
theorem rmX12_onFrom : z_Rm xX12_onFrom := by unfold z_Rm xX12_onFrom; exact ⟨by decide, by decide⟩
theorem reX12_onFrom : z_Re xX12_onFrom := ⟨rfl, rfl⟩
theorem rlX12_onFrom : 1 ≤ xX12_onFrom.2.2.2.2.2.1.frames ∧ 21 ≤ xX12_onFrom.2.2.2.2.2.1.locals := by unfold xX12_onFrom; exact ⟨by decide, by decide⟩
theorem meX12_onFrom : z_Me yX12_onFrom xX12_onFrom 2 := ⟨wd1222, wd848, by decide, by decide, by decide +kernel⟩
theorem fitX12_onFrom_29 : z_Fit xX12_isColour xX12_onFrom := by unfold z_Fit; simp only [xX12_isColour, xX12_onFrom]; exact ⟨by decide, by decide⟩
theorem fitX12_onFrom_44 : z_Fit xX12_childOf xX12_onFrom := by unfold z_Fit; simp only [xX12_childOf, xX12_onFrom]; exact ⟨by decide, by decide⟩
noncomputable def kX12_onFrom_66 : zK zR := (q_iload 3 q_iret)
noncomputable def kX12_onFrom_60 : zK ((zL × zS) ⊕ zR) := (q_iinc 4 1 q_ag)
noncomputable def bX12_onFrom_5 : zK ((zL × zS) ⊕ zR) := (q_iload 4 (q_push 16 (q_icmp_ge (q_dn kX12_onFrom_66) (q_iload 1 (q_iload 4 (q_push 4 (q_idiv (q_ishr (q_push 1 (q_iand (q_push 1 (q_icmp_ne kX12_onFrom_60 (q_aload 0 (q_iload 4 (q_push 4 (q_irem (q_callV 12 fX12_isColour 1 (q_if_eq kX12_onFrom_60 (q_aload 0 (q_iload 4 (q_push 4 (q_idiv (q_iload 4 (q_push 4 (q_irem (q_callV 12 fX12_childOf 2 (q_iload 2 (q_icmp_ne kX12_onFrom_60 (q_iload 3 (q_push 1 (q_iload 4 (q_push 4 (q_irem (q_ishl (q_ior (q_istore 3 kX12_onFrom_60))))))))))))))))))))))))))))))))))))
noncomputable def kX12_onFrom_5 : zK zR := q_lp (bX12_onFrom_5)
noncomputable def kX12_onFrom_0 : zK zR := (q_push 0 (q_istore 3 (q_push 0 (q_istore 4 kX12_onFrom_5))))
set_option maxRecDepth 100000 in
theorem tX12_onFrom_66 {l : Launch} {D : zD} {B sz0 : Nat} {post : Option Value → zS → Prop} : zSnd l D B xX12_onFrom sz0 post 66 kX12_onFrom_66 (z_Jr post) := (s_iload_n dX12_onFrom_66 rfl (s_iret dX12_onFrom_67 rfl))
set_option maxRecDepth 100000 in
theorem tX12_onFrom_60 {l : Launch} {D : zD} {B sz0 : Nat} {post : Option Value → zS → Prop} : zSnd l D B xX12_onFrom sz0 post 60 kX12_onFrom_60 (z_Jl l D B xX12_onFrom sz0 post 5 (z_Jr post)) := (s_iinc dX12_onFrom_60 (by decide) (s_goto (tgt := 5) dX12_onFrom_63 (by decide) s_ag))
set_option maxRecDepth 100000 in
theorem tX12_onFrom_5 {l : Launch} {D : zD} {B sz0 : Nat} {post : Option Value → zS → Prop} : zSnd l D B xX12_onFrom sz0 post 5 kX12_onFrom_5 (z_Jr post) := s_lp (body := bX12_onFrom_5) (s_iload dX12_onFrom_5 (s_bipush dX12_onFrom_7 (by decide) (s_icmp_ge (tgt := 66) dX12_onFrom_9 (by decide) (s_dn tX12_onFrom_66) (s_iload_n dX12_onFrom_12 rfl (s_iload dX12_onFrom_13 (s_iconst dX12_onFrom_15 (by decide) (s_idiv dX12_onFrom_16 (s_ishr dX12_onFrom_17 (s_iconst dX12_onFrom_18 (by decide) (s_iand dX12_onFrom_19 (s_iconst dX12_onFrom_20 (by decide) (s_icmp_ne (tgt := 60) dX12_onFrom_21 (by decide) tX12_onFrom_60 (s_aload_n dX12_onFrom_24 rfl (s_iload dX12_onFrom_25 (s_iconst dX12_onFrom_27 (by decide) (s_irem dX12_onFrom_28 (s_callV (r := (RX12, TX12, 74)) dX12_onFrom_29 mX12_isColour meX12_isColour wd1129 wd1130 rfl rfl reX12_isColour rmX12_onFrom (fitX12_onFrom_29) wd1131 (s_if_eq (tgt := 60) dX12_onFrom_32 (by decide) tX12_onFrom_60 (s_aload_n dX12_onFrom_35 rfl (s_iload dX12_onFrom_36 (s_iconst dX12_onFrom_38 (by decide) (s_idiv dX12_onFrom_39 (s_iload dX12_onFrom_40 (s_iconst dX12_onFrom_42 (by decide) (s_irem dX12_onFrom_43 (s_callV (r := (RX12, TX12, 74)) dX12_onFrom_44 mX12_childOf meX12_childOf wd1057 wd1058 rfl rfl reX12_childOf rmX12_onFrom (fitX12_onFrom_44) wd1059 (s_iload_n dX12_onFrom_47 rfl (s_icmp_ne (tgt := 60) dX12_onFrom_48 (by decide) tX12_onFrom_60 (s_iload_n dX12_onFrom_51 rfl (s_iconst dX12_onFrom_52 (by decide) (s_iload dX12_onFrom_53 (s_iconst dX12_onFrom_55 (by decide) (s_irem dX12_onFrom_56 (s_ishl dX12_onFrom_57 (s_ior dX12_onFrom_58 (s_istore_n dX12_onFrom_59 rfl tX12_onFrom_60))))))))))))))))))))))))))))))))))))
set_option maxRecDepth 100000 in
theorem tX12_onFrom_0 {l : Launch} {D : zD} {B sz0 : Nat} {post : Option Value → zS → Prop} : zSnd l D B xX12_onFrom sz0 post 0 kX12_onFrom_0 (z_Jr post) := (s_iconst dX12_onFrom_0 (by decide) (s_istore_n dX12_onFrom_1 rfl (s_iconst dX12_onFrom_2 (by decide) (s_istore dX12_onFrom_3 tX12_onFrom_5))))
noncomputable def fX12_onFrom : zF := z_fn 5 kX12_onFrom_0
theorem mX12_onFrom {l : Launch} {D : zD} {B : Nat} : z_MF l D B yX12_onFrom xX12_onFrom fX12_onFrom := z_mf (by decide) rfl (fun h => by cases h) rfl (fun as σ r h => ⟨z_fn_len h, kX12_onFrom_0, z_fn_run h, fun _ => tX12_onFrom_0⟩)
/-! ===== RowChildrenModel.orphans ===== -/
theorem dX12_orphans_0 : decode cX12_orphans 0 = .ok (.iload_n 1, 1) := by decide +kernel
theorem dX12_orphans_1 : decode cX12_orphans 1 = .ok (.invokestatic 442, 3) := by decide +kernel
theorem dX12_orphans_4 : decode cX12_orphans 4 = .ok (.ifCond .ne 5, 3) := by decide +kernel
theorem dX12_orphans_7 : decode cX12_orphans 7 = .ok (.iconst (-1), 1) := by decide +kernel
theorem dX12_orphans_8 : decode cX12_orphans 8 = .ok (.ireturn, 1) := by decide +kernel
theorem dX12_orphans_9 : decode cX12_orphans 9 = .ok (.iconst 0, 1) := by decide +kernel
theorem dX12_orphans_10 : decode cX12_orphans 10 = .ok (.istore_n 2, 1) := by decide +kernel
theorem dX12_orphans_11 : decode cX12_orphans 11 = .ok (.iload_n 2, 1) := by decide +kernel
theorem dX12_orphans_12 : decode cX12_orphans 12 = .ok (.bipush 16, 2) := by decide +kernel
theorem dX12_orphans_14 : decode cX12_orphans 14 = .ok (.if_icmp .ge 16, 3) := by decide +kernel
theorem dX12_orphans_17 : decode cX12_orphans 17 = .ok (.aload_n 0, 1) := by decide +kernel
theorem dX12_orphans_18 : decode cX12_orphans 18 = .ok (.getfield 131, 3) := by decide +kernel
theorem dX12_orphans_21 : decode cX12_orphans 21 = .ok (.iload_n 2, 1) := by decide +kernel
theorem dX12_orphans_22 : decode cX12_orphans 22 = .ok (.iconst 0, 1) := by decide +kernel
theorem dX12_orphans_23 : decode cX12_orphans 23 = .ok (.iastore, 1) := by decide +kernel
theorem dX12_orphans_24 : decode cX12_orphans 24 = .ok (.iinc 2 1, 3) := by decide +kernel
theorem dX12_orphans_27 : decode cX12_orphans 27 = .ok (.goto (-16), 3) := by decide +kernel
theorem dX12_orphans_30 : decode cX12_orphans 30 = .ok (.aload_n 0, 1) := by decide +kernel
theorem dX12_orphans_31 : decode cX12_orphans 31 = .ok (.getfield 131, 3) := by decide +kernel
theorem dX12_orphans_34 : decode cX12_orphans 34 = .ok (.iconst 1, 1) := by decide +kernel
theorem dX12_orphans_35 : decode cX12_orphans 35 = .ok (.aload_n 0, 1) := by decide +kernel
theorem dX12_orphans_36 : decode cX12_orphans 36 = .ok (.invokevirtual 327, 3) := by decide +kernel
theorem dX12_orphans_39 : decode cX12_orphans 39 = .ok (.ishl, 1) := by decide +kernel
theorem dX12_orphans_40 : decode cX12_orphans 40 = .ok (.iconst 1, 1) := by decide +kernel
theorem dX12_orphans_41 : decode cX12_orphans 41 = .ok (.isub, 1) := by decide +kernel
theorem dX12_orphans_42 : decode cX12_orphans 42 = .ok (.iconst 1, 1) := by decide +kernel
theorem dX12_orphans_43 : decode cX12_orphans 43 = .ok (.iastore, 1) := by decide +kernel
theorem dX12_orphans_44 : decode cX12_orphans 44 = .ok (.iconst 0, 1) := by decide +kernel
theorem dX12_orphans_45 : decode cX12_orphans 45 = .ok (.istore_n 2, 1) := by decide +kernel
theorem dX12_orphans_46 : decode cX12_orphans 46 = .ok (.iload_n 2, 1) := by decide +kernel
theorem dX12_orphans_47 : decode cX12_orphans 47 = .ok (.iload_n 1, 1) := by decide +kernel
theorem dX12_orphans_48 : decode cX12_orphans 48 = .ok (.if_icmp .ge 109, 3) := by decide +kernel
theorem dX12_orphans_51 : decode cX12_orphans 51 = .ok (.iconst 0, 1) := by decide +kernel
theorem dX12_orphans_52 : decode cX12_orphans 52 = .ok (.istore_n 3, 1) := by decide +kernel
theorem dX12_orphans_53 : decode cX12_orphans 53 = .ok (.iload_n 3, 1) := by decide +kernel
theorem dX12_orphans_54 : decode cX12_orphans 54 = .ok (.bipush 16, 2) := by decide +kernel
theorem dX12_orphans_56 : decode cX12_orphans 56 = .ok (.if_icmp .ge 16, 3) := by decide +kernel
theorem dX12_orphans_59 : decode cX12_orphans 59 = .ok (.aload_n 0, 1) := by decide +kernel
theorem dX12_orphans_60 : decode cX12_orphans 60 = .ok (.getfield 134, 3) := by decide +kernel
theorem dX12_orphans_63 : decode cX12_orphans 63 = .ok (.iload_n 3, 1) := by decide +kernel
theorem dX12_orphans_64 : decode cX12_orphans 64 = .ok (.iconst 0, 1) := by decide +kernel
theorem dX12_orphans_65 : decode cX12_orphans 65 = .ok (.iastore, 1) := by decide +kernel
theorem dX12_orphans_66 : decode cX12_orphans 66 = .ok (.iinc 3 1, 3) := by decide +kernel
theorem dX12_orphans_69 : decode cX12_orphans 69 = .ok (.goto (-16), 3) := by decide +kernel
theorem dX12_orphans_72 : decode cX12_orphans 72 = .ok (.iconst 0, 1) := by decide +kernel
theorem dX12_orphans_73 : decode cX12_orphans 73 = .ok (.istore_n 3, 1) := by decide +kernel
theorem dX12_orphans_74 : decode cX12_orphans 74 = .ok (.iload_n 3, 1) := by decide +kernel
theorem dX12_orphans_75 : decode cX12_orphans 75 = .ok (.bipush 16, 2) := by decide +kernel
theorem dX12_orphans_77 : decode cX12_orphans 77 = .ok (.if_icmp .ge 48, 3) := by decide +kernel
theorem dX12_orphans_80 : decode cX12_orphans 80 = .ok (.iconst 0, 1) := by decide +kernel
theorem dX12_orphans_81 : decode cX12_orphans 81 = .ok (.istore 4, 2) := by decide +kernel
theorem dX12_orphans_83 : decode cX12_orphans 83 = .ok (.iload 4, 2) := by decide +kernel
theorem dX12_orphans_85 : decode cX12_orphans 85 = .ok (.aload_n 0, 1) := by decide +kernel
theorem dX12_orphans_86 : decode cX12_orphans 86 = .ok (.invokevirtual 327, 3) := by decide +kernel
theorem dX12_orphans_89 : decode cX12_orphans 89 = .ok (.if_icmp .ge 30, 3) := by decide +kernel
theorem dX12_orphans_92 : decode cX12_orphans 92 = .ok (.aload_n 0, 1) := by decide +kernel
theorem dX12_orphans_93 : decode cX12_orphans 93 = .ok (.getfield 134, 3) := by decide +kernel
theorem dX12_orphans_96 : decode cX12_orphans 96 = .ok (.aload_n 0, 1) := by decide +kernel
theorem dX12_orphans_97 : decode cX12_orphans 97 = .ok (.iload_n 3, 1) := by decide +kernel
theorem dX12_orphans_98 : decode cX12_orphans 98 = .ok (.iload 4, 2) := by decide +kernel
theorem dX12_orphans_100 : decode cX12_orphans 100 = .ok (.invokevirtual 469, 3) := by decide +kernel
theorem dX12_orphans_103 : decode cX12_orphans 103 = .ok (.dup2, 1) := by decide +kernel
theorem dX12_orphans_104 : decode cX12_orphans 104 = .ok (.iaload, 1) := by decide +kernel
theorem dX12_orphans_105 : decode cX12_orphans 105 = .ok (.aload_n 0, 1) := by decide +kernel
theorem dX12_orphans_106 : decode cX12_orphans 106 = .ok (.getfield 131, 3) := by decide +kernel
theorem dX12_orphans_109 : decode cX12_orphans 109 = .ok (.iload_n 3, 1) := by decide +kernel
theorem dX12_orphans_110 : decode cX12_orphans 110 = .ok (.iaload, 1) := by decide +kernel
theorem dX12_orphans_111 : decode cX12_orphans 111 = .ok (.iadd, 1) := by decide +kernel
theorem dX12_orphans_112 : decode cX12_orphans 112 = .ok (.iastore, 1) := by decide +kernel
theorem dX12_orphans_113 : decode cX12_orphans 113 = .ok (.iinc 4 1, 3) := by decide +kernel
theorem dX12_orphans_116 : decode cX12_orphans 116 = .ok (.goto (-33), 3) := by decide +kernel
theorem dX12_orphans_119 : decode cX12_orphans 119 = .ok (.iinc 3 1, 3) := by decide +kernel
theorem dX12_orphans_122 : decode cX12_orphans 122 = .ok (.goto (-48), 3) := by decide +kernel
theorem dX12_orphans_125 : decode cX12_orphans 125 = .ok (.iconst 0, 1) := by decide +kernel
theorem dX12_orphans_126 : decode cX12_orphans 126 = .ok (.istore_n 3, 1) := by decide +kernel
theorem dX12_orphans_127 : decode cX12_orphans 127 = .ok (.iload_n 3, 1) := by decide +kernel
theorem dX12_orphans_128 : decode cX12_orphans 128 = .ok (.bipush 16, 2) := by decide +kernel
theorem dX12_orphans_130 : decode cX12_orphans 130 = .ok (.if_icmp .ge 21, 3) := by decide +kernel
theorem dX12_orphans_133 : decode cX12_orphans 133 = .ok (.aload_n 0, 1) := by decide +kernel
theorem dX12_orphans_134 : decode cX12_orphans 134 = .ok (.getfield 131, 3) := by decide +kernel
theorem dX12_orphans_137 : decode cX12_orphans 137 = .ok (.iload_n 3, 1) := by decide +kernel
theorem dX12_orphans_138 : decode cX12_orphans 138 = .ok (.aload_n 0, 1) := by decide +kernel
theorem dX12_orphans_139 : decode cX12_orphans 139 = .ok (.getfield 134, 3) := by decide +kernel
theorem dX12_orphans_142 : decode cX12_orphans 142 = .ok (.iload_n 3, 1) := by decide +kernel
theorem dX12_orphans_143 : decode cX12_orphans 143 = .ok (.iaload, 1) := by decide +kernel
theorem dX12_orphans_144 : decode cX12_orphans 144 = .ok (.iastore, 1) := by decide +kernel
theorem dX12_orphans_145 : decode cX12_orphans 145 = .ok (.iinc 3 1, 3) := by decide +kernel
theorem dX12_orphans_148 : decode cX12_orphans 148 = .ok (.goto (-21), 3) := by decide +kernel
theorem dX12_orphans_151 : decode cX12_orphans 151 = .ok (.iinc 2 1, 3) := by decide +kernel
theorem dX12_orphans_154 : decode cX12_orphans 154 = .ok (.goto (-108), 3) := by decide +kernel
theorem dX12_orphans_157 : decode cX12_orphans 157 = .ok (.aload_n 0, 1) := by decide +kernel
theorem dX12_orphans_158 : decode cX12_orphans 158 = .ok (.getfield 131, 3) := by decide +kernel
theorem dX12_orphans_161 : decode cX12_orphans 161 = .ok (.iconst 0, 1) := by decide +kernel
theorem dX12_orphans_162 : decode cX12_orphans 162 = .ok (.iaload, 1) := by decide +kernel
theorem dX12_orphans_163 : decode cX12_orphans 163 = .ok (.ireturn, 1) := by decide +kernel
def xX12_orphans : zX := (RX12, cX12_orphans, 5, (some .int), false, { frames := 4, cells := 0, slots := 0, locals := 157 }, 0, 0, 0, 0)
theorem rmX12_orphans : z_Rm xX12_orphans := by unfold z_Rm xX12_orphans; exact ⟨by decide, by decide⟩
theorem reX12_orphans : z_Re xX12_orphans := ⟨rfl, rfl⟩
theorem rlX12_orphans : 1 ≤ xX12_orphans.2.2.2.2.2.1.frames ∧ 21 ≤ xX12_orphans.2.2.2.2.2.1.locals := by unfold xX12_orphans; exact ⟨by decide, by decide⟩
theorem meX12_orphans : z_Me yX12_orphans xX12_orphans 1 := ⟨wd1226, wd848, by decide, by decide, by decide +kernel⟩
theorem fitX12_orphans_1 : z_Fit xX12_isLength xX12_orphans := by unfold z_Fit; simp only [xX12_isLength, xX12_orphans]; exact ⟨by decide, by decide⟩
theorem fitX12_orphans_36 : z_Fit xX12_base xX12_orphans := by unfold z_Fit; simp only [xX12_base, xX12_orphans]; exact ⟨by decide, by decide⟩
theorem fitX12_orphans_86 : z_Fit xX12_base xX12_orphans := by unfold z_Fit; simp only [xX12_base, xX12_orphans]; exact ⟨by decide, by decide⟩
theorem fitX12_orphans_100 : z_Fit xX12_onFrom xX12_orphans := by unfold z_Fit; simp only [xX12_onFrom, xX12_orphans]; exact ⟨by decide, by decide⟩
noncomputable def kX12_orphans_157 : zK zR := (q_aload 0 (q_getR 12 58 (q_push 0 (q_iald q_iret))))
noncomputable def kX12_orphans_151 : zK ((zL × zS) ⊕ zR) := (q_iinc 2 1 q_ag)
noncomputable def bX12_orphans_127 : zK ((zL × zS) ⊕ ((zL × zS) ⊕ zR)) := (q_iload 3 (q_push 16 (q_icmp_ge (q_dn kX12_orphans_151) (q_aload 0 (q_getR 12 58 (q_iload 3 (q_aload 0 (q_getR 12 59 (q_iload 3 (q_iald (q_iast (q_iinc 3 1 q_ag))))))))))))
noncomputable def kX12_orphans_127 : zK ((zL × zS) ⊕ zR) := q_lp (bX12_orphans_127)
noncomputable def kX12_orphans_125 : zK ((zL × zS) ⊕ zR) := (q_push 0 (q_istore 3 kX12_orphans_127))
noncomputable def kX12_orphans_119 : zK ((zL × zS) ⊕ ((zL × zS) ⊕ zR)) := (q_iinc 3 1 q_ag)
noncomputable def bX12_orphans_83 : zK ((zL × zS) ⊕ ((zL × zS) ⊕ ((zL × zS) ⊕ zR))) := (q_iload 4 (q_aload 0 (q_callV 12 fX12_base 0 (q_icmp_ge (q_dn kX12_orphans_119) (q_aload 0 (q_getR 12 59 (q_aload 0 (q_iload 3 (q_iload 4 (q_callV 12 fX12_onFrom 2 (q_dup2 (q_iald (q_aload 0 (q_getR 12 58 (q_iload 3 (q_iald (q_iadd (q_iast (q_iinc 4 1 q_ag)))))))))))))))))))
noncomputable def kX12_orphans_83 : zK ((zL × zS) ⊕ ((zL × zS) ⊕ zR)) := q_lp (bX12_orphans_83)
noncomputable def bX12_orphans_74 : zK ((zL × zS) ⊕ ((zL × zS) ⊕ zR)) := (q_iload 3 (q_push 16 (q_icmp_ge (q_dn kX12_orphans_125) (q_push 0 (q_istore 4 kX12_orphans_83)))))
noncomputable def kX12_orphans_74 : zK ((zL × zS) ⊕ zR) := q_lp (bX12_orphans_74)
noncomputable def kX12_orphans_72 : zK ((zL × zS) ⊕ zR) := (q_push 0 (q_istore 3 kX12_orphans_74))
noncomputable def bX12_orphans_53 : zK ((zL × zS) ⊕ ((zL × zS) ⊕ zR)) := (q_iload 3 (q_push 16 (q_icmp_ge (q_dn kX12_orphans_72) (q_aload 0 (q_getR 12 59 (q_iload 3 (q_push 0 (q_iast (q_iinc 3 1 q_ag)))))))))
noncomputable def kX12_orphans_53 : zK ((zL × zS) ⊕ zR) := q_lp (bX12_orphans_53)
noncomputable def bX12_orphans_46 : zK ((zL × zS) ⊕ zR) := (q_iload 2 (q_iload 1 (q_icmp_ge (q_dn kX12_orphans_157) (q_push 0 (q_istore 3 kX12_orphans_53)))))
noncomputable def kX12_orphans_46 : zK zR := q_lp (bX12_orphans_46)
noncomputable def kX12_orphans_30 : zK zR := (q_aload 0 (q_getR 12 58 (q_push 1 (q_aload 0 (q_callV 12 fX12_base 0 (q_ishl (q_push 1 (q_isub (q_push 1 (q_iast (q_push 0 (q_istore 2 kX12_orphans_46))))))))))))
noncomputable def bX12_orphans_11 : zK ((zL × zS) ⊕ zR) := (q_iload 2 (q_push 16 (q_icmp_ge (q_dn kX12_orphans_30) (q_aload 0 (q_getR 12 58 (q_iload 2 (q_push 0 (q_iast (q_iinc 2 1 q_ag)))))))))
noncomputable def kX12_orphans_11 : zK zR := q_lp (bX12_orphans_11)
noncomputable def kX12_orphans_0 : zK zR := (q_iload 1 (q_callS fX12_isLength 1 (q_if_ne (q_push 0 (q_istore 2 kX12_orphans_11)) (q_push (-1) q_iret))))
set_option maxRecDepth 100000 in
theorem tX12_orphans_157 {l : Launch} {D : zD} {B sz0 : Nat} {post : Option Value → zS → Prop} : zSnd l D B xX12_orphans sz0 post 157 kX12_orphans_157 (z_Jr post) := (s_aload_n dX12_orphans_157 rfl (s_getR (f := 58) dX12_orphans_158 clX12 (by decide) rfl wd889 (s_iconst dX12_orphans_161 (by decide) (s_iald dX12_orphans_162 (s_iret dX12_orphans_163 rfl)))))
set_option maxRecDepth 100000 in
theorem tX12_orphans_151 {l : Launch} {D : zD} {B sz0 : Nat} {post : Option Value → zS → Prop} : zSnd l D B xX12_orphans sz0 post 151 kX12_orphans_151 (z_Jl l D B xX12_orphans sz0 post 46 (z_Jr post)) := (s_iinc dX12_orphans_151 (by decide) (s_goto (tgt := 46) dX12_orphans_154 (by decide) s_ag))
set_option maxRecDepth 100000 in
theorem tX12_orphans_127 {l : Launch} {D : zD} {B sz0 : Nat} {post : Option Value → zS → Prop} : zSnd l D B xX12_orphans sz0 post 127 kX12_orphans_127 (z_Jl l D B xX12_orphans sz0 post 46 (z_Jr post)) := s_lp (body := bX12_orphans_127) (s_iload_n dX12_orphans_127 rfl (s_bipush dX12_orphans_128 (by decide) (s_icmp_ge (tgt := 151) dX12_orphans_130 (by decide) (s_dn tX12_orphans_151) (s_aload_n dX12_orphans_133 rfl (s_getR (f := 58) dX12_orphans_134 clX12 (by decide) rfl wd889 (s_iload_n dX12_orphans_137 rfl (s_aload_n dX12_orphans_138 rfl (s_getR (f := 59) dX12_orphans_139 clX12 (by decide) rfl wd890 (s_iload_n dX12_orphans_142 rfl (s_iald dX12_orphans_143 (s_iast dX12_orphans_144 (s_iinc dX12_orphans_145 (by decide) (s_goto (tgt := 127) dX12_orphans_148 (by decide) s_ag)))))))))))))
set_option maxRecDepth 100000 in
theorem tX12_orphans_125 {l : Launch} {D : zD} {B sz0 : Nat} {post : Option Value → zS → Prop} : zSnd l D B xX12_orphans sz0 post 125 kX12_orphans_125 (z_Jl l D B xX12_orphans sz0 post 46 (z_Jr post)) := (s_iconst dX12_orphans_125 (by decide) (s_istore_n dX12_orphans_126 rfl tX12_orphans_127))
set_option maxRecDepth 100000 in
theorem tX12_orphans_119 {l : Launch} {D : zD} {B sz0 : Nat} {post : Option Value → zS → Prop} : zSnd l D B xX12_orphans sz0 post 119 kX12_orphans_119 (z_Jl l D B xX12_orphans sz0 post 74 (z_Jl l D B xX12_orphans sz0 post 46 (z_Jr post))) := (s_iinc dX12_orphans_119 (by decide) (s_goto (tgt := 74) dX12_orphans_122 (by decide) s_ag))
set_option maxRecDepth 100000 in
theorem tX12_orphans_83 {l : Launch} {D : zD} {B sz0 : Nat} {post : Option Value → zS → Prop} : zSnd l D B xX12_orphans sz0 post 83 kX12_orphans_83 (z_Jl l D B xX12_orphans sz0 post 74 (z_Jl l D B xX12_orphans sz0 post 46 (z_Jr post))) := s_lp (body := bX12_orphans_83) (s_iload dX12_orphans_83 (s_aload_n dX12_orphans_85 rfl (s_callV (r := (RX12, TX12, 74)) dX12_orphans_86 mX12_base meX12_base wd1036 wd1037 rfl rfl reX12_base rmX12_orphans (fitX12_orphans_86) wd1038 (s_icmp_ge (tgt := 119) dX12_orphans_89 (by decide) (s_dn tX12_orphans_119) (s_aload_n dX12_orphans_92 rfl (s_getR (f := 59) dX12_orphans_93 clX12 (by decide) rfl wd890 (s_aload_n dX12_orphans_96 rfl (s_iload_n dX12_orphans_97 rfl (s_iload dX12_orphans_98 (s_callV (r := (RX12, TX12, 74)) dX12_orphans_100 mX12_onFrom meX12_onFrom wd1223 wd1224 rfl rfl reX12_onFrom rmX12_orphans (fitX12_orphans_100) wd1225 (s_dup2 dX12_orphans_103 (s_iald dX12_orphans_104 (s_aload_n dX12_orphans_105 rfl (s_getR (f := 58) dX12_orphans_106 clX12 (by decide) rfl wd889 (s_iload_n dX12_orphans_109 rfl (s_iald dX12_orphans_110 (s_iadd dX12_orphans_111 (s_iast dX12_orphans_112 (s_iinc dX12_orphans_113 (by decide) (s_goto (tgt := 83) dX12_orphans_116 (by decide) s_ag))))))))))))))))))))
set_option maxRecDepth 100000 in
theorem tX12_orphans_74 {l : Launch} {D : zD} {B sz0 : Nat} {post : Option Value → zS → Prop} : zSnd l D B xX12_orphans sz0 post 74 kX12_orphans_74 (z_Jl l D B xX12_orphans sz0 post 46 (z_Jr post)) := s_lp (body := bX12_orphans_74) (s_iload_n dX12_orphans_74 rfl (s_bipush dX12_orphans_75 (by decide) (s_icmp_ge (tgt := 125) dX12_orphans_77 (by decide) (s_dn tX12_orphans_125) (s_iconst dX12_orphans_80 (by decide) (s_istore dX12_orphans_81 tX12_orphans_83)))))
set_option maxRecDepth 100000 in
theorem tX12_orphans_72 {l : Launch} {D : zD} {B sz0 : Nat} {post : Option Value → zS → Prop} : zSnd l D B xX12_orphans sz0 post 72 kX12_orphans_72 (z_Jl l D B xX12_orphans sz0 post 46 (z_Jr post)) := (s_iconst dX12_orphans_72 (by decide) (s_istore_n dX12_orphans_73 rfl tX12_orphans_74))
set_option maxRecDepth 100000 in
theorem tX12_orphans_53 {l : Launch} {D : zD} {B sz0 : Nat} {post : Option Value → zS → Prop} : zSnd l D B xX12_orphans sz0 post 53 kX12_orphans_53 (z_Jl l D B xX12_orphans sz0 post 46 (z_Jr post)) := s_lp (body := bX12_orphans_53) (s_iload_n dX12_orphans_53 rfl (s_bipush dX12_orphans_54 (by decide) (s_icmp_ge (tgt := 72) dX12_orphans_56 (by decide) (s_dn tX12_orphans_72) (s_aload_n dX12_orphans_59 rfl (s_getR (f := 59) dX12_orphans_60 clX12 (by decide) rfl wd890 (s_iload_n dX12_orphans_63 rfl (s_iconst dX12_orphans_64 (by decide) (s_iast dX12_orphans_65 (s_iinc dX12_orphans_66 (by decide) (s_goto (tgt := 53) dX12_orphans_69 (by decide) s_ag))))))))))
set_option maxRecDepth 100000 in
theorem tX12_orphans_46 {l : Launch} {D : zD} {B sz0 : Nat} {post : Option Value → zS → Prop} : zSnd l D B xX12_orphans sz0 post 46 kX12_orphans_46 (z_Jr post) := s_lp (body := bX12_orphans_46) (s_iload_n dX12_orphans_46 rfl (s_iload_n dX12_orphans_47 rfl (s_icmp_ge (tgt := 157) dX12_orphans_48 (by decide) (s_dn tX12_orphans_157) (s_iconst dX12_orphans_51 (by decide) (s_istore_n dX12_orphans_52 rfl tX12_orphans_53)))))
set_option maxRecDepth 100000 in
theorem tX12_orphans_30 {l : Launch} {D : zD} {B sz0 : Nat} {post : Option Value → zS → Prop} : zSnd l D B xX12_orphans sz0 post 30 kX12_orphans_30 (z_Jr post) := (s_aload_n dX12_orphans_30 rfl (s_getR (f := 58) dX12_orphans_31 clX12 (by decide) rfl wd889 (s_iconst dX12_orphans_34 (by decide) (s_aload_n dX12_orphans_35 rfl (s_callV (r := (RX12, TX12, 74)) dX12_orphans_36 mX12_base meX12_base wd1036 wd1037 rfl rfl reX12_base rmX12_orphans (fitX12_orphans_36) wd1038 (s_ishl dX12_orphans_39 (s_iconst dX12_orphans_40 (by decide) (s_isub dX12_orphans_41 (s_iconst dX12_orphans_42 (by decide) (s_iast dX12_orphans_43 (s_iconst dX12_orphans_44 (by decide) (s_istore_n dX12_orphans_45 rfl tX12_orphans_46))))))))))))
set_option maxRecDepth 100000 in
theorem tX12_orphans_11 {l : Launch} {D : zD} {B sz0 : Nat} {post : Option Value → zS → Prop} : zSnd l D B xX12_orphans sz0 post 11 kX12_orphans_11 (z_Jr post) := s_lp (body := bX12_orphans_11) (s_iload_n dX12_orphans_11 rfl (s_bipush dX12_orphans_12 (by decide) (s_icmp_ge (tgt := 30) dX12_orphans_14 (by decide) (s_dn tX12_orphans_30) (s_aload_n dX12_orphans_17 rfl (s_getR (f := 58) dX12_orphans_18 clX12 (by decide) rfl wd889 (s_iload_n dX12_orphans_21 rfl (s_iconst dX12_orphans_22 (by decide) (s_iast dX12_orphans_23 (s_iinc dX12_orphans_24 (by decide) (s_goto (tgt := 11) dX12_orphans_27 (by decide) s_ag))))))))))
set_option maxRecDepth 100000 in
theorem tX12_orphans_0 {l : Launch} {D : zD} {B sz0 : Nat} {post : Option Value → zS → Prop} : zSnd l D B xX12_orphans sz0 post 0 kX12_orphans_0 (z_Jr post) := (s_iload_n dX12_orphans_0 rfl (s_callS dX12_orphans_1 mX12_isLength meX12_isLength wd1186 rfl reX12_isLength rmX12_orphans (fitX12_orphans_1) wd1187 (s_if_ne (tgt := 9) dX12_orphans_4 (by decide) (s_iconst dX12_orphans_9 (by decide) (s_istore_n dX12_orphans_10 rfl tX12_orphans_11)) (s_iconst dX12_orphans_7 (by decide) (s_iret dX12_orphans_8 rfl)))))
noncomputable def fX12_orphans : zF := z_fn 5 kX12_orphans_0
theorem mX12_orphans {l : Launch} {D : zD} {B : Nat} : z_MF l D B yX12_orphans xX12_orphans fX12_orphans := z_mf (by decide) rfl (fun h => by cases h) rfl (fun as σ r h => ⟨z_fn_len h, kX12_orphans_0, z_fn_run h, fun _ => tX12_orphans_0⟩)
/-! ===== RowChildrenModel.ringsRow ===== -/
theorem dX12_ringsRow_0 : decode cX12_ringsRow 0 = .ok (.aload_n 0, 1) := by decide +kernel
theorem dX12_ringsRow_1 : decode cX12_ringsRow 1 = .ok (.aload_n 0, 1) := by decide +kernel
theorem dX12_ringsRow_2 : decode cX12_ringsRow 2 = .ok (.getfield 104, 3) := by decide +kernel
theorem dX12_ringsRow_5 : decode cX12_ringsRow 5 = .ok (.iload_n 1, 1) := by decide +kernel
theorem dX12_ringsRow_6 : decode cX12_ringsRow 6 = .ok (.iaload, 1) := by decide +kernel
theorem dX12_ringsRow_7 : decode cX12_ringsRow 7 = .ok (.putfield 472, 3) := by decide +kernel
theorem dX12_ringsRow_10 : decode cX12_ringsRow 10 = .ok (.iconst 0, 1) := by decide +kernel
theorem dX12_ringsRow_11 : decode cX12_ringsRow 11 = .ok (.istore_n 2, 1) := by decide +kernel
theorem dX12_ringsRow_12 : decode cX12_ringsRow 12 = .ok (.iload_n 2, 1) := by decide +kernel
theorem dX12_ringsRow_13 : decode cX12_ringsRow 13 = .ok (.aload_n 0, 1) := by decide +kernel
theorem dX12_ringsRow_14 : decode cX12_ringsRow 14 = .ok (.getfield 472, 3) := by decide +kernel
theorem dX12_ringsRow_17 : decode cX12_ringsRow 17 = .ok (.if_icmp .ge 28, 3) := by decide +kernel
theorem dX12_ringsRow_20 : decode cX12_ringsRow 20 = .ok (.aload_n 0, 1) := by decide +kernel
theorem dX12_ringsRow_21 : decode cX12_ringsRow 21 = .ok (.getfield 141, 3) := by decide +kernel
theorem dX12_ringsRow_24 : decode cX12_ringsRow 24 = .ok (.iload_n 2, 1) := by decide +kernel
theorem dX12_ringsRow_25 : decode cX12_ringsRow 25 = .ok (.aload_n 0, 1) := by decide +kernel
theorem dX12_ringsRow_26 : decode cX12_ringsRow 26 = .ok (.getfield 104, 3) := by decide +kernel
theorem dX12_ringsRow_29 : decode cX12_ringsRow 29 = .ok (.iconst 4, 1) := by decide +kernel
theorem dX12_ringsRow_30 : decode cX12_ringsRow 30 = .ok (.bipush 8, 2) := by decide +kernel
theorem dX12_ringsRow_32 : decode cX12_ringsRow 32 = .ok (.iload_n 1, 1) := by decide +kernel
theorem dX12_ringsRow_33 : decode cX12_ringsRow 33 = .ok (.imul, 1) := by decide +kernel
theorem dX12_ringsRow_34 : decode cX12_ringsRow 34 = .ok (.iadd, 1) := by decide +kernel
theorem dX12_ringsRow_35 : decode cX12_ringsRow 35 = .ok (.iload_n 2, 1) := by decide +kernel
theorem dX12_ringsRow_36 : decode cX12_ringsRow 36 = .ok (.iadd, 1) := by decide +kernel
theorem dX12_ringsRow_37 : decode cX12_ringsRow 37 = .ok (.iaload, 1) := by decide +kernel
theorem dX12_ringsRow_38 : decode cX12_ringsRow 38 = .ok (.iastore, 1) := by decide +kernel
theorem dX12_ringsRow_39 : decode cX12_ringsRow 39 = .ok (.iinc 2 1, 3) := by decide +kernel
theorem dX12_ringsRow_42 : decode cX12_ringsRow 42 = .ok (.goto (-30), 3) := by decide +kernel
theorem dX12_ringsRow_45 : decode cX12_ringsRow 45 = .ok (.return_, 1) := by decide +kernel
def xX12_ringsRow : zX := (RX12, cX12_ringsRow, 3, none, false, { frames := 1, cells := 0, slots := 0, locals := 90 }, 0, 0, 0, 0)
theorem rmX12_ringsRow : z_Rm xX12_ringsRow := by unfold z_Rm xX12_ringsRow; exact ⟨by decide, by decide⟩
theorem reX12_ringsRow : z_Re xX12_ringsRow := ⟨rfl, rfl⟩
theorem rlX12_ringsRow : 1 ≤ xX12_ringsRow.2.2.2.2.2.1.frames ∧ 21 ≤ xX12_ringsRow.2.2.2.2.2.1.locals := by unfold xX12_ringsRow; exact ⟨by decide, by decide⟩
theorem meX12_ringsRow : z_Me yX12_ringsRow xX12_ringsRow 1 := ⟨wd1228, wd848, by decide, by decide, by decide +kernel⟩
noncomputable def kX12_ringsRow_45 : zK zR := q_vret
noncomputable def bX12_ringsRow_12 : zK ((zL × zS) ⊕ zR) := (q_iload 2 (q_aload 0 (q_getI 12 62 (q_icmp_ge (q_dn kX12_ringsRow_45) (q_aload 0 (q_getR 12 61 (q_iload 2 (q_aload 0 (q_getR 12 46 (q_push 4 (q_push 8 (q_iload 1 (q_imul (q_iadd (q_iload 2 (q_iadd (q_iald (q_iast (q_iinc 2 1 q_ag)))))))))))))))))))
noncomputable def kX12_ringsRow_12 : zK zR := q_lp (bX12_ringsRow_12)
noncomputable def kX12_ringsRow_0 : zK zR := (q_aload 0 (q_aload 0 (q_getR 12 46 (q_iload 1 (q_iald (q_putI 12 62 (q_push 0 (q_istore 2 kX12_ringsRow_12))))))))
set_option maxRecDepth 100000 in
theorem tX12_ringsRow_45 {l : Launch} {D : zD} {B sz0 : Nat} {post : Option Value → zS → Prop} : zSnd l D B xX12_ringsRow sz0 post 45 kX12_ringsRow_45 (z_Jr post) := (s_vret dX12_ringsRow_45 rfl)
set_option maxRecDepth 100000 in
theorem tX12_ringsRow_12 {l : Launch} {D : zD} {B sz0 : Nat} {post : Option Value → zS → Prop} : zSnd l D B xX12_ringsRow sz0 post 12 kX12_ringsRow_12 (z_Jr post) := s_lp (body := bX12_ringsRow_12) (s_iload_n dX12_ringsRow_12 rfl (s_aload_n dX12_ringsRow_13 rfl (s_getI (f := 62) dX12_ringsRow_14 clX12 (by decide) rfl wd1227 (s_icmp_ge (tgt := 45) dX12_ringsRow_17 (by decide) (s_dn tX12_ringsRow_45) (s_aload_n dX12_ringsRow_20 rfl (s_getR (f := 61) dX12_ringsRow_21 clX12 (by decide) rfl wd893 (s_iload_n dX12_ringsRow_24 rfl (s_aload_n dX12_ringsRow_25 rfl (s_getR (f := 46) dX12_ringsRow_26 clX12 (by decide) rfl wd860 (s_iconst dX12_ringsRow_29 (by decide) (s_bipush dX12_ringsRow_30 (by decide) (s_iload_n dX12_ringsRow_32 rfl (s_imul dX12_ringsRow_33 (s_iadd dX12_ringsRow_34 (s_iload_n dX12_ringsRow_35 rfl (s_iadd dX12_ringsRow_36 (s_iald dX12_ringsRow_37 (s_iast dX12_ringsRow_38 (s_iinc dX12_ringsRow_39 (by decide) (s_goto (tgt := 12) dX12_ringsRow_42 (by decide) s_ag))))))))))))))))))))
set_option maxRecDepth 100000 in
theorem tX12_ringsRow_0 {l : Launch} {D : zD} {B sz0 : Nat} {post : Option Value → zS → Prop} : zSnd l D B xX12_ringsRow sz0 post 0 kX12_ringsRow_0 (z_Jr post) := (s_aload_n dX12_ringsRow_0 rfl (s_aload_n dX12_ringsRow_1 rfl (s_getR (f := 46) dX12_ringsRow_2 clX12 (by decide) rfl wd860 (s_iload_n dX12_ringsRow_5 rfl (s_iald dX12_ringsRow_6 (s_putI (f := 62) dX12_ringsRow_7 clX12 (by decide) rfl rfl rfl wd1227 (s_iconst dX12_ringsRow_10 (by decide) (s_istore_n dX12_ringsRow_11 rfl tX12_ringsRow_12))))))))
noncomputable def fX12_ringsRow : zF := z_fn 3 kX12_ringsRow_0
theorem mX12_ringsRow {l : Launch} {D : zD} {B : Nat} : z_MF l D B yX12_ringsRow xX12_ringsRow fX12_ringsRow := z_mf (by decide) rfl (fun h => by cases h) rfl (fun as σ r h => ⟨z_fn_len h, kX12_ringsRow_0, z_fn_run h, fun _ => tX12_ringsRow_0⟩)
/-! ===== RowChildrenModel.numberRing ===== -/
theorem dX12_numberRing_0 : decode cX12_numberRing 0 = .ok (.iconst 0, 1) := by decide +kernel
theorem dX12_numberRing_1 : decode cX12_numberRing 1 = .ok (.istore_n 1, 1) := by decide +kernel
theorem dX12_numberRing_2 : decode cX12_numberRing 2 = .ok (.iconst 0, 1) := by decide +kernel
theorem dX12_numberRing_3 : decode cX12_numberRing 3 = .ok (.istore_n 2, 1) := by decide +kernel
theorem dX12_numberRing_4 : decode cX12_numberRing 4 = .ok (.iload_n 2, 1) := by decide +kernel
theorem dX12_numberRing_5 : decode cX12_numberRing 5 = .ok (.aload_n 0, 1) := by decide +kernel
theorem dX12_numberRing_6 : decode cX12_numberRing 6 = .ok (.getfield 472, 3) := by decide +kernel
theorem dX12_numberRing_9 : decode cX12_numberRing 9 = .ok (.if_icmp .ge 23, 3) := by decide +kernel
theorem dX12_numberRing_12 : decode cX12_numberRing 12 = .ok (.iload_n 1, 1) := by decide +kernel
theorem dX12_numberRing_13 : decode cX12_numberRing 13 = .ok (.aload_n 0, 1) := by decide +kernel
theorem dX12_numberRing_14 : decode cX12_numberRing 14 = .ok (.invokevirtual 327, 3) := by decide +kernel
theorem dX12_numberRing_17 : decode cX12_numberRing 17 = .ok (.imul, 1) := by decide +kernel
theorem dX12_numberRing_18 : decode cX12_numberRing 18 = .ok (.aload_n 0, 1) := by decide +kernel
theorem dX12_numberRing_19 : decode cX12_numberRing 19 = .ok (.getfield 141, 3) := by decide +kernel
theorem dX12_numberRing_22 : decode cX12_numberRing 22 = .ok (.iload_n 2, 1) := by decide +kernel
theorem dX12_numberRing_23 : decode cX12_numberRing 23 = .ok (.iaload, 1) := by decide +kernel
theorem dX12_numberRing_24 : decode cX12_numberRing 24 = .ok (.iadd, 1) := by decide +kernel
theorem dX12_numberRing_25 : decode cX12_numberRing 25 = .ok (.istore_n 1, 1) := by decide +kernel
theorem dX12_numberRing_26 : decode cX12_numberRing 26 = .ok (.iinc 2 1, 3) := by decide +kernel
theorem dX12_numberRing_29 : decode cX12_numberRing 29 = .ok (.goto (-25), 3) := by decide +kernel
theorem dX12_numberRing_32 : decode cX12_numberRing 32 = .ok (.iload_n 1, 1) := by decide +kernel
theorem dX12_numberRing_33 : decode cX12_numberRing 33 = .ok (.ireturn, 1) := by decide +kernel
def xX12_numberRing : zX := (RX12, cX12_numberRing, 3, (some .int), false, { frames := 2, cells := 0, slots := 0, locals := 110 }, 0, 0, 0, 0)
theorem rmX12_numberRing : z_Rm xX12_numberRing := by unfold z_Rm xX12_numberRing; exact ⟨by decide, by decide⟩
theorem reX12_numberRing : z_Re xX12_numberRing := ⟨rfl, rfl⟩
theorem rlX12_numberRing : 1 ≤ xX12_numberRing.2.2.2.2.2.1.frames ∧ 21 ≤ xX12_numberRing.2.2.2.2.2.1.locals := by unfold xX12_numberRing; exact ⟨by decide, by decide⟩
theorem meX12_numberRing : z_Me yX12_numberRing xX12_numberRing 0 := ⟨wd1229, wd848, by decide, by decide, by decide +kernel⟩
theorem fitX12_numberRing_14 : z_Fit xX12_base xX12_numberRing := by unfold z_Fit; simp only [xX12_base, xX12_numberRing]; exact ⟨by decide, by decide⟩
noncomputable def kX12_numberRing_32 : zK zR := (q_iload 1 q_iret)
noncomputable def bX12_numberRing_4 : zK ((zL × zS) ⊕ zR) := (q_iload 2 (q_aload 0 (q_getI 12 62 (q_icmp_ge (q_dn kX12_numberRing_32) (q_iload 1 (q_aload 0 (q_callV 12 fX12_base 0 (q_imul (q_aload 0 (q_getR 12 61 (q_iload 2 (q_iald (q_iadd (q_istore 1 (q_iinc 2 1 q_ag)))))))))))))))
noncomputable def kX12_numberRing_4 : zK zR := q_lp (bX12_numberRing_4)
noncomputable def kX12_numberRing_0 : zK zR := (q_push 0 (q_istore 1 (q_push 0 (q_istore 2 kX12_numberRing_4))))
set_option maxRecDepth 100000 in
theorem tX12_numberRing_32 {l : Launch} {D : zD} {B sz0 : Nat} {post : Option Value → zS → Prop} : zSnd l D B xX12_numberRing sz0 post 32 kX12_numberRing_32 (z_Jr post) := (s_iload_n dX12_numberRing_32 rfl (s_iret dX12_numberRing_33 rfl))
set_option maxRecDepth 100000 in
theorem tX12_numberRing_4 {l : Launch} {D : zD} {B sz0 : Nat} {post : Option Value → zS → Prop} : zSnd l D B xX12_numberRing sz0 post 4 kX12_numberRing_4 (z_Jr post) := s_lp (body := bX12_numberRing_4) (s_iload_n dX12_numberRing_4 rfl (s_aload_n dX12_numberRing_5 rfl (s_getI (f := 62) dX12_numberRing_6 clX12 (by decide) rfl wd1227 (s_icmp_ge (tgt := 32) dX12_numberRing_9 (by decide) (s_dn tX12_numberRing_32) (s_iload_n dX12_numberRing_12 rfl (s_aload_n dX12_numberRing_13 rfl (s_callV (r := (RX12, TX12, 74)) dX12_numberRing_14 mX12_base meX12_base wd1036 wd1037 rfl rfl reX12_base rmX12_numberRing (fitX12_numberRing_14) wd1038 (s_imul dX12_numberRing_17 (s_aload_n dX12_numberRing_18 rfl (s_getR (f := 61) dX12_numberRing_19 clX12 (by decide) rfl wd893 (s_iload_n dX12_numberRing_22 rfl (s_iald dX12_numberRing_23 (s_iadd dX12_numberRing_24 (s_istore_n dX12_numberRing_25 rfl (s_iinc dX12_numberRing_26 (by decide) (s_goto (tgt := 4) dX12_numberRing_29 (by decide) s_ag))))))))))))))))
set_option maxRecDepth 100000 in
theorem tX12_numberRing_0 {l : Launch} {D : zD} {B sz0 : Nat} {post : Option Value → zS → Prop} : zSnd l D B xX12_numberRing sz0 post 0 kX12_numberRing_0 (z_Jr post) := (s_iconst dX12_numberRing_0 (by decide) (s_istore_n dX12_numberRing_1 rfl (s_iconst dX12_numberRing_2 (by decide) (s_istore_n dX12_numberRing_3 rfl tX12_numberRing_4))))
noncomputable def fX12_numberRing : zF := z_fn 3 kX12_numberRing_0
theorem mX12_numberRing {l : Launch} {D : zD} {B : Nat} : z_MF l D B yX12_numberRing xX12_numberRing fX12_numberRing := z_mf (by decide) rfl (fun h => by cases h) rfl (fun as σ r h => ⟨z_fn_len h, kX12_numberRing_0, z_fn_run h, fun _ => tX12_numberRing_0⟩)
/-! ===== RowChildrenModel.ringSteps ===== -/
theorem dX12_ringSteps_0 : decode cX12_ringSteps 0 = .ok (.aload_n 0, 1) := by decide +kernel
theorem dX12_ringSteps_1 : decode cX12_ringSteps 1 = .ok (.getfield 141, 3) := by decide +kernel
theorem dX12_ringSteps_4 : decode cX12_ringSteps 4 = .ok (.iconst 0, 1) := by decide +kernel
theorem dX12_ringSteps_5 : decode cX12_ringSteps 5 = .ok (.iaload, 1) := by decide +kernel
theorem dX12_ringSteps_6 : decode cX12_ringSteps 6 = .ok (.istore_n 1, 1) := by decide +kernel
theorem dX12_ringSteps_7 : decode cX12_ringSteps 7 = .ok (.iconst 0, 1) := by decide +kernel
theorem dX12_ringSteps_8 : decode cX12_ringSteps 8 = .ok (.istore_n 2, 1) := by decide +kernel
theorem dX12_ringSteps_9 : decode cX12_ringSteps 9 = .ok (.iload_n 2, 1) := by decide +kernel
theorem dX12_ringSteps_10 : decode cX12_ringSteps 10 = .ok (.aload_n 0, 1) := by decide +kernel
theorem dX12_ringSteps_11 : decode cX12_ringSteps 11 = .ok (.getfield 472, 3) := by decide +kernel
theorem dX12_ringSteps_14 : decode cX12_ringSteps 14 = .ok (.if_icmp .ge 47, 3) := by decide +kernel
theorem dX12_ringSteps_17 : decode cX12_ringSteps 17 = .ok (.aload_n 0, 1) := by decide +kernel
theorem dX12_ringSteps_18 : decode cX12_ringSteps 18 = .ok (.getfield 141, 3) := by decide +kernel
theorem dX12_ringSteps_21 : decode cX12_ringSteps 21 = .ok (.iload_n 2, 1) := by decide +kernel
theorem dX12_ringSteps_22 : decode cX12_ringSteps 22 = .ok (.aload_n 0, 1) := by decide +kernel
theorem dX12_ringSteps_23 : decode cX12_ringSteps 23 = .ok (.aload_n 0, 1) := by decide +kernel
theorem dX12_ringSteps_24 : decode cX12_ringSteps 24 = .ok (.getfield 141, 3) := by decide +kernel
theorem dX12_ringSteps_27 : decode cX12_ringSteps 27 = .ok (.iload_n 2, 1) := by decide +kernel
theorem dX12_ringSteps_28 : decode cX12_ringSteps 28 = .ok (.iaload, 1) := by decide +kernel
theorem dX12_ringSteps_29 : decode cX12_ringSteps 29 = .ok (.iload_n 2, 1) := by decide +kernel
theorem dX12_ringSteps_30 : decode cX12_ringSteps 30 = .ok (.iconst 1, 1) := by decide +kernel
theorem dX12_ringSteps_31 : decode cX12_ringSteps 31 = .ok (.iadd, 1) := by decide +kernel
theorem dX12_ringSteps_32 : decode cX12_ringSteps 32 = .ok (.aload_n 0, 1) := by decide +kernel
theorem dX12_ringSteps_33 : decode cX12_ringSteps 33 = .ok (.getfield 472, 3) := by decide +kernel
theorem dX12_ringSteps_36 : decode cX12_ringSteps 36 = .ok (.if_icmp .ge 14, 3) := by decide +kernel
theorem dX12_ringSteps_39 : decode cX12_ringSteps 39 = .ok (.aload_n 0, 1) := by decide +kernel
theorem dX12_ringSteps_40 : decode cX12_ringSteps 40 = .ok (.getfield 141, 3) := by decide +kernel
theorem dX12_ringSteps_43 : decode cX12_ringSteps 43 = .ok (.iload_n 2, 1) := by decide +kernel
theorem dX12_ringSteps_44 : decode cX12_ringSteps 44 = .ok (.iconst 1, 1) := by decide +kernel
theorem dX12_ringSteps_45 : decode cX12_ringSteps 45 = .ok (.iadd, 1) := by decide +kernel
theorem dX12_ringSteps_46 : decode cX12_ringSteps 46 = .ok (.iaload, 1) := by decide +kernel
theorem dX12_ringSteps_47 : decode cX12_ringSteps 47 = .ok (.goto 4, 3) := by decide +kernel
theorem dX12_ringSteps_50 : decode cX12_ringSteps 50 = .ok (.iload_n 1, 1) := by decide +kernel
theorem dX12_ringSteps_51 : decode cX12_ringSteps 51 = .ok (.invokevirtual 346, 3) := by decide +kernel
theorem dX12_ringSteps_54 : decode cX12_ringSteps 54 = .ok (.iastore, 1) := by decide +kernel
theorem dX12_ringSteps_55 : decode cX12_ringSteps 55 = .ok (.iinc 2 1, 3) := by decide +kernel
theorem dX12_ringSteps_58 : decode cX12_ringSteps 58 = .ok (.goto (-49), 3) := by decide +kernel
theorem dX12_ringSteps_61 : decode cX12_ringSteps 61 = .ok (.return_, 1) := by decide +kernel
def xX12_ringSteps : zX := (RX12, cX12_ringSteps, 3, none, false, { frames := 3, cells := 0, slots := 0, locals := 133 }, 0, 0, 0, 0)
theorem rmX12_ringSteps : z_Rm xX12_ringSteps := by unfold z_Rm xX12_ringSteps; exact ⟨by decide, by decide⟩
theorem reX12_ringSteps : z_Re xX12_ringSteps := ⟨rfl, rfl⟩
theorem rlX12_ringSteps : 1 ≤ xX12_ringSteps.2.2.2.2.2.1.frames ∧ 21 ≤ xX12_ringSteps.2.2.2.2.2.1.locals := by unfold xX12_ringSteps; exact ⟨by decide, by decide⟩
theorem meX12_ringSteps : z_Me yX12_ringSteps xX12_ringSteps 0 := ⟨wd1230, wd848, by decide, by decide, by decide +kernel⟩
theorem fitX12_ringSteps_51 : z_Fit xX12_childOf xX12_ringSteps := by unfold z_Fit; simp only [xX12_childOf, xX12_ringSteps]; exact ⟨by decide, by decide⟩
noncomputable def kX12_ringSteps_61 : zK zR := q_vret
noncomputable def kX12_ringSteps_51 : zK ((zL × zS) ⊕ zR) := (q_callV 12 fX12_childOf 2 (q_iast (q_iinc 2 1 q_ag)))
noncomputable def bX12_ringSteps_9 : zK ((zL × zS) ⊕ zR) := (q_iload 2 (q_aload 0 (q_getI 12 62 (q_icmp_ge (q_dn kX12_ringSteps_61) (q_aload 0 (q_getR 12 61 (q_iload 2 (q_aload 0 (q_aload 0 (q_getR 12 61 (q_iload 2 (q_iald (q_iload 2 (q_push 1 (q_iadd (q_aload 0 (q_getI 12 62 (q_icmp_ge (q_iload 1 kX12_ringSteps_51) (q_aload 0 (q_getR 12 61 (q_iload 2 (q_push 1 (q_iadd (q_iald kX12_ringSteps_51))))))))))))))))))))))))
noncomputable def kX12_ringSteps_9 : zK zR := q_lp (bX12_ringSteps_9)
noncomputable def kX12_ringSteps_0 : zK zR := (q_aload 0 (q_getR 12 61 (q_push 0 (q_iald (q_istore 1 (q_push 0 (q_istore 2 kX12_ringSteps_9)))))))
set_option maxRecDepth 100000 in
theorem tX12_ringSteps_61 {l : Launch} {D : zD} {B sz0 : Nat} {post : Option Value → zS → Prop} : zSnd l D B xX12_ringSteps sz0 post 61 kX12_ringSteps_61 (z_Jr post) := (s_vret dX12_ringSteps_61 rfl)
set_option maxRecDepth 100000 in
theorem tX12_ringSteps_51 {l : Launch} {D : zD} {B sz0 : Nat} {post : Option Value → zS → Prop} : zSnd l D B xX12_ringSteps sz0 post 51 kX12_ringSteps_51 (z_Jl l D B xX12_ringSteps sz0 post 9 (z_Jr post)) := (s_callV (r := (RX12, TX12, 74)) dX12_ringSteps_51 mX12_childOf meX12_childOf wd1057 wd1058 rfl rfl reX12_childOf rmX12_ringSteps (fitX12_ringSteps_51) wd1059 (s_iast dX12_ringSteps_54 (s_iinc dX12_ringSteps_55 (by decide) (s_goto (tgt := 9) dX12_ringSteps_58 (by decide) s_ag))))
set_option maxRecDepth 100000 in
theorem tX12_ringSteps_9 {l : Launch} {D : zD} {B sz0 : Nat} {post : Option Value → zS → Prop} : zSnd l D B xX12_ringSteps sz0 post 9 kX12_ringSteps_9 (z_Jr post) := s_lp (body := bX12_ringSteps_9) (s_iload_n dX12_ringSteps_9 rfl (s_aload_n dX12_ringSteps_10 rfl (s_getI (f := 62) dX12_ringSteps_11 clX12 (by decide) rfl wd1227 (s_icmp_ge (tgt := 61) dX12_ringSteps_14 (by decide) (s_dn tX12_ringSteps_61) (s_aload_n dX12_ringSteps_17 rfl (s_getR (f := 61) dX12_ringSteps_18 clX12 (by decide) rfl wd893 (s_iload_n dX12_ringSteps_21 rfl (s_aload_n dX12_ringSteps_22 rfl (s_aload_n dX12_ringSteps_23 rfl (s_getR (f := 61) dX12_ringSteps_24 clX12 (by decide) rfl wd893 (s_iload_n dX12_ringSteps_27 rfl (s_iald dX12_ringSteps_28 (s_iload_n dX12_ringSteps_29 rfl (s_iconst dX12_ringSteps_30 (by decide) (s_iadd dX12_ringSteps_31 (s_aload_n dX12_ringSteps_32 rfl (s_getI (f := 62) dX12_ringSteps_33 clX12 (by decide) rfl wd1227 (s_icmp_ge (tgt := 50) dX12_ringSteps_36 (by decide) (s_iload_n dX12_ringSteps_50 rfl tX12_ringSteps_51) (s_aload_n dX12_ringSteps_39 rfl (s_getR (f := 61) dX12_ringSteps_40 clX12 (by decide) rfl wd893 (s_iload_n dX12_ringSteps_43 rfl (s_iconst dX12_ringSteps_44 (by decide) (s_iadd dX12_ringSteps_45 (s_iald dX12_ringSteps_46 (s_goto (tgt := 51) dX12_ringSteps_47 (by decide) tX12_ringSteps_51)))))))))))))))))))))))))
set_option maxRecDepth 100000 in
theorem tX12_ringSteps_0 {l : Launch} {D : zD} {B sz0 : Nat} {post : Option Value → zS → Prop} : zSnd l D B xX12_ringSteps sz0 post 0 kX12_ringSteps_0 (z_Jr post) := (s_aload_n dX12_ringSteps_0 rfl (s_getR (f := 61) dX12_ringSteps_1 clX12 (by decide) rfl wd893 (s_iconst dX12_ringSteps_4 (by decide) (s_iald dX12_ringSteps_5 (s_istore_n dX12_ringSteps_6 rfl (s_iconst dX12_ringSteps_7 (by decide) (s_istore_n dX12_ringSteps_8 rfl tX12_ringSteps_9)))))))
noncomputable def fX12_ringSteps : zF := z_fn 3 kX12_ringSteps_0
theorem mX12_ringSteps {l : Launch} {D : zD} {B : Nat} : z_MF l D B yX12_ringSteps xX12_ringSteps fX12_ringSteps := z_mf (by decide) rfl (fun h => by cases h) rfl (fun as σ r h => ⟨z_fn_len h, kX12_ringSteps_0, z_fn_run h, fun _ => tX12_ringSteps_0⟩)
/-! ===== RowChildrenModel.fillsRing ===== -/
theorem dX12_fillsRing_0 : decode cX12_fillsRing 0 = .ok (.aload_n 0, 1) := by decide +kernel
theorem dX12_fillsRing_1 : decode cX12_fillsRing 1 = .ok (.iload_n 1, 1) := by decide +kernel
theorem dX12_fillsRing_2 : decode cX12_fillsRing 2 = .ok (.invokevirtual 475, 3) := by decide +kernel
theorem dX12_fillsRing_5 : decode cX12_fillsRing 5 = .ok (.iconst 0, 1) := by decide +kernel
theorem dX12_fillsRing_6 : decode cX12_fillsRing 6 = .ok (.istore_n 2, 1) := by decide +kernel
theorem dX12_fillsRing_7 : decode cX12_fillsRing 7 = .ok (.iload_n 2, 1) := by decide +kernel
theorem dX12_fillsRing_8 : decode cX12_fillsRing 8 = .ok (.aload_n 0, 1) := by decide +kernel
theorem dX12_fillsRing_9 : decode cX12_fillsRing 9 = .ok (.aload_n 0, 1) := by decide +kernel
theorem dX12_fillsRing_10 : decode cX12_fillsRing 10 = .ok (.getfield 472, 3) := by decide +kernel
theorem dX12_fillsRing_13 : decode cX12_fillsRing 13 = .ok (.invokevirtual 445, 3) := by decide +kernel
theorem dX12_fillsRing_16 : decode cX12_fillsRing 16 = .ok (.if_icmp .ge 16, 3) := by decide +kernel
theorem dX12_fillsRing_19 : decode cX12_fillsRing 19 = .ok (.aload_n 0, 1) := by decide +kernel
theorem dX12_fillsRing_20 : decode cX12_fillsRing 20 = .ok (.getfield 138, 3) := by decide +kernel
theorem dX12_fillsRing_23 : decode cX12_fillsRing 23 = .ok (.iload_n 2, 1) := by decide +kernel
theorem dX12_fillsRing_24 : decode cX12_fillsRing 24 = .ok (.iconst 0, 1) := by decide +kernel
theorem dX12_fillsRing_25 : decode cX12_fillsRing 25 = .ok (.iastore, 1) := by decide +kernel
theorem dX12_fillsRing_26 : decode cX12_fillsRing 26 = .ok (.iinc 2 1, 3) := by decide +kernel
theorem dX12_fillsRing_29 : decode cX12_fillsRing 29 = .ok (.goto (-22), 3) := by decide +kernel
theorem dX12_fillsRing_32 : decode cX12_fillsRing 32 = .ok (.iconst 1, 1) := by decide +kernel
theorem dX12_fillsRing_33 : decode cX12_fillsRing 33 = .ok (.istore_n 2, 1) := by decide +kernel
theorem dX12_fillsRing_34 : decode cX12_fillsRing 34 = .ok (.aload_n 0, 1) := by decide +kernel
theorem dX12_fillsRing_35 : decode cX12_fillsRing 35 = .ok (.getfield 138, 3) := by decide +kernel
theorem dX12_fillsRing_38 : decode cX12_fillsRing 38 = .ok (.aload_n 0, 1) := by decide +kernel
theorem dX12_fillsRing_39 : decode cX12_fillsRing 39 = .ok (.invokevirtual 478, 3) := by decide +kernel
theorem dX12_fillsRing_42 : decode cX12_fillsRing 42 = .ok (.iaload, 1) := by decide +kernel
theorem dX12_fillsRing_43 : decode cX12_fillsRing 43 = .ok (.ifCond .ne 23, 3) := by decide +kernel
theorem dX12_fillsRing_46 : decode cX12_fillsRing 46 = .ok (.aload_n 0, 1) := by decide +kernel
theorem dX12_fillsRing_47 : decode cX12_fillsRing 47 = .ok (.getfield 138, 3) := by decide +kernel
theorem dX12_fillsRing_50 : decode cX12_fillsRing 50 = .ok (.aload_n 0, 1) := by decide +kernel
theorem dX12_fillsRing_51 : decode cX12_fillsRing 51 = .ok (.invokevirtual 478, 3) := by decide +kernel
theorem dX12_fillsRing_54 : decode cX12_fillsRing 54 = .ok (.iload_n 2, 1) := by decide +kernel
theorem dX12_fillsRing_55 : decode cX12_fillsRing 55 = .ok (.iastore, 1) := by decide +kernel
theorem dX12_fillsRing_56 : decode cX12_fillsRing 56 = .ok (.aload_n 0, 1) := by decide +kernel
theorem dX12_fillsRing_57 : decode cX12_fillsRing 57 = .ok (.invokevirtual 481, 3) := by decide +kernel
theorem dX12_fillsRing_60 : decode cX12_fillsRing 60 = .ok (.iinc 2 1, 3) := by decide +kernel
theorem dX12_fillsRing_63 : decode cX12_fillsRing 63 = .ok (.goto (-29), 3) := by decide +kernel
theorem dX12_fillsRing_66 : decode cX12_fillsRing 66 = .ok (.aload_n 0, 1) := by decide +kernel
theorem dX12_fillsRing_67 : decode cX12_fillsRing 67 = .ok (.aload_n 0, 1) := by decide +kernel
theorem dX12_fillsRing_68 : decode cX12_fillsRing 68 = .ok (.getfield 138, 3) := by decide +kernel
theorem dX12_fillsRing_71 : decode cX12_fillsRing 71 = .ok (.aload_n 0, 1) := by decide +kernel
theorem dX12_fillsRing_72 : decode cX12_fillsRing 72 = .ok (.invokevirtual 478, 3) := by decide +kernel
theorem dX12_fillsRing_75 : decode cX12_fillsRing 75 = .ok (.iaload, 1) := by decide +kernel
theorem dX12_fillsRing_76 : decode cX12_fillsRing 76 = .ok (.iconst 1, 1) := by decide +kernel
theorem dX12_fillsRing_77 : decode cX12_fillsRing 77 = .ok (.isub, 1) := by decide +kernel
theorem dX12_fillsRing_78 : decode cX12_fillsRing 78 = .ok (.putfield 484, 3) := by decide +kernel
theorem dX12_fillsRing_81 : decode cX12_fillsRing 81 = .ok (.aload_n 0, 1) := by decide +kernel
theorem dX12_fillsRing_82 : decode cX12_fillsRing 82 = .ok (.iload_n 2, 1) := by decide +kernel
theorem dX12_fillsRing_83 : decode cX12_fillsRing 83 = .ok (.iconst 1, 1) := by decide +kernel
theorem dX12_fillsRing_84 : decode cX12_fillsRing 84 = .ok (.isub, 1) := by decide +kernel
theorem dX12_fillsRing_85 : decode cX12_fillsRing 85 = .ok (.aload_n 0, 1) := by decide +kernel
theorem dX12_fillsRing_86 : decode cX12_fillsRing 86 = .ok (.getfield 484, 3) := by decide +kernel
theorem dX12_fillsRing_89 : decode cX12_fillsRing 89 = .ok (.isub, 1) := by decide +kernel
theorem dX12_fillsRing_90 : decode cX12_fillsRing 90 = .ok (.putfield 487, 3) := by decide +kernel
theorem dX12_fillsRing_93 : decode cX12_fillsRing 93 = .ok (.return_, 1) := by decide +kernel
def xX12_fillsRing : zX := (RX12, cX12_fillsRing, 3, none, false, { frames := 4, cells := 0, slots := 0, locals := 155 }, 0, 0, 0, 0)
theorem rmX12_fillsRing : z_Rm xX12_fillsRing := by unfold z_Rm xX12_fillsRing; exact ⟨by decide, by decide⟩
theorem reX12_fillsRing : z_Re xX12_fillsRing := ⟨rfl, rfl⟩
theorem rlX12_fillsRing : 1 ≤ xX12_fillsRing.2.2.2.2.2.1.frames ∧ 21 ≤ xX12_fillsRing.2.2.2.2.2.1.locals := by unfold xX12_fillsRing; exact ⟨by decide, by decide⟩
theorem meX12_fillsRing : z_Me yX12_fillsRing xX12_fillsRing 1 := ⟨wd1242, wd848, by decide, by decide, by decide +kernel⟩
theorem fitX12_fillsRing_2 : z_Fit xX12_ringsRow xX12_fillsRing := by unfold z_Fit; simp only [xX12_ringsRow, xX12_fillsRing]; exact ⟨by decide, by decide⟩
theorem fitX12_fillsRing_13 : z_Fit xX12_rowsOf xX12_fillsRing := by unfold z_Fit; simp only [xX12_rowsOf, xX12_fillsRing]; exact ⟨by decide, by decide⟩
theorem fitX12_fillsRing_39 : z_Fit xX12_numberRing xX12_fillsRing := by unfold z_Fit; simp only [xX12_numberRing, xX12_fillsRing]; exact ⟨by decide, by decide⟩
theorem fitX12_fillsRing_72 : z_Fit xX12_numberRing xX12_fillsRing := by unfold z_Fit; simp only [xX12_numberRing, xX12_fillsRing]; exact ⟨by decide, by decide⟩
theorem fitX12_fillsRing_51 : z_Fit xX12_numberRing xX12_fillsRing := by unfold z_Fit; simp only [xX12_numberRing, xX12_fillsRing]; exact ⟨by decide, by decide⟩
theorem fitX12_fillsRing_57 : z_Fit xX12_ringSteps xX12_fillsRing := by unfold z_Fit; simp only [xX12_ringSteps, xX12_fillsRing]; exact ⟨by decide, by decide⟩
noncomputable def kX12_fillsRing_66 : zK zR := (q_aload 0 (q_aload 0 (q_getR 12 60 (q_aload 0 (q_callV 12 fX12_numberRing 0 (q_iald (q_push 1 (q_isub (q_putI 12 63 (q_aload 0 (q_iload 2 (q_push 1 (q_isub (q_aload 0 (q_getI 12 63 (q_isub (q_putI 12 64 q_vret)))))))))))))))))
noncomputable def bX12_fillsRing_34 : zK ((zL × zS) ⊕ zR) := (q_aload 0 (q_getR 12 60 (q_aload 0 (q_callV 12 fX12_numberRing 0 (q_iald (q_if_ne (q_dn kX12_fillsRing_66) (q_aload 0 (q_getR 12 60 (q_aload 0 (q_callV 12 fX12_numberRing 0 (q_iload 2 (q_iast (q_aload 0 (q_callV 12 fX12_ringSteps 0 (q_iinc 2 1 q_ag)))))))))))))))
noncomputable def kX12_fillsRing_34 : zK zR := q_lp (bX12_fillsRing_34)
noncomputable def kX12_fillsRing_32 : zK zR := (q_push 1 (q_istore 2 kX12_fillsRing_34))
noncomputable def bX12_fillsRing_7 : zK ((zL × zS) ⊕ zR) := (q_iload 2 (q_aload 0 (q_aload 0 (q_getI 12 62 (q_callV 12 fX12_rowsOf 1 (q_icmp_ge (q_dn kX12_fillsRing_32) (q_aload 0 (q_getR 12 60 (q_iload 2 (q_push 0 (q_iast (q_iinc 2 1 q_ag))))))))))))
noncomputable def kX12_fillsRing_7 : zK zR := q_lp (bX12_fillsRing_7)
noncomputable def kX12_fillsRing_0 : zK zR := (q_aload 0 (q_iload 1 (q_callV 12 fX12_ringsRow 1 (q_push 0 (q_istore 2 kX12_fillsRing_7)))))
set_option maxRecDepth 100000 in
theorem tX12_fillsRing_66 {l : Launch} {D : zD} {B sz0 : Nat} {post : Option Value → zS → Prop} : zSnd l D B xX12_fillsRing sz0 post 66 kX12_fillsRing_66 (z_Jr post) := (s_aload_n dX12_fillsRing_66 rfl (s_aload_n dX12_fillsRing_67 rfl (s_getR (f := 60) dX12_fillsRing_68 clX12 (by decide) rfl wd892 (s_aload_n dX12_fillsRing_71 rfl (s_callV (r := (RX12, TX12, 74)) dX12_fillsRing_72 mX12_numberRing meX12_numberRing wd1234 wd1235 rfl rfl reX12_numberRing rmX12_fillsRing (fitX12_fillsRing_72) wd1236 (s_iald dX12_fillsRing_75 (s_iconst dX12_fillsRing_76 (by decide) (s_isub dX12_fillsRing_77 (s_putI (f := 63) dX12_fillsRing_78 clX12 (by decide) rfl rfl rfl wd1237 (s_aload_n dX12_fillsRing_81 rfl (s_iload_n dX12_fillsRing_82 rfl (s_iconst dX12_fillsRing_83 (by decide) (s_isub dX12_fillsRing_84 (s_aload_n dX12_fillsRing_85 rfl (s_getI (f := 63) dX12_fillsRing_86 clX12 (by decide) rfl wd1237 (s_isub dX12_fillsRing_89 (s_putI (f := 64) dX12_fillsRing_90 clX12 (by decide) rfl rfl rfl wd1238 (s_vret dX12_fillsRing_93 rfl))))))))))))))))))
set_option maxRecDepth 100000 in
theorem tX12_fillsRing_34 {l : Launch} {D : zD} {B sz0 : Nat} {post : Option Value → zS → Prop} : zSnd l D B xX12_fillsRing sz0 post 34 kX12_fillsRing_34 (z_Jr post) := s_lp (body := bX12_fillsRing_34) (s_aload_n dX12_fillsRing_34 rfl (s_getR (f := 60) dX12_fillsRing_35 clX12 (by decide) rfl wd892 (s_aload_n dX12_fillsRing_38 rfl (s_callV (r := (RX12, TX12, 74)) dX12_fillsRing_39 mX12_numberRing meX12_numberRing wd1234 wd1235 rfl rfl reX12_numberRing rmX12_fillsRing (fitX12_fillsRing_39) wd1236 (s_iald dX12_fillsRing_42 (s_if_ne (tgt := 66) dX12_fillsRing_43 (by decide) (s_dn tX12_fillsRing_66) (s_aload_n dX12_fillsRing_46 rfl (s_getR (f := 60) dX12_fillsRing_47 clX12 (by decide) rfl wd892 (s_aload_n dX12_fillsRing_50 rfl (s_callV (r := (RX12, TX12, 74)) dX12_fillsRing_51 mX12_numberRing meX12_numberRing wd1234 wd1235 rfl rfl reX12_numberRing rmX12_fillsRing (fitX12_fillsRing_51) wd1236 (s_iload_n dX12_fillsRing_54 rfl (s_iast dX12_fillsRing_55 (s_aload_n dX12_fillsRing_56 rfl (s_callV (r := (RX12, TX12, 74)) dX12_fillsRing_57 mX12_ringSteps meX12_ringSteps wd1239 wd1240 rfl rfl reX12_ringSteps rmX12_fillsRing (fitX12_fillsRing_57) wd1241 (s_iinc dX12_fillsRing_60 (by decide) (s_goto (tgt := 34) dX12_fillsRing_63 (by decide) s_ag))))))))))))))))
set_option maxRecDepth 100000 in
theorem tX12_fillsRing_32 {l : Launch} {D : zD} {B sz0 : Nat} {post : Option Value → zS → Prop} : zSnd l D B xX12_fillsRing sz0 post 32 kX12_fillsRing_32 (z_Jr post) := (s_iconst dX12_fillsRing_32 (by decide) (s_istore_n dX12_fillsRing_33 rfl tX12_fillsRing_34))
set_option maxRecDepth 100000 in
theorem tX12_fillsRing_7 {l : Launch} {D : zD} {B sz0 : Nat} {post : Option Value → zS → Prop} : zSnd l D B xX12_fillsRing sz0 post 7 kX12_fillsRing_7 (z_Jr post) := s_lp (body := bX12_fillsRing_7) (s_iload_n dX12_fillsRing_7 rfl (s_aload_n dX12_fillsRing_8 rfl (s_aload_n dX12_fillsRing_9 rfl (s_getI (f := 62) dX12_fillsRing_10 clX12 (by decide) rfl wd1227 (s_callV (r := (RX12, TX12, 74)) dX12_fillsRing_13 mX12_rowsOf meX12_rowsOf wd1188 wd1189 rfl rfl reX12_rowsOf rmX12_fillsRing (fitX12_fillsRing_13) wd1190 (s_icmp_ge (tgt := 32) dX12_fillsRing_16 (by decide) (s_dn tX12_fillsRing_32) (s_aload_n dX12_fillsRing_19 rfl (s_getR (f := 60) dX12_fillsRing_20 clX12 (by decide) rfl wd892 (s_iload_n dX12_fillsRing_23 rfl (s_iconst dX12_fillsRing_24 (by decide) (s_iast dX12_fillsRing_25 (s_iinc dX12_fillsRing_26 (by decide) (s_goto (tgt := 7) dX12_fillsRing_29 (by decide) s_ag)))))))))))))
set_option maxRecDepth 100000 in
theorem tX12_fillsRing_0 {l : Launch} {D : zD} {B sz0 : Nat} {post : Option Value → zS → Prop} : zSnd l D B xX12_fillsRing sz0 post 0 kX12_fillsRing_0 (z_Jr post) := (s_aload_n dX12_fillsRing_0 rfl (s_iload_n dX12_fillsRing_1 rfl (s_callV (r := (RX12, TX12, 74)) dX12_fillsRing_2 mX12_ringsRow meX12_ringsRow wd1231 wd1232 rfl rfl reX12_ringsRow rmX12_fillsRing (fitX12_fillsRing_2) wd1233 (s_iconst dX12_fillsRing_5 (by decide) (s_istore_n dX12_fillsRing_6 rfl tX12_fillsRing_7)))))
noncomputable def fX12_fillsRing : zF := z_fn 3 kX12_fillsRing_0
theorem mX12_fillsRing {l : Launch} {D : zD} {B : Nat} : z_MF l D B yX12_fillsRing xX12_fillsRing fX12_fillsRing := z_mf (by decide) rfl (fun h => by cases h) rfl (fun as σ r h => ⟨z_fn_len h, kX12_fillsRing_0, z_fn_run h, fun _ => tX12_fillsRing_0⟩)
/-! ===== RowChildrenModel.ring ===== -/
theorem dX12_ring_0 : decode cX12_ring 0 = .ok (.aload_n 0, 1) := by decide +kernel
theorem dX12_ring_1 : decode cX12_ring 1 = .ok (.iload_n 1, 1) := by decide +kernel
theorem dX12_ring_2 : decode cX12_ring 2 = .ok (.invokevirtual 330, 3) := by decide +kernel
theorem dX12_ring_5 : decode cX12_ring 5 = .ok (.ifCond .eq 12, 3) := by decide +kernel
theorem dX12_ring_8 : decode cX12_ring 8 = .ok (.iload_n 2, 1) := by decide +kernel
theorem dX12_ring_9 : decode cX12_ring 9 = .ok (.iconst 0, 1) := by decide +kernel
theorem dX12_ring_10 : decode cX12_ring 10 = .ok (.iconst 1, 1) := by decide +kernel
theorem dX12_ring_11 : decode cX12_ring 11 = .ok (.invokestatic 323, 3) := by decide +kernel
theorem dX12_ring_14 : decode cX12_ring 14 = .ok (.ifCond .ne 5, 3) := by decide +kernel
theorem dX12_ring_17 : decode cX12_ring 17 = .ok (.iconst (-1), 1) := by decide +kernel
theorem dX12_ring_18 : decode cX12_ring 18 = .ok (.ireturn, 1) := by decide +kernel
theorem dX12_ring_19 : decode cX12_ring 19 = .ok (.aload_n 0, 1) := by decide +kernel
theorem dX12_ring_20 : decode cX12_ring 20 = .ok (.iload_n 1, 1) := by decide +kernel
theorem dX12_ring_21 : decode cX12_ring 21 = .ok (.invokevirtual 490, 3) := by decide +kernel
theorem dX12_ring_24 : decode cX12_ring 24 = .ok (.iload_n 2, 1) := by decide +kernel
theorem dX12_ring_25 : decode cX12_ring 25 = .ok (.ifCond .ne 10, 3) := by decide +kernel
theorem dX12_ring_28 : decode cX12_ring 28 = .ok (.aload_n 0, 1) := by decide +kernel
theorem dX12_ring_29 : decode cX12_ring 29 = .ok (.getfield 484, 3) := by decide +kernel
theorem dX12_ring_32 : decode cX12_ring 32 = .ok (.goto 7, 3) := by decide +kernel
theorem dX12_ring_35 : decode cX12_ring 35 = .ok (.aload_n 0, 1) := by decide +kernel
theorem dX12_ring_36 : decode cX12_ring 36 = .ok (.getfield 487, 3) := by decide +kernel
theorem dX12_ring_39 : decode cX12_ring 39 = .ok (.ireturn, 1) := by decide +kernel
def xX12_ring : zX := (RX12, cX12_ring, 3, (some .int), false, { frames := 5, cells := 0, slots := 0, locals := 177 }, 0, 0, 0, 0)
theorem rmX12_ring : z_Rm xX12_ring := by unfold z_Rm xX12_ring; exact ⟨by decide, by decide⟩
theorem reX12_ring : z_Re xX12_ring := ⟨rfl, rfl⟩
theorem rlX12_ring : 1 ≤ xX12_ring.2.2.2.2.2.1.frames ∧ 21 ≤ xX12_ring.2.2.2.2.2.1.locals := by unfold xX12_ring; exact ⟨by decide, by decide⟩
theorem meX12_ring : z_Me yX12_ring xX12_ring 2 := ⟨wd1246, wd848, by decide, by decide, by decide +kernel⟩
theorem fitX12_ring_2 : z_Fit xX12_isRow xX12_ring := by unfold z_Fit; simp only [xX12_isRow, xX12_ring]; exact ⟨by decide, by decide⟩
theorem fitX12_ring_11 : z_Fit xX12_in xX12_ring := by unfold z_Fit; simp only [xX12_in, xX12_ring]; exact ⟨by decide, by decide⟩
theorem fitX12_ring_21 : z_Fit xX12_fillsRing xX12_ring := by unfold z_Fit; simp only [xX12_fillsRing, xX12_ring]; exact ⟨by decide, by decide⟩
noncomputable def kX12_ring_17 : zK zR := (q_push (-1) q_iret)
noncomputable def kX12_ring_39 : zK zR := q_iret
noncomputable def kX12_ring_0 : zK zR := (q_aload 0 (q_iload 1 (q_callV 12 fX12_isRow 1 (q_if_eq kX12_ring_17 (q_iload 2 (q_push 0 (q_push 1 (q_callS fX12_in 3 (q_if_ne (q_aload 0 (q_iload 1 (q_callV 12 fX12_fillsRing 1 (q_iload 2 (q_if_ne (q_aload 0 (q_getI 12 64 kX12_ring_39)) (q_aload 0 (q_getI 12 63 kX12_ring_39))))))) kX12_ring_17)))))))))
set_option maxRecDepth 100000 in
theorem tX12_ring_17 {l : Launch} {D : zD} {B sz0 : Nat} {post : Option Value → zS → Prop} : zSnd l D B xX12_ring sz0 post 17 kX12_ring_17 (z_Jr post) := (s_iconst dX12_ring_17 (by decide) (s_iret dX12_ring_18 rfl))
set_option maxRecDepth 100000 in
theorem tX12_ring_39 {l : Launch} {D : zD} {B sz0 : Nat} {post : Option Value → zS → Prop} : zSnd l D B xX12_ring sz0 post 39 kX12_ring_39 (z_Jr post) := (s_iret dX12_ring_39 rfl)
set_option maxRecDepth 100000 in
theorem tX12_ring_0 {l : Launch} {D : zD} {B sz0 : Nat} {post : Option Value → zS → Prop} : zSnd l D B xX12_ring sz0 post 0 kX12_ring_0 (z_Jr post) := (s_aload_n dX12_ring_0 rfl (s_iload_n dX12_ring_1 rfl (s_callV (r := (RX12, TX12, 74)) dX12_ring_2 mX12_isRow meX12_isRow wd1042 wd1043 rfl rfl reX12_isRow rmX12_ring (fitX12_ring_2) wd1044 (s_if_eq (tgt := 17) dX12_ring_5 (by decide) tX12_ring_17 (s_iload_n dX12_ring_8 rfl (s_iconst dX12_ring_9 (by decide) (s_iconst dX12_ring_10 (by decide) (s_callS dX12_ring_11 mX12_in meX12_in wd1033 rfl reX12_in rmX12_ring (fitX12_ring_11) wd1034 (s_if_ne (tgt := 19) dX12_ring_14 (by decide) (s_aload_n dX12_ring_19 rfl (s_iload_n dX12_ring_20 rfl (s_callV (r := (RX12, TX12, 74)) dX12_ring_21 mX12_fillsRing meX12_fillsRing wd1243 wd1244 rfl rfl reX12_fillsRing rmX12_ring (fitX12_ring_21) wd1245 (s_iload_n dX12_ring_24 rfl (s_if_ne (tgt := 35) dX12_ring_25 (by decide) (s_aload_n dX12_ring_35 rfl (s_getI (f := 64) dX12_ring_36 clX12 (by decide) rfl wd1238 tX12_ring_39)) (s_aload_n dX12_ring_28 rfl (s_getI (f := 63) dX12_ring_29 clX12 (by decide) rfl wd1237 (s_goto (tgt := 39) dX12_ring_32 (by decide) tX12_ring_39)))))))) tX12_ring_17)))))))))
noncomputable def fX12_ring : zF := z_fn 3 kX12_ring_0
theorem mX12_ring {l : Launch} {D : zD} {B : Nat} : z_MF l D B yX12_ring xX12_ring fX12_ring := z_mf (by decide) rfl (fun h => by cases h) rfl (fun as σ r h => ⟨z_fn_len h, kX12_ring_0, z_fn_run h, fun _ => tX12_ring_0⟩)
/-! ===== RowChildrenModel.after ===== -/
theorem dX12_after_0 : decode cX12_after 0 = .ok (.aload_n 0, 1) := by decide +kernel
theorem dX12_after_1 : decode cX12_after 1 = .ok (.iload_n 1, 1) := by decide +kernel
theorem dX12_after_2 : decode cX12_after 2 = .ok (.iload_n 3, 1) := by decide +kernel
theorem dX12_after_3 : decode cX12_after 3 = .ok (.invokevirtual 424, 3) := by decide +kernel
theorem dX12_after_6 : decode cX12_after 6 = .ok (.ifCond .eq 14, 3) := by decide +kernel
theorem dX12_after_9 : decode cX12_after 9 = .ok (.iload_n 2, 1) := by decide +kernel
theorem dX12_after_10 : decode cX12_after 10 = .ok (.iconst 0, 1) := by decide +kernel
theorem dX12_after_11 : decode cX12_after 11 = .ok (.ldc_w 493, 3) := by decide +kernel
theorem dX12_after_14 : decode cX12_after 14 = .ok (.invokestatic 323, 3) := by decide +kernel
theorem dX12_after_17 : decode cX12_after 17 = .ok (.ifCond .ne 5, 3) := by decide +kernel
theorem dX12_after_20 : decode cX12_after 20 = .ok (.iconst (-1), 1) := by decide +kernel
theorem dX12_after_21 : decode cX12_after 21 = .ok (.ireturn, 1) := by decide +kernel
theorem dX12_after_22 : decode cX12_after 22 = .ok (.aload_n 0, 1) := by decide +kernel
theorem dX12_after_23 : decode cX12_after 23 = .ok (.iload_n 1, 1) := by decide +kernel
theorem dX12_after_24 : decode cX12_after 24 = .ok (.invokevirtual 490, 3) := by decide +kernel
theorem dX12_after_27 : decode cX12_after 27 = .ok (.iload_n 2, 1) := by decide +kernel
theorem dX12_after_28 : decode cX12_after 28 = .ok (.aload_n 0, 1) := by decide +kernel
theorem dX12_after_29 : decode cX12_after 29 = .ok (.getfield 484, 3) := by decide +kernel
theorem dX12_after_32 : decode cX12_after 32 = .ok (.if_icmp .ge 7, 3) := by decide +kernel
theorem dX12_after_35 : decode cX12_after 35 = .ok (.iload_n 2, 1) := by decide +kernel
theorem dX12_after_36 : decode cX12_after 36 = .ok (.goto 19, 3) := by decide +kernel
theorem dX12_after_39 : decode cX12_after 39 = .ok (.aload_n 0, 1) := by decide +kernel
theorem dX12_after_40 : decode cX12_after 40 = .ok (.getfield 484, 3) := by decide +kernel
theorem dX12_after_43 : decode cX12_after 43 = .ok (.iload_n 2, 1) := by decide +kernel
theorem dX12_after_44 : decode cX12_after 44 = .ok (.aload_n 0, 1) := by decide +kernel
theorem dX12_after_45 : decode cX12_after 45 = .ok (.getfield 484, 3) := by decide +kernel
theorem dX12_after_48 : decode cX12_after 48 = .ok (.isub, 1) := by decide +kernel
theorem dX12_after_49 : decode cX12_after 49 = .ok (.aload_n 0, 1) := by decide +kernel
theorem dX12_after_50 : decode cX12_after 50 = .ok (.getfield 487, 3) := by decide +kernel
theorem dX12_after_53 : decode cX12_after 53 = .ok (.irem, 1) := by decide +kernel
theorem dX12_after_54 : decode cX12_after 54 = .ok (.iadd, 1) := by decide +kernel
theorem dX12_after_55 : decode cX12_after 55 = .ok (.istore 4, 2) := by decide +kernel
theorem dX12_after_57 : decode cX12_after 57 = .ok (.aload_n 0, 1) := by decide +kernel
theorem dX12_after_58 : decode cX12_after 58 = .ok (.iload_n 1, 1) := by decide +kernel
theorem dX12_after_59 : decode cX12_after 59 = .ok (.invokevirtual 475, 3) := by decide +kernel
theorem dX12_after_62 : decode cX12_after 62 = .ok (.iconst 0, 1) := by decide +kernel
theorem dX12_after_63 : decode cX12_after 63 = .ok (.istore 5, 2) := by decide +kernel
theorem dX12_after_65 : decode cX12_after 65 = .ok (.iload 5, 2) := by decide +kernel
theorem dX12_after_67 : decode cX12_after 67 = .ok (.iload 4, 2) := by decide +kernel
theorem dX12_after_69 : decode cX12_after 69 = .ok (.if_icmp .ge 13, 3) := by decide +kernel
theorem dX12_after_72 : decode cX12_after 72 = .ok (.aload_n 0, 1) := by decide +kernel
theorem dX12_after_73 : decode cX12_after 73 = .ok (.invokevirtual 481, 3) := by decide +kernel
theorem dX12_after_76 : decode cX12_after 76 = .ok (.iinc 5 1, 3) := by decide +kernel
theorem dX12_after_79 : decode cX12_after 79 = .ok (.goto (-14), 3) := by decide +kernel
theorem dX12_after_82 : decode cX12_after 82 = .ok (.aload_n 0, 1) := by decide +kernel
theorem dX12_after_83 : decode cX12_after 83 = .ok (.getfield 141, 3) := by decide +kernel
theorem dX12_after_86 : decode cX12_after 86 = .ok (.iload_n 3, 1) := by decide +kernel
theorem dX12_after_87 : decode cX12_after 87 = .ok (.iaload, 1) := by decide +kernel
theorem dX12_after_88 : decode cX12_after 88 = .ok (.ireturn, 1) := by decide +kernel
def xX12_after : zX := (RX12, cX12_after, 6, (some .int), false, { frames := 5, cells := 0, slots := 0, locals := 177 }, 0, 0, 0, 0)
theorem rmX12_after : z_Rm xX12_after := by unfold z_Rm xX12_after; exact ⟨by decide, by decide⟩
theorem reX12_after : z_Re xX12_after := ⟨rfl, rfl⟩
theorem rlX12_after : 1 ≤ xX12_after.2.2.2.2.2.1.frames ∧ 21 ≤ xX12_after.2.2.2.2.2.1.locals := by unfold xX12_after; exact ⟨by decide, by decide⟩
theorem meX12_after : z_Me yX12_after xX12_after 3 := ⟨wd1248, wd848, by decide, by decide, by decide +kernel⟩
theorem fitX12_after_3 : z_Fit xX12_isSeat xX12_after := by unfold z_Fit; simp only [xX12_isSeat, xX12_after]; exact ⟨by decide, by decide⟩
theorem fitX12_after_14 : z_Fit xX12_in xX12_after := by unfold z_Fit; simp only [xX12_in, xX12_after]; exact ⟨by decide, by decide⟩
theorem fitX12_after_24 : z_Fit xX12_fillsRing xX12_after := by unfold z_Fit; simp only [xX12_fillsRing, xX12_after]; exact ⟨by decide, by decide⟩
theorem fitX12_after_59 : z_Fit xX12_ringsRow xX12_after := by unfold z_Fit; simp only [xX12_ringsRow, xX12_after]; exact ⟨by decide, by decide⟩
theorem fitX12_after_73 : z_Fit xX12_ringSteps xX12_after := by unfold z_Fit; simp only [xX12_ringSteps, xX12_after]; exact ⟨by decide, by decide⟩
noncomputable def kX12_after_20 : zK zR := (q_push (-1) q_iret)
noncomputable def kX12_after_82 : zK zR := (q_aload 0 (q_getR 12 61 (q_iload 3 (q_iald q_iret))))
noncomputable def bX12_after_65 : zK ((zL × zS) ⊕ zR) := (q_iload 5 (q_iload 4 (q_icmp_ge (q_dn kX12_after_82) (q_aload 0 (q_callV 12 fX12_ringSteps 0 (q_iinc 5 1 q_ag))))))
noncomputable def kX12_after_65 : zK zR := q_lp (bX12_after_65)
noncomputable def kX12_after_55 : zK zR := (q_istore 4 (q_aload 0 (q_iload 1 (q_callV 12 fX12_ringsRow 1 (q_push 0 (q_istore 5 kX12_after_65))))))
noncomputable def kX12_after_0 : zK zR := (q_aload 0 (q_iload 1 (q_iload 3 (q_callV 12 fX12_isSeat 2 (q_if_eq kX12_after_20 (q_iload 2 (q_push 0 (q_push 1000000000 (q_callS fX12_in 3 (q_if_ne (q_aload 0 (q_iload 1 (q_callV 12 fX12_fillsRing 1 (q_iload 2 (q_aload 0 (q_getI 12 63 (q_icmp_ge (q_aload 0 (q_getI 12 63 (q_iload 2 (q_aload 0 (q_getI 12 63 (q_isub (q_aload 0 (q_getI 12 64 (q_irem (q_iadd kX12_after_55)))))))))) (q_iload 2 kX12_after_55)))))))) kX12_after_20))))))))))
set_option maxRecDepth 100000 in
theorem tX12_after_20 {l : Launch} {D : zD} {B sz0 : Nat} {post : Option Value → zS → Prop} : zSnd l D B xX12_after sz0 post 20 kX12_after_20 (z_Jr post) := (s_iconst dX12_after_20 (by decide) (s_iret dX12_after_21 rfl))
set_option maxRecDepth 100000 in
theorem tX12_after_82 {l : Launch} {D : zD} {B sz0 : Nat} {post : Option Value → zS → Prop} : zSnd l D B xX12_after sz0 post 82 kX12_after_82 (z_Jr post) := (s_aload_n dX12_after_82 rfl (s_getR (f := 61) dX12_after_83 clX12 (by decide) rfl wd893 (s_iload_n dX12_after_86 rfl (s_iald dX12_after_87 (s_iret dX12_after_88 rfl)))))
set_option maxRecDepth 100000 in
theorem tX12_after_65 {l : Launch} {D : zD} {B sz0 : Nat} {post : Option Value → zS → Prop} : zSnd l D B xX12_after sz0 post 65 kX12_after_65 (z_Jr post) := s_lp (body := bX12_after_65) (s_iload dX12_after_65 (s_iload dX12_after_67 (s_icmp_ge (tgt := 82) dX12_after_69 (by decide) (s_dn tX12_after_82) (s_aload_n dX12_after_72 rfl (s_callV (r := (RX12, TX12, 74)) dX12_after_73 mX12_ringSteps meX12_ringSteps wd1239 wd1240 rfl rfl reX12_ringSteps rmX12_after (fitX12_after_73) wd1241 (s_iinc dX12_after_76 (by decide) (s_goto (tgt := 65) dX12_after_79 (by decide) s_ag)))))))
set_option maxRecDepth 100000 in
theorem tX12_after_55 {l : Launch} {D : zD} {B sz0 : Nat} {post : Option Value → zS → Prop} : zSnd l D B xX12_after sz0 post 55 kX12_after_55 (z_Jr post) := (s_istore dX12_after_55 (s_aload_n dX12_after_57 rfl (s_iload_n dX12_after_58 rfl (s_callV (r := (RX12, TX12, 74)) dX12_after_59 mX12_ringsRow meX12_ringsRow wd1231 wd1232 rfl rfl reX12_ringsRow rmX12_after (fitX12_after_59) wd1233 (s_iconst dX12_after_62 (by decide) (s_istore dX12_after_63 tX12_after_65))))))
set_option maxRecDepth 100000 in
theorem tX12_after_0 {l : Launch} {D : zD} {B sz0 : Nat} {post : Option Value → zS → Prop} : zSnd l D B xX12_after sz0 post 0 kX12_after_0 (z_Jr post) := (s_aload_n dX12_after_0 rfl (s_iload_n dX12_after_1 rfl (s_iload_n dX12_after_2 rfl (s_callV (r := (RX12, TX12, 74)) dX12_after_3 mX12_isSeat meX12_isSeat wd1158 wd1159 rfl rfl reX12_isSeat rmX12_after (fitX12_after_3) wd1160 (s_if_eq (tgt := 20) dX12_after_6 (by decide) tX12_after_20 (s_iload_n dX12_after_9 rfl (s_iconst dX12_after_10 (by decide) (s_ldcw dX12_after_11 wd1247 (s_callS dX12_after_14 mX12_in meX12_in wd1033 rfl reX12_in rmX12_after (fitX12_after_14) wd1034 (s_if_ne (tgt := 22) dX12_after_17 (by decide) (s_aload_n dX12_after_22 rfl (s_iload_n dX12_after_23 rfl (s_callV (r := (RX12, TX12, 74)) dX12_after_24 mX12_fillsRing meX12_fillsRing wd1243 wd1244 rfl rfl reX12_fillsRing rmX12_after (fitX12_after_24) wd1245 (s_iload_n dX12_after_27 rfl (s_aload_n dX12_after_28 rfl (s_getI (f := 63) dX12_after_29 clX12 (by decide) rfl wd1237 (s_icmp_ge (tgt := 39) dX12_after_32 (by decide) (s_aload_n dX12_after_39 rfl (s_getI (f := 63) dX12_after_40 clX12 (by decide) rfl wd1237 (s_iload_n dX12_after_43 rfl (s_aload_n dX12_after_44 rfl (s_getI (f := 63) dX12_after_45 clX12 (by decide) rfl wd1237 (s_isub dX12_after_48 (s_aload_n dX12_after_49 rfl (s_getI (f := 64) dX12_after_50 clX12 (by decide) rfl wd1238 (s_irem dX12_after_53 (s_iadd dX12_after_54 tX12_after_55)))))))))) (s_iload_n dX12_after_35 rfl (s_goto (tgt := 55) dX12_after_36 (by decide) tX12_after_55))))))))) tX12_after_20))))))))))
noncomputable def fX12_after : zF := z_fn 6 kX12_after_0
theorem mX12_after {l : Launch} {D : zD} {B : Nat} : z_MF l D B yX12_after xX12_after fX12_after := z_mf (by decide) rfl (fun h => by cases h) rfl (fun as σ r h => ⟨z_fn_len h, kX12_after_0, z_fn_run h, fun _ => tX12_after_0⟩)
/-! ===== RowChildrenModel.isAlikeTurned ===== -/
theorem dX12_isAlikeTurned_0 : decode cX12_isAlikeTurned 0 = .ok (.iconst 0, 1) := by decide +kernel
theorem dX12_isAlikeTurned_1 : decode cX12_isAlikeTurned 1 = .ok (.istore_n 1, 1) := by decide +kernel
theorem dX12_isAlikeTurned_2 : decode cX12_isAlikeTurned 2 = .ok (.iload_n 1, 1) := by decide +kernel
theorem dX12_isAlikeTurned_3 : decode cX12_isAlikeTurned 3 = .ok (.bipush 16, 2) := by decide +kernel
theorem dX12_isAlikeTurned_5 : decode cX12_isAlikeTurned 5 = .ok (.if_icmp .ge 54, 3) := by decide +kernel
theorem dX12_isAlikeTurned_8 : decode cX12_isAlikeTurned 8 = .ok (.aload_n 0, 1) := by decide +kernel
theorem dX12_isAlikeTurned_9 : decode cX12_isAlikeTurned 9 = .ok (.iload_n 1, 1) := by decide +kernel
theorem dX12_isAlikeTurned_10 : decode cX12_isAlikeTurned 10 = .ok (.iconst 4, 1) := by decide +kernel
theorem dX12_isAlikeTurned_11 : decode cX12_isAlikeTurned 11 = .ok (.idiv, 1) := by decide +kernel
theorem dX12_isAlikeTurned_12 : decode cX12_isAlikeTurned 12 = .ok (.invokevirtual 398, 3) := by decide +kernel
theorem dX12_isAlikeTurned_15 : decode cX12_isAlikeTurned 15 = .ok (.ifCond .eq 38, 3) := by decide +kernel
theorem dX12_isAlikeTurned_18 : decode cX12_isAlikeTurned 18 = .ok (.aload_n 0, 1) := by decide +kernel
theorem dX12_isAlikeTurned_19 : decode cX12_isAlikeTurned 19 = .ok (.iload_n 1, 1) := by decide +kernel
theorem dX12_isAlikeTurned_20 : decode cX12_isAlikeTurned 20 = .ok (.iconst 4, 1) := by decide +kernel
theorem dX12_isAlikeTurned_21 : decode cX12_isAlikeTurned 21 = .ok (.irem, 1) := by decide +kernel
theorem dX12_isAlikeTurned_22 : decode cX12_isAlikeTurned 22 = .ok (.invokevirtual 398, 3) := by decide +kernel
theorem dX12_isAlikeTurned_25 : decode cX12_isAlikeTurned 25 = .ok (.ifCond .eq 28, 3) := by decide +kernel
theorem dX12_isAlikeTurned_28 : decode cX12_isAlikeTurned 28 = .ok (.aload_n 0, 1) := by decide +kernel
theorem dX12_isAlikeTurned_29 : decode cX12_isAlikeTurned 29 = .ok (.iload_n 1, 1) := by decide +kernel
theorem dX12_isAlikeTurned_30 : decode cX12_isAlikeTurned 30 = .ok (.iconst 4, 1) := by decide +kernel
theorem dX12_isAlikeTurned_31 : decode cX12_isAlikeTurned 31 = .ok (.idiv, 1) := by decide +kernel
theorem dX12_isAlikeTurned_32 : decode cX12_isAlikeTurned 32 = .ok (.iload_n 1, 1) := by decide +kernel
theorem dX12_isAlikeTurned_33 : decode cX12_isAlikeTurned 33 = .ok (.iconst 4, 1) := by decide +kernel
theorem dX12_isAlikeTurned_34 : decode cX12_isAlikeTurned 34 = .ok (.irem, 1) := by decide +kernel
theorem dX12_isAlikeTurned_35 : decode cX12_isAlikeTurned 35 = .ok (.invokevirtual 346, 3) := by decide +kernel
theorem dX12_isAlikeTurned_38 : decode cX12_isAlikeTurned 38 = .ok (.aload_n 0, 1) := by decide +kernel
theorem dX12_isAlikeTurned_39 : decode cX12_isAlikeTurned 39 = .ok (.iload_n 1, 1) := by decide +kernel
theorem dX12_isAlikeTurned_40 : decode cX12_isAlikeTurned 40 = .ok (.iconst 4, 1) := by decide +kernel
theorem dX12_isAlikeTurned_41 : decode cX12_isAlikeTurned 41 = .ok (.irem, 1) := by decide +kernel
theorem dX12_isAlikeTurned_42 : decode cX12_isAlikeTurned 42 = .ok (.iload_n 1, 1) := by decide +kernel
theorem dX12_isAlikeTurned_43 : decode cX12_isAlikeTurned 43 = .ok (.iconst 4, 1) := by decide +kernel
theorem dX12_isAlikeTurned_44 : decode cX12_isAlikeTurned 44 = .ok (.idiv, 1) := by decide +kernel
theorem dX12_isAlikeTurned_45 : decode cX12_isAlikeTurned 45 = .ok (.invokevirtual 346, 3) := by decide +kernel
theorem dX12_isAlikeTurned_48 : decode cX12_isAlikeTurned 48 = .ok (.if_icmp .eq 5, 3) := by decide +kernel
theorem dX12_isAlikeTurned_51 : decode cX12_isAlikeTurned 51 = .ok (.iconst 0, 1) := by decide +kernel
theorem dX12_isAlikeTurned_52 : decode cX12_isAlikeTurned 52 = .ok (.ireturn, 1) := by decide +kernel
theorem dX12_isAlikeTurned_53 : decode cX12_isAlikeTurned 53 = .ok (.iinc 1 1, 3) := by decide +kernel
theorem dX12_isAlikeTurned_56 : decode cX12_isAlikeTurned 56 = .ok (.goto (-54), 3) := by decide +kernel
theorem dX12_isAlikeTurned_59 : decode cX12_isAlikeTurned 59 = .ok (.iconst 1, 1) := by decide +kernel
theorem dX12_isAlikeTurned_60 : decode cX12_isAlikeTurned 60 = .ok (.ireturn, 1) := by decide +kernel
def xX12_isAlikeTurned : zX := (RX12, cX12_isAlikeTurned, 2, (some .boolean), false, { frames := 3, cells := 0, slots := 0, locals := 133 }, 0, 0, 0, 0)
theorem rmX12_isAlikeTurned : z_Rm xX12_isAlikeTurned := by unfold z_Rm xX12_isAlikeTurned; exact ⟨by decide, by decide⟩
theorem reX12_isAlikeTurned : z_Re xX12_isAlikeTurned := ⟨rfl, rfl⟩
theorem rlX12_isAlikeTurned : 1 ≤ xX12_isAlikeTurned.2.2.2.2.2.1.frames ∧ 21 ≤ xX12_isAlikeTurned.2.2.2.2.2.1.locals := by unfold xX12_isAlikeTurned; exact ⟨by decide, by decide⟩
theorem meX12_isAlikeTurned : z_Me yX12_isAlikeTurned xX12_isAlikeTurned 0 := ⟨wd1249, wd848, by decide, by decide, by decide +kernel⟩
theorem fitX12_isAlikeTurned_12 : z_Fit xX12_isColour xX12_isAlikeTurned := by unfold z_Fit; simp only [xX12_isColour, xX12_isAlikeTurned]; exact ⟨by decide, by decide⟩
theorem fitX12_isAlikeTurned_22 : z_Fit xX12_isColour xX12_isAlikeTurned := by unfold z_Fit; simp only [xX12_isColour, xX12_isAlikeTurned]; exact ⟨by decide, by decide⟩
theorem fitX12_isAlikeTurned_35 : z_Fit xX12_childOf xX12_isAlikeTurned := by unfold z_Fit; simp only [xX12_childOf, xX12_isAlikeTurned]; exact ⟨by decide, by decide⟩
theorem fitX12_isAlikeTurned_45 : z_Fit xX12_childOf xX12_isAlikeTurned := by unfold z_Fit; simp only [xX12_childOf, xX12_isAlikeTurned]; exact ⟨by decide, by decide⟩
noncomputable def kX12_isAlikeTurned_59 : zK zR := (q_push 1 q_zret)
noncomputable def kX12_isAlikeTurned_53 : zK ((zL × zS) ⊕ zR) := (q_iinc 1 1 q_ag)
noncomputable def kX12_isAlikeTurned_51 : zK zR := (q_push 0 q_zret)
noncomputable def bX12_isAlikeTurned_2 : zK ((zL × zS) ⊕ zR) := (q_iload 1 (q_push 16 (q_icmp_ge (q_dn kX12_isAlikeTurned_59) (q_aload 0 (q_iload 1 (q_push 4 (q_idiv (q_callV 12 fX12_isColour 1 (q_if_eq kX12_isAlikeTurned_53 (q_aload 0 (q_iload 1 (q_push 4 (q_irem (q_callV 12 fX12_isColour 1 (q_if_eq kX12_isAlikeTurned_53 (q_aload 0 (q_iload 1 (q_push 4 (q_idiv (q_iload 1 (q_push 4 (q_irem (q_callV 12 fX12_childOf 2 (q_aload 0 (q_iload 1 (q_push 4 (q_irem (q_iload 1 (q_push 4 (q_idiv (q_callV 12 fX12_childOf 2 (q_icmp_eq kX12_isAlikeTurned_53 (q_dn kX12_isAlikeTurned_51)))))))))))))))))))))))))))))))))
noncomputable def kX12_isAlikeTurned_2 : zK zR := q_lp (bX12_isAlikeTurned_2)
noncomputable def kX12_isAlikeTurned_0 : zK zR := (q_push 0 (q_istore 1 kX12_isAlikeTurned_2))
set_option maxRecDepth 100000 in
theorem tX12_isAlikeTurned_59 {l : Launch} {D : zD} {B sz0 : Nat} {post : Option Value → zS → Prop} : zSnd l D B xX12_isAlikeTurned sz0 post 59 kX12_isAlikeTurned_59 (z_Jr post) := (s_iconst dX12_isAlikeTurned_59 (by decide) (s_zret dX12_isAlikeTurned_60 rfl))
set_option maxRecDepth 100000 in
theorem tX12_isAlikeTurned_53 {l : Launch} {D : zD} {B sz0 : Nat} {post : Option Value → zS → Prop} : zSnd l D B xX12_isAlikeTurned sz0 post 53 kX12_isAlikeTurned_53 (z_Jl l D B xX12_isAlikeTurned sz0 post 2 (z_Jr post)) := (s_iinc dX12_isAlikeTurned_53 (by decide) (s_goto (tgt := 2) dX12_isAlikeTurned_56 (by decide) s_ag))
set_option maxRecDepth 100000 in
theorem tX12_isAlikeTurned_51 {l : Launch} {D : zD} {B sz0 : Nat} {post : Option Value → zS → Prop} : zSnd l D B xX12_isAlikeTurned sz0 post 51 kX12_isAlikeTurned_51 (z_Jr post) := (s_iconst dX12_isAlikeTurned_51 (by decide) (s_zret dX12_isAlikeTurned_52 rfl))
set_option maxRecDepth 100000 in
theorem tX12_isAlikeTurned_2 {l : Launch} {D : zD} {B sz0 : Nat} {post : Option Value → zS → Prop} : zSnd l D B xX12_isAlikeTurned sz0 post 2 kX12_isAlikeTurned_2 (z_Jr post) := s_lp (body := bX12_isAlikeTurned_2) (s_iload_n dX12_isAlikeTurned_2 rfl (s_bipush dX12_isAlikeTurned_3 (by decide) (s_icmp_ge (tgt := 59) dX12_isAlikeTurned_5 (by decide) (s_dn tX12_isAlikeTurned_59) (s_aload_n dX12_isAlikeTurned_8 rfl (s_iload_n dX12_isAlikeTurned_9 rfl (s_iconst dX12_isAlikeTurned_10 (by decide) (s_idiv dX12_isAlikeTurned_11 (s_callV (r := (RX12, TX12, 74)) dX12_isAlikeTurned_12 mX12_isColour meX12_isColour wd1129 wd1130 rfl rfl reX12_isColour rmX12_isAlikeTurned (fitX12_isAlikeTurned_12) wd1131 (s_if_eq (tgt := 53) dX12_isAlikeTurned_15 (by decide) tX12_isAlikeTurned_53 (s_aload_n dX12_isAlikeTurned_18 rfl (s_iload_n dX12_isAlikeTurned_19 rfl (s_iconst dX12_isAlikeTurned_20 (by decide) (s_irem dX12_isAlikeTurned_21 (s_callV (r := (RX12, TX12, 74)) dX12_isAlikeTurned_22 mX12_isColour meX12_isColour wd1129 wd1130 rfl rfl reX12_isColour rmX12_isAlikeTurned (fitX12_isAlikeTurned_22) wd1131 (s_if_eq (tgt := 53) dX12_isAlikeTurned_25 (by decide) tX12_isAlikeTurned_53 (s_aload_n dX12_isAlikeTurned_28 rfl (s_iload_n dX12_isAlikeTurned_29 rfl (s_iconst dX12_isAlikeTurned_30 (by decide) (s_idiv dX12_isAlikeTurned_31 (s_iload_n dX12_isAlikeTurned_32 rfl (s_iconst dX12_isAlikeTurned_33 (by decide) (s_irem dX12_isAlikeTurned_34 (s_callV (r := (RX12, TX12, 74)) dX12_isAlikeTurned_35 mX12_childOf meX12_childOf wd1057 wd1058 rfl rfl reX12_childOf rmX12_isAlikeTurned (fitX12_isAlikeTurned_35) wd1059 (s_aload_n dX12_isAlikeTurned_38 rfl (s_iload_n dX12_isAlikeTurned_39 rfl (s_iconst dX12_isAlikeTurned_40 (by decide) (s_irem dX12_isAlikeTurned_41 (s_iload_n dX12_isAlikeTurned_42 rfl (s_iconst dX12_isAlikeTurned_43 (by decide) (s_idiv dX12_isAlikeTurned_44 (s_callV (r := (RX12, TX12, 74)) dX12_isAlikeTurned_45 mX12_childOf meX12_childOf wd1057 wd1058 rfl rfl reX12_childOf rmX12_isAlikeTurned (fitX12_isAlikeTurned_45) wd1059 (s_icmp_eq (tgt := 53) dX12_isAlikeTurned_48 (by decide) tX12_isAlikeTurned_53 (s_dn tX12_isAlikeTurned_51)))))))))))))))))))))))))))))))))
set_option maxRecDepth 100000 in
theorem tX12_isAlikeTurned_0 {l : Launch} {D : zD} {B sz0 : Nat} {post : Option Value → zS → Prop} : zSnd l D B xX12_isAlikeTurned sz0 post 0 kX12_isAlikeTurned_0 (z_Jr post) := (s_iconst dX12_isAlikeTurned_0 (by decide) (s_istore_n dX12_isAlikeTurned_1 rfl tX12_isAlikeTurned_2))
noncomputable def fX12_isAlikeTurned : zF := z_fn 2 kX12_isAlikeTurned_0
theorem mX12_isAlikeTurned {l : Launch} {D : zD} {B : Nat} : z_MF l D B yX12_isAlikeTurned xX12_isAlikeTurned fX12_isAlikeTurned := z_mf (by decide) rfl (fun h => by cases h) rfl (fun as σ r h => ⟨z_fn_len h, kX12_isAlikeTurned_0, z_fn_run h, fun _ => tX12_isAlikeTurned_0⟩)
/-! ===== RowChildrenModel.isUnlike ===== -/
theorem dX12_isUnlike_0 : decode cX12_isUnlike 0 = .ok (.iconst 0, 1) := by decide +kernel
theorem dX12_isUnlike_1 : decode cX12_isUnlike 1 = .ok (.istore_n 3, 1) := by decide +kernel
theorem dX12_isUnlike_2 : decode cX12_isUnlike 2 = .ok (.iconst 0, 1) := by decide +kernel
theorem dX12_isUnlike_3 : decode cX12_isUnlike 3 = .ok (.istore 4, 2) := by decide +kernel
theorem dX12_isUnlike_5 : decode cX12_isUnlike 5 = .ok (.iload 4, 2) := by decide +kernel
theorem dX12_isUnlike_7 : decode cX12_isUnlike 7 = .ok (.aload_n 0, 1) := by decide +kernel
theorem dX12_isUnlike_8 : decode cX12_isUnlike 8 = .ok (.invokevirtual 327, 3) := by decide +kernel
theorem dX12_isUnlike_11 : decode cX12_isUnlike 11 = .ok (.if_icmp .ge 35, 3) := by decide +kernel
theorem dX12_isUnlike_14 : decode cX12_isUnlike 14 = .ok (.iload_n 3, 1) := by decide +kernel
theorem dX12_isUnlike_15 : decode cX12_isUnlike 15 = .ok (.iconst 1, 1) := by decide +kernel
theorem dX12_isUnlike_16 : decode cX12_isUnlike 16 = .ok (.iload_n 2, 1) := by decide +kernel
theorem dX12_isUnlike_17 : decode cX12_isUnlike 17 = .ok (.ifCond .eq 13, 3) := by decide +kernel
theorem dX12_isUnlike_20 : decode cX12_isUnlike 20 = .ok (.aload_n 0, 1) := by decide +kernel
theorem dX12_isUnlike_21 : decode cX12_isUnlike 21 = .ok (.iload_n 1, 1) := by decide +kernel
theorem dX12_isUnlike_22 : decode cX12_isUnlike 22 = .ok (.iload 4, 2) := by decide +kernel
theorem dX12_isUnlike_24 : decode cX12_isUnlike 24 = .ok (.invokevirtual 346, 3) := by decide +kernel
theorem dX12_isUnlike_27 : decode cX12_isUnlike 27 = .ok (.goto 10, 3) := by decide +kernel
theorem dX12_isUnlike_30 : decode cX12_isUnlike 30 = .ok (.aload_n 0, 1) := by decide +kernel
theorem dX12_isUnlike_31 : decode cX12_isUnlike 31 = .ok (.iload 4, 2) := by decide +kernel
theorem dX12_isUnlike_33 : decode cX12_isUnlike 33 = .ok (.iload_n 1, 1) := by decide +kernel
theorem dX12_isUnlike_34 : decode cX12_isUnlike 34 = .ok (.invokevirtual 346, 3) := by decide +kernel
theorem dX12_isUnlike_37 : decode cX12_isUnlike 37 = .ok (.ishl, 1) := by decide +kernel
theorem dX12_isUnlike_38 : decode cX12_isUnlike 38 = .ok (.ior, 1) := by decide +kernel
theorem dX12_isUnlike_39 : decode cX12_isUnlike 39 = .ok (.istore_n 3, 1) := by decide +kernel
theorem dX12_isUnlike_40 : decode cX12_isUnlike 40 = .ok (.iinc 4 1, 3) := by decide +kernel
theorem dX12_isUnlike_43 : decode cX12_isUnlike 43 = .ok (.goto (-38), 3) := by decide +kernel
theorem dX12_isUnlike_46 : decode cX12_isUnlike 46 = .ok (.iload_n 3, 1) := by decide +kernel
theorem dX12_isUnlike_47 : decode cX12_isUnlike 47 = .ok (.iconst 1, 1) := by decide +kernel
theorem dX12_isUnlike_48 : decode cX12_isUnlike 48 = .ok (.aload_n 0, 1) := by decide +kernel
theorem dX12_isUnlike_49 : decode cX12_isUnlike 49 = .ok (.invokevirtual 327, 3) := by decide +kernel
theorem dX12_isUnlike_52 : decode cX12_isUnlike 52 = .ok (.ishl, 1) := by decide +kernel
theorem dX12_isUnlike_53 : decode cX12_isUnlike 53 = .ok (.iconst 1, 1) := by decide +kernel
theorem dX12_isUnlike_54 : decode cX12_isUnlike 54 = .ok (.isub, 1) := by decide +kernel
theorem dX12_isUnlike_55 : decode cX12_isUnlike 55 = .ok (.if_icmp .ne 7, 3) := by decide +kernel
theorem dX12_isUnlike_58 : decode cX12_isUnlike 58 = .ok (.iconst 1, 1) := by decide +kernel
theorem dX12_isUnlike_59 : decode cX12_isUnlike 59 = .ok (.goto 4, 3) := by decide +kernel
theorem dX12_isUnlike_62 : decode cX12_isUnlike 62 = .ok (.iconst 0, 1) := by decide +kernel
theorem dX12_isUnlike_63 : decode cX12_isUnlike 63 = .ok (.ireturn, 1) := by decide +kernel
def xX12_isUnlike : zX := (RX12, cX12_isUnlike, 5, (some .boolean), false, { frames := 3, cells := 0, slots := 0, locals := 133 }, 0, 0, 0, 0)
theorem rmX12_isUnlike : z_Rm xX12_isUnlike := by unfold z_Rm xX12_isUnlike; exact ⟨by decide, by decide⟩
theorem reX12_isUnlike : z_Re xX12_isUnlike := ⟨rfl, rfl⟩
theorem rlX12_isUnlike : 1 ≤ xX12_isUnlike.2.2.2.2.2.1.frames ∧ 21 ≤ xX12_isUnlike.2.2.2.2.2.1.locals := by unfold xX12_isUnlike; exact ⟨by decide, by decide⟩
theorem meX12_isUnlike : z_Me yX12_isUnlike xX12_isUnlike 2 := ⟨wd1250, wd848, by decide, by decide, by decide +kernel⟩
theorem fitX12_isUnlike_8 : z_Fit xX12_base xX12_isUnlike := by unfold z_Fit; simp only [xX12_base, xX12_isUnlike]; exact ⟨by decide, by decide⟩
theorem fitX12_isUnlike_49 : z_Fit xX12_base xX12_isUnlike := by unfold z_Fit; simp only [xX12_base, xX12_isUnlike]; exact ⟨by decide, by decide⟩
theorem fitX12_isUnlike_34 : z_Fit xX12_childOf xX12_isUnlike := by unfold z_Fit; simp only [xX12_childOf, xX12_isUnlike]; exact ⟨by decide, by decide⟩
theorem fitX12_isUnlike_24 : z_Fit xX12_childOf xX12_isUnlike := by unfold z_Fit; simp only [xX12_childOf, xX12_isUnlike]; exact ⟨by decide, by decide⟩
noncomputable def kX12_isUnlike_63 : zK zR := q_zret
noncomputable def kX12_isUnlike_46 : zK zR := (q_iload 3 (q_push 1 (q_aload 0 (q_callV 12 fX12_base 0 (q_ishl (q_push 1 (q_isub (q_icmp_ne (q_push 0 kX12_isUnlike_63) (q_push 1 kX12_isUnlike_63)))))))))
noncomputable def kX12_isUnlike_37 : zK ((zL × zS) ⊕ zR) := (q_ishl (q_ior (q_istore 3 (q_iinc 4 1 q_ag))))
noncomputable def bX12_isUnlike_5 : zK ((zL × zS) ⊕ zR) := (q_iload 4 (q_aload 0 (q_callV 12 fX12_base 0 (q_icmp_ge (q_dn kX12_isUnlike_46) (q_iload 3 (q_push 1 (q_iload 2 (q_if_eq (q_aload 0 (q_iload 4 (q_iload 1 (q_callV 12 fX12_childOf 2 kX12_isUnlike_37)))) (q_aload 0 (q_iload 1 (q_iload 4 (q_callV 12 fX12_childOf 2 kX12_isUnlike_37))))))))))))
noncomputable def kX12_isUnlike_5 : zK zR := q_lp (bX12_isUnlike_5)
noncomputable def kX12_isUnlike_0 : zK zR := (q_push 0 (q_istore 3 (q_push 0 (q_istore 4 kX12_isUnlike_5))))
set_option maxRecDepth 100000 in
theorem tX12_isUnlike_63 {l : Launch} {D : zD} {B sz0 : Nat} {post : Option Value → zS → Prop} : zSnd l D B xX12_isUnlike sz0 post 63 kX12_isUnlike_63 (z_Jr post) := (s_zret dX12_isUnlike_63 rfl)
set_option maxRecDepth 100000 in
theorem tX12_isUnlike_46 {l : Launch} {D : zD} {B sz0 : Nat} {post : Option Value → zS → Prop} : zSnd l D B xX12_isUnlike sz0 post 46 kX12_isUnlike_46 (z_Jr post) := (s_iload_n dX12_isUnlike_46 rfl (s_iconst dX12_isUnlike_47 (by decide) (s_aload_n dX12_isUnlike_48 rfl (s_callV (r := (RX12, TX12, 74)) dX12_isUnlike_49 mX12_base meX12_base wd1036 wd1037 rfl rfl reX12_base rmX12_isUnlike (fitX12_isUnlike_49) wd1038 (s_ishl dX12_isUnlike_52 (s_iconst dX12_isUnlike_53 (by decide) (s_isub dX12_isUnlike_54 (s_icmp_ne (tgt := 62) dX12_isUnlike_55 (by decide) (s_iconst dX12_isUnlike_62 (by decide) tX12_isUnlike_63) (s_iconst dX12_isUnlike_58 (by decide) (s_goto (tgt := 63) dX12_isUnlike_59 (by decide) tX12_isUnlike_63))))))))))
set_option maxRecDepth 100000 in
theorem tX12_isUnlike_37 {l : Launch} {D : zD} {B sz0 : Nat} {post : Option Value → zS → Prop} : zSnd l D B xX12_isUnlike sz0 post 37 kX12_isUnlike_37 (z_Jl l D B xX12_isUnlike sz0 post 5 (z_Jr post)) := (s_ishl dX12_isUnlike_37 (s_ior dX12_isUnlike_38 (s_istore_n dX12_isUnlike_39 rfl (s_iinc dX12_isUnlike_40 (by decide) (s_goto (tgt := 5) dX12_isUnlike_43 (by decide) s_ag)))))
set_option maxRecDepth 100000 in
theorem tX12_isUnlike_5 {l : Launch} {D : zD} {B sz0 : Nat} {post : Option Value → zS → Prop} : zSnd l D B xX12_isUnlike sz0 post 5 kX12_isUnlike_5 (z_Jr post) := s_lp (body := bX12_isUnlike_5) (s_iload dX12_isUnlike_5 (s_aload_n dX12_isUnlike_7 rfl (s_callV (r := (RX12, TX12, 74)) dX12_isUnlike_8 mX12_base meX12_base wd1036 wd1037 rfl rfl reX12_base rmX12_isUnlike (fitX12_isUnlike_8) wd1038 (s_icmp_ge (tgt := 46) dX12_isUnlike_11 (by decide) (s_dn tX12_isUnlike_46) (s_iload_n dX12_isUnlike_14 rfl (s_iconst dX12_isUnlike_15 (by decide) (s_iload_n dX12_isUnlike_16 rfl (s_if_eq (tgt := 30) dX12_isUnlike_17 (by decide) (s_aload_n dX12_isUnlike_30 rfl (s_iload dX12_isUnlike_31 (s_iload_n dX12_isUnlike_33 rfl (s_callV (r := (RX12, TX12, 74)) dX12_isUnlike_34 mX12_childOf meX12_childOf wd1057 wd1058 rfl rfl reX12_childOf rmX12_isUnlike (fitX12_isUnlike_34) wd1059 tX12_isUnlike_37)))) (s_aload_n dX12_isUnlike_20 rfl (s_iload_n dX12_isUnlike_21 rfl (s_iload dX12_isUnlike_22 (s_callV (r := (RX12, TX12, 74)) dX12_isUnlike_24 mX12_childOf meX12_childOf wd1057 wd1058 rfl rfl reX12_childOf rmX12_isUnlike (fitX12_isUnlike_24) wd1059 (s_goto (tgt := 37) dX12_isUnlike_27 (by decide) tX12_isUnlike_37)))))))))))))
set_option maxRecDepth 100000 in
theorem tX12_isUnlike_0 {l : Launch} {D : zD} {B sz0 : Nat} {post : Option Value → zS → Prop} : zSnd l D B xX12_isUnlike sz0 post 0 kX12_isUnlike_0 (z_Jr post) := (s_iconst dX12_isUnlike_0 (by decide) (s_istore_n dX12_isUnlike_1 rfl (s_iconst dX12_isUnlike_2 (by decide) (s_istore dX12_isUnlike_3 tX12_isUnlike_5))))
noncomputable def fX12_isUnlike : zF := z_fn 5 kX12_isUnlike_0
theorem mX12_isUnlike {l : Launch} {D : zD} {B : Nat} : z_MF l D B yX12_isUnlike xX12_isUnlike fX12_isUnlike := z_mf (by decide) rfl (fun h => by cases h) rfl (fun as σ r h => ⟨z_fn_len h, kX12_isUnlike_0, z_fn_run h, fun _ => tX12_isUnlike_0⟩)
/-! ===== RowChildrenModel.areUnlike ===== -/
theorem dX12_areUnlike_0 : decode cX12_areUnlike 0 = .ok (.iconst 0, 1) := by decide +kernel
theorem dX12_areUnlike_1 : decode cX12_areUnlike 1 = .ok (.istore_n 2, 1) := by decide +kernel
theorem dX12_areUnlike_2 : decode cX12_areUnlike 2 = .ok (.iload_n 2, 1) := by decide +kernel
theorem dX12_areUnlike_3 : decode cX12_areUnlike 3 = .ok (.aload_n 0, 1) := by decide +kernel
theorem dX12_areUnlike_4 : decode cX12_areUnlike 4 = .ok (.invokevirtual 327, 3) := by decide +kernel
theorem dX12_areUnlike_7 : decode cX12_areUnlike 7 = .ok (.if_icmp .ge 20, 3) := by decide +kernel
theorem dX12_areUnlike_10 : decode cX12_areUnlike 10 = .ok (.aload_n 0, 1) := by decide +kernel
theorem dX12_areUnlike_11 : decode cX12_areUnlike 11 = .ok (.iload_n 2, 1) := by decide +kernel
theorem dX12_areUnlike_12 : decode cX12_areUnlike 12 = .ok (.iload_n 1, 1) := by decide +kernel
theorem dX12_areUnlike_13 : decode cX12_areUnlike 13 = .ok (.invokevirtual 494, 3) := by decide +kernel
theorem dX12_areUnlike_16 : decode cX12_areUnlike 16 = .ok (.ifCond .ne 5, 3) := by decide +kernel
theorem dX12_areUnlike_19 : decode cX12_areUnlike 19 = .ok (.iconst 0, 1) := by decide +kernel
theorem dX12_areUnlike_20 : decode cX12_areUnlike 20 = .ok (.ireturn, 1) := by decide +kernel
theorem dX12_areUnlike_21 : decode cX12_areUnlike 21 = .ok (.iinc 2 1, 3) := by decide +kernel
theorem dX12_areUnlike_24 : decode cX12_areUnlike 24 = .ok (.goto (-22), 3) := by decide +kernel
theorem dX12_areUnlike_27 : decode cX12_areUnlike 27 = .ok (.iconst 1, 1) := by decide +kernel
theorem dX12_areUnlike_28 : decode cX12_areUnlike 28 = .ok (.ireturn, 1) := by decide +kernel
def xX12_areUnlike : zX := (RX12, cX12_areUnlike, 3, (some .boolean), false, { frames := 4, cells := 0, slots := 0, locals := 157 }, 0, 0, 0, 0)
theorem rmX12_areUnlike : z_Rm xX12_areUnlike := by unfold z_Rm xX12_areUnlike; exact ⟨by decide, by decide⟩
theorem reX12_areUnlike : z_Re xX12_areUnlike := ⟨rfl, rfl⟩
theorem rlX12_areUnlike : 1 ≤ xX12_areUnlike.2.2.2.2.2.1.frames ∧ 21 ≤ xX12_areUnlike.2.2.2.2.2.1.locals := by unfold xX12_areUnlike; exact ⟨by decide, by decide⟩
theorem meX12_areUnlike : z_Me yX12_areUnlike xX12_areUnlike 1 := ⟨wd1254, wd848, by decide, by decide, by decide +kernel⟩
theorem fitX12_areUnlike_4 : z_Fit xX12_base xX12_areUnlike := by unfold z_Fit; simp only [xX12_base, xX12_areUnlike]; exact ⟨by decide, by decide⟩
theorem fitX12_areUnlike_13 : z_Fit xX12_isUnlike xX12_areUnlike := by unfold z_Fit; simp only [xX12_isUnlike, xX12_areUnlike]; exact ⟨by decide, by decide⟩
noncomputable def kX12_areUnlike_27 : zK zR := (q_push 1 q_zret)
noncomputable def kX12_areUnlike_19 : zK zR := (q_push 0 q_zret)
noncomputable def bX12_areUnlike_2 : zK ((zL × zS) ⊕ zR) := (q_iload 2 (q_aload 0 (q_callV 12 fX12_base 0 (q_icmp_ge (q_dn kX12_areUnlike_27) (q_aload 0 (q_iload 2 (q_iload 1 (q_callV 12 fX12_isUnlike 2 (q_if_ne (q_iinc 2 1 q_ag) (q_dn kX12_areUnlike_19))))))))))
noncomputable def kX12_areUnlike_2 : zK zR := q_lp (bX12_areUnlike_2)
noncomputable def kX12_areUnlike_0 : zK zR := (q_push 0 (q_istore 2 kX12_areUnlike_2))
set_option maxRecDepth 100000 in
theorem tX12_areUnlike_27 {l : Launch} {D : zD} {B sz0 : Nat} {post : Option Value → zS → Prop} : zSnd l D B xX12_areUnlike sz0 post 27 kX12_areUnlike_27 (z_Jr post) := (s_iconst dX12_areUnlike_27 (by decide) (s_zret dX12_areUnlike_28 rfl))
set_option maxRecDepth 100000 in
theorem tX12_areUnlike_19 {l : Launch} {D : zD} {B sz0 : Nat} {post : Option Value → zS → Prop} : zSnd l D B xX12_areUnlike sz0 post 19 kX12_areUnlike_19 (z_Jr post) := (s_iconst dX12_areUnlike_19 (by decide) (s_zret dX12_areUnlike_20 rfl))
set_option maxRecDepth 100000 in
theorem tX12_areUnlike_2 {l : Launch} {D : zD} {B sz0 : Nat} {post : Option Value → zS → Prop} : zSnd l D B xX12_areUnlike sz0 post 2 kX12_areUnlike_2 (z_Jr post) := s_lp (body := bX12_areUnlike_2) (s_iload_n dX12_areUnlike_2 rfl (s_aload_n dX12_areUnlike_3 rfl (s_callV (r := (RX12, TX12, 74)) dX12_areUnlike_4 mX12_base meX12_base wd1036 wd1037 rfl rfl reX12_base rmX12_areUnlike (fitX12_areUnlike_4) wd1038 (s_icmp_ge (tgt := 27) dX12_areUnlike_7 (by decide) (s_dn tX12_areUnlike_27) (s_aload_n dX12_areUnlike_10 rfl (s_iload_n dX12_areUnlike_11 rfl (s_iload_n dX12_areUnlike_12 rfl (s_callV (r := (RX12, TX12, 74)) dX12_areUnlike_13 mX12_isUnlike meX12_isUnlike wd1251 wd1252 rfl rfl reX12_isUnlike rmX12_areUnlike (fitX12_areUnlike_13) wd1253 (s_if_ne (tgt := 21) dX12_areUnlike_16 (by decide) (s_iinc dX12_areUnlike_21 (by decide) (s_goto (tgt := 2) dX12_areUnlike_24 (by decide) s_ag)) (s_dn tX12_areUnlike_19))))))))))
set_option maxRecDepth 100000 in
theorem tX12_areUnlike_0 {l : Launch} {D : zD} {B sz0 : Nat} {post : Option Value → zS → Prop} : zSnd l D B xX12_areUnlike sz0 post 0 kX12_areUnlike_0 (z_Jr post) := (s_iconst dX12_areUnlike_0 (by decide) (s_istore_n dX12_areUnlike_1 rfl tX12_areUnlike_2))
noncomputable def fX12_areUnlike : zF := z_fn 3 kX12_areUnlike_0
theorem mX12_areUnlike {l : Launch} {D : zD} {B : Nat} : z_MF l D B yX12_areUnlike xX12_areUnlike fX12_areUnlike := z_mf (by decide) rfl (fun h => by cases h) rfl (fun as σ r h => ⟨z_fn_len h, kX12_areUnlike_0, z_fn_run h, fun _ => tX12_areUnlike_0⟩)
/-! ===== RowChildrenModel.isGathered ===== -/
theorem dX12_isGathered_0 : decode cX12_isGathered 0 = .ok (.iconst 0, 1) := by decide +kernel
theorem dX12_isGathered_1 : decode cX12_isGathered 1 = .ok (.istore_n 1, 1) := by decide +kernel
theorem dX12_isGathered_2 : decode cX12_isGathered 2 = .ok (.iload_n 1, 1) := by decide +kernel
theorem dX12_isGathered_3 : decode cX12_isGathered 3 = .ok (.bipush 64, 2) := by decide +kernel
theorem dX12_isGathered_5 : decode cX12_isGathered 5 = .ok (.if_icmp .ge 79, 3) := by decide +kernel
theorem dX12_isGathered_8 : decode cX12_isGathered 8 = .ok (.iload_n 1, 1) := by decide +kernel
theorem dX12_isGathered_9 : decode cX12_isGathered 9 = .ok (.bipush 16, 2) := by decide +kernel
theorem dX12_isGathered_11 : decode cX12_isGathered 11 = .ok (.idiv, 1) := by decide +kernel
theorem dX12_isGathered_12 : decode cX12_isGathered 12 = .ok (.istore_n 2, 1) := by decide +kernel
theorem dX12_isGathered_13 : decode cX12_isGathered 13 = .ok (.iload_n 1, 1) := by decide +kernel
theorem dX12_isGathered_14 : decode cX12_isGathered 14 = .ok (.iconst 4, 1) := by decide +kernel
theorem dX12_isGathered_15 : decode cX12_isGathered 15 = .ok (.idiv, 1) := by decide +kernel
theorem dX12_isGathered_16 : decode cX12_isGathered 16 = .ok (.iconst 4, 1) := by decide +kernel
theorem dX12_isGathered_17 : decode cX12_isGathered 17 = .ok (.irem, 1) := by decide +kernel
theorem dX12_isGathered_18 : decode cX12_isGathered 18 = .ok (.istore_n 3, 1) := by decide +kernel
theorem dX12_isGathered_19 : decode cX12_isGathered 19 = .ok (.iload_n 1, 1) := by decide +kernel
theorem dX12_isGathered_20 : decode cX12_isGathered 20 = .ok (.iconst 4, 1) := by decide +kernel
theorem dX12_isGathered_21 : decode cX12_isGathered 21 = .ok (.irem, 1) := by decide +kernel
theorem dX12_isGathered_22 : decode cX12_isGathered 22 = .ok (.istore 4, 2) := by decide +kernel
theorem dX12_isGathered_24 : decode cX12_isGathered 24 = .ok (.aload_n 0, 1) := by decide +kernel
theorem dX12_isGathered_25 : decode cX12_isGathered 25 = .ok (.iload_n 2, 1) := by decide +kernel
theorem dX12_isGathered_26 : decode cX12_isGathered 26 = .ok (.invokevirtual 398, 3) := by decide +kernel
theorem dX12_isGathered_29 : decode cX12_isGathered 29 = .ok (.ifCond .eq 49, 3) := by decide +kernel
theorem dX12_isGathered_32 : decode cX12_isGathered 32 = .ok (.aload_n 0, 1) := by decide +kernel
theorem dX12_isGathered_33 : decode cX12_isGathered 33 = .ok (.iload_n 3, 1) := by decide +kernel
theorem dX12_isGathered_34 : decode cX12_isGathered 34 = .ok (.invokevirtual 398, 3) := by decide +kernel
theorem dX12_isGathered_37 : decode cX12_isGathered 37 = .ok (.ifCond .eq 41, 3) := by decide +kernel
theorem dX12_isGathered_40 : decode cX12_isGathered 40 = .ok (.aload_n 0, 1) := by decide +kernel
theorem dX12_isGathered_41 : decode cX12_isGathered 41 = .ok (.iload 4, 2) := by decide +kernel
theorem dX12_isGathered_43 : decode cX12_isGathered 43 = .ok (.invokevirtual 398, 3) := by decide +kernel
theorem dX12_isGathered_46 : decode cX12_isGathered 46 = .ok (.ifCond .eq 32, 3) := by decide +kernel
theorem dX12_isGathered_49 : decode cX12_isGathered 49 = .ok (.aload_n 0, 1) := by decide +kernel
theorem dX12_isGathered_50 : decode cX12_isGathered 50 = .ok (.aload_n 0, 1) := by decide +kernel
theorem dX12_isGathered_51 : decode cX12_isGathered 51 = .ok (.iload_n 2, 1) := by decide +kernel
theorem dX12_isGathered_52 : decode cX12_isGathered 52 = .ok (.iload_n 3, 1) := by decide +kernel
theorem dX12_isGathered_53 : decode cX12_isGathered 53 = .ok (.invokevirtual 346, 3) := by decide +kernel
theorem dX12_isGathered_56 : decode cX12_isGathered 56 = .ok (.iload 4, 2) := by decide +kernel
theorem dX12_isGathered_58 : decode cX12_isGathered 58 = .ok (.invokevirtual 346, 3) := by decide +kernel
theorem dX12_isGathered_61 : decode cX12_isGathered 61 = .ok (.aload_n 0, 1) := by decide +kernel
theorem dX12_isGathered_62 : decode cX12_isGathered 62 = .ok (.iload_n 2, 1) := by decide +kernel
theorem dX12_isGathered_63 : decode cX12_isGathered 63 = .ok (.aload_n 0, 1) := by decide +kernel
theorem dX12_isGathered_64 : decode cX12_isGathered 64 = .ok (.iload_n 3, 1) := by decide +kernel
theorem dX12_isGathered_65 : decode cX12_isGathered 65 = .ok (.iload 4, 2) := by decide +kernel
theorem dX12_isGathered_67 : decode cX12_isGathered 67 = .ok (.invokevirtual 346, 3) := by decide +kernel
theorem dX12_isGathered_70 : decode cX12_isGathered 70 = .ok (.invokevirtual 346, 3) := by decide +kernel
theorem dX12_isGathered_73 : decode cX12_isGathered 73 = .ok (.if_icmp .eq 5, 3) := by decide +kernel
theorem dX12_isGathered_76 : decode cX12_isGathered 76 = .ok (.iconst 0, 1) := by decide +kernel
theorem dX12_isGathered_77 : decode cX12_isGathered 77 = .ok (.ireturn, 1) := by decide +kernel
theorem dX12_isGathered_78 : decode cX12_isGathered 78 = .ok (.iinc 1 1, 3) := by decide +kernel
theorem dX12_isGathered_81 : decode cX12_isGathered 81 = .ok (.goto (-79), 3) := by decide +kernel
theorem dX12_isGathered_84 : decode cX12_isGathered 84 = .ok (.iconst 1, 1) := by decide +kernel
theorem dX12_isGathered_85 : decode cX12_isGathered 85 = .ok (.ireturn, 1) := by decide +kernel
def xX12_isGathered : zX := (RX12, cX12_isGathered, 5, (some .boolean), false, { frames := 3, cells := 0, slots := 0, locals := 133 }, 0, 0, 0, 0)
theorem rmX12_isGathered : z_Rm xX12_isGathered := by unfold z_Rm xX12_isGathered; exact ⟨by decide, by decide⟩
theorem reX12_isGathered : z_Re xX12_isGathered := ⟨rfl, rfl⟩
theorem rlX12_isGathered : 1 ≤ xX12_isGathered.2.2.2.2.2.1.frames ∧ 21 ≤ xX12_isGathered.2.2.2.2.2.1.locals := by unfold xX12_isGathered; exact ⟨by decide, by decide⟩
theorem meX12_isGathered : z_Me yX12_isGathered xX12_isGathered 0 := ⟨wd1255, wd848, by decide, by decide, by decide +kernel⟩
theorem fitX12_isGathered_26 : z_Fit xX12_isColour xX12_isGathered := by unfold z_Fit; simp only [xX12_isColour, xX12_isGathered]; exact ⟨by decide, by decide⟩
theorem fitX12_isGathered_34 : z_Fit xX12_isColour xX12_isGathered := by unfold z_Fit; simp only [xX12_isColour, xX12_isGathered]; exact ⟨by decide, by decide⟩
theorem fitX12_isGathered_43 : z_Fit xX12_isColour xX12_isGathered := by unfold z_Fit; simp only [xX12_isColour, xX12_isGathered]; exact ⟨by decide, by decide⟩
theorem fitX12_isGathered_53 : z_Fit xX12_childOf xX12_isGathered := by unfold z_Fit; simp only [xX12_childOf, xX12_isGathered]; exact ⟨by decide, by decide⟩
theorem fitX12_isGathered_58 : z_Fit xX12_childOf xX12_isGathered := by unfold z_Fit; simp only [xX12_childOf, xX12_isGathered]; exact ⟨by decide, by decide⟩
theorem fitX12_isGathered_67 : z_Fit xX12_childOf xX12_isGathered := by unfold z_Fit; simp only [xX12_childOf, xX12_isGathered]; exact ⟨by decide, by decide⟩
theorem fitX12_isGathered_70 : z_Fit xX12_childOf xX12_isGathered := by unfold z_Fit; simp only [xX12_childOf, xX12_isGathered]; exact ⟨by decide, by decide⟩
noncomputable def kX12_isGathered_84 : zK zR := (q_push 1 q_zret)
noncomputable def kX12_isGathered_78 : zK ((zL × zS) ⊕ zR) := (q_iinc 1 1 q_ag)
noncomputable def kX12_isGathered_76 : zK zR := (q_push 0 q_zret)
noncomputable def bX12_isGathered_2 : zK ((zL × zS) ⊕ zR) := (q_iload 1 (q_push 64 (q_icmp_ge (q_dn kX12_isGathered_84) (q_iload 1 (q_push 16 (q_idiv (q_istore 2 (q_iload 1 (q_push 4 (q_idiv (q_push 4 (q_irem (q_istore 3 (q_iload 1 (q_push 4 (q_irem (q_istore 4 (q_aload 0 (q_iload 2 (q_callV 12 fX12_isColour 1 (q_if_eq kX12_isGathered_78 (q_aload 0 (q_iload 3 (q_callV 12 fX12_isColour 1 (q_if_eq kX12_isGathered_78 (q_aload 0 (q_iload 4 (q_callV 12 fX12_isColour 1 (q_if_eq kX12_isGathered_78 (q_aload 0 (q_aload 0 (q_iload 2 (q_iload 3 (q_callV 12 fX12_childOf 2 (q_iload 4 (q_callV 12 fX12_childOf 2 (q_aload 0 (q_iload 2 (q_aload 0 (q_iload 3 (q_iload 4 (q_callV 12 fX12_childOf 2 (q_callV 12 fX12_childOf 2 (q_icmp_eq kX12_isGathered_78 (q_dn kX12_isGathered_76)))))))))))))))))))))))))))))))))))))))))))))
noncomputable def kX12_isGathered_2 : zK zR := q_lp (bX12_isGathered_2)
noncomputable def kX12_isGathered_0 : zK zR := (q_push 0 (q_istore 1 kX12_isGathered_2))
set_option maxRecDepth 100000 in
theorem tX12_isGathered_84 {l : Launch} {D : zD} {B sz0 : Nat} {post : Option Value → zS → Prop} : zSnd l D B xX12_isGathered sz0 post 84 kX12_isGathered_84 (z_Jr post) := (s_iconst dX12_isGathered_84 (by decide) (s_zret dX12_isGathered_85 rfl))
set_option maxRecDepth 100000 in
theorem tX12_isGathered_78 {l : Launch} {D : zD} {B sz0 : Nat} {post : Option Value → zS → Prop} : zSnd l D B xX12_isGathered sz0 post 78 kX12_isGathered_78 (z_Jl l D B xX12_isGathered sz0 post 2 (z_Jr post)) := (s_iinc dX12_isGathered_78 (by decide) (s_goto (tgt := 2) dX12_isGathered_81 (by decide) s_ag))
set_option maxRecDepth 100000 in
theorem tX12_isGathered_76 {l : Launch} {D : zD} {B sz0 : Nat} {post : Option Value → zS → Prop} : zSnd l D B xX12_isGathered sz0 post 76 kX12_isGathered_76 (z_Jr post) := (s_iconst dX12_isGathered_76 (by decide) (s_zret dX12_isGathered_77 rfl))
set_option maxRecDepth 100000 in
theorem tX12_isGathered_2 {l : Launch} {D : zD} {B sz0 : Nat} {post : Option Value → zS → Prop} : zSnd l D B xX12_isGathered sz0 post 2 kX12_isGathered_2 (z_Jr post) := s_lp (body := bX12_isGathered_2) (s_iload_n dX12_isGathered_2 rfl (s_bipush dX12_isGathered_3 (by decide) (s_icmp_ge (tgt := 84) dX12_isGathered_5 (by decide) (s_dn tX12_isGathered_84) (s_iload_n dX12_isGathered_8 rfl (s_bipush dX12_isGathered_9 (by decide) (s_idiv dX12_isGathered_11 (s_istore_n dX12_isGathered_12 rfl (s_iload_n dX12_isGathered_13 rfl (s_iconst dX12_isGathered_14 (by decide) (s_idiv dX12_isGathered_15 (s_iconst dX12_isGathered_16 (by decide) (s_irem dX12_isGathered_17 (s_istore_n dX12_isGathered_18 rfl (s_iload_n dX12_isGathered_19 rfl (s_iconst dX12_isGathered_20 (by decide) (s_irem dX12_isGathered_21 (s_istore dX12_isGathered_22 (s_aload_n dX12_isGathered_24 rfl (s_iload_n dX12_isGathered_25 rfl (s_callV (r := (RX12, TX12, 74)) dX12_isGathered_26 mX12_isColour meX12_isColour wd1129 wd1130 rfl rfl reX12_isColour rmX12_isGathered (fitX12_isGathered_26) wd1131 (s_if_eq (tgt := 78) dX12_isGathered_29 (by decide) tX12_isGathered_78 (s_aload_n dX12_isGathered_32 rfl (s_iload_n dX12_isGathered_33 rfl (s_callV (r := (RX12, TX12, 74)) dX12_isGathered_34 mX12_isColour meX12_isColour wd1129 wd1130 rfl rfl reX12_isColour rmX12_isGathered (fitX12_isGathered_34) wd1131 (s_if_eq (tgt := 78) dX12_isGathered_37 (by decide) tX12_isGathered_78 (s_aload_n dX12_isGathered_40 rfl (s_iload dX12_isGathered_41 (s_callV (r := (RX12, TX12, 74)) dX12_isGathered_43 mX12_isColour meX12_isColour wd1129 wd1130 rfl rfl reX12_isColour rmX12_isGathered (fitX12_isGathered_43) wd1131 (s_if_eq (tgt := 78) dX12_isGathered_46 (by decide) tX12_isGathered_78 (s_aload_n dX12_isGathered_49 rfl (s_aload_n dX12_isGathered_50 rfl (s_iload_n dX12_isGathered_51 rfl (s_iload_n dX12_isGathered_52 rfl (s_callV (r := (RX12, TX12, 74)) dX12_isGathered_53 mX12_childOf meX12_childOf wd1057 wd1058 rfl rfl reX12_childOf rmX12_isGathered (fitX12_isGathered_53) wd1059 (s_iload dX12_isGathered_56 (s_callV (r := (RX12, TX12, 74)) dX12_isGathered_58 mX12_childOf meX12_childOf wd1057 wd1058 rfl rfl reX12_childOf rmX12_isGathered (fitX12_isGathered_58) wd1059 (s_aload_n dX12_isGathered_61 rfl (s_iload_n dX12_isGathered_62 rfl (s_aload_n dX12_isGathered_63 rfl (s_iload_n dX12_isGathered_64 rfl (s_iload dX12_isGathered_65 (s_callV (r := (RX12, TX12, 74)) dX12_isGathered_67 mX12_childOf meX12_childOf wd1057 wd1058 rfl rfl reX12_childOf rmX12_isGathered (fitX12_isGathered_67) wd1059 (s_callV (r := (RX12, TX12, 74)) dX12_isGathered_70 mX12_childOf meX12_childOf wd1057 wd1058 rfl rfl reX12_childOf rmX12_isGathered (fitX12_isGathered_70) wd1059 (s_icmp_eq (tgt := 78) dX12_isGathered_73 (by decide) tX12_isGathered_78 (s_dn tX12_isGathered_76)))))))))))))))))))))))))))))))))))))))))))))
set_option maxRecDepth 100000 in
theorem tX12_isGathered_0 {l : Launch} {D : zD} {B sz0 : Nat} {post : Option Value → zS → Prop} : zSnd l D B xX12_isGathered sz0 post 0 kX12_isGathered_0 (z_Jr post) := (s_iconst dX12_isGathered_0 (by decide) (s_istore_n dX12_isGathered_1 rfl tX12_isGathered_2))
noncomputable def fX12_isGathered : zF := z_fn 5 kX12_isGathered_0
theorem mX12_isGathered {l : Launch} {D : zD} {B : Nat} : z_MF l D B yX12_isGathered xX12_isGathered fX12_isGathered := z_mf (by decide) rfl (fun h => by cases h) rfl (fun as σ r h => ⟨z_fn_len h, kX12_isGathered_0, z_fn_run h, fun _ => tX12_isGathered_0⟩)
/-! ===== RowChildrenModel.isOwn ===== -/
theorem dX12_isOwn_0 : decode cX12_isOwn 0 = .ok (.iconst 0, 1) := by decide +kernel
theorem dX12_isOwn_1 : decode cX12_isOwn 1 = .ok (.istore_n 1, 1) := by decide +kernel
theorem dX12_isOwn_2 : decode cX12_isOwn 2 = .ok (.iload_n 1, 1) := by decide +kernel
theorem dX12_isOwn_3 : decode cX12_isOwn 3 = .ok (.aload_n 0, 1) := by decide +kernel
theorem dX12_isOwn_4 : decode cX12_isOwn 4 = .ok (.invokevirtual 327, 3) := by decide +kernel
theorem dX12_isOwn_7 : decode cX12_isOwn 7 = .ok (.if_icmp .ge 21, 3) := by decide +kernel
theorem dX12_isOwn_10 : decode cX12_isOwn 10 = .ok (.aload_n 0, 1) := by decide +kernel
theorem dX12_isOwn_11 : decode cX12_isOwn 11 = .ok (.iload_n 1, 1) := by decide +kernel
theorem dX12_isOwn_12 : decode cX12_isOwn 12 = .ok (.iload_n 1, 1) := by decide +kernel
theorem dX12_isOwn_13 : decode cX12_isOwn 13 = .ok (.invokevirtual 346, 3) := by decide +kernel
theorem dX12_isOwn_16 : decode cX12_isOwn 16 = .ok (.iload_n 1, 1) := by decide +kernel
theorem dX12_isOwn_17 : decode cX12_isOwn 17 = .ok (.if_icmp .eq 5, 3) := by decide +kernel
theorem dX12_isOwn_20 : decode cX12_isOwn 20 = .ok (.iconst 0, 1) := by decide +kernel
theorem dX12_isOwn_21 : decode cX12_isOwn 21 = .ok (.ireturn, 1) := by decide +kernel
theorem dX12_isOwn_22 : decode cX12_isOwn 22 = .ok (.iinc 1 1, 3) := by decide +kernel
theorem dX12_isOwn_25 : decode cX12_isOwn 25 = .ok (.goto (-23), 3) := by decide +kernel
theorem dX12_isOwn_28 : decode cX12_isOwn 28 = .ok (.iconst 1, 1) := by decide +kernel
theorem dX12_isOwn_29 : decode cX12_isOwn 29 = .ok (.ireturn, 1) := by decide +kernel
def xX12_isOwn : zX := (RX12, cX12_isOwn, 2, (some .boolean), false, { frames := 3, cells := 0, slots := 0, locals := 133 }, 0, 0, 0, 0)
theorem rmX12_isOwn : z_Rm xX12_isOwn := by unfold z_Rm xX12_isOwn; exact ⟨by decide, by decide⟩
theorem reX12_isOwn : z_Re xX12_isOwn := ⟨rfl, rfl⟩
theorem rlX12_isOwn : 1 ≤ xX12_isOwn.2.2.2.2.2.1.frames ∧ 21 ≤ xX12_isOwn.2.2.2.2.2.1.locals := by unfold xX12_isOwn; exact ⟨by decide, by decide⟩
theorem meX12_isOwn : z_Me yX12_isOwn xX12_isOwn 0 := ⟨wd1256, wd848, by decide, by decide, by decide +kernel⟩
theorem fitX12_isOwn_4 : z_Fit xX12_base xX12_isOwn := by unfold z_Fit; simp only [xX12_base, xX12_isOwn]; exact ⟨by decide, by decide⟩
theorem fitX12_isOwn_13 : z_Fit xX12_childOf xX12_isOwn := by unfold z_Fit; simp only [xX12_childOf, xX12_isOwn]; exact ⟨by decide, by decide⟩
noncomputable def kX12_isOwn_28 : zK zR := (q_push 1 q_zret)
noncomputable def kX12_isOwn_20 : zK zR := (q_push 0 q_zret)
noncomputable def bX12_isOwn_2 : zK ((zL × zS) ⊕ zR) := (q_iload 1 (q_aload 0 (q_callV 12 fX12_base 0 (q_icmp_ge (q_dn kX12_isOwn_28) (q_aload 0 (q_iload 1 (q_iload 1 (q_callV 12 fX12_childOf 2 (q_iload 1 (q_icmp_eq (q_iinc 1 1 q_ag) (q_dn kX12_isOwn_20)))))))))))
noncomputable def kX12_isOwn_2 : zK zR := q_lp (bX12_isOwn_2)
noncomputable def kX12_isOwn_0 : zK zR := (q_push 0 (q_istore 1 kX12_isOwn_2))
set_option maxRecDepth 100000 in
theorem tX12_isOwn_28 {l : Launch} {D : zD} {B sz0 : Nat} {post : Option Value → zS → Prop} : zSnd l D B xX12_isOwn sz0 post 28 kX12_isOwn_28 (z_Jr post) := (s_iconst dX12_isOwn_28 (by decide) (s_zret dX12_isOwn_29 rfl))
set_option maxRecDepth 100000 in
theorem tX12_isOwn_20 {l : Launch} {D : zD} {B sz0 : Nat} {post : Option Value → zS → Prop} : zSnd l D B xX12_isOwn sz0 post 20 kX12_isOwn_20 (z_Jr post) := (s_iconst dX12_isOwn_20 (by decide) (s_zret dX12_isOwn_21 rfl))
set_option maxRecDepth 100000 in
theorem tX12_isOwn_2 {l : Launch} {D : zD} {B sz0 : Nat} {post : Option Value → zS → Prop} : zSnd l D B xX12_isOwn sz0 post 2 kX12_isOwn_2 (z_Jr post) := s_lp (body := bX12_isOwn_2) (s_iload_n dX12_isOwn_2 rfl (s_aload_n dX12_isOwn_3 rfl (s_callV (r := (RX12, TX12, 74)) dX12_isOwn_4 mX12_base meX12_base wd1036 wd1037 rfl rfl reX12_base rmX12_isOwn (fitX12_isOwn_4) wd1038 (s_icmp_ge (tgt := 28) dX12_isOwn_7 (by decide) (s_dn tX12_isOwn_28) (s_aload_n dX12_isOwn_10 rfl (s_iload_n dX12_isOwn_11 rfl (s_iload_n dX12_isOwn_12 rfl (s_callV (r := (RX12, TX12, 74)) dX12_isOwn_13 mX12_childOf meX12_childOf wd1057 wd1058 rfl rfl reX12_childOf rmX12_isOwn (fitX12_isOwn_13) wd1059 (s_iload_n dX12_isOwn_16 rfl (s_icmp_eq (tgt := 22) dX12_isOwn_17 (by decide) (s_iinc dX12_isOwn_22 (by decide) (s_goto (tgt := 2) dX12_isOwn_25 (by decide) s_ag)) (s_dn tX12_isOwn_20)))))))))))
set_option maxRecDepth 100000 in
theorem tX12_isOwn_0 {l : Launch} {D : zD} {B sz0 : Nat} {post : Option Value → zS → Prop} : zSnd l D B xX12_isOwn sz0 post 0 kX12_isOwn_0 (z_Jr post) := (s_iconst dX12_isOwn_0 (by decide) (s_istore_n dX12_isOwn_1 rfl tX12_isOwn_2))
noncomputable def fX12_isOwn : zF := z_fn 2 kX12_isOwn_0
theorem mX12_isOwn {l : Launch} {D : zD} {B : Nat} : z_MF l D B yX12_isOwn xX12_isOwn fX12_isOwn := z_mf (by decide) rfl (fun h => by cases h) rfl (fun as σ r h => ⟨z_fn_len h, kX12_isOwn_0, z_fn_run h, fun _ => tX12_isOwn_0⟩)
/-! ===== RowChildrenModel.isMinding ===== -/
theorem dX12_isMinding_0 : decode cX12_isMinding 0 = .ok (.iconst 0, 1) := by decide +kernel
theorem dX12_isMinding_1 : decode cX12_isMinding 1 = .ok (.istore_n 2, 1) := by decide +kernel
theorem dX12_isMinding_2 : decode cX12_isMinding 2 = .ok (.iload_n 2, 1) := by decide +kernel
theorem dX12_isMinding_3 : decode cX12_isMinding 3 = .ok (.aload_n 0, 1) := by decide +kernel
theorem dX12_isMinding_4 : decode cX12_isMinding 4 = .ok (.invokevirtual 327, 3) := by decide +kernel
theorem dX12_isMinding_7 : decode cX12_isMinding 7 = .ok (.if_icmp .ge 31, 3) := by decide +kernel
theorem dX12_isMinding_10 : decode cX12_isMinding 10 = .ok (.aload_n 0, 1) := by decide +kernel
theorem dX12_isMinding_11 : decode cX12_isMinding 11 = .ok (.iload_n 1, 1) := by decide +kernel
theorem dX12_isMinding_12 : decode cX12_isMinding 12 = .ok (.iload_n 2, 1) := by decide +kernel
theorem dX12_isMinding_13 : decode cX12_isMinding 13 = .ok (.invokevirtual 346, 3) := by decide +kernel
theorem dX12_isMinding_16 : decode cX12_isMinding 16 = .ok (.iload_n 2, 1) := by decide +kernel
theorem dX12_isMinding_17 : decode cX12_isMinding 17 = .ok (.if_icmp .ne 13, 3) := by decide +kernel
theorem dX12_isMinding_20 : decode cX12_isMinding 20 = .ok (.aload_n 0, 1) := by decide +kernel
theorem dX12_isMinding_21 : decode cX12_isMinding 21 = .ok (.iload_n 2, 1) := by decide +kernel
theorem dX12_isMinding_22 : decode cX12_isMinding 22 = .ok (.iload_n 1, 1) := by decide +kernel
theorem dX12_isMinding_23 : decode cX12_isMinding 23 = .ok (.invokevirtual 346, 3) := by decide +kernel
theorem dX12_isMinding_26 : decode cX12_isMinding 26 = .ok (.iload_n 2, 1) := by decide +kernel
theorem dX12_isMinding_27 : decode cX12_isMinding 27 = .ok (.if_icmp .eq 5, 3) := by decide +kernel
theorem dX12_isMinding_30 : decode cX12_isMinding 30 = .ok (.iconst 1, 1) := by decide +kernel
theorem dX12_isMinding_31 : decode cX12_isMinding 31 = .ok (.ireturn, 1) := by decide +kernel
theorem dX12_isMinding_32 : decode cX12_isMinding 32 = .ok (.iinc 2 1, 3) := by decide +kernel
theorem dX12_isMinding_35 : decode cX12_isMinding 35 = .ok (.goto (-33), 3) := by decide +kernel
theorem dX12_isMinding_38 : decode cX12_isMinding 38 = .ok (.iconst 0, 1) := by decide +kernel
theorem dX12_isMinding_39 : decode cX12_isMinding 39 = .ok (.ireturn, 1) := by decide +kernel
def xX12_isMinding : zX := (RX12, cX12_isMinding, 3, (some .boolean), false, { frames := 3, cells := 0, slots := 0, locals := 133 }, 0, 0, 0, 0)
theorem rmX12_isMinding : z_Rm xX12_isMinding := by unfold z_Rm xX12_isMinding; exact ⟨by decide, by decide⟩
theorem reX12_isMinding : z_Re xX12_isMinding := ⟨rfl, rfl⟩
theorem rlX12_isMinding : 1 ≤ xX12_isMinding.2.2.2.2.2.1.frames ∧ 21 ≤ xX12_isMinding.2.2.2.2.2.1.locals := by unfold xX12_isMinding; exact ⟨by decide, by decide⟩
theorem meX12_isMinding : z_Me yX12_isMinding xX12_isMinding 1 := ⟨wd1257, wd848, by decide, by decide, by decide +kernel⟩
theorem fitX12_isMinding_4 : z_Fit xX12_base xX12_isMinding := by unfold z_Fit; simp only [xX12_base, xX12_isMinding]; exact ⟨by decide, by decide⟩
theorem fitX12_isMinding_13 : z_Fit xX12_childOf xX12_isMinding := by unfold z_Fit; simp only [xX12_childOf, xX12_isMinding]; exact ⟨by decide, by decide⟩
theorem fitX12_isMinding_23 : z_Fit xX12_childOf xX12_isMinding := by unfold z_Fit; simp only [xX12_childOf, xX12_isMinding]; exact ⟨by decide, by decide⟩
noncomputable def kX12_isMinding_38 : zK zR := (q_push 0 q_zret)
noncomputable def kX12_isMinding_30 : zK zR := (q_push 1 q_zret)
noncomputable def bX12_isMinding_2 : zK ((zL × zS) ⊕ zR) := (q_iload 2 (q_aload 0 (q_callV 12 fX12_base 0 (q_icmp_ge (q_dn kX12_isMinding_38) (q_aload 0 (q_iload 1 (q_iload 2 (q_callV 12 fX12_childOf 2 (q_iload 2 (q_icmp_ne (q_dn kX12_isMinding_30) (q_aload 0 (q_iload 2 (q_iload 1 (q_callV 12 fX12_childOf 2 (q_iload 2 (q_icmp_eq (q_iinc 2 1 q_ag) (q_dn kX12_isMinding_30)))))))))))))))))
noncomputable def kX12_isMinding_2 : zK zR := q_lp (bX12_isMinding_2)
noncomputable def kX12_isMinding_0 : zK zR := (q_push 0 (q_istore 2 kX12_isMinding_2))
set_option maxRecDepth 100000 in
theorem tX12_isMinding_38 {l : Launch} {D : zD} {B sz0 : Nat} {post : Option Value → zS → Prop} : zSnd l D B xX12_isMinding sz0 post 38 kX12_isMinding_38 (z_Jr post) := (s_iconst dX12_isMinding_38 (by decide) (s_zret dX12_isMinding_39 rfl))
set_option maxRecDepth 100000 in
theorem tX12_isMinding_30 {l : Launch} {D : zD} {B sz0 : Nat} {post : Option Value → zS → Prop} : zSnd l D B xX12_isMinding sz0 post 30 kX12_isMinding_30 (z_Jr post) := (s_iconst dX12_isMinding_30 (by decide) (s_zret dX12_isMinding_31 rfl))
set_option maxRecDepth 100000 in
theorem tX12_isMinding_2 {l : Launch} {D : zD} {B sz0 : Nat} {post : Option Value → zS → Prop} : zSnd l D B xX12_isMinding sz0 post 2 kX12_isMinding_2 (z_Jr post) := s_lp (body := bX12_isMinding_2) (s_iload_n dX12_isMinding_2 rfl (s_aload_n dX12_isMinding_3 rfl (s_callV (r := (RX12, TX12, 74)) dX12_isMinding_4 mX12_base meX12_base wd1036 wd1037 rfl rfl reX12_base rmX12_isMinding (fitX12_isMinding_4) wd1038 (s_icmp_ge (tgt := 38) dX12_isMinding_7 (by decide) (s_dn tX12_isMinding_38) (s_aload_n dX12_isMinding_10 rfl (s_iload_n dX12_isMinding_11 rfl (s_iload_n dX12_isMinding_12 rfl (s_callV (r := (RX12, TX12, 74)) dX12_isMinding_13 mX12_childOf meX12_childOf wd1057 wd1058 rfl rfl reX12_childOf rmX12_isMinding (fitX12_isMinding_13) wd1059 (s_iload_n dX12_isMinding_16 rfl (s_icmp_ne (tgt := 30) dX12_isMinding_17 (by decide) (s_dn tX12_isMinding_30) (s_aload_n dX12_isMinding_20 rfl (s_iload_n dX12_isMinding_21 rfl (s_iload_n dX12_isMinding_22 rfl (s_callV (r := (RX12, TX12, 74)) dX12_isMinding_23 mX12_childOf meX12_childOf wd1057 wd1058 rfl rfl reX12_childOf rmX12_isMinding (fitX12_isMinding_23) wd1059 (s_iload_n dX12_isMinding_26 rfl (s_icmp_eq (tgt := 32) dX12_isMinding_27 (by decide) (s_iinc dX12_isMinding_32 (by decide) (s_goto (tgt := 2) dX12_isMinding_35 (by decide) s_ag)) (s_dn tX12_isMinding_30)))))))))))))))))
set_option maxRecDepth 100000 in
theorem tX12_isMinding_0 {l : Launch} {D : zD} {B sz0 : Nat} {post : Option Value → zS → Prop} : zSnd l D B xX12_isMinding sz0 post 0 kX12_isMinding_0 (z_Jr post) := (s_iconst dX12_isMinding_0 (by decide) (s_istore_n dX12_isMinding_1 rfl tX12_isMinding_2))
noncomputable def fX12_isMinding : zF := z_fn 3 kX12_isMinding_0
theorem mX12_isMinding {l : Launch} {D : zD} {B : Nat} : z_MF l D B yX12_isMinding xX12_isMinding fX12_isMinding := z_mf (by decide) rfl (fun h => by cases h) rfl (fun as σ r h => ⟨z_fn_len h, kX12_isMinding_0, z_fn_run h, fun _ => tX12_isMinding_0⟩)
/-! ===== RowChildrenModel.hasIdle ===== -/
theorem dX12_hasIdle_0 : decode cX12_hasIdle 0 = .ok (.iconst 0, 1) := by decide +kernel
theorem dX12_hasIdle_1 : decode cX12_hasIdle 1 = .ok (.istore_n 1, 1) := by decide +kernel
theorem dX12_hasIdle_2 : decode cX12_hasIdle 2 = .ok (.iload_n 1, 1) := by decide +kernel
theorem dX12_hasIdle_3 : decode cX12_hasIdle 3 = .ok (.aload_n 0, 1) := by decide +kernel
theorem dX12_hasIdle_4 : decode cX12_hasIdle 4 = .ok (.invokevirtual 327, 3) := by decide +kernel
theorem dX12_hasIdle_7 : decode cX12_hasIdle 7 = .ok (.if_icmp .ge 19, 3) := by decide +kernel
theorem dX12_hasIdle_10 : decode cX12_hasIdle 10 = .ok (.aload_n 0, 1) := by decide +kernel
theorem dX12_hasIdle_11 : decode cX12_hasIdle 11 = .ok (.iload_n 1, 1) := by decide +kernel
theorem dX12_hasIdle_12 : decode cX12_hasIdle 12 = .ok (.invokevirtual 498, 3) := by decide +kernel
theorem dX12_hasIdle_15 : decode cX12_hasIdle 15 = .ok (.ifCond .ne 5, 3) := by decide +kernel
theorem dX12_hasIdle_18 : decode cX12_hasIdle 18 = .ok (.iconst 1, 1) := by decide +kernel
theorem dX12_hasIdle_19 : decode cX12_hasIdle 19 = .ok (.ireturn, 1) := by decide +kernel
theorem dX12_hasIdle_20 : decode cX12_hasIdle 20 = .ok (.iinc 1 1, 3) := by decide +kernel
theorem dX12_hasIdle_23 : decode cX12_hasIdle 23 = .ok (.goto (-21), 3) := by decide +kernel
theorem dX12_hasIdle_26 : decode cX12_hasIdle 26 = .ok (.iconst 0, 1) := by decide +kernel
theorem dX12_hasIdle_27 : decode cX12_hasIdle 27 = .ok (.ireturn, 1) := by decide +kernel
def xX12_hasIdle : zX := (RX12, cX12_hasIdle, 2, (some .boolean), false, { frames := 4, cells := 0, slots := 0, locals := 155 }, 0, 0, 0, 0)
theorem rmX12_hasIdle : z_Rm xX12_hasIdle := by unfold z_Rm xX12_hasIdle; exact ⟨by decide, by decide⟩
theorem reX12_hasIdle : z_Re xX12_hasIdle := ⟨rfl, rfl⟩
theorem rlX12_hasIdle : 1 ≤ xX12_hasIdle.2.2.2.2.2.1.frames ∧ 21 ≤ xX12_hasIdle.2.2.2.2.2.1.locals := by unfold xX12_hasIdle; exact ⟨by decide, by decide⟩
theorem meX12_hasIdle : z_Me yX12_hasIdle xX12_hasIdle 0 := ⟨wd1261, wd848, by decide, by decide, by decide +kernel⟩
theorem fitX12_hasIdle_4 : z_Fit xX12_base xX12_hasIdle := by unfold z_Fit; simp only [xX12_base, xX12_hasIdle]; exact ⟨by decide, by decide⟩
theorem fitX12_hasIdle_12 : z_Fit xX12_isMinding xX12_hasIdle := by unfold z_Fit; simp only [xX12_isMinding, xX12_hasIdle]; exact ⟨by decide, by decide⟩
noncomputable def kX12_hasIdle_26 : zK zR := (q_push 0 q_zret)
noncomputable def kX12_hasIdle_18 : zK zR := (q_push 1 q_zret)
noncomputable def bX12_hasIdle_2 : zK ((zL × zS) ⊕ zR) := (q_iload 1 (q_aload 0 (q_callV 12 fX12_base 0 (q_icmp_ge (q_dn kX12_hasIdle_26) (q_aload 0 (q_iload 1 (q_callV 12 fX12_isMinding 1 (q_if_ne (q_iinc 1 1 q_ag) (q_dn kX12_hasIdle_18)))))))))
noncomputable def kX12_hasIdle_2 : zK zR := q_lp (bX12_hasIdle_2)
noncomputable def kX12_hasIdle_0 : zK zR := (q_push 0 (q_istore 1 kX12_hasIdle_2))
set_option maxRecDepth 100000 in
theorem tX12_hasIdle_26 {l : Launch} {D : zD} {B sz0 : Nat} {post : Option Value → zS → Prop} : zSnd l D B xX12_hasIdle sz0 post 26 kX12_hasIdle_26 (z_Jr post) := (s_iconst dX12_hasIdle_26 (by decide) (s_zret dX12_hasIdle_27 rfl))
set_option maxRecDepth 100000 in
theorem tX12_hasIdle_18 {l : Launch} {D : zD} {B sz0 : Nat} {post : Option Value → zS → Prop} : zSnd l D B xX12_hasIdle sz0 post 18 kX12_hasIdle_18 (z_Jr post) := (s_iconst dX12_hasIdle_18 (by decide) (s_zret dX12_hasIdle_19 rfl))
set_option maxRecDepth 100000 in
theorem tX12_hasIdle_2 {l : Launch} {D : zD} {B sz0 : Nat} {post : Option Value → zS → Prop} : zSnd l D B xX12_hasIdle sz0 post 2 kX12_hasIdle_2 (z_Jr post) := s_lp (body := bX12_hasIdle_2) (s_iload_n dX12_hasIdle_2 rfl (s_aload_n dX12_hasIdle_3 rfl (s_callV (r := (RX12, TX12, 74)) dX12_hasIdle_4 mX12_base meX12_base wd1036 wd1037 rfl rfl reX12_base rmX12_hasIdle (fitX12_hasIdle_4) wd1038 (s_icmp_ge (tgt := 26) dX12_hasIdle_7 (by decide) (s_dn tX12_hasIdle_26) (s_aload_n dX12_hasIdle_10 rfl (s_iload_n dX12_hasIdle_11 rfl (s_callV (r := (RX12, TX12, 74)) dX12_hasIdle_12 mX12_isMinding meX12_isMinding wd1258 wd1259 rfl rfl reX12_isMinding rmX12_hasIdle (fitX12_hasIdle_12) wd1260 (s_if_ne (tgt := 20) dX12_hasIdle_15 (by decide) (s_iinc dX12_hasIdle_20 (by decide) (s_goto (tgt := 2) dX12_hasIdle_23 (by decide) s_ag)) (s_dn tX12_hasIdle_18)))))))))
set_option maxRecDepth 100000 in
theorem tX12_hasIdle_0 {l : Launch} {D : zD} {B sz0 : Nat} {post : Option Value → zS → Prop} : zSnd l D B xX12_hasIdle sz0 post 0 kX12_hasIdle_0 (z_Jr post) := (s_iconst dX12_hasIdle_0 (by decide) (s_istore_n dX12_hasIdle_1 rfl tX12_hasIdle_2))
noncomputable def fX12_hasIdle : zF := z_fn 2 kX12_hasIdle_0
theorem mX12_hasIdle {l : Launch} {D : zD} {B : Nat} : z_MF l D B yX12_hasIdle xX12_hasIdle fX12_hasIdle := z_mf (by decide) rfl (fun h => by cases h) rfl (fun as σ r h => ⟨z_fn_len h, kX12_hasIdle_0, z_fn_run h, fun _ => tX12_hasIdle_0⟩)
/-! ===== RowChildrenModel.ways ===== -/
theorem dX12_ways_0 : decode cX12_ways 0 = .ok (.aload_n 0, 1) := by decide +kernel
theorem dX12_ways_1 : decode cX12_ways 1 = .ok (.invokevirtual 501, 3) := by decide +kernel
theorem dX12_ways_4 : decode cX12_ways 4 = .ok (.ifCond .eq 7, 3) := by decide +kernel
theorem dX12_ways_7 : decode cX12_ways 7 = .ok (.iconst 1, 1) := by decide +kernel
theorem dX12_ways_8 : decode cX12_ways 8 = .ok (.goto 4, 3) := by decide +kernel
theorem dX12_ways_11 : decode cX12_ways 11 = .ok (.iconst 0, 1) := by decide +kernel
theorem dX12_ways_12 : decode cX12_ways 12 = .ok (.aload_n 0, 1) := by decide +kernel
theorem dX12_ways_13 : decode cX12_ways 13 = .ok (.iconst 1, 1) := by decide +kernel
theorem dX12_ways_14 : decode cX12_ways 14 = .ok (.invokevirtual 504, 3) := by decide +kernel
theorem dX12_ways_17 : decode cX12_ways 17 = .ok (.ifCond .eq 7, 3) := by decide +kernel
theorem dX12_ways_20 : decode cX12_ways 20 = .ok (.iconst 2, 1) := by decide +kernel
theorem dX12_ways_21 : decode cX12_ways 21 = .ok (.goto 4, 3) := by decide +kernel
theorem dX12_ways_24 : decode cX12_ways 24 = .ok (.iconst 0, 1) := by decide +kernel
theorem dX12_ways_25 : decode cX12_ways 25 = .ok (.iadd, 1) := by decide +kernel
theorem dX12_ways_26 : decode cX12_ways 26 = .ok (.aload_n 0, 1) := by decide +kernel
theorem dX12_ways_27 : decode cX12_ways 27 = .ok (.iconst 0, 1) := by decide +kernel
theorem dX12_ways_28 : decode cX12_ways 28 = .ok (.invokevirtual 504, 3) := by decide +kernel
theorem dX12_ways_31 : decode cX12_ways 31 = .ok (.ifCond .eq 7, 3) := by decide +kernel
theorem dX12_ways_34 : decode cX12_ways 34 = .ok (.iconst 4, 1) := by decide +kernel
theorem dX12_ways_35 : decode cX12_ways 35 = .ok (.goto 4, 3) := by decide +kernel
theorem dX12_ways_38 : decode cX12_ways 38 = .ok (.iconst 0, 1) := by decide +kernel
theorem dX12_ways_39 : decode cX12_ways 39 = .ok (.iadd, 1) := by decide +kernel
theorem dX12_ways_40 : decode cX12_ways 40 = .ok (.aload_n 0, 1) := by decide +kernel
theorem dX12_ways_41 : decode cX12_ways 41 = .ok (.invokevirtual 508, 3) := by decide +kernel
theorem dX12_ways_44 : decode cX12_ways 44 = .ok (.ifCond .eq 8, 3) := by decide +kernel
theorem dX12_ways_47 : decode cX12_ways 47 = .ok (.bipush 8, 2) := by decide +kernel
theorem dX12_ways_49 : decode cX12_ways 49 = .ok (.goto 4, 3) := by decide +kernel
theorem dX12_ways_52 : decode cX12_ways 52 = .ok (.iconst 0, 1) := by decide +kernel
theorem dX12_ways_53 : decode cX12_ways 53 = .ok (.iadd, 1) := by decide +kernel
theorem dX12_ways_54 : decode cX12_ways 54 = .ok (.aload_n 0, 1) := by decide +kernel
theorem dX12_ways_55 : decode cX12_ways 55 = .ok (.invokevirtual 511, 3) := by decide +kernel
theorem dX12_ways_58 : decode cX12_ways 58 = .ok (.ifCond .eq 8, 3) := by decide +kernel
theorem dX12_ways_61 : decode cX12_ways 61 = .ok (.bipush 16, 2) := by decide +kernel
theorem dX12_ways_63 : decode cX12_ways 63 = .ok (.goto 4, 3) := by decide +kernel
theorem dX12_ways_66 : decode cX12_ways 66 = .ok (.iconst 0, 1) := by decide +kernel
theorem dX12_ways_67 : decode cX12_ways 67 = .ok (.iadd, 1) := by decide +kernel
theorem dX12_ways_68 : decode cX12_ways 68 = .ok (.aload_n 0, 1) := by decide +kernel
theorem dX12_ways_69 : decode cX12_ways 69 = .ok (.invokevirtual 514, 3) := by decide +kernel
theorem dX12_ways_72 : decode cX12_ways 72 = .ok (.ifCond .eq 8, 3) := by decide +kernel
theorem dX12_ways_75 : decode cX12_ways 75 = .ok (.bipush 32, 2) := by decide +kernel
theorem dX12_ways_77 : decode cX12_ways 77 = .ok (.goto 4, 3) := by decide +kernel
theorem dX12_ways_80 : decode cX12_ways 80 = .ok (.iconst 0, 1) := by decide +kernel
theorem dX12_ways_81 : decode cX12_ways 81 = .ok (.iadd, 1) := by decide +kernel
theorem dX12_ways_82 : decode cX12_ways 82 = .ok (.ireturn, 1) := by decide +kernel
def xX12_ways : zX := (RX12, cX12_ways, 1, (some .int), false, { frames := 5, cells := 0, slots := 0, locals := 179 }, 0, 0, 0, 0)
theorem rmX12_ways : z_Rm xX12_ways := by unfold z_Rm xX12_ways; exact ⟨by decide, by decide⟩
theorem reX12_ways : z_Re xX12_ways := ⟨rfl, rfl⟩
theorem rlX12_ways : 1 ≤ xX12_ways.2.2.2.2.2.1.frames ∧ 21 ≤ xX12_ways.2.2.2.2.2.1.locals := by unfold xX12_ways; exact ⟨by decide, by decide⟩
theorem meX12_ways : z_Me yX12_ways xX12_ways 0 := ⟨wd1277, wd848, by decide, by decide, by decide +kernel⟩
theorem fitX12_ways_1 : z_Fit xX12_isAlikeTurned xX12_ways := by unfold z_Fit; simp only [xX12_isAlikeTurned, xX12_ways]; exact ⟨by decide, by decide⟩
theorem fitX12_ways_14 : z_Fit xX12_areUnlike xX12_ways := by unfold z_Fit; simp only [xX12_areUnlike, xX12_ways]; exact ⟨by decide, by decide⟩
theorem fitX12_ways_28 : z_Fit xX12_areUnlike xX12_ways := by unfold z_Fit; simp only [xX12_areUnlike, xX12_ways]; exact ⟨by decide, by decide⟩
theorem fitX12_ways_41 : z_Fit xX12_isGathered xX12_ways := by unfold z_Fit; simp only [xX12_isGathered, xX12_ways]; exact ⟨by decide, by decide⟩
theorem fitX12_ways_55 : z_Fit xX12_isOwn xX12_ways := by unfold z_Fit; simp only [xX12_isOwn, xX12_ways]; exact ⟨by decide, by decide⟩
theorem fitX12_ways_69 : z_Fit xX12_hasIdle xX12_ways := by unfold z_Fit; simp only [xX12_hasIdle, xX12_ways]; exact ⟨by decide, by decide⟩
noncomputable def kX12_ways_81 : zK zR := (q_iadd q_iret)
noncomputable def kX12_ways_67 : zK zR := (q_iadd (q_aload 0 (q_callV 12 fX12_hasIdle 0 (q_if_eq (q_push 0 kX12_ways_81) (q_push 32 kX12_ways_81)))))
noncomputable def kX12_ways_53 : zK zR := (q_iadd (q_aload 0 (q_callV 12 fX12_isOwn 0 (q_if_eq (q_push 0 kX12_ways_67) (q_push 16 kX12_ways_67)))))
noncomputable def kX12_ways_39 : zK zR := (q_iadd (q_aload 0 (q_callV 12 fX12_isGathered 0 (q_if_eq (q_push 0 kX12_ways_53) (q_push 8 kX12_ways_53)))))
noncomputable def kX12_ways_25 : zK zR := (q_iadd (q_aload 0 (q_push 0 (q_callV 12 fX12_areUnlike 1 (q_if_eq (q_push 0 kX12_ways_39) (q_push 4 kX12_ways_39))))))
noncomputable def kX12_ways_12 : zK zR := (q_aload 0 (q_push 1 (q_callV 12 fX12_areUnlike 1 (q_if_eq (q_push 0 kX12_ways_25) (q_push 2 kX12_ways_25)))))
noncomputable def kX12_ways_0 : zK zR := (q_aload 0 (q_callV 12 fX12_isAlikeTurned 0 (q_if_eq (q_push 0 kX12_ways_12) (q_push 1 kX12_ways_12))))
set_option maxRecDepth 100000 in
theorem tX12_ways_81 {l : Launch} {D : zD} {B sz0 : Nat} {post : Option Value → zS → Prop} : zSnd l D B xX12_ways sz0 post 81 kX12_ways_81 (z_Jr post) := (s_iadd dX12_ways_81 (s_iret dX12_ways_82 rfl))
set_option maxRecDepth 100000 in
theorem tX12_ways_67 {l : Launch} {D : zD} {B sz0 : Nat} {post : Option Value → zS → Prop} : zSnd l D B xX12_ways sz0 post 67 kX12_ways_67 (z_Jr post) := (s_iadd dX12_ways_67 (s_aload_n dX12_ways_68 rfl (s_callV (r := (RX12, TX12, 74)) dX12_ways_69 mX12_hasIdle meX12_hasIdle wd1274 wd1275 rfl rfl reX12_hasIdle rmX12_ways (fitX12_ways_69) wd1276 (s_if_eq (tgt := 80) dX12_ways_72 (by decide) (s_iconst dX12_ways_80 (by decide) tX12_ways_81) (s_bipush dX12_ways_75 (by decide) (s_goto (tgt := 81) dX12_ways_77 (by decide) tX12_ways_81))))))
set_option maxRecDepth 100000 in
theorem tX12_ways_53 {l : Launch} {D : zD} {B sz0 : Nat} {post : Option Value → zS → Prop} : zSnd l D B xX12_ways sz0 post 53 kX12_ways_53 (z_Jr post) := (s_iadd dX12_ways_53 (s_aload_n dX12_ways_54 rfl (s_callV (r := (RX12, TX12, 74)) dX12_ways_55 mX12_isOwn meX12_isOwn wd1271 wd1272 rfl rfl reX12_isOwn rmX12_ways (fitX12_ways_55) wd1273 (s_if_eq (tgt := 66) dX12_ways_58 (by decide) (s_iconst dX12_ways_66 (by decide) tX12_ways_67) (s_bipush dX12_ways_61 (by decide) (s_goto (tgt := 67) dX12_ways_63 (by decide) tX12_ways_67))))))
set_option maxRecDepth 100000 in
theorem tX12_ways_39 {l : Launch} {D : zD} {B sz0 : Nat} {post : Option Value → zS → Prop} : zSnd l D B xX12_ways sz0 post 39 kX12_ways_39 (z_Jr post) := (s_iadd dX12_ways_39 (s_aload_n dX12_ways_40 rfl (s_callV (r := (RX12, TX12, 74)) dX12_ways_41 mX12_isGathered meX12_isGathered wd1268 wd1269 rfl rfl reX12_isGathered rmX12_ways (fitX12_ways_41) wd1270 (s_if_eq (tgt := 52) dX12_ways_44 (by decide) (s_iconst dX12_ways_52 (by decide) tX12_ways_53) (s_bipush dX12_ways_47 (by decide) (s_goto (tgt := 53) dX12_ways_49 (by decide) tX12_ways_53))))))
set_option maxRecDepth 100000 in
theorem tX12_ways_25 {l : Launch} {D : zD} {B sz0 : Nat} {post : Option Value → zS → Prop} : zSnd l D B xX12_ways sz0 post 25 kX12_ways_25 (z_Jr post) := (s_iadd dX12_ways_25 (s_aload_n dX12_ways_26 rfl (s_iconst dX12_ways_27 (by decide) (s_callV (r := (RX12, TX12, 74)) dX12_ways_28 mX12_areUnlike meX12_areUnlike wd1265 wd1266 rfl rfl reX12_areUnlike rmX12_ways (fitX12_ways_28) wd1267 (s_if_eq (tgt := 38) dX12_ways_31 (by decide) (s_iconst dX12_ways_38 (by decide) tX12_ways_39) (s_iconst dX12_ways_34 (by decide) (s_goto (tgt := 39) dX12_ways_35 (by decide) tX12_ways_39)))))))
set_option maxRecDepth 100000 in
theorem tX12_ways_12 {l : Launch} {D : zD} {B sz0 : Nat} {post : Option Value → zS → Prop} : zSnd l D B xX12_ways sz0 post 12 kX12_ways_12 (z_Jr post) := (s_aload_n dX12_ways_12 rfl (s_iconst dX12_ways_13 (by decide) (s_callV (r := (RX12, TX12, 74)) dX12_ways_14 mX12_areUnlike meX12_areUnlike wd1265 wd1266 rfl rfl reX12_areUnlike rmX12_ways (fitX12_ways_14) wd1267 (s_if_eq (tgt := 24) dX12_ways_17 (by decide) (s_iconst dX12_ways_24 (by decide) tX12_ways_25) (s_iconst dX12_ways_20 (by decide) (s_goto (tgt := 25) dX12_ways_21 (by decide) tX12_ways_25))))))
set_option maxRecDepth 100000 in
theorem tX12_ways_0 {l : Launch} {D : zD} {B sz0 : Nat} {post : Option Value → zS → Prop} : zSnd l D B xX12_ways sz0 post 0 kX12_ways_0 (z_Jr post) := (s_aload_n dX12_ways_0 rfl (s_callV (r := (RX12, TX12, 74)) dX12_ways_1 mX12_isAlikeTurned meX12_isAlikeTurned wd1262 wd1263 rfl rfl reX12_isAlikeTurned rmX12_ways (fitX12_ways_1) wd1264 (s_if_eq (tgt := 11) dX12_ways_4 (by decide) (s_iconst dX12_ways_11 (by decide) tX12_ways_12) (s_iconst dX12_ways_7 (by decide) (s_goto (tgt := 12) dX12_ways_8 (by decide) tX12_ways_12)))))
noncomputable def fX12_ways : zF := z_fn 1 kX12_ways_0
theorem mX12_ways {l : Launch} {D : zD} {B : Nat} : z_MF l D B yX12_ways xX12_ways fX12_ways := z_mf (by decide) rfl (fun h => by cases h) rfl (fun as σ r h => ⟨z_fn_len h, kX12_ways_0, z_fn_run h, fun _ => tX12_ways_0⟩)
/-! ===== RowChildrenModel.shut ===== -/
theorem dX12_shut_0 : decode cX12_shut 0 = .ok (.iload_n 1, 1) := by decide +kernel
theorem dX12_shut_1 : decode cX12_shut 1 = .ok (.iconst 1, 1) := by decide +kernel
theorem dX12_shut_2 : decode cX12_shut 2 = .ok (.iconst 1, 1) := by decide +kernel
theorem dX12_shut_3 : decode cX12_shut 3 = .ok (.aload_n 0, 1) := by decide +kernel
theorem dX12_shut_4 : decode cX12_shut 4 = .ok (.invokevirtual 327, 3) := by decide +kernel
theorem dX12_shut_7 : decode cX12_shut 7 = .ok (.ishl, 1) := by decide +kernel
theorem dX12_shut_8 : decode cX12_shut 8 = .ok (.iconst 1, 1) := by decide +kernel
theorem dX12_shut_9 : decode cX12_shut 9 = .ok (.isub, 1) := by decide +kernel
theorem dX12_shut_10 : decode cX12_shut 10 = .ok (.invokestatic 323, 3) := by decide +kernel
theorem dX12_shut_13 : decode cX12_shut 13 = .ok (.ifCond .ne 5, 3) := by decide +kernel
theorem dX12_shut_16 : decode cX12_shut 16 = .ok (.iconst (-1), 1) := by decide +kernel
theorem dX12_shut_17 : decode cX12_shut 17 = .ok (.ireturn, 1) := by decide +kernel
theorem dX12_shut_18 : decode cX12_shut 18 = .ok (.iload_n 1, 1) := by decide +kernel
theorem dX12_shut_19 : decode cX12_shut 19 = .ok (.istore_n 2, 1) := by decide +kernel
theorem dX12_shut_20 : decode cX12_shut 20 = .ok (.iconst 0, 1) := by decide +kernel
theorem dX12_shut_21 : decode cX12_shut 21 = .ok (.istore_n 3, 1) := by decide +kernel
theorem dX12_shut_22 : decode cX12_shut 22 = .ok (.iload_n 2, 1) := by decide +kernel
theorem dX12_shut_23 : decode cX12_shut 23 = .ok (.iload_n 3, 1) := by decide +kernel
theorem dX12_shut_24 : decode cX12_shut 24 = .ok (.if_icmp .eq 60, 3) := by decide +kernel
theorem dX12_shut_27 : decode cX12_shut 27 = .ok (.iload_n 2, 1) := by decide +kernel
theorem dX12_shut_28 : decode cX12_shut 28 = .ok (.istore_n 3, 1) := by decide +kernel
theorem dX12_shut_29 : decode cX12_shut 29 = .ok (.iconst 0, 1) := by decide +kernel
theorem dX12_shut_30 : decode cX12_shut 30 = .ok (.istore 4, 2) := by decide +kernel
theorem dX12_shut_32 : decode cX12_shut 32 = .ok (.iload 4, 2) := by decide +kernel
theorem dX12_shut_34 : decode cX12_shut 34 = .ok (.bipush 16, 2) := by decide +kernel
theorem dX12_shut_36 : decode cX12_shut 36 = .ok (.if_icmp .ge 45, 3) := by decide +kernel
theorem dX12_shut_39 : decode cX12_shut 39 = .ok (.iload_n 3, 1) := by decide +kernel
theorem dX12_shut_40 : decode cX12_shut 40 = .ok (.iload 4, 2) := by decide +kernel
theorem dX12_shut_42 : decode cX12_shut 42 = .ok (.iconst 4, 1) := by decide +kernel
theorem dX12_shut_43 : decode cX12_shut 43 = .ok (.idiv, 1) := by decide +kernel
theorem dX12_shut_44 : decode cX12_shut 44 = .ok (.ishr, 1) := by decide +kernel
theorem dX12_shut_45 : decode cX12_shut 45 = .ok (.iload_n 3, 1) := by decide +kernel
theorem dX12_shut_46 : decode cX12_shut 46 = .ok (.iload 4, 2) := by decide +kernel
theorem dX12_shut_48 : decode cX12_shut 48 = .ok (.iconst 4, 1) := by decide +kernel
theorem dX12_shut_49 : decode cX12_shut 49 = .ok (.irem, 1) := by decide +kernel
theorem dX12_shut_50 : decode cX12_shut 50 = .ok (.ishr, 1) := by decide +kernel
theorem dX12_shut_51 : decode cX12_shut 51 = .ok (.iand, 1) := by decide +kernel
theorem dX12_shut_52 : decode cX12_shut 52 = .ok (.iconst 1, 1) := by decide +kernel
theorem dX12_shut_53 : decode cX12_shut 53 = .ok (.iand, 1) := by decide +kernel
theorem dX12_shut_54 : decode cX12_shut 54 = .ok (.iconst 1, 1) := by decide +kernel
theorem dX12_shut_55 : decode cX12_shut 55 = .ok (.if_icmp .ne 20, 3) := by decide +kernel
theorem dX12_shut_58 : decode cX12_shut 58 = .ok (.iload_n 2, 1) := by decide +kernel
theorem dX12_shut_59 : decode cX12_shut 59 = .ok (.iconst 1, 1) := by decide +kernel
theorem dX12_shut_60 : decode cX12_shut 60 = .ok (.aload_n 0, 1) := by decide +kernel
theorem dX12_shut_61 : decode cX12_shut 61 = .ok (.iload 4, 2) := by decide +kernel
theorem dX12_shut_63 : decode cX12_shut 63 = .ok (.iconst 4, 1) := by decide +kernel
theorem dX12_shut_64 : decode cX12_shut 64 = .ok (.idiv, 1) := by decide +kernel
theorem dX12_shut_65 : decode cX12_shut 65 = .ok (.iload 4, 2) := by decide +kernel
theorem dX12_shut_67 : decode cX12_shut 67 = .ok (.iconst 4, 1) := by decide +kernel
theorem dX12_shut_68 : decode cX12_shut 68 = .ok (.irem, 1) := by decide +kernel
theorem dX12_shut_69 : decode cX12_shut 69 = .ok (.invokevirtual 346, 3) := by decide +kernel
theorem dX12_shut_72 : decode cX12_shut 72 = .ok (.ishl, 1) := by decide +kernel
theorem dX12_shut_73 : decode cX12_shut 73 = .ok (.ior, 1) := by decide +kernel
theorem dX12_shut_74 : decode cX12_shut 74 = .ok (.istore_n 2, 1) := by decide +kernel
theorem dX12_shut_75 : decode cX12_shut 75 = .ok (.iinc 4 1, 3) := by decide +kernel
theorem dX12_shut_78 : decode cX12_shut 78 = .ok (.goto (-46), 3) := by decide +kernel
theorem dX12_shut_81 : decode cX12_shut 81 = .ok (.goto (-59), 3) := by decide +kernel
theorem dX12_shut_84 : decode cX12_shut 84 = .ok (.iload_n 2, 1) := by decide +kernel
theorem dX12_shut_85 : decode cX12_shut 85 = .ok (.ireturn, 1) := by decide +kernel
def xX12_shut : zX := (RX12, cX12_shut, 5, (some .int), false, { frames := 3, cells := 0, slots := 0, locals := 133 }, 0, 0, 0, 0)
theorem rmX12_shut : z_Rm xX12_shut := by unfold z_Rm xX12_shut; exact ⟨by decide, by decide⟩
theorem reX12_shut : z_Re xX12_shut := ⟨rfl, rfl⟩
theorem rlX12_shut : 1 ≤ xX12_shut.2.2.2.2.2.1.frames ∧ 21 ≤ xX12_shut.2.2.2.2.2.1.locals := by unfold xX12_shut; exact ⟨by decide, by decide⟩
theorem meX12_shut : z_Me yX12_shut xX12_shut 1 := ⟨wd1278, wd848, by decide, by decide, by decide +kernel⟩
theorem fitX12_shut_4 : z_Fit xX12_base xX12_shut := by unfold z_Fit; simp only [xX12_base, xX12_shut]; exact ⟨by decide, by decide⟩
theorem fitX12_shut_10 : z_Fit xX12_in xX12_shut := by unfold z_Fit; simp only [xX12_in, xX12_shut]; exact ⟨by decide, by decide⟩
theorem fitX12_shut_69 : z_Fit xX12_childOf xX12_shut := by unfold z_Fit; simp only [xX12_childOf, xX12_shut]; exact ⟨by decide, by decide⟩
noncomputable def kX12_shut_84 : zK zR := (q_iload 2 q_iret)
noncomputable def kX12_shut_81 : zK ((zL × zS) ⊕ zR) := q_ag
noncomputable def kX12_shut_75 : zK ((zL × zS) ⊕ ((zL × zS) ⊕ zR)) := (q_iinc 4 1 q_ag)
noncomputable def bX12_shut_32 : zK ((zL × zS) ⊕ ((zL × zS) ⊕ zR)) := (q_iload 4 (q_push 16 (q_icmp_ge (q_dn kX12_shut_81) (q_iload 3 (q_iload 4 (q_push 4 (q_idiv (q_ishr (q_iload 3 (q_iload 4 (q_push 4 (q_irem (q_ishr (q_iand (q_push 1 (q_iand (q_push 1 (q_icmp_ne kX12_shut_75 (q_iload 2 (q_push 1 (q_aload 0 (q_iload 4 (q_push 4 (q_idiv (q_iload 4 (q_push 4 (q_irem (q_callV 12 fX12_childOf 2 (q_ishl (q_ior (q_istore 2 kX12_shut_75)))))))))))))))))))))))))))))))
noncomputable def kX12_shut_32 : zK ((zL × zS) ⊕ zR) := q_lp (bX12_shut_32)
noncomputable def bX12_shut_22 : zK ((zL × zS) ⊕ zR) := (q_iload 2 (q_iload 3 (q_icmp_eq (q_dn kX12_shut_84) (q_iload 2 (q_istore 3 (q_push 0 (q_istore 4 kX12_shut_32)))))))
noncomputable def kX12_shut_22 : zK zR := q_lp (bX12_shut_22)
noncomputable def kX12_shut_0 : zK zR := (q_iload 1 (q_push 1 (q_push 1 (q_aload 0 (q_callV 12 fX12_base 0 (q_ishl (q_push 1 (q_isub (q_callS fX12_in 3 (q_if_ne (q_iload 1 (q_istore 2 (q_push 0 (q_istore 3 kX12_shut_22)))) (q_push (-1) q_iret)))))))))))
set_option maxRecDepth 100000 in
theorem tX12_shut_84 {l : Launch} {D : zD} {B sz0 : Nat} {post : Option Value → zS → Prop} : zSnd l D B xX12_shut sz0 post 84 kX12_shut_84 (z_Jr post) := (s_iload_n dX12_shut_84 rfl (s_iret dX12_shut_85 rfl))
set_option maxRecDepth 100000 in
theorem tX12_shut_81 {l : Launch} {D : zD} {B sz0 : Nat} {post : Option Value → zS → Prop} : zSnd l D B xX12_shut sz0 post 81 kX12_shut_81 (z_Jl l D B xX12_shut sz0 post 22 (z_Jr post)) := (s_goto (tgt := 22) dX12_shut_81 (by decide) s_ag)
set_option maxRecDepth 100000 in
theorem tX12_shut_75 {l : Launch} {D : zD} {B sz0 : Nat} {post : Option Value → zS → Prop} : zSnd l D B xX12_shut sz0 post 75 kX12_shut_75 (z_Jl l D B xX12_shut sz0 post 32 (z_Jl l D B xX12_shut sz0 post 22 (z_Jr post))) := (s_iinc dX12_shut_75 (by decide) (s_goto (tgt := 32) dX12_shut_78 (by decide) s_ag))
set_option maxRecDepth 100000 in
theorem tX12_shut_32 {l : Launch} {D : zD} {B sz0 : Nat} {post : Option Value → zS → Prop} : zSnd l D B xX12_shut sz0 post 32 kX12_shut_32 (z_Jl l D B xX12_shut sz0 post 22 (z_Jr post)) := s_lp (body := bX12_shut_32) (s_iload dX12_shut_32 (s_bipush dX12_shut_34 (by decide) (s_icmp_ge (tgt := 81) dX12_shut_36 (by decide) (s_dn tX12_shut_81) (s_iload_n dX12_shut_39 rfl (s_iload dX12_shut_40 (s_iconst dX12_shut_42 (by decide) (s_idiv dX12_shut_43 (s_ishr dX12_shut_44 (s_iload_n dX12_shut_45 rfl (s_iload dX12_shut_46 (s_iconst dX12_shut_48 (by decide) (s_irem dX12_shut_49 (s_ishr dX12_shut_50 (s_iand dX12_shut_51 (s_iconst dX12_shut_52 (by decide) (s_iand dX12_shut_53 (s_iconst dX12_shut_54 (by decide) (s_icmp_ne (tgt := 75) dX12_shut_55 (by decide) tX12_shut_75 (s_iload_n dX12_shut_58 rfl (s_iconst dX12_shut_59 (by decide) (s_aload_n dX12_shut_60 rfl (s_iload dX12_shut_61 (s_iconst dX12_shut_63 (by decide) (s_idiv dX12_shut_64 (s_iload dX12_shut_65 (s_iconst dX12_shut_67 (by decide) (s_irem dX12_shut_68 (s_callV (r := (RX12, TX12, 74)) dX12_shut_69 mX12_childOf meX12_childOf wd1057 wd1058 rfl rfl reX12_childOf rmX12_shut (fitX12_shut_69) wd1059 (s_ishl dX12_shut_72 (s_ior dX12_shut_73 (s_istore_n dX12_shut_74 rfl tX12_shut_75)))))))))))))))))))))))))))))))
set_option maxRecDepth 100000 in
theorem tX12_shut_22 {l : Launch} {D : zD} {B sz0 : Nat} {post : Option Value → zS → Prop} : zSnd l D B xX12_shut sz0 post 22 kX12_shut_22 (z_Jr post) := s_lp (body := bX12_shut_22) (s_iload_n dX12_shut_22 rfl (s_iload_n dX12_shut_23 rfl (s_icmp_eq (tgt := 84) dX12_shut_24 (by decide) (s_dn tX12_shut_84) (s_iload_n dX12_shut_27 rfl (s_istore_n dX12_shut_28 rfl (s_iconst dX12_shut_29 (by decide) (s_istore dX12_shut_30 tX12_shut_32)))))))
set_option maxRecDepth 100000 in
theorem tX12_shut_0 {l : Launch} {D : zD} {B sz0 : Nat} {post : Option Value → zS → Prop} : zSnd l D B xX12_shut sz0 post 0 kX12_shut_0 (z_Jr post) := (s_iload_n dX12_shut_0 rfl (s_iconst dX12_shut_1 (by decide) (s_iconst dX12_shut_2 (by decide) (s_aload_n dX12_shut_3 rfl (s_callV (r := (RX12, TX12, 74)) dX12_shut_4 mX12_base meX12_base wd1036 wd1037 rfl rfl reX12_base rmX12_shut (fitX12_shut_4) wd1038 (s_ishl dX12_shut_7 (s_iconst dX12_shut_8 (by decide) (s_isub dX12_shut_9 (s_callS dX12_shut_10 mX12_in meX12_in wd1033 rfl reX12_in rmX12_shut (fitX12_shut_10) wd1034 (s_if_ne (tgt := 18) dX12_shut_13 (by decide) (s_iload_n dX12_shut_18 rfl (s_istore_n dX12_shut_19 rfl (s_iconst dX12_shut_20 (by decide) (s_istore_n dX12_shut_21 rfl tX12_shut_22)))) (s_iconst dX12_shut_16 (by decide) (s_iret dX12_shut_17 rfl))))))))))))
noncomputable def fX12_shut : zF := z_fn 5 kX12_shut_0
theorem mX12_shut {l : Launch} {D : zD} {B : Nat} : z_MF l D B yX12_shut xX12_shut fX12_shut := z_mf (by decide) rfl (fun h => by cases h) rfl (fun as σ r h => ⟨z_fn_len h, kX12_shut_0, z_fn_run h, fun _ => tX12_shut_0⟩)
