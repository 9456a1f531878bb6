/-! ===== RowChildrenModel.isTurned ===== -/
theorem dX12_isTurned_0 : decode cX12_isTurned 0 = .ok (.aload_n 0, 1) := by decide +kernel
theorem dX12_isTurned_1 : decode cX12_isTurned 1 = .ok (.getfield 340, 3) := by decide +kernel
theorem dX12_isTurned_4 : decode cX12_isTurned 4 = .ok (.iconst 1, 1) := by decide +kernel
theorem dX12_isTurned_5 : decode cX12_isTurned 5 = .ok (.isub, 1) := by decide +kernel
theorem dX12_isTurned_6 : decode cX12_isTurned 6 = .ok (.istore_n 1, 1) := by decide +kernel
theorem dX12_isTurned_7 : decode cX12_isTurned 7 = .ok (.iconst 0, 1) := by decide +kernel
theorem dX12_isTurned_8 : decode cX12_isTurned 8 = .ok (.istore_n 2, 1) := by decide +kernel
theorem dX12_isTurned_9 : decode cX12_isTurned 9 = .ok (.iload_n 2, 1) := by decide +kernel
theorem dX12_isTurned_10 : decode cX12_isTurned 10 = .ok (.iload_n 1, 1) := by decide +kernel
theorem dX12_isTurned_11 : decode cX12_isTurned 11 = .ok (.if_icmp .gt 45, 3) := by decide +kernel
theorem dX12_isTurned_14 : decode cX12_isTurned 14 = .ok (.aload_n 0, 1) := by decide +kernel
theorem dX12_isTurned_15 : decode cX12_isTurned 15 = .ok (.getfield 110, 3) := by decide +kernel
theorem dX12_isTurned_18 : decode cX12_isTurned 18 = .ok (.iload_n 2, 1) := by decide +kernel
theorem dX12_isTurned_19 : decode cX12_isTurned 19 = .ok (.iaload, 1) := by decide +kernel
theorem dX12_isTurned_20 : decode cX12_isTurned 20 = .ok (.aload_n 0, 1) := by decide +kernel
theorem dX12_isTurned_21 : decode cX12_isTurned 21 = .ok (.iload_n 2, 1) := by decide +kernel
theorem dX12_isTurned_22 : decode cX12_isTurned 22 = .ok (.iload_n 1, 1) := by decide +kernel
theorem dX12_isTurned_23 : decode cX12_isTurned 23 = .ok (.iload_n 2, 1) := by decide +kernel
theorem dX12_isTurned_24 : decode cX12_isTurned 24 = .ok (.isub, 1) := by decide +kernel
theorem dX12_isTurned_25 : decode cX12_isTurned 25 = .ok (.invokevirtual 343, 3) := by decide +kernel
theorem dX12_isTurned_28 : decode cX12_isTurned 28 = .ok (.if_icmp .ne 20, 3) := by decide +kernel
theorem dX12_isTurned_31 : decode cX12_isTurned 31 = .ok (.aload_n 0, 1) := by decide +kernel
theorem dX12_isTurned_32 : decode cX12_isTurned 32 = .ok (.getfield 110, 3) := by decide +kernel
theorem dX12_isTurned_35 : decode cX12_isTurned 35 = .ok (.iload_n 2, 1) := by decide +kernel
theorem dX12_isTurned_36 : decode cX12_isTurned 36 = .ok (.iaload, 1) := by decide +kernel
theorem dX12_isTurned_37 : decode cX12_isTurned 37 = .ok (.aload_n 0, 1) := by decide +kernel
theorem dX12_isTurned_38 : decode cX12_isTurned 38 = .ok (.iload_n 1, 1) := by decide +kernel
theorem dX12_isTurned_39 : decode cX12_isTurned 39 = .ok (.iload_n 2, 1) := by decide +kernel
theorem dX12_isTurned_40 : decode cX12_isTurned 40 = .ok (.isub, 1) := by decide +kernel
theorem dX12_isTurned_41 : decode cX12_isTurned 41 = .ok (.iconst 0, 1) := by decide +kernel
theorem dX12_isTurned_42 : decode cX12_isTurned 42 = .ok (.invokevirtual 343, 3) := by decide +kernel
theorem dX12_isTurned_45 : decode cX12_isTurned 45 = .ok (.if_icmp .eq 5, 3) := by decide +kernel
theorem dX12_isTurned_48 : decode cX12_isTurned 48 = .ok (.iconst 0, 1) := by decide +kernel
theorem dX12_isTurned_49 : decode cX12_isTurned 49 = .ok (.ireturn, 1) := by decide +kernel
theorem dX12_isTurned_50 : decode cX12_isTurned 50 = .ok (.iinc 2 1, 3) := by decide +kernel
theorem dX12_isTurned_53 : decode cX12_isTurned 53 = .ok (.goto (-44), 3) := by decide +kernel
theorem dX12_isTurned_56 : decode cX12_isTurned 56 = .ok (.iconst 1, 1) := by decide +kernel
theorem dX12_isTurned_57 : decode cX12_isTurned 57 = .ok (.ireturn, 1) := by decide +kernel
def xX12_isTurned : zX := (RX12, cX12_isTurned, 3, (some .boolean), false, { frames := 2, cells := 0, slots := 0, locals := 112 }, 0, 0, 0, 0)
theorem rmX12_isTurned : z_Rm xX12_isTurned := by unfold z_Rm xX12_isTurned; exact ⟨by decide, by decide⟩
theorem reX12_isTurned : z_Re xX12_isTurned := ⟨rfl, rfl⟩
theorem rlX12_isTurned : 1 ≤ xX12_isTurned.2.2.2.2.2.1.frames ∧ 21 ≤ xX12_isTurned.2.2.2.2.2.1.locals := by unfold xX12_isTurned; exact ⟨by decide, by decide⟩
theorem meX12_isTurned : z_Me yX12_isTurned xX12_isTurned 0 := ⟨wd1078, wd848, by decide, by decide, by decide +kernel⟩
theorem fitX12_isTurned_25 : z_Fit xX12_laidAt xX12_isTurned := by unfold z_Fit; simp only [xX12_laidAt, xX12_isTurned]; exact ⟨by decide, by decide⟩
theorem fitX12_isTurned_42 : z_Fit xX12_laidAt xX12_isTurned := by unfold z_Fit; simp only [xX12_laidAt, xX12_isTurned]; exact ⟨by decide, by decide⟩
noncomputable def kX12_isTurned_56 : zK zR := (q_push 1 q_zret)
noncomputable def kX12_isTurned_48 : zK zR := (q_push 0 q_zret)
noncomputable def bX12_isTurned_9 : zK ((zL × zS) ⊕ zR) := (q_iload 2 (q_iload 1 (q_icmp_gt (q_dn kX12_isTurned_56) (q_aload 0 (q_getR 12 49 (q_iload 2 (q_iald (q_aload 0 (q_iload 2 (q_iload 1 (q_iload 2 (q_isub (q_callV 12 fX12_laidAt 2 (q_icmp_ne (q_dn kX12_isTurned_48) (q_aload 0 (q_getR 12 49 (q_iload 2 (q_iald (q_aload 0 (q_iload 1 (q_iload 2 (q_isub (q_push 0 (q_callV 12 fX12_laidAt 2 (q_icmp_eq (q_iinc 2 1 q_ag) (q_dn kX12_isTurned_48))))))))))))))))))))))))))
noncomputable def kX12_isTurned_9 : zK zR := q_lp (bX12_isTurned_9)
noncomputable def kX12_isTurned_0 : zK zR := (q_aload 0 (q_getI 12 50 (q_push 1 (q_isub (q_istore 1 (q_push 0 (q_istore 2 kX12_isTurned_9)))))))
set_option maxRecDepth 100000 in
theorem tX12_isTurned_56 {l : Launch} {D : zD} {B sz0 : Nat} {post : Option Value → zS → Prop} : zSnd l D B xX12_isTurned sz0 post 56 kX12_isTurned_56 (z_Jr post) := (s_iconst dX12_isTurned_56 (by decide) (s_zret dX12_isTurned_57 rfl))
set_option maxRecDepth 100000 in
theorem tX12_isTurned_48 {l : Launch} {D : zD} {B sz0 : Nat} {post : Option Value → zS → Prop} : zSnd l D B xX12_isTurned sz0 post 48 kX12_isTurned_48 (z_Jr post) := (s_iconst dX12_isTurned_48 (by decide) (s_zret dX12_isTurned_49 rfl))
set_option maxRecDepth 100000 in
theorem tX12_isTurned_9 {l : Launch} {D : zD} {B sz0 : Nat} {post : Option Value → zS → Prop} : zSnd l D B xX12_isTurned sz0 post 9 kX12_isTurned_9 (z_Jr post) := s_lp (body := bX12_isTurned_9) (s_iload_n dX12_isTurned_9 rfl (s_iload_n dX12_isTurned_10 rfl (s_icmp_gt (tgt := 56) dX12_isTurned_11 (by decide) (s_dn tX12_isTurned_56) (s_aload_n dX12_isTurned_14 rfl (s_getR (f := 49) dX12_isTurned_15 clX12 (by decide) rfl wd882 (s_iload_n dX12_isTurned_18 rfl (s_iald dX12_isTurned_19 (s_aload_n dX12_isTurned_20 rfl (s_iload_n dX12_isTurned_21 rfl (s_iload_n dX12_isTurned_22 rfl (s_iload_n dX12_isTurned_23 rfl (s_isub dX12_isTurned_24 (s_callV (r := (RX12, TX12, 74)) dX12_isTurned_25 mX12_laidAt meX12_laidAt wd1054 wd1055 rfl rfl reX12_laidAt rmX12_isTurned (fitX12_isTurned_25) wd1056 (s_icmp_ne (tgt := 48) dX12_isTurned_28 (by decide) (s_dn tX12_isTurned_48) (s_aload_n dX12_isTurned_31 rfl (s_getR (f := 49) dX12_isTurned_32 clX12 (by decide) rfl wd882 (s_iload_n dX12_isTurned_35 rfl (s_iald dX12_isTurned_36 (s_aload_n dX12_isTurned_37 rfl (s_iload_n dX12_isTurned_38 rfl (s_iload_n dX12_isTurned_39 rfl (s_isub dX12_isTurned_40 (s_iconst dX12_isTurned_41 (by decide) (s_callV (r := (RX12, TX12, 74)) dX12_isTurned_42 mX12_laidAt meX12_laidAt wd1054 wd1055 rfl rfl reX12_laidAt rmX12_isTurned (fitX12_isTurned_42) wd1056 (s_icmp_eq (tgt := 50) dX12_isTurned_45 (by decide) (s_iinc dX12_isTurned_50 (by decide) (s_goto (tgt := 9) dX12_isTurned_53 (by decide) s_ag)) (s_dn tX12_isTurned_48))))))))))))))))))))))))))
set_option maxRecDepth 100000 in
theorem tX12_isTurned_0 {l : Launch} {D : zD} {B sz0 : Nat} {post : Option Value → zS → Prop} : zSnd l D B xX12_isTurned sz0 post 0 kX12_isTurned_0 (z_Jr post) := (s_aload_n dX12_isTurned_0 rfl (s_getI (f := 50) dX12_isTurned_1 clX12 (by decide) rfl wd1053 (s_iconst dX12_isTurned_4 (by decide) (s_isub dX12_isTurned_5 (s_istore_n dX12_isTurned_6 rfl (s_iconst dX12_isTurned_7 (by decide) (s_istore_n dX12_isTurned_8 rfl tX12_isTurned_9)))))))
noncomputable def fX12_isTurned : zF := z_fn 3 kX12_isTurned_0
theorem mX12_isTurned {l : Launch} {D : zD} {B : Nat} : z_MF l D B yX12_isTurned xX12_isTurned fX12_isTurned := z_mf (by decide) rfl (fun h => by cases h) rfl (fun as σ r h => ⟨z_fn_len h, kX12_isTurned_0, z_fn_run h, fun _ => tX12_isTurned_0⟩)
/-! ===== RowChildrenModel.lawTells ===== -/
theorem dX12_lawTells_0 : decode cX12_lawTells 0 = .ok (.iconst 4, 1) := by decide +kernel
theorem dX12_lawTells_1 : decode cX12_lawTells 1 = .ok (.aload_n 0, 1) := by decide +kernel
theorem dX12_lawTells_2 : decode cX12_lawTells 2 = .ok (.getfield 249, 3) := by decide +kernel
theorem dX12_lawTells_5 : decode cX12_lawTells 5 = .ok (.imul, 1) := by decide +kernel
theorem dX12_lawTells_6 : decode cX12_lawTells 6 = .ok (.iload_n 1, 1) := by decide +kernel
theorem dX12_lawTells_7 : decode cX12_lawTells 7 = .ok (.iadd, 1) := by decide +kernel
theorem dX12_lawTells_8 : decode cX12_lawTells 8 = .ok (.istore_n 3, 1) := by decide +kernel
theorem dX12_lawTells_9 : decode cX12_lawTells 9 = .ok (.aload_n 0, 1) := by decide +kernel
theorem dX12_lawTells_10 : decode cX12_lawTells 10 = .ok (.getfield 67, 3) := by decide +kernel
theorem dX12_lawTells_13 : decode cX12_lawTells 13 = .ok (.iload_n 3, 1) := by decide +kernel
theorem dX12_lawTells_14 : decode cX12_lawTells 14 = .ok (.iaload, 1) := by decide +kernel
theorem dX12_lawTells_15 : decode cX12_lawTells 15 = .ok (.aload_n 0, 1) := by decide +kernel
theorem dX12_lawTells_16 : decode cX12_lawTells 16 = .ok (.getfield 70, 3) := by decide +kernel
theorem dX12_lawTells_19 : decode cX12_lawTells 19 = .ok (.iload_n 3, 1) := by decide +kernel
theorem dX12_lawTells_20 : decode cX12_lawTells 20 = .ok (.iaload, 1) := by decide +kernel
theorem dX12_lawTells_21 : decode cX12_lawTells 21 = .ok (.if_icmp .ne 5, 3) := by decide +kernel
theorem dX12_lawTells_24 : decode cX12_lawTells 24 = .ok (.iload_n 2, 1) := by decide +kernel
theorem dX12_lawTells_25 : decode cX12_lawTells 25 = .ok (.ireturn, 1) := by decide +kernel
theorem dX12_lawTells_26 : decode cX12_lawTells 26 = .ok (.aload_n 0, 1) := by decide +kernel
theorem dX12_lawTells_27 : decode cX12_lawTells 27 = .ok (.iconst 0, 1) := by decide +kernel
theorem dX12_lawTells_28 : decode cX12_lawTells 28 = .ok (.putfield 319, 3) := by decide +kernel
theorem dX12_lawTells_31 : decode cX12_lawTells 31 = .ok (.aload_n 0, 1) := by decide +kernel
theorem dX12_lawTells_32 : decode cX12_lawTells 32 = .ok (.getfield 67, 3) := by decide +kernel
theorem dX12_lawTells_35 : decode cX12_lawTells 35 = .ok (.iload_n 3, 1) := by decide +kernel
theorem dX12_lawTells_36 : decode cX12_lawTells 36 = .ok (.iaload, 1) := by decide +kernel
theorem dX12_lawTells_37 : decode cX12_lawTells 37 = .ok (.istore 4, 2) := by decide +kernel
theorem dX12_lawTells_39 : decode cX12_lawTells 39 = .ok (.iload 4, 2) := by decide +kernel
theorem dX12_lawTells_41 : decode cX12_lawTells 41 = .ok (.aload_n 0, 1) := by decide +kernel
theorem dX12_lawTells_42 : decode cX12_lawTells 42 = .ok (.getfield 70, 3) := by decide +kernel
theorem dX12_lawTells_45 : decode cX12_lawTells 45 = .ok (.iload_n 3, 1) := by decide +kernel
theorem dX12_lawTells_46 : decode cX12_lawTells 46 = .ok (.iaload, 1) := by decide +kernel
theorem dX12_lawTells_47 : decode cX12_lawTells 47 = .ok (.if_icmp .ge 112, 3) := by decide +kernel
theorem dX12_lawTells_50 : decode cX12_lawTells 50 = .ok (.aload_n 0, 1) := by decide +kernel
theorem dX12_lawTells_51 : decode cX12_lawTells 51 = .ok (.getfield 73, 3) := by decide +kernel
theorem dX12_lawTells_54 : decode cX12_lawTells 54 = .ok (.iload 4, 2) := by decide +kernel
theorem dX12_lawTells_56 : decode cX12_lawTells 56 = .ok (.baload, 1) := by decide +kernel
theorem dX12_lawTells_57 : decode cX12_lawTells 57 = .ok (.ifCond .eq 62, 3) := by decide +kernel
theorem dX12_lawTells_60 : decode cX12_lawTells 60 = .ok (.aload_n 0, 1) := by decide +kernel
theorem dX12_lawTells_61 : decode cX12_lawTells 61 = .ok (.aload_n 0, 1) := by decide +kernel
theorem dX12_lawTells_62 : decode cX12_lawTells 62 = .ok (.getfield 77, 3) := by decide +kernel
theorem dX12_lawTells_65 : decode cX12_lawTells 65 = .ok (.iload 4, 2) := by decide +kernel
theorem dX12_lawTells_67 : decode cX12_lawTells 67 = .ok (.iaload, 1) := by decide +kernel
theorem dX12_lawTells_68 : decode cX12_lawTells 68 = .ok (.aload_n 0, 1) := by decide +kernel
theorem dX12_lawTells_69 : decode cX12_lawTells 69 = .ok (.getfield 80, 3) := by decide +kernel
theorem dX12_lawTells_72 : decode cX12_lawTells 72 = .ok (.iload 4, 2) := by decide +kernel
theorem dX12_lawTells_74 : decode cX12_lawTells 74 = .ok (.iaload, 1) := by decide +kernel
theorem dX12_lawTells_75 : decode cX12_lawTells 75 = .ok (.invokevirtual 358, 3) := by decide +kernel
theorem dX12_lawTells_78 : decode cX12_lawTells 78 = .ok (.istore 5, 2) := by decide +kernel
theorem dX12_lawTells_80 : decode cX12_lawTells 80 = .ok (.aload_n 0, 1) := by decide +kernel
theorem dX12_lawTells_81 : decode cX12_lawTells 81 = .ok (.aload_n 0, 1) := by decide +kernel
theorem dX12_lawTells_82 : decode cX12_lawTells 82 = .ok (.getfield 80, 3) := by decide +kernel
theorem dX12_lawTells_85 : decode cX12_lawTells 85 = .ok (.iload 4, 2) := by decide +kernel
theorem dX12_lawTells_87 : decode cX12_lawTells 87 = .ok (.iaload, 1) := by decide +kernel
theorem dX12_lawTells_88 : decode cX12_lawTells 88 = .ok (.aload_n 0, 1) := by decide +kernel
theorem dX12_lawTells_89 : decode cX12_lawTells 89 = .ok (.getfield 83, 3) := by decide +kernel
theorem dX12_lawTells_92 : decode cX12_lawTells 92 = .ok (.iload 4, 2) := by decide +kernel
theorem dX12_lawTells_94 : decode cX12_lawTells 94 = .ok (.iaload, 1) := by decide +kernel
theorem dX12_lawTells_95 : decode cX12_lawTells 95 = .ok (.invokevirtual 358, 3) := by decide +kernel
theorem dX12_lawTells_98 : decode cX12_lawTells 98 = .ok (.istore 6, 2) := by decide +kernel
theorem dX12_lawTells_100 : decode cX12_lawTells 100 = .ok (.aload_n 0, 1) := by decide +kernel
theorem dX12_lawTells_101 : decode cX12_lawTells 101 = .ok (.getfield 319, 3) := by decide +kernel
theorem dX12_lawTells_104 : decode cX12_lawTells 104 = .ok (.ifCond .eq 5, 3) := by decide +kernel
theorem dX12_lawTells_107 : decode cX12_lawTells 107 = .ok (.iconst 0, 1) := by decide +kernel
theorem dX12_lawTells_108 : decode cX12_lawTells 108 = .ok (.ireturn, 1) := by decide +kernel
theorem dX12_lawTells_109 : decode cX12_lawTells 109 = .ok (.iload 5, 2) := by decide +kernel
theorem dX12_lawTells_111 : decode cX12_lawTells 111 = .ok (.iload 6, 2) := by decide +kernel
theorem dX12_lawTells_113 : decode cX12_lawTells 113 = .ok (.if_icmp .lt 6, 3) := by decide +kernel
theorem dX12_lawTells_116 : decode cX12_lawTells 116 = .ok (.goto 37, 3) := by decide +kernel
theorem dX12_lawTells_119 : decode cX12_lawTells 119 = .ok (.aload_n 0, 1) := by decide +kernel
theorem dX12_lawTells_120 : decode cX12_lawTells 120 = .ok (.aload_n 0, 1) := by decide +kernel
theorem dX12_lawTells_121 : decode cX12_lawTells 121 = .ok (.getfield 83, 3) := by decide +kernel
theorem dX12_lawTells_124 : decode cX12_lawTells 124 = .ok (.iload 4, 2) := by decide +kernel
theorem dX12_lawTells_126 : decode cX12_lawTells 126 = .ok (.iaload, 1) := by decide +kernel
theorem dX12_lawTells_127 : decode cX12_lawTells 127 = .ok (.aload_n 0, 1) := by decide +kernel
theorem dX12_lawTells_128 : decode cX12_lawTells 128 = .ok (.getfield 86, 3) := by decide +kernel
theorem dX12_lawTells_131 : decode cX12_lawTells 131 = .ok (.iload 4, 2) := by decide +kernel
theorem dX12_lawTells_133 : decode cX12_lawTells 133 = .ok (.iaload, 1) := by decide +kernel
theorem dX12_lawTells_134 : decode cX12_lawTells 134 = .ok (.invokevirtual 358, 3) := by decide +kernel
theorem dX12_lawTells_137 : decode cX12_lawTells 137 = .ok (.istore 5, 2) := by decide +kernel
theorem dX12_lawTells_139 : decode cX12_lawTells 139 = .ok (.aload_n 0, 1) := by decide +kernel
theorem dX12_lawTells_140 : decode cX12_lawTells 140 = .ok (.getfield 319, 3) := by decide +kernel
theorem dX12_lawTells_143 : decode cX12_lawTells 143 = .ok (.ifCond .eq 7, 3) := by decide +kernel
theorem dX12_lawTells_146 : decode cX12_lawTells 146 = .ok (.iconst 0, 1) := by decide +kernel
theorem dX12_lawTells_147 : decode cX12_lawTells 147 = .ok (.goto 5, 3) := by decide +kernel
theorem dX12_lawTells_150 : decode cX12_lawTells 150 = .ok (.iload 5, 2) := by decide +kernel
theorem dX12_lawTells_152 : decode cX12_lawTells 152 = .ok (.ireturn, 1) := by decide +kernel
theorem dX12_lawTells_153 : decode cX12_lawTells 153 = .ok (.iinc 4 1, 3) := by decide +kernel
theorem dX12_lawTells_156 : decode cX12_lawTells 156 = .ok (.goto (-117), 3) := by decide +kernel
theorem dX12_lawTells_159 : decode cX12_lawTells 159 = .ok (.iconst 0, 1) := by decide +kernel
theorem dX12_lawTells_160 : decode cX12_lawTells 160 = .ok (.ireturn, 1) := by decide +kernel
def xX12_lawTells : zX := (RX12, cX12_lawTells, 7, (some .int), false, { frames := 2, cells := 0, slots := 0, locals := 117 }, 0, 0, 0, 0)
theorem rmX12_lawTells : z_Rm xX12_lawTells := by unfold z_Rm xX12_lawTells; exact ⟨by decide, by decide⟩
theorem reX12_lawTells : z_Re xX12_lawTells := ⟨rfl, rfl⟩
theorem rlX12_lawTells : 1 ≤ xX12_lawTells.2.2.2.2.2.1.frames ∧ 21 ≤ xX12_lawTells.2.2.2.2.2.1.locals := by unfold xX12_lawTells; exact ⟨by decide, by decide⟩
theorem meX12_lawTells : z_Me yX12_lawTells xX12_lawTells 2 := ⟨wd1082, wd848, by decide, by decide, by decide +kernel⟩
theorem fitX12_lawTells_134 : z_Fit xX12_termOf xX12_lawTells := by unfold z_Fit; simp only [xX12_termOf, xX12_lawTells]; exact ⟨by decide, by decide⟩
theorem fitX12_lawTells_75 : z_Fit xX12_termOf xX12_lawTells := by unfold z_Fit; simp only [xX12_termOf, xX12_lawTells]; exact ⟨by decide, by decide⟩
theorem fitX12_lawTells_95 : z_Fit xX12_termOf xX12_lawTells := by unfold z_Fit; simp only [xX12_termOf, xX12_lawTells]; exact ⟨by decide, by decide⟩
noncomputable def kX12_lawTells_159 : zK zR := (q_push 0 q_iret)
noncomputable def kX12_lawTells_152 : zK zR := q_iret
noncomputable def kX12_lawTells_119 : zK zR := (q_aload 0 (q_aload 0 (q_getR 12 36 (q_iload 4 (q_iald (q_aload 0 (q_getR 12 37 (q_iload 4 (q_iald (q_callV 12 fX12_termOf 2 (q_istore 5 (q_aload 0 (q_getI 12 45 (q_if_eq (q_iload 5 kX12_lawTells_152) (q_push 0 kX12_lawTells_152)))))))))))))))
noncomputable def kX12_lawTells_107 : zK zR := (q_push 0 q_iret)
noncomputable def bX12_lawTells_39 : zK ((zL × zS) ⊕ zR) := (q_iload 4 (q_aload 0 (q_getR 12 31 (q_iload 3 (q_iald (q_icmp_ge (q_dn kX12_lawTells_159) (q_aload 0 (q_getR 12 33 (q_iload 4 (q_zald (q_if_eq (q_dn kX12_lawTells_119) (q_aload 0 (q_aload 0 (q_getR 12 34 (q_iload 4 (q_iald (q_aload 0 (q_getR 12 35 (q_iload 4 (q_iald (q_callV 12 fX12_termOf 2 (q_istore 5 (q_aload 0 (q_aload 0 (q_getR 12 35 (q_iload 4 (q_iald (q_aload 0 (q_getR 12 36 (q_iload 4 (q_iald (q_callV 12 fX12_termOf 2 (q_istore 6 (q_aload 0 (q_getI 12 45 (q_if_eq (q_iload 5 (q_iload 6 (q_icmp_lt (q_dn kX12_lawTells_119) (q_iinc 4 1 q_ag)))) (q_dn kX12_lawTells_107)))))))))))))))))))))))))))))))))))))
noncomputable def kX12_lawTells_39 : zK zR := q_lp (bX12_lawTells_39)
noncomputable def kX12_lawTells_0 : zK zR := (q_push 4 (q_aload 0 (q_getI 12 18 (q_imul (q_iload 1 (q_iadd (q_istore 3 (q_aload 0 (q_getR 12 30 (q_iload 3 (q_iald (q_aload 0 (q_getR 12 31 (q_iload 3 (q_iald (q_icmp_ne (q_aload 0 (q_push 0 (q_putZ 12 45 (q_aload 0 (q_getR 12 30 (q_iload 3 (q_iald (q_istore 4 kX12_lawTells_39)))))))) (q_iload 2 q_iret)))))))))))))))))
set_option maxRecDepth 100000 in
theorem tX12_lawTells_159 {l : Launch} {D : zD} {B sz0 : Nat} {post : Option Value → zS → Prop} : zSnd l D B xX12_lawTells sz0 post 159 kX12_lawTells_159 (z_Jr post) := (s_iconst dX12_lawTells_159 (by decide) (s_iret dX12_lawTells_160 rfl))
set_option maxRecDepth 100000 in
theorem tX12_lawTells_152 {l : Launch} {D : zD} {B sz0 : Nat} {post : Option Value → zS → Prop} : zSnd l D B xX12_lawTells sz0 post 152 kX12_lawTells_152 (z_Jr post) := (s_iret dX12_lawTells_152 rfl)
set_option maxRecDepth 100000 in
theorem tX12_lawTells_119 {l : Launch} {D : zD} {B sz0 : Nat} {post : Option Value → zS → Prop} : zSnd l D B xX12_lawTells sz0 post 119 kX12_lawTells_119 (z_Jr post) := (s_aload_n dX12_lawTells_119 rfl (s_aload_n dX12_lawTells_120 rfl (s_getR (f := 36) dX12_lawTells_121 clX12 (by decide) rfl wd875 (s_iload dX12_lawTells_124 (s_iald dX12_lawTells_126 (s_aload_n dX12_lawTells_127 rfl (s_getR (f := 37) dX12_lawTells_128 clX12 (by decide) rfl wd876 (s_iload dX12_lawTells_131 (s_iald dX12_lawTells_133 (s_callV (r := (RX12, TX12, 74)) dX12_lawTells_134 mX12_termOf meX12_termOf wd1079 wd1080 rfl rfl reX12_termOf rmX12_lawTells (fitX12_lawTells_134) wd1081 (s_istore dX12_lawTells_137 (s_aload_n dX12_lawTells_139 rfl (s_getI (f := 45) dX12_lawTells_140 clX12 (by decide) rfl wd1028 (s_if_eq (tgt := 150) dX12_lawTells_143 (by decide) (s_iload dX12_lawTells_150 tX12_lawTells_152) (s_iconst dX12_lawTells_146 (by decide) (s_goto (tgt := 152) dX12_lawTells_147 (by decide) tX12_lawTells_152))))))))))))))))
set_option maxRecDepth 100000 in
theorem tX12_lawTells_107 {l : Launch} {D : zD} {B sz0 : Nat} {post : Option Value → zS → Prop} : zSnd l D B xX12_lawTells sz0 post 107 kX12_lawTells_107 (z_Jr post) := (s_iconst dX12_lawTells_107 (by decide) (s_iret dX12_lawTells_108 rfl))
set_option maxRecDepth 100000 in
theorem tX12_lawTells_39 {l : Launch} {D : zD} {B sz0 : Nat} {post : Option Value → zS → Prop} : zSnd l D B xX12_lawTells sz0 post 39 kX12_lawTells_39 (z_Jr post) := s_lp (body := bX12_lawTells_39) (s_iload dX12_lawTells_39 (s_aload_n dX12_lawTells_41 rfl (s_getR (f := 31) dX12_lawTells_42 clX12 (by decide) rfl wd845 (s_iload_n dX12_lawTells_45 rfl (s_iald dX12_lawTells_46 (s_icmp_ge (tgt := 159) dX12_lawTells_47 (by decide) (s_dn tX12_lawTells_159) (s_aload_n dX12_lawTells_50 rfl (s_getR (f := 33) dX12_lawTells_51 clX12 (by decide) rfl wd872 (s_iload dX12_lawTells_54 (s_zald dX12_lawTells_56 (s_if_eq (tgt := 119) dX12_lawTells_57 (by decide) (s_dn tX12_lawTells_119) (s_aload_n dX12_lawTells_60 rfl (s_aload_n dX12_lawTells_61 rfl (s_getR (f := 34) dX12_lawTells_62 clX12 (by decide) rfl wd873 (s_iload dX12_lawTells_65 (s_iald dX12_lawTells_67 (s_aload_n dX12_lawTells_68 rfl (s_getR (f := 35) dX12_lawTells_69 clX12 (by decide) rfl wd874 (s_iload dX12_lawTells_72 (s_iald dX12_lawTells_74 (s_callV (r := (RX12, TX12, 74)) dX12_lawTells_75 mX12_termOf meX12_termOf wd1079 wd1080 rfl rfl reX12_termOf rmX12_lawTells (fitX12_lawTells_75) wd1081 (s_istore dX12_lawTells_78 (s_aload_n dX12_lawTells_80 rfl (s_aload_n dX12_lawTells_81 rfl (s_getR (f := 35) dX12_lawTells_82 clX12 (by decide) rfl wd874 (s_iload dX12_lawTells_85 (s_iald dX12_lawTells_87 (s_aload_n dX12_lawTells_88 rfl (s_getR (f := 36) dX12_lawTells_89 clX12 (by decide) rfl wd875 (s_iload dX12_lawTells_92 (s_iald dX12_lawTells_94 (s_callV (r := (RX12, TX12, 74)) dX12_lawTells_95 mX12_termOf meX12_termOf wd1079 wd1080 rfl rfl reX12_termOf rmX12_lawTells (fitX12_lawTells_95) wd1081 (s_istore dX12_lawTells_98 (s_aload_n dX12_lawTells_100 rfl (s_getI (f := 45) dX12_lawTells_101 clX12 (by decide) rfl wd1028 (s_if_eq (tgt := 109) dX12_lawTells_104 (by decide) (s_iload dX12_lawTells_109 (s_iload dX12_lawTells_111 (s_icmp_lt (tgt := 119) dX12_lawTells_113 (by decide) (s_dn tX12_lawTells_119) (s_goto (tgt := 153) dX12_lawTells_116 (by decide) (s_iinc dX12_lawTells_153 (by decide) (s_goto (tgt := 39) dX12_lawTells_156 (by decide) s_ag)))))) (s_dn tX12_lawTells_107)))))))))))))))))))))))))))))))))))))
set_option maxRecDepth 100000 in
theorem tX12_lawTells_0 {l : Launch} {D : zD} {B sz0 : Nat} {post : Option Value → zS → Prop} : zSnd l D B xX12_lawTells sz0 post 0 kX12_lawTells_0 (z_Jr post) := (s_iconst dX12_lawTells_0 (by decide) (s_aload_n dX12_lawTells_1 rfl (s_getI (f := 18) dX12_lawTells_2 clX12 (by decide) rfl wd854 (s_imul dX12_lawTells_5 (s_iload_n dX12_lawTells_6 rfl (s_iadd dX12_lawTells_7 (s_istore_n dX12_lawTells_8 rfl (s_aload_n dX12_lawTells_9 rfl (s_getR (f := 30) dX12_lawTells_10 clX12 (by decide) rfl wd844 (s_iload_n dX12_lawTells_13 rfl (s_iald dX12_lawTells_14 (s_aload_n dX12_lawTells_15 rfl (s_getR (f := 31) dX12_lawTells_16 clX12 (by decide) rfl wd845 (s_iload_n dX12_lawTells_19 rfl (s_iald dX12_lawTells_20 (s_icmp_ne (tgt := 26) dX12_lawTells_21 (by decide) (s_aload_n dX12_lawTells_26 rfl (s_iconst dX12_lawTells_27 (by decide) (s_putZ (f := 45) dX12_lawTells_28 clX12 (by decide) rfl rfl rfl wd1028 (s_aload_n dX12_lawTells_31 rfl (s_getR (f := 30) dX12_lawTells_32 clX12 (by decide) rfl wd844 (s_iload_n dX12_lawTells_35 rfl (s_iald dX12_lawTells_36 (s_istore dX12_lawTells_37 tX12_lawTells_39)))))))) (s_iload_n dX12_lawTells_24 rfl (s_iret dX12_lawTells_25 rfl))))))))))))))))))
noncomputable def fX12_lawTells : zF := z_fn 7 kX12_lawTells_0
theorem mX12_lawTells {l : Launch} {D : zD} {B : Nat} : z_MF l D B yX12_lawTells xX12_lawTells fX12_lawTells := z_mf (by decide) rfl (fun h => by cases h) rfl (fun as σ r h => ⟨z_fn_len h, kX12_lawTells_0, z_fn_run h, fun _ => tX12_lawTells_0⟩)
/-! ===== RowChildrenModel.manyIn ===== -/
theorem dX12_manyIn_0 : decode cX12_manyIn 0 = .ok (.iconst 0, 1) := by decide +kernel
theorem dX12_manyIn_1 : decode cX12_manyIn 1 = .ok (.istore_n 3, 1) := by decide +kernel
theorem dX12_manyIn_2 : decode cX12_manyIn 2 = .ok (.iconst 0, 1) := by decide +kernel
theorem dX12_manyIn_3 : decode cX12_manyIn 3 = .ok (.istore 4, 2) := by decide +kernel
theorem dX12_manyIn_5 : decode cX12_manyIn 5 = .ok (.iload 4, 2) := by decide +kernel
theorem dX12_manyIn_7 : decode cX12_manyIn 7 = .ok (.aload_n 0, 1) := by decide +kernel
theorem dX12_manyIn_8 : decode cX12_manyIn 8 = .ok (.getfield 107, 3) := by decide +kernel
theorem dX12_manyIn_11 : decode cX12_manyIn 11 = .ok (.iload_n 1, 1) := by decide +kernel
theorem dX12_manyIn_12 : decode cX12_manyIn 12 = .ok (.iaload, 1) := by decide +kernel
theorem dX12_manyIn_13 : decode cX12_manyIn 13 = .ok (.if_icmp .ge 23, 3) := by decide +kernel
theorem dX12_manyIn_16 : decode cX12_manyIn 16 = .ok (.aload_n 0, 1) := by decide +kernel
theorem dX12_manyIn_17 : decode cX12_manyIn 17 = .ok (.iload_n 1, 1) := by decide +kernel
theorem dX12_manyIn_18 : decode cX12_manyIn 18 = .ok (.iload 4, 2) := by decide +kernel
theorem dX12_manyIn_20 : decode cX12_manyIn 20 = .ok (.invokevirtual 349, 3) := by decide +kernel
theorem dX12_manyIn_23 : decode cX12_manyIn 23 = .ok (.iload_n 2, 1) := by decide +kernel
theorem dX12_manyIn_24 : decode cX12_manyIn 24 = .ok (.if_icmp .ne 6, 3) := by decide +kernel
theorem dX12_manyIn_27 : decode cX12_manyIn 27 = .ok (.iinc 3 1, 3) := by decide +kernel
theorem dX12_manyIn_30 : decode cX12_manyIn 30 = .ok (.iinc 4 1, 3) := by decide +kernel
theorem dX12_manyIn_33 : decode cX12_manyIn 33 = .ok (.goto (-28), 3) := by decide +kernel
theorem dX12_manyIn_36 : decode cX12_manyIn 36 = .ok (.iload_n 3, 1) := by decide +kernel
theorem dX12_manyIn_37 : decode cX12_manyIn 37 = .ok (.ireturn, 1) := by decide +kernel
def xX12_manyIn : zX := (RX12, cX12_manyIn, 5, (some .int), false, { frames := 2, cells := 0, slots := 0, locals := 112 }, 0, 0, 0, 0)
theorem rmX12_manyIn : z_Rm xX12_manyIn := by unfold z_Rm xX12_manyIn; exact ⟨by decide, by decide⟩
theorem reX12_manyIn : z_Re xX12_manyIn := ⟨rfl, rfl⟩
theorem rlX12_manyIn : 1 ≤ xX12_manyIn.2.2.2.2.2.1.frames ∧ 21 ≤ xX12_manyIn.2.2.2.2.2.1.locals := by unfold xX12_manyIn; exact ⟨by decide, by decide⟩
theorem meX12_manyIn : z_Me yX12_manyIn xX12_manyIn 2 := ⟨wd1083, wd848, by decide, by decide, by decide +kernel⟩
theorem fitX12_manyIn_20 : z_Fit xX12_seatAt xX12_manyIn := by unfold z_Fit; simp only [xX12_seatAt, xX12_manyIn]; exact ⟨by decide, by decide⟩
noncomputable def kX12_manyIn_36 : zK zR := (q_iload 3 q_iret)
noncomputable def kX12_manyIn_30 : zK ((zL × zS) ⊕ zR) := (q_iinc 4 1 q_ag)
noncomputable def bX12_manyIn_5 : zK ((zL × zS) ⊕ zR) := (q_iload 4 (q_aload 0 (q_getR 12 47 (q_iload 1 (q_iald (q_icmp_ge (q_dn kX12_manyIn_36) (q_aload 0 (q_iload 1 (q_iload 4 (q_callV 12 fX12_seatAt 2 (q_iload 2 (q_icmp_ne kX12_manyIn_30 (q_iinc 3 1 kX12_manyIn_30)))))))))))))
noncomputable def kX12_manyIn_5 : zK zR := q_lp (bX12_manyIn_5)
noncomputable def kX12_manyIn_0 : zK zR := (q_push 0 (q_istore 3 (q_push 0 (q_istore 4 kX12_manyIn_5))))
set_option maxRecDepth 100000 in
theorem tX12_manyIn_36 {l : Launch} {D : zD} {B sz0 : Nat} {post : Option Value → zS → Prop} : zSnd l D B xX12_manyIn sz0 post 36 kX12_manyIn_36 (z_Jr post) := (s_iload_n dX12_manyIn_36 rfl (s_iret dX12_manyIn_37 rfl))
set_option maxRecDepth 100000 in
theorem tX12_manyIn_30 {l : Launch} {D : zD} {B sz0 : Nat} {post : Option Value → zS → Prop} : zSnd l D B xX12_manyIn sz0 post 30 kX12_manyIn_30 (z_Jl l D B xX12_manyIn sz0 post 5 (z_Jr post)) := (s_iinc dX12_manyIn_30 (by decide) (s_goto (tgt := 5) dX12_manyIn_33 (by decide) s_ag))
set_option maxRecDepth 100000 in
theorem tX12_manyIn_5 {l : Launch} {D : zD} {B sz0 : Nat} {post : Option Value → zS → Prop} : zSnd l D B xX12_manyIn sz0 post 5 kX12_manyIn_5 (z_Jr post) := s_lp (body := bX12_manyIn_5) (s_iload dX12_manyIn_5 (s_aload_n dX12_manyIn_7 rfl (s_getR (f := 47) dX12_manyIn_8 clX12 (by decide) rfl wd856 (s_iload_n dX12_manyIn_11 rfl (s_iald dX12_manyIn_12 (s_icmp_ge (tgt := 36) dX12_manyIn_13 (by decide) (s_dn tX12_manyIn_36) (s_aload_n dX12_manyIn_16 rfl (s_iload_n dX12_manyIn_17 rfl (s_iload dX12_manyIn_18 (s_callV (r := (RX12, TX12, 74)) dX12_manyIn_20 mX12_seatAt meX12_seatAt wd1064 wd1065 rfl rfl reX12_seatAt rmX12_manyIn (fitX12_manyIn_20) wd1066 (s_iload_n dX12_manyIn_23 rfl (s_icmp_ne (tgt := 30) dX12_manyIn_24 (by decide) tX12_manyIn_30 (s_iinc dX12_manyIn_27 (by decide) tX12_manyIn_30)))))))))))))
set_option maxRecDepth 100000 in
theorem tX12_manyIn_0 {l : Launch} {D : zD} {B sz0 : Nat} {post : Option Value → zS → Prop} : zSnd l D B xX12_manyIn sz0 post 0 kX12_manyIn_0 (z_Jr post) := (s_iconst dX12_manyIn_0 (by decide) (s_istore_n dX12_manyIn_1 rfl (s_iconst dX12_manyIn_2 (by decide) (s_istore dX12_manyIn_3 tX12_manyIn_5))))
noncomputable def fX12_manyIn : zF := z_fn 5 kX12_manyIn_0
theorem mX12_manyIn {l : Launch} {D : zD} {B : Nat} : z_MF l D B yX12_manyIn xX12_manyIn fX12_manyIn := z_mf (by decide) rfl (fun h => by cases h) rfl (fun as σ r h => ⟨z_fn_len h, kX12_manyIn_0, z_fn_run h, fun _ => tX12_manyIn_0⟩)
/-! ===== RowChildrenModel.looks ===== -/
theorem dX12_looks_0 : decode cX12_looks 0 = .ok (.aload_n 0, 1) := by decide +kernel
theorem dX12_looks_1 : decode cX12_looks 1 = .ok (.getfield 98, 3) := by decide +kernel
theorem dX12_looks_4 : decode cX12_looks 4 = .ok (.iconst 0, 1) := by decide +kernel
theorem dX12_looks_5 : decode cX12_looks 5 = .ok (.iload 4, 2) := by decide +kernel
theorem dX12_looks_7 : decode cX12_looks 7 = .ok (.iastore, 1) := by decide +kernel
theorem dX12_looks_8 : decode cX12_looks 8 = .ok (.aload_n 0, 1) := by decide +kernel
theorem dX12_looks_9 : decode cX12_looks 9 = .ok (.getfield 98, 3) := by decide +kernel
theorem dX12_looks_12 : decode cX12_looks 12 = .ok (.iconst 1, 1) := by decide +kernel
theorem dX12_looks_13 : decode cX12_looks 13 = .ok (.iload_n 3, 1) := by decide +kernel
theorem dX12_looks_14 : decode cX12_looks 14 = .ok (.iastore, 1) := by decide +kernel
theorem dX12_looks_15 : decode cX12_looks 15 = .ok (.aload_n 0, 1) := by decide +kernel
theorem dX12_looks_16 : decode cX12_looks 16 = .ok (.getfield 98, 3) := by decide +kernel
theorem dX12_looks_19 : decode cX12_looks 19 = .ok (.iconst 2, 1) := by decide +kernel
theorem dX12_looks_20 : decode cX12_looks 20 = .ok (.iload_n 2, 1) := by decide +kernel
theorem dX12_looks_21 : decode cX12_looks 21 = .ok (.iastore, 1) := by decide +kernel
theorem dX12_looks_22 : decode cX12_looks 22 = .ok (.aload_n 0, 1) := by decide +kernel
theorem dX12_looks_23 : decode cX12_looks 23 = .ok (.getfield 98, 3) := by decide +kernel
theorem dX12_looks_26 : decode cX12_looks 26 = .ok (.iconst 3, 1) := by decide +kernel
theorem dX12_looks_27 : decode cX12_looks 27 = .ok (.aload_n 0, 1) := by decide +kernel
theorem dX12_looks_28 : decode cX12_looks 28 = .ok (.getfield 107, 3) := by decide +kernel
theorem dX12_looks_31 : decode cX12_looks 31 = .ok (.iload_n 1, 1) := by decide +kernel
theorem dX12_looks_32 : decode cX12_looks 32 = .ok (.iaload, 1) := by decide +kernel
theorem dX12_looks_33 : decode cX12_looks 33 = .ok (.iastore, 1) := by decide +kernel
theorem dX12_looks_34 : decode cX12_looks 34 = .ok (.aload_n 0, 1) := by decide +kernel
theorem dX12_looks_35 : decode cX12_looks 35 = .ok (.getfield 98, 3) := by decide +kernel
theorem dX12_looks_38 : decode cX12_looks 38 = .ok (.iconst 4, 1) := by decide +kernel
theorem dX12_looks_39 : decode cX12_looks 39 = .ok (.aload_n 0, 1) := by decide +kernel
theorem dX12_looks_40 : decode cX12_looks 40 = .ok (.iload_n 1, 1) := by decide +kernel
theorem dX12_looks_41 : decode cX12_looks 41 = .ok (.iload 4, 2) := by decide +kernel
theorem dX12_looks_43 : decode cX12_looks 43 = .ok (.invokevirtual 361, 3) := by decide +kernel
theorem dX12_looks_46 : decode cX12_looks 46 = .ok (.iastore, 1) := by decide +kernel
theorem dX12_looks_47 : decode cX12_looks 47 = .ok (.aload_n 0, 1) := by decide +kernel
theorem dX12_looks_48 : decode cX12_looks 48 = .ok (.getfield 98, 3) := by decide +kernel
theorem dX12_looks_51 : decode cX12_looks 51 = .ok (.iconst 5, 1) := by decide +kernel
theorem dX12_looks_52 : decode cX12_looks 52 = .ok (.aload_n 0, 1) := by decide +kernel
theorem dX12_looks_53 : decode cX12_looks 53 = .ok (.getfield 107, 3) := by decide +kernel
theorem dX12_looks_56 : decode cX12_looks 56 = .ok (.bipush 36, 2) := by decide +kernel
theorem dX12_looks_58 : decode cX12_looks 58 = .ok (.iaload, 1) := by decide +kernel
theorem dX12_looks_59 : decode cX12_looks 59 = .ok (.iastore, 1) := by decide +kernel
theorem dX12_looks_60 : decode cX12_looks 60 = .ok (.aload_n 0, 1) := by decide +kernel
theorem dX12_looks_61 : decode cX12_looks 61 = .ok (.getfield 98, 3) := by decide +kernel
theorem dX12_looks_64 : decode cX12_looks 64 = .ok (.bipush 6, 2) := by decide +kernel
theorem dX12_looks_66 : decode cX12_looks 66 = .ok (.iload_n 1, 1) := by decide +kernel
theorem dX12_looks_67 : decode cX12_looks 67 = .ok (.iastore, 1) := by decide +kernel
theorem dX12_looks_68 : decode cX12_looks 68 = .ok (.aload_n 0, 1) := by decide +kernel
theorem dX12_looks_69 : decode cX12_looks 69 = .ok (.getfield 98, 3) := by decide +kernel
theorem dX12_looks_72 : decode cX12_looks 72 = .ok (.bipush 7, 2) := by decide +kernel
theorem dX12_looks_74 : decode cX12_looks 74 = .ok (.iload_n 2, 1) := by decide +kernel
theorem dX12_looks_75 : decode cX12_looks 75 = .ok (.ifCond .ne 7, 3) := by decide +kernel
theorem dX12_looks_78 : decode cX12_looks 78 = .ok (.iconst 0, 1) := by decide +kernel
theorem dX12_looks_79 : decode cX12_looks 79 = .ok (.goto 11, 3) := by decide +kernel
theorem dX12_looks_82 : decode cX12_looks 82 = .ok (.aload_n 0, 1) := by decide +kernel
theorem dX12_looks_83 : decode cX12_looks 83 = .ok (.iload_n 2, 1) := by decide +kernel
theorem dX12_looks_84 : decode cX12_looks 84 = .ok (.iconst 1, 1) := by decide +kernel
theorem dX12_looks_85 : decode cX12_looks 85 = .ok (.isub, 1) := by decide +kernel
theorem dX12_looks_86 : decode cX12_looks 86 = .ok (.iload_n 3, 1) := by decide +kernel
theorem dX12_looks_87 : decode cX12_looks 87 = .ok (.invokevirtual 343, 3) := by decide +kernel
theorem dX12_looks_90 : decode cX12_looks 90 = .ok (.iastore, 1) := by decide +kernel
theorem dX12_looks_91 : decode cX12_looks 91 = .ok (.aload_n 0, 1) := by decide +kernel
theorem dX12_looks_92 : decode cX12_looks 92 = .ok (.getfield 98, 3) := by decide +kernel
theorem dX12_looks_95 : decode cX12_looks 95 = .ok (.bipush 8, 2) := by decide +kernel
theorem dX12_looks_97 : decode cX12_looks 97 = .ok (.iload_n 2, 1) := by decide +kernel
theorem dX12_looks_98 : decode cX12_looks 98 = .ok (.ifCond .ne 7, 3) := by decide +kernel
theorem dX12_looks_101 : decode cX12_looks 101 = .ok (.iconst 0, 1) := by decide +kernel
theorem dX12_looks_102 : decode cX12_looks 102 = .ok (.goto 13, 3) := by decide +kernel
theorem dX12_looks_105 : decode cX12_looks 105 = .ok (.aload_n 0, 1) := by decide +kernel
theorem dX12_looks_106 : decode cX12_looks 106 = .ok (.iload_n 2, 1) := by decide +kernel
theorem dX12_looks_107 : decode cX12_looks 107 = .ok (.iconst 1, 1) := by decide +kernel
theorem dX12_looks_108 : decode cX12_looks 108 = .ok (.isub, 1) := by decide +kernel
theorem dX12_looks_109 : decode cX12_looks 109 = .ok (.iload_n 3, 1) := by decide +kernel
theorem dX12_looks_110 : decode cX12_looks 110 = .ok (.iconst 1, 1) := by decide +kernel
theorem dX12_looks_111 : decode cX12_looks 111 = .ok (.iadd, 1) := by decide +kernel
theorem dX12_looks_112 : decode cX12_looks 112 = .ok (.invokevirtual 343, 3) := by decide +kernel
theorem dX12_looks_115 : decode cX12_looks 115 = .ok (.iastore, 1) := by decide +kernel
theorem dX12_looks_116 : decode cX12_looks 116 = .ok (.return_, 1) := by decide +kernel
def xX12_looks : zX := (RX12, cX12_looks, 5, none, false, { frames := 3, cells := 0, slots := 0, locals := 136 }, 0, 0, 0, 0)
theorem rmX12_looks : z_Rm xX12_looks := by unfold z_Rm xX12_looks; exact ⟨by decide, by decide⟩
theorem reX12_looks : z_Re xX12_looks := ⟨rfl, rfl⟩
theorem rlX12_looks : 1 ≤ xX12_looks.2.2.2.2.2.1.frames ∧ 21 ≤ xX12_looks.2.2.2.2.2.1.locals := by unfold xX12_looks; exact ⟨by decide, by decide⟩
theorem meX12_looks : z_Me yX12_looks xX12_looks 4 := ⟨wd1087, wd848, by decide, by decide, by decide +kernel⟩
theorem fitX12_looks_43 : z_Fit xX12_manyIn xX12_looks := by unfold z_Fit; simp only [xX12_manyIn, xX12_looks]; exact ⟨by decide, by decide⟩
theorem fitX12_looks_87 : z_Fit xX12_laidAt xX12_looks := by unfold z_Fit; simp only [xX12_laidAt, xX12_looks]; exact ⟨by decide, by decide⟩
theorem fitX12_looks_112 : z_Fit xX12_laidAt xX12_looks := by unfold z_Fit; simp only [xX12_laidAt, xX12_looks]; exact ⟨by decide, by decide⟩
noncomputable def kX12_looks_115 : zK zR := (q_iast q_vret)
noncomputable def kX12_looks_90 : zK zR := (q_iast (q_aload 0 (q_getR 12 43 (q_push 8 (q_iload 2 (q_if_ne (q_aload 0 (q_iload 2 (q_push 1 (q_isub (q_iload 3 (q_push 1 (q_iadd (q_callV 12 fX12_laidAt 2 kX12_looks_115)))))))) (q_push 0 kX12_looks_115)))))))
noncomputable def kX12_looks_0 : zK zR := (q_aload 0 (q_getR 12 43 (q_push 0 (q_iload 4 (q_iast (q_aload 0 (q_getR 12 43 (q_push 1 (q_iload 3 (q_iast (q_aload 0 (q_getR 12 43 (q_push 2 (q_iload 2 (q_iast (q_aload 0 (q_getR 12 43 (q_push 3 (q_aload 0 (q_getR 12 47 (q_iload 1 (q_iald (q_iast (q_aload 0 (q_getR 12 43 (q_push 4 (q_aload 0 (q_iload 1 (q_iload 4 (q_callV 12 fX12_manyIn 2 (q_iast (q_aload 0 (q_getR 12 43 (q_push 5 (q_aload 0 (q_getR 12 47 (q_push 36 (q_iald (q_iast (q_aload 0 (q_getR 12 43 (q_push 6 (q_iload 1 (q_iast (q_aload 0 (q_getR 12 43 (q_push 7 (q_iload 2 (q_if_ne (q_aload 0 (q_iload 2 (q_push 1 (q_isub (q_iload 3 (q_callV 12 fX12_laidAt 2 kX12_looks_90)))))) (q_push 0 kX12_looks_90))))))))))))))))))))))))))))))))))))))))))))))))))
set_option maxRecDepth 100000 in
theorem tX12_looks_115 {l : Launch} {D : zD} {B sz0 : Nat} {post : Option Value → zS → Prop} : zSnd l D B xX12_looks sz0 post 115 kX12_looks_115 (z_Jr post) := (s_iast dX12_looks_115 (s_vret dX12_looks_116 rfl))
set_option maxRecDepth 100000 in
theorem tX12_looks_90 {l : Launch} {D : zD} {B sz0 : Nat} {post : Option Value → zS → Prop} : zSnd l D B xX12_looks sz0 post 90 kX12_looks_90 (z_Jr post) := (s_iast dX12_looks_90 (s_aload_n dX12_looks_91 rfl (s_getR (f := 43) dX12_looks_92 clX12 (by decide) rfl wd880 (s_bipush dX12_looks_95 (by decide) (s_iload_n dX12_looks_97 rfl (s_if_ne (tgt := 105) dX12_looks_98 (by decide) (s_aload_n dX12_looks_105 rfl (s_iload_n dX12_looks_106 rfl (s_iconst dX12_looks_107 (by decide) (s_isub dX12_looks_108 (s_iload_n dX12_looks_109 rfl (s_iconst dX12_looks_110 (by decide) (s_iadd dX12_looks_111 (s_callV (r := (RX12, TX12, 74)) dX12_looks_112 mX12_laidAt meX12_laidAt wd1054 wd1055 rfl rfl reX12_laidAt rmX12_looks (fitX12_looks_112) wd1056 tX12_looks_115)))))))) (s_iconst dX12_looks_101 (by decide) (s_goto (tgt := 115) dX12_looks_102 (by decide) tX12_looks_115))))))))
set_option maxRecDepth 100000 in
theorem tX12_looks_0 {l : Launch} {D : zD} {B sz0 : Nat} {post : Option Value → zS → Prop} : zSnd l D B xX12_looks sz0 post 0 kX12_looks_0 (z_Jr post) := (s_aload_n dX12_looks_0 rfl (s_getR (f := 43) dX12_looks_1 clX12 (by decide) rfl wd880 (s_iconst dX12_looks_4 (by decide) (s_iload dX12_looks_5 (s_iast dX12_looks_7 (s_aload_n dX12_looks_8 rfl (s_getR (f := 43) dX12_looks_9 clX12 (by decide) rfl wd880 (s_iconst dX12_looks_12 (by decide) (s_iload_n dX12_looks_13 rfl (s_iast dX12_looks_14 (s_aload_n dX12_looks_15 rfl (s_getR (f := 43) dX12_looks_16 clX12 (by decide) rfl wd880 (s_iconst dX12_looks_19 (by decide) (s_iload_n dX12_looks_20 rfl (s_iast dX12_looks_21 (s_aload_n dX12_looks_22 rfl (s_getR (f := 43) dX12_looks_23 clX12 (by decide) rfl wd880 (s_iconst dX12_looks_26 (by decide) (s_aload_n dX12_looks_27 rfl (s_getR (f := 47) dX12_looks_28 clX12 (by decide) rfl wd856 (s_iload_n dX12_looks_31 rfl (s_iald dX12_looks_32 (s_iast dX12_looks_33 (s_aload_n dX12_looks_34 rfl (s_getR (f := 43) dX12_looks_35 clX12 (by decide) rfl wd880 (s_iconst dX12_looks_38 (by decide) (s_aload_n dX12_looks_39 rfl (s_iload_n dX12_looks_40 rfl (s_iload dX12_looks_41 (s_callV (r := (RX12, TX12, 74)) dX12_looks_43 mX12_manyIn meX12_manyIn wd1084 wd1085 rfl rfl reX12_manyIn rmX12_looks (fitX12_looks_43) wd1086 (s_iast dX12_looks_46 (s_aload_n dX12_looks_47 rfl (s_getR (f := 43) dX12_looks_48 clX12 (by decide) rfl wd880 (s_iconst dX12_looks_51 (by decide) (s_aload_n dX12_looks_52 rfl (s_getR (f := 47) dX12_looks_53 clX12 (by decide) rfl wd856 (s_bipush dX12_looks_56 (by decide) (s_iald dX12_looks_58 (s_iast dX12_looks_59 (s_aload_n dX12_looks_60 rfl (s_getR (f := 43) dX12_looks_61 clX12 (by decide) rfl wd880 (s_bipush dX12_looks_64 (by decide) (s_iload_n dX12_looks_66 rfl (s_iast dX12_looks_67 (s_aload_n dX12_looks_68 rfl (s_getR (f := 43) dX12_looks_69 clX12 (by decide) rfl wd880 (s_bipush dX12_looks_72 (by decide) (s_iload_n dX12_looks_74 rfl (s_if_ne (tgt := 82) dX12_looks_75 (by decide) (s_aload_n dX12_looks_82 rfl (s_iload_n dX12_looks_83 rfl (s_iconst dX12_looks_84 (by decide) (s_isub dX12_looks_85 (s_iload_n dX12_looks_86 rfl (s_callV (r := (RX12, TX12, 74)) dX12_looks_87 mX12_laidAt meX12_laidAt wd1054 wd1055 rfl rfl reX12_laidAt rmX12_looks (fitX12_looks_87) wd1056 tX12_looks_90)))))) (s_iconst dX12_looks_78 (by decide) (s_goto (tgt := 90) dX12_looks_79 (by decide) tX12_looks_90)))))))))))))))))))))))))))))))))))))))))))))))))))
noncomputable def fX12_looks : zF := z_fn 5 kX12_looks_0
theorem mX12_looks {l : Launch} {D : zD} {B : Nat} : z_MF l D B yX12_looks xX12_looks fX12_looks := z_mf (by decide) rfl (fun h => by cases h) rfl (fun as σ r h => ⟨z_fn_len h, kX12_looks_0, z_fn_run h, fun _ => tX12_looks_0⟩)
/-! ===== RowChildrenModel.worthOf ===== -/
theorem dX12_worthOf_0 : decode cX12_worthOf 0 = .ok (.aload_n 0, 1) := by decide +kernel
theorem dX12_worthOf_1 : decode cX12_worthOf 1 = .ok (.iload_n 1, 1) := by decide +kernel
theorem dX12_worthOf_2 : decode cX12_worthOf 2 = .ok (.iload_n 2, 1) := by decide +kernel
theorem dX12_worthOf_3 : decode cX12_worthOf 3 = .ok (.iload_n 3, 1) := by decide +kernel
theorem dX12_worthOf_4 : decode cX12_worthOf 4 = .ok (.aload_n 0, 1) := by decide +kernel
theorem dX12_worthOf_5 : decode cX12_worthOf 5 = .ok (.iload_n 2, 1) := by decide +kernel
theorem dX12_worthOf_6 : decode cX12_worthOf 6 = .ok (.iload_n 3, 1) := by decide +kernel
theorem dX12_worthOf_7 : decode cX12_worthOf 7 = .ok (.invokevirtual 343, 3) := by decide +kernel
theorem dX12_worthOf_10 : decode cX12_worthOf 10 = .ok (.invokevirtual 364, 3) := by decide +kernel
theorem dX12_worthOf_13 : decode cX12_worthOf 13 = .ok (.aload_n 0, 1) := by decide +kernel
theorem dX12_worthOf_14 : decode cX12_worthOf 14 = .ok (.iconst 0, 1) := by decide +kernel
theorem dX12_worthOf_15 : decode cX12_worthOf 15 = .ok (.aload_n 0, 1) := by decide +kernel
theorem dX12_worthOf_16 : decode cX12_worthOf 16 = .ok (.getfield 98, 3) := by decide +kernel
theorem dX12_worthOf_19 : decode cX12_worthOf 19 = .ok (.iconst 0, 1) := by decide +kernel
theorem dX12_worthOf_20 : decode cX12_worthOf 20 = .ok (.iaload, 1) := by decide +kernel
theorem dX12_worthOf_21 : decode cX12_worthOf 21 = .ok (.invokevirtual 368, 3) := by decide +kernel
theorem dX12_worthOf_24 : decode cX12_worthOf 24 = .ok (.iconst 0, 1) := by decide +kernel
theorem dX12_worthOf_25 : decode cX12_worthOf 25 = .ok (.bipush 99, 2) := by decide +kernel
theorem dX12_worthOf_27 : decode cX12_worthOf 27 = .ok (.invokestatic 371, 3) := by decide +kernel
theorem dX12_worthOf_30 : decode cX12_worthOf 30 = .ok (.ireturn, 1) := by decide +kernel
def xX12_worthOf : zX := (RX12, cX12_worthOf, 4, (some .int), false, { frames := 4, cells := 0, slots := 0, locals := 160 }, 0, 0, 0, 0)
theorem rmX12_worthOf : z_Rm xX12_worthOf := by unfold z_Rm xX12_worthOf; exact ⟨by decide, by decide⟩
theorem reX12_worthOf : z_Re xX12_worthOf := ⟨rfl, rfl⟩
theorem rlX12_worthOf : 1 ≤ xX12_worthOf.2.2.2.2.2.1.frames ∧ 21 ≤ xX12_worthOf.2.2.2.2.2.1.locals := by unfold xX12_worthOf; exact ⟨by decide, by decide⟩
theorem meX12_worthOf : z_Me yX12_worthOf xX12_worthOf 3 := ⟨wd1096, wd848, by decide, by decide, by decide +kernel⟩
theorem fitX12_worthOf_7 : z_Fit xX12_laidAt xX12_worthOf := by unfold z_Fit; simp only [xX12_laidAt, xX12_worthOf]; exact ⟨by decide, by decide⟩
theorem fitX12_worthOf_10 : z_Fit xX12_looks xX12_worthOf := by unfold z_Fit; simp only [xX12_looks, xX12_worthOf]; exact ⟨by decide, by decide⟩
theorem fitX12_worthOf_21 : z_Fit xX12_lawTells xX12_worthOf := by unfold z_Fit; simp only [xX12_lawTells, xX12_worthOf]; exact ⟨by decide, by decide⟩
theorem fitX12_worthOf_27 : z_Fit xX12_within xX12_worthOf := by unfold z_Fit; simp only [xX12_within, xX12_worthOf]; exact ⟨by decide, by decide⟩
noncomputable def kX12_worthOf_0 : zK zR := (q_aload 0 (q_iload 1 (q_iload 2 (q_iload 3 (q_aload 0 (q_iload 2 (q_iload 3 (q_callV 12 fX12_laidAt 2 (q_callV 12 fX12_looks 4 (q_aload 0 (q_push 0 (q_aload 0 (q_getR 12 43 (q_push 0 (q_iald (q_callV 12 fX12_lawTells 2 (q_push 0 (q_push 99 (q_callS fX12_within 3 q_iret)))))))))))))))))))
set_option maxRecDepth 100000 in
theorem tX12_worthOf_0 {l : Launch} {D : zD} {B sz0 : Nat} {post : Option Value → zS → Prop} : zSnd l D B xX12_worthOf sz0 post 0 kX12_worthOf_0 (z_Jr post) := (s_aload_n dX12_worthOf_0 rfl (s_iload_n dX12_worthOf_1 rfl (s_iload_n dX12_worthOf_2 rfl (s_iload_n dX12_worthOf_3 rfl (s_aload_n dX12_worthOf_4 rfl (s_iload_n dX12_worthOf_5 rfl (s_iload_n dX12_worthOf_6 rfl (s_callV (r := (RX12, TX12, 74)) dX12_worthOf_7 mX12_laidAt meX12_laidAt wd1054 wd1055 rfl rfl reX12_laidAt rmX12_worthOf (fitX12_worthOf_7) wd1056 (s_callV (r := (RX12, TX12, 74)) dX12_worthOf_10 mX12_looks meX12_looks wd1088 wd1089 rfl rfl reX12_looks rmX12_worthOf (fitX12_worthOf_10) wd1090 (s_aload_n dX12_worthOf_13 rfl (s_iconst dX12_worthOf_14 (by decide) (s_aload_n dX12_worthOf_15 rfl (s_getR (f := 43) dX12_worthOf_16 clX12 (by decide) rfl wd880 (s_iconst dX12_worthOf_19 (by decide) (s_iald dX12_worthOf_20 (s_callV (r := (RX12, TX12, 74)) dX12_worthOf_21 mX12_lawTells meX12_lawTells wd1091 wd1092 rfl rfl reX12_lawTells rmX12_worthOf (fitX12_worthOf_21) wd1093 (s_iconst dX12_worthOf_24 (by decide) (s_bipush dX12_worthOf_25 (by decide) (s_callS dX12_worthOf_27 mX12_within meX12_within wd1094 rfl reX12_within rmX12_worthOf (fitX12_worthOf_27) wd1095 (s_iret dX12_worthOf_30 rfl))))))))))))))))))))
noncomputable def fX12_worthOf : zF := z_fn 4 kX12_worthOf_0
theorem mX12_worthOf {l : Launch} {D : zD} {B : Nat} : z_MF l D B yX12_worthOf xX12_worthOf fX12_worthOf := z_mf (by decide) rfl (fun h => by cases h) rfl (fun as σ r h => ⟨z_fn_len h, kX12_worthOf_0, z_fn_run h, fun _ => tX12_worthOf_0⟩)
/-! ===== RowChildrenModel.costsOf ===== -/
theorem dX12_costsOf_0 : decode cX12_costsOf 0 = .ok (.aload_n 0, 1) := by decide +kernel
theorem dX12_costsOf_1 : decode cX12_costsOf 1 = .ok (.iload_n 1, 1) := by decide +kernel
theorem dX12_costsOf_2 : decode cX12_costsOf 2 = .ok (.iconst 0, 1) := by decide +kernel
theorem dX12_costsOf_3 : decode cX12_costsOf 3 = .ok (.iload_n 2, 1) := by decide +kernel
theorem dX12_costsOf_4 : decode cX12_costsOf 4 = .ok (.iload_n 3, 1) := by decide +kernel
theorem dX12_costsOf_5 : decode cX12_costsOf 5 = .ok (.invokevirtual 364, 3) := by decide +kernel
theorem dX12_costsOf_8 : decode cX12_costsOf 8 = .ok (.aload_n 0, 1) := by decide +kernel
theorem dX12_costsOf_9 : decode cX12_costsOf 9 = .ok (.iconst 1, 1) := by decide +kernel
theorem dX12_costsOf_10 : decode cX12_costsOf 10 = .ok (.iconst 1, 1) := by decide +kernel
theorem dX12_costsOf_11 : decode cX12_costsOf 11 = .ok (.invokevirtual 368, 3) := by decide +kernel
theorem dX12_costsOf_14 : decode cX12_costsOf 14 = .ok (.iconst 0, 1) := by decide +kernel
theorem dX12_costsOf_15 : decode cX12_costsOf 15 = .ok (.bipush 99, 2) := by decide +kernel
theorem dX12_costsOf_17 : decode cX12_costsOf 17 = .ok (.invokestatic 371, 3) := by decide +kernel
theorem dX12_costsOf_20 : decode cX12_costsOf 20 = .ok (.ireturn, 1) := by decide +kernel
def xX12_costsOf : zX := (RX12, cX12_costsOf, 4, (some .int), false, { frames := 4, cells := 0, slots := 0, locals := 160 }, 0, 0, 0, 0)
theorem rmX12_costsOf : z_Rm xX12_costsOf := by unfold z_Rm xX12_costsOf; exact ⟨by decide, by decide⟩
theorem reX12_costsOf : z_Re xX12_costsOf := ⟨rfl, rfl⟩
theorem rlX12_costsOf : 1 ≤ xX12_costsOf.2.2.2.2.2.1.frames ∧ 21 ≤ xX12_costsOf.2.2.2.2.2.1.locals := by unfold xX12_costsOf; exact ⟨by decide, by decide⟩
theorem meX12_costsOf : z_Me yX12_costsOf xX12_costsOf 3 := ⟨wd1097, wd848, by decide, by decide, by decide +kernel⟩
theorem fitX12_costsOf_5 : z_Fit xX12_looks xX12_costsOf := by unfold z_Fit; simp only [xX12_looks, xX12_costsOf]; exact ⟨by decide, by decide⟩
theorem fitX12_costsOf_11 : z_Fit xX12_lawTells xX12_costsOf := by unfold z_Fit; simp only [xX12_lawTells, xX12_costsOf]; exact ⟨by decide, by decide⟩
theorem fitX12_costsOf_17 : z_Fit xX12_within xX12_costsOf := by unfold z_Fit; simp only [xX12_within, xX12_costsOf]; exact ⟨by decide, by decide⟩
noncomputable def kX12_costsOf_0 : zK zR := (q_aload 0 (q_iload 1 (q_push 0 (q_iload 2 (q_iload 3 (q_callV 12 fX12_looks 4 (q_aload 0 (q_push 1 (q_push 1 (q_callV 12 fX12_lawTells 2 (q_push 0 (q_push 99 (q_callS fX12_within 3 q_iret)))))))))))))
set_option maxRecDepth 100000 in
theorem tX12_costsOf_0 {l : Launch} {D : zD} {B sz0 : Nat} {post : Option Value → zS → Prop} : zSnd l D B xX12_costsOf sz0 post 0 kX12_costsOf_0 (z_Jr post) := (s_aload_n dX12_costsOf_0 rfl (s_iload_n dX12_costsOf_1 rfl (s_iconst dX12_costsOf_2 (by decide) (s_iload_n dX12_costsOf_3 rfl (s_iload_n dX12_costsOf_4 rfl (s_callV (r := (RX12, TX12, 74)) dX12_costsOf_5 mX12_looks meX12_looks wd1088 wd1089 rfl rfl reX12_looks rmX12_costsOf (fitX12_costsOf_5) wd1090 (s_aload_n dX12_costsOf_8 rfl (s_iconst dX12_costsOf_9 (by decide) (s_iconst dX12_costsOf_10 (by decide) (s_callV (r := (RX12, TX12, 74)) dX12_costsOf_11 mX12_lawTells meX12_lawTells wd1091 wd1092 rfl rfl reX12_lawTells rmX12_costsOf (fitX12_costsOf_11) wd1093 (s_iconst dX12_costsOf_14 (by decide) (s_bipush dX12_costsOf_15 (by decide) (s_callS dX12_costsOf_17 mX12_within meX12_within wd1094 rfl reX12_within rmX12_costsOf (fitX12_costsOf_17) wd1095 (s_iret dX12_costsOf_20 rfl))))))))))))))
noncomputable def fX12_costsOf : zF := z_fn 4 kX12_costsOf_0
theorem mX12_costsOf {l : Launch} {D : zD} {B : Nat} : z_MF l D B yX12_costsOf xX12_costsOf fX12_costsOf := z_mf (by decide) rfl (fun h => by cases h) rfl (fun as σ r h => ⟨z_fn_len h, kX12_costsOf_0, z_fn_run h, fun _ => tX12_costsOf_0⟩)
/-! ===== RowChildrenModel.oddsOf ===== -/
theorem dX12_oddsOf_0 : decode cX12_oddsOf 0 = .ok (.aload_n 0, 1) := by decide +kernel
theorem dX12_oddsOf_1 : decode cX12_oddsOf 1 = .ok (.iload_n 1, 1) := by decide +kernel
theorem dX12_oddsOf_2 : decode cX12_oddsOf 2 = .ok (.iconst 1, 1) := by decide +kernel
theorem dX12_oddsOf_3 : decode cX12_oddsOf 3 = .ok (.iload_n 2, 1) := by decide +kernel
theorem dX12_oddsOf_4 : decode cX12_oddsOf 4 = .ok (.aload_n 0, 1) := by decide +kernel
theorem dX12_oddsOf_5 : decode cX12_oddsOf 5 = .ok (.iconst 1, 1) := by decide +kernel
theorem dX12_oddsOf_6 : decode cX12_oddsOf 6 = .ok (.iload_n 2, 1) := by decide +kernel
theorem dX12_oddsOf_7 : decode cX12_oddsOf 7 = .ok (.invokevirtual 343, 3) := by decide +kernel
theorem dX12_oddsOf_10 : decode cX12_oddsOf 10 = .ok (.invokevirtual 364, 3) := by decide +kernel
theorem dX12_oddsOf_13 : decode cX12_oddsOf 13 = .ok (.aload_n 0, 1) := by decide +kernel
theorem dX12_oddsOf_14 : decode cX12_oddsOf 14 = .ok (.iconst 2, 1) := by decide +kernel
theorem dX12_oddsOf_15 : decode cX12_oddsOf 15 = .ok (.iconst 0, 1) := by decide +kernel
theorem dX12_oddsOf_16 : decode cX12_oddsOf 16 = .ok (.invokevirtual 368, 3) := by decide +kernel
theorem dX12_oddsOf_19 : decode cX12_oddsOf 19 = .ok (.iconst 0, 1) := by decide +kernel
theorem dX12_oddsOf_20 : decode cX12_oddsOf 20 = .ok (.bipush 100, 2) := by decide +kernel
theorem dX12_oddsOf_22 : decode cX12_oddsOf 22 = .ok (.invokestatic 371, 3) := by decide +kernel
theorem dX12_oddsOf_25 : decode cX12_oddsOf 25 = .ok (.ireturn, 1) := by decide +kernel
def xX12_oddsOf : zX := (RX12, cX12_oddsOf, 3, (some .int), false, { frames := 4, cells := 0, slots := 0, locals := 160 }, 0, 0, 0, 0)
theorem rmX12_oddsOf : z_Rm xX12_oddsOf := by unfold z_Rm xX12_oddsOf; exact ⟨by decide, by decide⟩
theorem reX12_oddsOf : z_Re xX12_oddsOf := ⟨rfl, rfl⟩
theorem rlX12_oddsOf : 1 ≤ xX12_oddsOf.2.2.2.2.2.1.frames ∧ 21 ≤ xX12_oddsOf.2.2.2.2.2.1.locals := by unfold xX12_oddsOf; exact ⟨by decide, by decide⟩
theorem meX12_oddsOf : z_Me yX12_oddsOf xX12_oddsOf 2 := ⟨wd1098, wd848, by decide, by decide, by decide +kernel⟩
theorem fitX12_oddsOf_7 : z_Fit xX12_laidAt xX12_oddsOf := by unfold z_Fit; simp only [xX12_laidAt, xX12_oddsOf]; exact ⟨by decide, by decide⟩
theorem fitX12_oddsOf_10 : z_Fit xX12_looks xX12_oddsOf := by unfold z_Fit; simp only [xX12_looks, xX12_oddsOf]; exact ⟨by decide, by decide⟩
theorem fitX12_oddsOf_16 : z_Fit xX12_lawTells xX12_oddsOf := by unfold z_Fit; simp only [xX12_lawTells, xX12_oddsOf]; exact ⟨by decide, by decide⟩
theorem fitX12_oddsOf_22 : z_Fit xX12_within xX12_oddsOf := by unfold z_Fit; simp only [xX12_within, xX12_oddsOf]; exact ⟨by decide, by decide⟩
noncomputable def kX12_oddsOf_0 : zK zR := (q_aload 0 (q_iload 1 (q_push 1 (q_iload 2 (q_aload 0 (q_push 1 (q_iload 2 (q_callV 12 fX12_laidAt 2 (q_callV 12 fX12_looks 4 (q_aload 0 (q_push 2 (q_push 0 (q_callV 12 fX12_lawTells 2 (q_push 0 (q_push 100 (q_callS fX12_within 3 q_iret))))))))))))))))
set_option maxRecDepth 100000 in
theorem tX12_oddsOf_0 {l : Launch} {D : zD} {B sz0 : Nat} {post : Option Value → zS → Prop} : zSnd l D B xX12_oddsOf sz0 post 0 kX12_oddsOf_0 (z_Jr post) := (s_aload_n dX12_oddsOf_0 rfl (s_iload_n dX12_oddsOf_1 rfl (s_iconst dX12_oddsOf_2 (by decide) (s_iload_n dX12_oddsOf_3 rfl (s_aload_n dX12_oddsOf_4 rfl (s_iconst dX12_oddsOf_5 (by decide) (s_iload_n dX12_oddsOf_6 rfl (s_callV (r := (RX12, TX12, 74)) dX12_oddsOf_7 mX12_laidAt meX12_laidAt wd1054 wd1055 rfl rfl reX12_laidAt rmX12_oddsOf (fitX12_oddsOf_7) wd1056 (s_callV (r := (RX12, TX12, 74)) dX12_oddsOf_10 mX12_looks meX12_looks wd1088 wd1089 rfl rfl reX12_looks rmX12_oddsOf (fitX12_oddsOf_10) wd1090 (s_aload_n dX12_oddsOf_13 rfl (s_iconst dX12_oddsOf_14 (by decide) (s_iconst dX12_oddsOf_15 (by decide) (s_callV (r := (RX12, TX12, 74)) dX12_oddsOf_16 mX12_lawTells meX12_lawTells wd1091 wd1092 rfl rfl reX12_lawTells rmX12_oddsOf (fitX12_oddsOf_16) wd1093 (s_iconst dX12_oddsOf_19 (by decide) (s_bipush dX12_oddsOf_20 (by decide) (s_callS dX12_oddsOf_22 mX12_within meX12_within wd1094 rfl reX12_within rmX12_oddsOf (fitX12_oddsOf_22) wd1095 (s_iret dX12_oddsOf_25 rfl)))))))))))))))))
noncomputable def fX12_oddsOf : zF := z_fn 3 kX12_oddsOf_0
theorem mX12_oddsOf {l : Launch} {D : zD} {B : Nat} : z_MF l D B yX12_oddsOf xX12_oddsOf fX12_oddsOf := z_mf (by decide) rfl (fun h => by cases h) rfl (fun as σ r h => ⟨z_fn_len h, kX12_oddsOf_0, z_fn_run h, fun _ => tX12_oddsOf_0⟩)
/-! ===== RowChildrenModel.paysOf ===== -/
theorem dX12_paysOf_0 : decode cX12_paysOf 0 = .ok (.aload_n 0, 1) := by decide +kernel
theorem dX12_paysOf_1 : decode cX12_paysOf 1 = .ok (.iload_n 1, 1) := by decide +kernel
theorem dX12_paysOf_2 : decode cX12_paysOf 2 = .ok (.iconst 0, 1) := by decide +kernel
theorem dX12_paysOf_3 : decode cX12_paysOf 3 = .ok (.iconst 0, 1) := by decide +kernel
theorem dX12_paysOf_4 : decode cX12_paysOf 4 = .ok (.aload_n 0, 1) := by decide +kernel
theorem dX12_paysOf_5 : decode cX12_paysOf 5 = .ok (.iload_n 1, 1) := by decide +kernel
theorem dX12_paysOf_6 : decode cX12_paysOf 6 = .ok (.iconst 0, 1) := by decide +kernel
theorem dX12_paysOf_7 : decode cX12_paysOf 7 = .ok (.invokevirtual 349, 3) := by decide +kernel
theorem dX12_paysOf_10 : decode cX12_paysOf 10 = .ok (.invokevirtual 364, 3) := by decide +kernel
theorem dX12_paysOf_13 : decode cX12_paysOf 13 = .ok (.aload_n 0, 1) := by decide +kernel
theorem dX12_paysOf_14 : decode cX12_paysOf 14 = .ok (.iconst 3, 1) := by decide +kernel
theorem dX12_paysOf_15 : decode cX12_paysOf 15 = .ok (.aload_n 0, 1) := by decide +kernel
theorem dX12_paysOf_16 : decode cX12_paysOf 16 = .ok (.getfield 98, 3) := by decide +kernel
theorem dX12_paysOf_19 : decode cX12_paysOf 19 = .ok (.iconst 3, 1) := by decide +kernel
theorem dX12_paysOf_20 : decode cX12_paysOf 20 = .ok (.iaload, 1) := by decide +kernel
theorem dX12_paysOf_21 : decode cX12_paysOf 21 = .ok (.invokevirtual 368, 3) := by decide +kernel
theorem dX12_paysOf_24 : decode cX12_paysOf 24 = .ok (.iconst 0, 1) := by decide +kernel
theorem dX12_paysOf_25 : decode cX12_paysOf 25 = .ok (.bipush 99, 2) := by decide +kernel
theorem dX12_paysOf_27 : decode cX12_paysOf 27 = .ok (.invokestatic 371, 3) := by decide +kernel
theorem dX12_paysOf_30 : decode cX12_paysOf 30 = .ok (.ireturn, 1) := by decide +kernel
def xX12_paysOf : zX := (RX12, cX12_paysOf, 2, (some .int), false, { frames := 4, cells := 0, slots := 0, locals := 160 }, 0, 0, 0, 0)
theorem rmX12_paysOf : z_Rm xX12_paysOf := by unfold z_Rm xX12_paysOf; exact ⟨by decide, by decide⟩
theorem reX12_paysOf : z_Re xX12_paysOf := ⟨rfl, rfl⟩
theorem rlX12_paysOf : 1 ≤ xX12_paysOf.2.2.2.2.2.1.frames ∧ 21 ≤ xX12_paysOf.2.2.2.2.2.1.locals := by unfold xX12_paysOf; exact ⟨by decide, by decide⟩
theorem meX12_paysOf : z_Me yX12_paysOf xX12_paysOf 1 := ⟨wd1099, wd848, by decide, by decide, by decide +kernel⟩
theorem fitX12_paysOf_7 : z_Fit xX12_seatAt xX12_paysOf := by unfold z_Fit; simp only [xX12_seatAt, xX12_paysOf]; exact ⟨by decide, by decide⟩
theorem fitX12_paysOf_10 : z_Fit xX12_looks xX12_paysOf := by unfold z_Fit; simp only [xX12_looks, xX12_paysOf]; exact ⟨by decide, by decide⟩
theorem fitX12_paysOf_21 : z_Fit xX12_lawTells xX12_paysOf := by unfold z_Fit; simp only [xX12_lawTells, xX12_paysOf]; exact ⟨by decide, by decide⟩
theorem fitX12_paysOf_27 : z_Fit xX12_within xX12_paysOf := by unfold z_Fit; simp only [xX12_within, xX12_paysOf]; exact ⟨by decide, by decide⟩
noncomputable def kX12_paysOf_0 : zK zR := (q_aload 0 (q_iload 1 (q_push 0 (q_push 0 (q_aload 0 (q_iload 1 (q_push 0 (q_callV 12 fX12_seatAt 2 (q_callV 12 fX12_looks 4 (q_aload 0 (q_push 3 (q_aload 0 (q_getR 12 43 (q_push 3 (q_iald (q_callV 12 fX12_lawTells 2 (q_push 0 (q_push 99 (q_callS fX12_within 3 q_iret)))))))))))))))))))
set_option maxRecDepth 100000 in
theorem tX12_paysOf_0 {l : Launch} {D : zD} {B sz0 : Nat} {post : Option Value → zS → Prop} : zSnd l D B xX12_paysOf sz0 post 0 kX12_paysOf_0 (z_Jr post) := (s_aload_n dX12_paysOf_0 rfl (s_iload_n dX12_paysOf_1 rfl (s_iconst dX12_paysOf_2 (by decide) (s_iconst dX12_paysOf_3 (by decide) (s_aload_n dX12_paysOf_4 rfl (s_iload_n dX12_paysOf_5 rfl (s_iconst dX12_paysOf_6 (by decide) (s_callV (r := (RX12, TX12, 74)) dX12_paysOf_7 mX12_seatAt meX12_seatAt wd1064 wd1065 rfl rfl reX12_seatAt rmX12_paysOf (fitX12_paysOf_7) wd1066 (s_callV (r := (RX12, TX12, 74)) dX12_paysOf_10 mX12_looks meX12_looks wd1088 wd1089 rfl rfl reX12_looks rmX12_paysOf (fitX12_paysOf_10) wd1090 (s_aload_n dX12_paysOf_13 rfl (s_iconst dX12_paysOf_14 (by decide) (s_aload_n dX12_paysOf_15 rfl (s_getR (f := 43) dX12_paysOf_16 clX12 (by decide) rfl wd880 (s_iconst dX12_paysOf_19 (by decide) (s_iald dX12_paysOf_20 (s_callV (r := (RX12, TX12, 74)) dX12_paysOf_21 mX12_lawTells meX12_lawTells wd1091 wd1092 rfl rfl reX12_lawTells rmX12_paysOf (fitX12_paysOf_21) wd1093 (s_iconst dX12_paysOf_24 (by decide) (s_bipush dX12_paysOf_25 (by decide) (s_callS dX12_paysOf_27 mX12_within meX12_within wd1094 rfl reX12_within rmX12_paysOf (fitX12_paysOf_27) wd1095 (s_iret dX12_paysOf_30 rfl))))))))))))))))))))
noncomputable def fX12_paysOf : zF := z_fn 2 kX12_paysOf_0
theorem mX12_paysOf {l : Launch} {D : zD} {B : Nat} : z_MF l D B yX12_paysOf xX12_paysOf fX12_paysOf := z_mf (by decide) rfl (fun h => by cases h) rfl (fun as σ r h => ⟨z_fn_len h, kX12_paysOf_0, z_fn_run h, fun _ => tX12_paysOf_0⟩)
/-! ===== RowChildrenModel.worthAll ===== -/
theorem dX12_worthAll_0 : decode cX12_worthAll 0 = .ok (.iconst 0, 1) := by decide +kernel
theorem dX12_worthAll_1 : decode cX12_worthAll 1 = .ok (.istore_n 2, 1) := by decide +kernel
theorem dX12_worthAll_2 : decode cX12_worthAll 2 = .ok (.iconst 0, 1) := by decide +kernel
theorem dX12_worthAll_3 : decode cX12_worthAll 3 = .ok (.istore_n 3, 1) := by decide +kernel
theorem dX12_worthAll_4 : decode cX12_worthAll 4 = .ok (.iload_n 3, 1) := by decide +kernel
theorem dX12_worthAll_5 : decode cX12_worthAll 5 = .ok (.aload_n 0, 1) := by decide +kernel
theorem dX12_worthAll_6 : decode cX12_worthAll 6 = .ok (.getfield 340, 3) := by decide +kernel
theorem dX12_worthAll_9 : decode cX12_worthAll 9 = .ok (.if_icmp .ge 40, 3) := by decide +kernel
theorem dX12_worthAll_12 : decode cX12_worthAll 12 = .ok (.iconst 0, 1) := by decide +kernel
theorem dX12_worthAll_13 : decode cX12_worthAll 13 = .ok (.istore 4, 2) := by decide +kernel
theorem dX12_worthAll_15 : decode cX12_worthAll 15 = .ok (.iload 4, 2) := by decide +kernel
theorem dX12_worthAll_17 : decode cX12_worthAll 17 = .ok (.aload_n 0, 1) := by decide +kernel
theorem dX12_worthAll_18 : decode cX12_worthAll 18 = .ok (.getfield 340, 3) := by decide +kernel
theorem dX12_worthAll_21 : decode cX12_worthAll 21 = .ok (.iload_n 3, 1) := by decide +kernel
theorem dX12_worthAll_22 : decode cX12_worthAll 22 = .ok (.isub, 1) := by decide +kernel
theorem dX12_worthAll_23 : decode cX12_worthAll 23 = .ok (.if_icmp .ge 20, 3) := by decide +kernel
theorem dX12_worthAll_26 : decode cX12_worthAll 26 = .ok (.iload_n 2, 1) := by decide +kernel
theorem dX12_worthAll_27 : decode cX12_worthAll 27 = .ok (.aload_n 0, 1) := by decide +kernel
theorem dX12_worthAll_28 : decode cX12_worthAll 28 = .ok (.iload_n 1, 1) := by decide +kernel
theorem dX12_worthAll_29 : decode cX12_worthAll 29 = .ok (.iload_n 3, 1) := by decide +kernel
theorem dX12_worthAll_30 : decode cX12_worthAll 30 = .ok (.iload 4, 2) := by decide +kernel
theorem dX12_worthAll_32 : decode cX12_worthAll 32 = .ok (.invokevirtual 374, 3) := by decide +kernel
theorem dX12_worthAll_35 : decode cX12_worthAll 35 = .ok (.iadd, 1) := by decide +kernel
theorem dX12_worthAll_36 : decode cX12_worthAll 36 = .ok (.istore_n 2, 1) := by decide +kernel
theorem dX12_worthAll_37 : decode cX12_worthAll 37 = .ok (.iinc 4 1, 3) := by decide +kernel
theorem dX12_worthAll_40 : decode cX12_worthAll 40 = .ok (.goto (-25), 3) := by decide +kernel
theorem dX12_worthAll_43 : decode cX12_worthAll 43 = .ok (.iinc 3 1, 3) := by decide +kernel
theorem dX12_worthAll_46 : decode cX12_worthAll 46 = .ok (.goto (-42), 3) := by decide +kernel
theorem dX12_worthAll_49 : decode cX12_worthAll 49 = .ok (.iload_n 2, 1) := by decide +kernel
theorem dX12_worthAll_50 : decode cX12_worthAll 50 = .ok (.ireturn, 1) := by decide +kernel
def xX12_worthAll : zX := (RX12, cX12_worthAll, 5, (some .int), false, { frames := 5, cells := 0, slots := 0, locals := 183 }, 0, 0, 0, 0)
theorem rmX12_worthAll : z_Rm xX12_worthAll := by unfold z_Rm xX12_worthAll; exact ⟨by decide, by decide⟩
theorem reX12_worthAll : z_Re xX12_worthAll := ⟨rfl, rfl⟩
theorem rlX12_worthAll : 1 ≤ xX12_worthAll.2.2.2.2.2.1.frames ∧ 21 ≤ xX12_worthAll.2.2.2.2.2.1.locals := by unfold xX12_worthAll; exact ⟨by decide, by decide⟩
theorem meX12_worthAll : z_Me yX12_worthAll xX12_worthAll 1 := ⟨wd1103, wd848, by decide, by decide, by decide +kernel⟩
theorem fitX12_worthAll_32 : z_Fit xX12_worthOf xX12_worthAll := by unfold z_Fit; simp only [xX12_worthOf, xX12_worthAll]; exact ⟨by decide, by decide⟩
noncomputable def kX12_worthAll_49 : zK zR := (q_iload 2 q_iret)
noncomputable def kX12_worthAll_43 : zK ((zL × zS) ⊕ zR) := (q_iinc 3 1 q_ag)
noncomputable def bX12_worthAll_15 : zK ((zL × zS) ⊕ ((zL × zS) ⊕ zR)) := (q_iload 4 (q_aload 0 (q_getI 12 50 (q_iload 3 (q_isub (q_icmp_ge (q_dn kX12_worthAll_43) (q_iload 2 (q_aload 0 (q_iload 1 (q_iload 3 (q_iload 4 (q_callV 12 fX12_worthOf 3 (q_iadd (q_istore 2 (q_iinc 4 1 q_ag)))))))))))))))
noncomputable def kX12_worthAll_15 : zK ((zL × zS) ⊕ zR) := q_lp (bX12_worthAll_15)
noncomputable def bX12_worthAll_4 : zK ((zL × zS) ⊕ zR) := (q_iload 3 (q_aload 0 (q_getI 12 50 (q_icmp_ge (q_dn kX12_worthAll_49) (q_push 0 (q_istore 4 kX12_worthAll_15))))))
noncomputable def kX12_worthAll_4 : zK zR := q_lp (bX12_worthAll_4)
noncomputable def kX12_worthAll_0 : zK zR := (q_push 0 (q_istore 2 (q_push 0 (q_istore 3 kX12_worthAll_4))))
set_option maxRecDepth 100000 in
theorem tX12_worthAll_49 {l : Launch} {D : zD} {B sz0 : Nat} {post : Option Value → zS → Prop} : zSnd l D B xX12_worthAll sz0 post 49 kX12_worthAll_49 (z_Jr post) := (s_iload_n dX12_worthAll_49 rfl (s_iret dX12_worthAll_50 rfl))
set_option maxRecDepth 100000 in
theorem tX12_worthAll_43 {l : Launch} {D : zD} {B sz0 : Nat} {post : Option Value → zS → Prop} : zSnd l D B xX12_worthAll sz0 post 43 kX12_worthAll_43 (z_Jl l D B xX12_worthAll sz0 post 4 (z_Jr post)) := (s_iinc dX12_worthAll_43 (by decide) (s_goto (tgt := 4) dX12_worthAll_46 (by decide) s_ag))
set_option maxRecDepth 100000 in
theorem tX12_worthAll_15 {l : Launch} {D : zD} {B sz0 : Nat} {post : Option Value → zS → Prop} : zSnd l D B xX12_worthAll sz0 post 15 kX12_worthAll_15 (z_Jl l D B xX12_worthAll sz0 post 4 (z_Jr post)) := s_lp (body := bX12_worthAll_15) (s_iload dX12_worthAll_15 (s_aload_n dX12_worthAll_17 rfl (s_getI (f := 50) dX12_worthAll_18 clX12 (by decide) rfl wd1053 (s_iload_n dX12_worthAll_21 rfl (s_isub dX12_worthAll_22 (s_icmp_ge (tgt := 43) dX12_worthAll_23 (by decide) (s_dn tX12_worthAll_43) (s_iload_n dX12_worthAll_26 rfl (s_aload_n dX12_worthAll_27 rfl (s_iload_n dX12_worthAll_28 rfl (s_iload_n dX12_worthAll_29 rfl (s_iload dX12_worthAll_30 (s_callV (r := (RX12, TX12, 74)) dX12_worthAll_32 mX12_worthOf meX12_worthOf wd1100 wd1101 rfl rfl reX12_worthOf rmX12_worthAll (fitX12_worthAll_32) wd1102 (s_iadd dX12_worthAll_35 (s_istore_n dX12_worthAll_36 rfl (s_iinc dX12_worthAll_37 (by decide) (s_goto (tgt := 15) dX12_worthAll_40 (by decide) s_ag))))))))))))))))
set_option maxRecDepth 100000 in
theorem tX12_worthAll_4 {l : Launch} {D : zD} {B sz0 : Nat} {post : Option Value → zS → Prop} : zSnd l D B xX12_worthAll sz0 post 4 kX12_worthAll_4 (z_Jr post) := s_lp (body := bX12_worthAll_4) (s_iload_n dX12_worthAll_4 rfl (s_aload_n dX12_worthAll_5 rfl (s_getI (f := 50) dX12_worthAll_6 clX12 (by decide) rfl wd1053 (s_icmp_ge (tgt := 49) dX12_worthAll_9 (by decide) (s_dn tX12_worthAll_49) (s_iconst dX12_worthAll_12 (by decide) (s_istore dX12_worthAll_13 tX12_worthAll_15))))))
set_option maxRecDepth 100000 in
theorem tX12_worthAll_0 {l : Launch} {D : zD} {B sz0 : Nat} {post : Option Value → zS → Prop} : zSnd l D B xX12_worthAll sz0 post 0 kX12_worthAll_0 (z_Jr post) := (s_iconst dX12_worthAll_0 (by decide) (s_istore_n dX12_worthAll_1 rfl (s_iconst dX12_worthAll_2 (by decide) (s_istore_n dX12_worthAll_3 rfl tX12_worthAll_4))))
noncomputable def fX12_worthAll : zF := z_fn 5 kX12_worthAll_0
theorem mX12_worthAll {l : Launch} {D : zD} {B : Nat} : z_MF l D B yX12_worthAll xX12_worthAll fX12_worthAll := z_mf (by decide) rfl (fun h => by cases h) rfl (fun as σ r h => ⟨z_fn_len h, kX12_worthAll_0, z_fn_run h, fun _ => tX12_worthAll_0⟩)
/-! ===== RowChildrenModel.paysAll ===== -/
theorem dX12_paysAll_0 : decode cX12_paysAll 0 = .ok (.iconst 0, 1) := by decide +kernel
theorem dX12_paysAll_1 : decode cX12_paysAll 1 = .ok (.istore_n 1, 1) := by decide +kernel
theorem dX12_paysAll_2 : decode cX12_paysAll 2 = .ok (.iconst 0, 1) := by decide +kernel
theorem dX12_paysAll_3 : decode cX12_paysAll 3 = .ok (.istore_n 2, 1) := by decide +kernel
theorem dX12_paysAll_4 : decode cX12_paysAll 4 = .ok (.iload_n 2, 1) := by decide +kernel
theorem dX12_paysAll_5 : decode cX12_paysAll 5 = .ok (.aload_n 0, 1) := by decide +kernel
theorem dX12_paysAll_6 : decode cX12_paysAll 6 = .ok (.getfield 55, 3) := by decide +kernel
theorem dX12_paysAll_9 : decode cX12_paysAll 9 = .ok (.aload_n 0, 1) := by decide +kernel
theorem dX12_paysAll_10 : decode cX12_paysAll 10 = .ok (.getfield 249, 3) := by decide +kernel
theorem dX12_paysAll_13 : decode cX12_paysAll 13 = .ok (.iaload, 1) := by decide +kernel
theorem dX12_paysAll_14 : decode cX12_paysAll 14 = .ok (.if_icmp .ge 17, 3) := by decide +kernel
theorem dX12_paysAll_17 : decode cX12_paysAll 17 = .ok (.iload_n 1, 1) := by decide +kernel
theorem dX12_paysAll_18 : decode cX12_paysAll 18 = .ok (.aload_n 0, 1) := by decide +kernel
theorem dX12_paysAll_19 : decode cX12_paysAll 19 = .ok (.iload_n 2, 1) := by decide +kernel
theorem dX12_paysAll_20 : decode cX12_paysAll 20 = .ok (.invokevirtual 377, 3) := by decide +kernel
theorem dX12_paysAll_23 : decode cX12_paysAll 23 = .ok (.iadd, 1) := by decide +kernel
theorem dX12_paysAll_24 : decode cX12_paysAll 24 = .ok (.istore_n 1, 1) := by decide +kernel
theorem dX12_paysAll_25 : decode cX12_paysAll 25 = .ok (.iinc 2 1, 3) := by decide +kernel
theorem dX12_paysAll_28 : decode cX12_paysAll 28 = .ok (.goto (-24), 3) := by decide +kernel
theorem dX12_paysAll_31 : decode cX12_paysAll 31 = .ok (.iload_n 1, 1) := by decide +kernel
theorem dX12_paysAll_32 : decode cX12_paysAll 32 = .ok (.ireturn, 1) := by decide +kernel
def xX12_paysAll : zX := (RX12, cX12_paysAll, 3, (some .int), false, { frames := 5, cells := 0, slots := 0, locals := 181 }, 0, 0, 0, 0)
theorem rmX12_paysAll : z_Rm xX12_paysAll := by unfold z_Rm xX12_paysAll; exact ⟨by decide, by decide⟩
theorem reX12_paysAll : z_Re xX12_paysAll := ⟨rfl, rfl⟩
theorem rlX12_paysAll : 1 ≤ xX12_paysAll.2.2.2.2.2.1.frames ∧ 21 ≤ xX12_paysAll.2.2.2.2.2.1.locals := by unfold xX12_paysAll; exact ⟨by decide, by decide⟩
theorem meX12_paysAll : z_Me yX12_paysAll xX12_paysAll 0 := ⟨wd1107, wd848, by decide, by decide, by decide +kernel⟩
theorem fitX12_paysAll_20 : z_Fit xX12_paysOf xX12_paysAll := by unfold z_Fit; simp only [xX12_paysOf, xX12_paysAll]; exact ⟨by decide, by decide⟩
noncomputable def kX12_paysAll_31 : zK zR := (q_iload 1 q_iret)
noncomputable def bX12_paysAll_4 : zK ((zL × zS) ⊕ zR) := (q_iload 2 (q_aload 0 (q_getR 12 26 (q_aload 0 (q_getI 12 18 (q_iald (q_icmp_ge (q_dn kX12_paysAll_31) (q_iload 1 (q_aload 0 (q_iload 2 (q_callV 12 fX12_paysOf 1 (q_iadd (q_istore 1 (q_iinc 2 1 q_ag))))))))))))))
noncomputable def kX12_paysAll_4 : zK zR := q_lp (bX12_paysAll_4)
noncomputable def kX12_paysAll_0 : zK zR := (q_push 0 (q_istore 1 (q_push 0 (q_istore 2 kX12_paysAll_4))))
set_option maxRecDepth 100000 in
theorem tX12_paysAll_31 {l : Launch} {D : zD} {B sz0 : Nat} {post : Option Value → zS → Prop} : zSnd l D B xX12_paysAll sz0 post 31 kX12_paysAll_31 (z_Jr post) := (s_iload_n dX12_paysAll_31 rfl (s_iret dX12_paysAll_32 rfl))
set_option maxRecDepth 100000 in
theorem tX12_paysAll_4 {l : Launch} {D : zD} {B sz0 : Nat} {post : Option Value → zS → Prop} : zSnd l D B xX12_paysAll sz0 post 4 kX12_paysAll_4 (z_Jr post) := s_lp (body := bX12_paysAll_4) (s_iload_n dX12_paysAll_4 rfl (s_aload_n dX12_paysAll_5 rfl (s_getR (f := 26) dX12_paysAll_6 clX12 (by decide) rfl wd842 (s_aload_n dX12_paysAll_9 rfl (s_getI (f := 18) dX12_paysAll_10 clX12 (by decide) rfl wd854 (s_iald dX12_paysAll_13 (s_icmp_ge (tgt := 31) dX12_paysAll_14 (by decide) (s_dn tX12_paysAll_31) (s_iload_n dX12_paysAll_17 rfl (s_aload_n dX12_paysAll_18 rfl (s_iload_n dX12_paysAll_19 rfl (s_callV (r := (RX12, TX12, 74)) dX12_paysAll_20 mX12_paysOf meX12_paysOf wd1104 wd1105 rfl rfl reX12_paysOf rmX12_paysAll (fitX12_paysAll_20) wd1106 (s_iadd dX12_paysAll_23 (s_istore_n dX12_paysAll_24 rfl (s_iinc dX12_paysAll_25 (by decide) (s_goto (tgt := 4) dX12_paysAll_28 (by decide) s_ag)))))))))))))))
set_option maxRecDepth 100000 in
theorem tX12_paysAll_0 {l : Launch} {D : zD} {B sz0 : Nat} {post : Option Value → zS → Prop} : zSnd l D B xX12_paysAll sz0 post 0 kX12_paysAll_0 (z_Jr post) := (s_iconst dX12_paysAll_0 (by decide) (s_istore_n dX12_paysAll_1 rfl (s_iconst dX12_paysAll_2 (by decide) (s_istore_n dX12_paysAll_3 rfl tX12_paysAll_4))))
noncomputable def fX12_paysAll : zF := z_fn 3 kX12_paysAll_0
theorem mX12_paysAll {l : Launch} {D : zD} {B : Nat} : z_MF l D B yX12_paysAll xX12_paysAll fX12_paysAll := z_mf (by decide) rfl (fun h => by cases h) rfl (fun as σ r h => ⟨z_fn_len h, kX12_paysAll_0, z_fn_run h, fun _ => tX12_paysAll_0⟩)
/-! ===== RowChildrenModel.grows ===== -/
theorem dX12_grows_0 : decode cX12_grows 0 = .ok (.aload_n 0, 1) := by decide +kernel
theorem dX12_grows_1 : decode cX12_grows 1 = .ok (.iload_n 1, 1) := by decide +kernel
theorem dX12_grows_2 : decode cX12_grows 2 = .ok (.invokevirtual 380, 3) := by decide +kernel
theorem dX12_grows_5 : decode cX12_grows 5 = .ok (.iconst 0, 1) := by decide +kernel
theorem dX12_grows_6 : decode cX12_grows 6 = .ok (.istore_n 2, 1) := by decide +kernel
theorem dX12_grows_7 : decode cX12_grows 7 = .ok (.iload_n 2, 1) := by decide +kernel
theorem dX12_grows_8 : decode cX12_grows 8 = .ok (.iconst 1, 1) := by decide +kernel
theorem dX12_grows_9 : decode cX12_grows 9 = .ok (.iadd, 1) := by decide +kernel
theorem dX12_grows_10 : decode cX12_grows 10 = .ok (.aload_n 0, 1) := by decide +kernel
theorem dX12_grows_11 : decode cX12_grows 11 = .ok (.getfield 107, 3) := by decide +kernel
theorem dX12_grows_14 : decode cX12_grows 14 = .ok (.iload_n 1, 1) := by decide +kernel
theorem dX12_grows_15 : decode cX12_grows 15 = .ok (.iaload, 1) := by decide +kernel
theorem dX12_grows_16 : decode cX12_grows 16 = .ok (.if_icmp .ge 77, 3) := by decide +kernel
theorem dX12_grows_19 : decode cX12_grows 19 = .ok (.aload_n 0, 1) := by decide +kernel
theorem dX12_grows_20 : decode cX12_grows 20 = .ok (.bipush 64, 2) := by decide +kernel
theorem dX12_grows_22 : decode cX12_grows 22 = .ok (.aload_n 0, 1) := by decide +kernel
theorem dX12_grows_23 : decode cX12_grows 23 = .ok (.getfield 107, 3) := by decide +kernel
theorem dX12_grows_26 : decode cX12_grows 26 = .ok (.bipush 36, 2) := by decide +kernel
theorem dX12_grows_28 : decode cX12_grows 28 = .ok (.iaload, 1) := by decide +kernel
theorem dX12_grows_29 : decode cX12_grows 29 = .ok (.imul, 1) := by decide +kernel
theorem dX12_grows_30 : decode cX12_grows 30 = .ok (.bipush 16, 2) := by decide +kernel
theorem dX12_grows_32 : decode cX12_grows 32 = .ok (.iload_n 1, 1) := by decide +kernel
theorem dX12_grows_33 : decode cX12_grows 33 = .ok (.imul, 1) := by decide +kernel
theorem dX12_grows_34 : decode cX12_grows 34 = .ok (.iadd, 1) := by decide +kernel
theorem dX12_grows_35 : decode cX12_grows 35 = .ok (.iload_n 2, 1) := by decide +kernel
theorem dX12_grows_36 : decode cX12_grows 36 = .ok (.iadd, 1) := by decide +kernel
theorem dX12_grows_37 : decode cX12_grows 37 = .ok (.invokevirtual 383, 3) := by decide +kernel
theorem dX12_grows_40 : decode cX12_grows 40 = .ok (.aload_n 0, 1) := by decide +kernel
theorem dX12_grows_41 : decode cX12_grows 41 = .ok (.iload_n 1, 1) := by decide +kernel
theorem dX12_grows_42 : decode cX12_grows 42 = .ok (.iload_n 2, 1) := by decide +kernel
theorem dX12_grows_43 : decode cX12_grows 43 = .ok (.invokevirtual 386, 3) := by decide +kernel
theorem dX12_grows_46 : decode cX12_grows 46 = .ok (.if_icmp .ge 7, 3) := by decide +kernel
theorem dX12_grows_49 : decode cX12_grows 49 = .ok (.iconst 1, 1) := by decide +kernel
theorem dX12_grows_50 : decode cX12_grows 50 = .ok (.goto 4, 3) := by decide +kernel
theorem dX12_grows_53 : decode cX12_grows 53 = .ok (.iconst 0, 1) := by decide +kernel
theorem dX12_grows_54 : decode cX12_grows 54 = .ok (.istore_n 3, 1) := by decide +kernel
theorem dX12_grows_55 : decode cX12_grows 55 = .ok (.aload_n 0, 1) := by decide +kernel
theorem dX12_grows_56 : decode cX12_grows 56 = .ok (.getfield 113, 3) := by decide +kernel
theorem dX12_grows_59 : decode cX12_grows 59 = .ok (.iload_n 2, 1) := by decide +kernel
theorem dX12_grows_60 : decode cX12_grows 60 = .ok (.iload_n 3, 1) := by decide +kernel
theorem dX12_grows_61 : decode cX12_grows 61 = .ok (.ifCond .eq 19, 3) := by decide +kernel
theorem dX12_grows_64 : decode cX12_grows 64 = .ok (.aload_n 0, 1) := by decide +kernel
theorem dX12_grows_65 : decode cX12_grows 65 = .ok (.iconst 1, 1) := by decide +kernel
theorem dX12_grows_66 : decode cX12_grows 66 = .ok (.iload_n 2, 1) := by decide +kernel
theorem dX12_grows_67 : decode cX12_grows 67 = .ok (.invokevirtual 343, 3) := by decide +kernel
theorem dX12_grows_70 : decode cX12_grows 70 = .ok (.iconst 1, 1) := by decide +kernel
theorem dX12_grows_71 : decode cX12_grows 71 = .ok (.iadd, 1) := by decide +kernel
theorem dX12_grows_72 : decode cX12_grows 72 = .ok (.aload_n 0, 1) := by decide +kernel
theorem dX12_grows_73 : decode cX12_grows 73 = .ok (.invokevirtual 327, 3) := by decide +kernel
theorem dX12_grows_76 : decode cX12_grows 76 = .ok (.irem, 1) := by decide +kernel
theorem dX12_grows_77 : decode cX12_grows 77 = .ok (.goto 9, 3) := by decide +kernel
theorem dX12_grows_80 : decode cX12_grows 80 = .ok (.aload_n 0, 1) := by decide +kernel
theorem dX12_grows_81 : decode cX12_grows 81 = .ok (.iconst 1, 1) := by decide +kernel
theorem dX12_grows_82 : decode cX12_grows 82 = .ok (.iload_n 2, 1) := by decide +kernel
theorem dX12_grows_83 : decode cX12_grows 83 = .ok (.invokevirtual 343, 3) := by decide +kernel
theorem dX12_grows_86 : decode cX12_grows 86 = .ok (.iastore, 1) := by decide +kernel
theorem dX12_grows_87 : decode cX12_grows 87 = .ok (.iinc 2 1, 3) := by decide +kernel
theorem dX12_grows_90 : decode cX12_grows 90 = .ok (.goto (-83), 3) := by decide +kernel
theorem dX12_grows_93 : decode cX12_grows 93 = .ok (.aload_n 0, 1) := by decide +kernel
theorem dX12_grows_94 : decode cX12_grows 94 = .ok (.getfield 107, 3) := by decide +kernel
theorem dX12_grows_97 : decode cX12_grows 97 = .ok (.iload_n 1, 1) := by decide +kernel
theorem dX12_grows_98 : decode cX12_grows 98 = .ok (.iaload, 1) := by decide +kernel
theorem dX12_grows_99 : decode cX12_grows 99 = .ok (.iconst 1, 1) := by decide +kernel
theorem dX12_grows_100 : decode cX12_grows 100 = .ok (.if_icmp .ne 4, 3) := by decide +kernel
theorem dX12_grows_103 : decode cX12_grows 103 = .ok (.return_, 1) := by decide +kernel
theorem dX12_grows_104 : decode cX12_grows 104 = .ok (.aload_n 0, 1) := by decide +kernel
theorem dX12_grows_105 : decode cX12_grows 105 = .ok (.getfield 107, 3) := by decide +kernel
theorem dX12_grows_108 : decode cX12_grows 108 = .ok (.iload_n 1, 1) := by decide +kernel
theorem dX12_grows_109 : decode cX12_grows 109 = .ok (.dup2, 1) := by decide +kernel
theorem dX12_grows_110 : decode cX12_grows 110 = .ok (.iaload, 1) := by decide +kernel
theorem dX12_grows_111 : decode cX12_grows 111 = .ok (.iconst 1, 1) := by decide +kernel
theorem dX12_grows_112 : decode cX12_grows 112 = .ok (.isub, 1) := by decide +kernel
theorem dX12_grows_113 : decode cX12_grows 113 = .ok (.iastore, 1) := by decide +kernel
theorem dX12_grows_114 : decode cX12_grows 114 = .ok (.iconst 0, 1) := by decide +kernel
theorem dX12_grows_115 : decode cX12_grows 115 = .ok (.istore_n 2, 1) := by decide +kernel
theorem dX12_grows_116 : decode cX12_grows 116 = .ok (.iload_n 2, 1) := by decide +kernel
theorem dX12_grows_117 : decode cX12_grows 117 = .ok (.bipush 8, 2) := by decide +kernel
theorem dX12_grows_119 : decode cX12_grows 119 = .ok (.if_icmp .ge 42, 3) := by decide +kernel
theorem dX12_grows_122 : decode cX12_grows 122 = .ok (.aload_n 0, 1) := by decide +kernel
theorem dX12_grows_123 : decode cX12_grows 123 = .ok (.getfield 107, 3) := by decide +kernel
theorem dX12_grows_126 : decode cX12_grows 126 = .ok (.iconst 4, 1) := by decide +kernel
theorem dX12_grows_127 : decode cX12_grows 127 = .ok (.bipush 8, 2) := by decide +kernel
theorem dX12_grows_129 : decode cX12_grows 129 = .ok (.iload_n 1, 1) := by decide +kernel
theorem dX12_grows_130 : decode cX12_grows 130 = .ok (.imul, 1) := by decide +kernel
theorem dX12_grows_131 : decode cX12_grows 131 = .ok (.iadd, 1) := by decide +kernel
theorem dX12_grows_132 : decode cX12_grows 132 = .ok (.iload_n 2, 1) := by decide +kernel
theorem dX12_grows_133 : decode cX12_grows 133 = .ok (.iadd, 1) := by decide +kernel
theorem dX12_grows_134 : decode cX12_grows 134 = .ok (.iload_n 2, 1) := by decide +kernel
theorem dX12_grows_135 : decode cX12_grows 135 = .ok (.aload_n 0, 1) := by decide +kernel
theorem dX12_grows_136 : decode cX12_grows 136 = .ok (.getfield 107, 3) := by decide +kernel
theorem dX12_grows_139 : decode cX12_grows 139 = .ok (.iload_n 1, 1) := by decide +kernel
theorem dX12_grows_140 : decode cX12_grows 140 = .ok (.iaload, 1) := by decide +kernel
theorem dX12_grows_141 : decode cX12_grows 141 = .ok (.if_icmp .ge 12, 3) := by decide +kernel
theorem dX12_grows_144 : decode cX12_grows 144 = .ok (.aload_n 0, 1) := by decide +kernel
theorem dX12_grows_145 : decode cX12_grows 145 = .ok (.getfield 113, 3) := by decide +kernel
theorem dX12_grows_148 : decode cX12_grows 148 = .ok (.iload_n 2, 1) := by decide +kernel
theorem dX12_grows_149 : decode cX12_grows 149 = .ok (.iaload, 1) := by decide +kernel
theorem dX12_grows_150 : decode cX12_grows 150 = .ok (.goto 4, 3) := by decide +kernel
theorem dX12_grows_153 : decode cX12_grows 153 = .ok (.iconst 0, 1) := by decide +kernel
theorem dX12_grows_154 : decode cX12_grows 154 = .ok (.iastore, 1) := by decide +kernel
theorem dX12_grows_155 : decode cX12_grows 155 = .ok (.iinc 2 1, 3) := by decide +kernel
theorem dX12_grows_158 : decode cX12_grows 158 = .ok (.goto (-42), 3) := by decide +kernel
theorem dX12_grows_161 : decode cX12_grows 161 = .ok (.return_, 1) := by decide +kernel
def xX12_grows : zX := (RX12, cX12_grows, 4, none, false, { frames := 5, cells := 0, slots := 0, locals := 182 }, 0, 0, 0, 0)
theorem rmX12_grows : z_Rm xX12_grows := by unfold z_Rm xX12_grows; exact ⟨by decide, by decide⟩
theorem reX12_grows : z_Re xX12_grows := ⟨rfl, rfl⟩
theorem rlX12_grows : 1 ≤ xX12_grows.2.2.2.2.2.1.frames ∧ 21 ≤ xX12_grows.2.2.2.2.2.1.locals := by unfold xX12_grows; exact ⟨by decide, by decide⟩
theorem meX12_grows : z_Me yX12_grows xX12_grows 1 := ⟨wd1117, wd848, by decide, by decide, by decide +kernel⟩
theorem fitX12_grows_2 : z_Fit xX12_laysRow xX12_grows := by unfold z_Fit; simp only [xX12_laysRow, xX12_grows]; exact ⟨by decide, by decide⟩
theorem fitX12_grows_37 : z_Fit xX12_lotOf xX12_grows := by unfold z_Fit; simp only [xX12_lotOf, xX12_grows]; exact ⟨by decide, by decide⟩
theorem fitX12_grows_43 : z_Fit xX12_oddsOf xX12_grows := by unfold z_Fit; simp only [xX12_oddsOf, xX12_grows]; exact ⟨by decide, by decide⟩
theorem fitX12_grows_83 : z_Fit xX12_laidAt xX12_grows := by unfold z_Fit; simp only [xX12_laidAt, xX12_grows]; exact ⟨by decide, by decide⟩
theorem fitX12_grows_67 : z_Fit xX12_laidAt xX12_grows := by unfold z_Fit; simp only [xX12_laidAt, xX12_grows]; exact ⟨by decide, by decide⟩
theorem fitX12_grows_73 : z_Fit xX12_base xX12_grows := by unfold z_Fit; simp only [xX12_base, xX12_grows]; exact ⟨by decide, by decide⟩
noncomputable def kX12_grows_161 : zK zR := q_vret
noncomputable def kX12_grows_154 : zK ((zL × zS) ⊕ zR) := (q_iast (q_iinc 2 1 q_ag))
noncomputable def bX12_grows_116 : zK ((zL × zS) ⊕ zR) := (q_iload 2 (q_push 8 (q_icmp_ge (q_dn kX12_grows_161) (q_aload 0 (q_getR 12 47 (q_push 4 (q_push 8 (q_iload 1 (q_imul (q_iadd (q_iload 2 (q_iadd (q_iload 2 (q_aload 0 (q_getR 12 47 (q_iload 1 (q_iald (q_icmp_ge (q_push 0 kX12_grows_154) (q_aload 0 (q_getR 12 51 (q_iload 2 (q_iald kX12_grows_154))))))))))))))))))))))
noncomputable def kX12_grows_116 : zK zR := q_lp (bX12_grows_116)
noncomputable def kX12_grows_93 : zK zR := (q_aload 0 (q_getR 12 47 (q_iload 1 (q_iald (q_push 1 (q_icmp_ne (q_aload 0 (q_getR 12 47 (q_iload 1 (q_dup2 (q_iald (q_push 1 (q_isub (q_iast (q_push 0 (q_istore 2 kX12_grows_116)))))))))) q_vret))))))
noncomputable def kX12_grows_86 : zK ((zL × zS) ⊕ zR) := (q_iast (q_iinc 2 1 q_ag))
noncomputable def kX12_grows_54 : zK ((zL × zS) ⊕ zR) := (q_istore 3 (q_aload 0 (q_getR 12 51 (q_iload 2 (q_iload 3 (q_if_eq (q_aload 0 (q_push 1 (q_iload 2 (q_callV 12 fX12_laidAt 2 kX12_grows_86)))) (q_aload 0 (q_push 1 (q_iload 2 (q_callV 12 fX12_laidAt 2 (q_push 1 (q_iadd (q_aload 0 (q_callV 12 fX12_base 0 (q_irem kX12_grows_86)))))))))))))))
noncomputable def bX12_grows_7 : zK ((zL × zS) ⊕ zR) := (q_iload 2 (q_push 1 (q_iadd (q_aload 0 (q_getR 12 47 (q_iload 1 (q_iald (q_icmp_ge (q_dn kX12_grows_93) (q_aload 0 (q_push 64 (q_aload 0 (q_getR 12 47 (q_push 36 (q_iald (q_imul (q_push 16 (q_iload 1 (q_imul (q_iadd (q_iload 2 (q_iadd (q_callV 12 fX12_lotOf 1 (q_aload 0 (q_iload 1 (q_iload 2 (q_callV 12 fX12_oddsOf 2 (q_icmp_ge (q_push 0 kX12_grows_54) (q_push 1 kX12_grows_54))))))))))))))))))))))))))))
noncomputable def kX12_grows_7 : zK zR := q_lp (bX12_grows_7)
noncomputable def kX12_grows_0 : zK zR := (q_aload 0 (q_iload 1 (q_callV 12 fX12_laysRow 1 (q_push 0 (q_istore 2 kX12_grows_7)))))
set_option maxRecDepth 100000 in
theorem tX12_grows_161 {l : Launch} {D : zD} {B sz0 : Nat} {post : Option Value → zS → Prop} : zSnd l D B xX12_grows sz0 post 161 kX12_grows_161 (z_Jr post) := (s_vret dX12_grows_161 rfl)
set_option maxRecDepth 100000 in
theorem tX12_grows_154 {l : Launch} {D : zD} {B sz0 : Nat} {post : Option Value → zS → Prop} : zSnd l D B xX12_grows sz0 post 154 kX12_grows_154 (z_Jl l D B xX12_grows sz0 post 116 (z_Jr post)) := (s_iast dX12_grows_154 (s_iinc dX12_grows_155 (by decide) (s_goto (tgt := 116) dX12_grows_158 (by decide) s_ag)))
set_option maxRecDepth 100000 in
theorem tX12_grows_116 {l : Launch} {D : zD} {B sz0 : Nat} {post : Option Value → zS → Prop} : zSnd l D B xX12_grows sz0 post 116 kX12_grows_116 (z_Jr post) := s_lp (body := bX12_grows_116) (s_iload_n dX12_grows_116 rfl (s_bipush dX12_grows_117 (by decide) (s_icmp_ge (tgt := 161) dX12_grows_119 (by decide) (s_dn tX12_grows_161) (s_aload_n dX12_grows_122 rfl (s_getR (f := 47) dX12_grows_123 clX12 (by decide) rfl wd856 (s_iconst dX12_grows_126 (by decide) (s_bipush dX12_grows_127 (by decide) (s_iload_n dX12_grows_129 rfl (s_imul dX12_grows_130 (s_iadd dX12_grows_131 (s_iload_n dX12_grows_132 rfl (s_iadd dX12_grows_133 (s_iload_n dX12_grows_134 rfl (s_aload_n dX12_grows_135 rfl (s_getR (f := 47) dX12_grows_136 clX12 (by decide) rfl wd856 (s_iload_n dX12_grows_139 rfl (s_iald dX12_grows_140 (s_icmp_ge (tgt := 153) dX12_grows_141 (by decide) (s_iconst dX12_grows_153 (by decide) tX12_grows_154) (s_aload_n dX12_grows_144 rfl (s_getR (f := 51) dX12_grows_145 clX12 (by decide) rfl wd883 (s_iload_n dX12_grows_148 rfl (s_iald dX12_grows_149 (s_goto (tgt := 154) dX12_grows_150 (by decide) tX12_grows_154)))))))))))))))))))))))
set_option maxRecDepth 100000 in
theorem tX12_grows_93 {l : Launch} {D : zD} {B sz0 : Nat} {post : Option Value → zS → Prop} : zSnd l D B xX12_grows sz0 post 93 kX12_grows_93 (z_Jr post) := (s_aload_n dX12_grows_93 rfl (s_getR (f := 47) dX12_grows_94 clX12 (by decide) rfl wd856 (s_iload_n dX12_grows_97 rfl (s_iald dX12_grows_98 (s_iconst dX12_grows_99 (by decide) (s_icmp_ne (tgt := 104) dX12_grows_100 (by decide) (s_aload_n dX12_grows_104 rfl (s_getR (f := 47) dX12_grows_105 clX12 (by decide) rfl wd856 (s_iload_n dX12_grows_108 rfl (s_dup2 dX12_grows_109 (s_iald dX12_grows_110 (s_iconst dX12_grows_111 (by decide) (s_isub dX12_grows_112 (s_iast dX12_grows_113 (s_iconst dX12_grows_114 (by decide) (s_istore_n dX12_grows_115 rfl tX12_grows_116)))))))))) (s_vret dX12_grows_103 rfl)))))))
set_option maxRecDepth 100000 in
theorem tX12_grows_86 {l : Launch} {D : zD} {B sz0 : Nat} {post : Option Value → zS → Prop} : zSnd l D B xX12_grows sz0 post 86 kX12_grows_86 (z_Jl l D B xX12_grows sz0 post 7 (z_Jr post)) := (s_iast dX12_grows_86 (s_iinc dX12_grows_87 (by decide) (s_goto (tgt := 7) dX12_grows_90 (by decide) s_ag)))
set_option maxRecDepth 100000 in
theorem tX12_grows_54 {l : Launch} {D : zD} {B sz0 : Nat} {post : Option Value → zS → Prop} : zSnd l D B xX12_grows sz0 post 54 kX12_grows_54 (z_Jl l D B xX12_grows sz0 post 7 (z_Jr post)) := (s_istore_n dX12_grows_54 rfl (s_aload_n dX12_grows_55 rfl (s_getR (f := 51) dX12_grows_56 clX12 (by decide) rfl wd883 (s_iload_n dX12_grows_59 rfl (s_iload_n dX12_grows_60 rfl (s_if_eq (tgt := 80) dX12_grows_61 (by decide) (s_aload_n dX12_grows_80 rfl (s_iconst dX12_grows_81 (by decide) (s_iload_n dX12_grows_82 rfl (s_callV (r := (RX12, TX12, 74)) dX12_grows_83 mX12_laidAt meX12_laidAt wd1054 wd1055 rfl rfl reX12_laidAt rmX12_grows (fitX12_grows_83) wd1056 tX12_grows_86)))) (s_aload_n dX12_grows_64 rfl (s_iconst dX12_grows_65 (by decide) (s_iload_n dX12_grows_66 rfl (s_callV (r := (RX12, TX12, 74)) dX12_grows_67 mX12_laidAt meX12_laidAt wd1054 wd1055 rfl rfl reX12_laidAt rmX12_grows (fitX12_grows_67) wd1056 (s_iconst dX12_grows_70 (by decide) (s_iadd dX12_grows_71 (s_aload_n dX12_grows_72 rfl (s_callV (r := (RX12, TX12, 74)) dX12_grows_73 mX12_base meX12_base wd1036 wd1037 rfl rfl reX12_base rmX12_grows (fitX12_grows_73) wd1038 (s_irem dX12_grows_76 (s_goto (tgt := 86) dX12_grows_77 (by decide) tX12_grows_86))))))))))))))))
set_option maxRecDepth 100000 in
theorem tX12_grows_7 {l : Launch} {D : zD} {B sz0 : Nat} {post : Option Value → zS → Prop} : zSnd l D B xX12_grows sz0 post 7 kX12_grows_7 (z_Jr post) := s_lp (body := bX12_grows_7) (s_iload_n dX12_grows_7 rfl (s_iconst dX12_grows_8 (by decide) (s_iadd dX12_grows_9 (s_aload_n dX12_grows_10 rfl (s_getR (f := 47) dX12_grows_11 clX12 (by decide) rfl wd856 (s_iload_n dX12_grows_14 rfl (s_iald dX12_grows_15 (s_icmp_ge (tgt := 93) dX12_grows_16 (by decide) (s_dn tX12_grows_93) (s_aload_n dX12_grows_19 rfl (s_bipush dX12_grows_20 (by decide) (s_aload_n dX12_grows_22 rfl (s_getR (f := 47) dX12_grows_23 clX12 (by decide) rfl wd856 (s_bipush dX12_grows_26 (by decide) (s_iald dX12_grows_28 (s_imul dX12_grows_29 (s_bipush dX12_grows_30 (by decide) (s_iload_n dX12_grows_32 rfl (s_imul dX12_grows_33 (s_iadd dX12_grows_34 (s_iload_n dX12_grows_35 rfl (s_iadd dX12_grows_36 (s_callV (r := (RX12, TX12, 74)) dX12_grows_37 mX12_lotOf meX12_lotOf wd1111 wd1112 rfl rfl reX12_lotOf rmX12_grows (fitX12_grows_37) wd1113 (s_aload_n dX12_grows_40 rfl (s_iload_n dX12_grows_41 rfl (s_iload_n dX12_grows_42 rfl (s_callV (r := (RX12, TX12, 74)) dX12_grows_43 mX12_oddsOf meX12_oddsOf wd1114 wd1115 rfl rfl reX12_oddsOf rmX12_grows (fitX12_grows_43) wd1116 (s_icmp_ge (tgt := 53) dX12_grows_46 (by decide) (s_iconst dX12_grows_53 (by decide) tX12_grows_54) (s_iconst dX12_grows_49 (by decide) (s_goto (tgt := 54) dX12_grows_50 (by decide) tX12_grows_54)))))))))))))))))))))))))))))
set_option maxRecDepth 100000 in
theorem tX12_grows_0 {l : Launch} {D : zD} {B sz0 : Nat} {post : Option Value → zS → Prop} : zSnd l D B xX12_grows sz0 post 0 kX12_grows_0 (z_Jr post) := (s_aload_n dX12_grows_0 rfl (s_iload_n dX12_grows_1 rfl (s_callV (r := (RX12, TX12, 74)) dX12_grows_2 mX12_laysRow meX12_laysRow wd1108 wd1109 rfl rfl reX12_laysRow rmX12_grows (fitX12_grows_2) wd1110 (s_iconst dX12_grows_5 (by decide) (s_istore_n dX12_grows_6 rfl tX12_grows_7)))))
noncomputable def fX12_grows : zF := z_fn 4 kX12_grows_0
theorem mX12_grows {l : Launch} {D : zD} {B : Nat} : z_MF l D B yX12_grows xX12_grows fX12_grows := z_mf (by decide) rfl (fun h => by cases h) rfl (fun as σ r h => ⟨z_fn_len h, kX12_grows_0, z_fn_run h, fun _ => tX12_grows_0⟩)
/-! ===== RowChildrenModel.generationGoes ===== -/
theorem dX12_generationGoes_0 : decode cX12_generationGoes 0 = .ok (.aload_n 0, 1) := by decide +kernel
theorem dX12_generationGoes_1 : decode cX12_generationGoes 1 = .ok (.getfield 107, 3) := by decide +kernel
theorem dX12_generationGoes_4 : decode cX12_generationGoes 4 = .ok (.bipush 37, 2) := by decide +kernel
theorem dX12_generationGoes_6 : decode cX12_generationGoes 6 = .ok (.dup2, 1) := by decide +kernel
theorem dX12_generationGoes_7 : decode cX12_generationGoes 7 = .ok (.iaload, 1) := by decide +kernel
theorem dX12_generationGoes_8 : decode cX12_generationGoes 8 = .ok (.aload_n 0, 1) := by decide +kernel
theorem dX12_generationGoes_9 : decode cX12_generationGoes 9 = .ok (.invokevirtual 389, 3) := by decide +kernel
theorem dX12_generationGoes_12 : decode cX12_generationGoes 12 = .ok (.iadd, 1) := by decide +kernel
theorem dX12_generationGoes_13 : decode cX12_generationGoes 13 = .ok (.iastore, 1) := by decide +kernel
theorem dX12_generationGoes_14 : decode cX12_generationGoes 14 = .ok (.iconst 0, 1) := by decide +kernel
theorem dX12_generationGoes_15 : decode cX12_generationGoes 15 = .ok (.istore_n 1, 1) := by decide +kernel
theorem dX12_generationGoes_16 : decode cX12_generationGoes 16 = .ok (.iload_n 1, 1) := by decide +kernel
theorem dX12_generationGoes_17 : decode cX12_generationGoes 17 = .ok (.aload_n 0, 1) := by decide +kernel
theorem dX12_generationGoes_18 : decode cX12_generationGoes 18 = .ok (.getfield 55, 3) := by decide +kernel
theorem dX12_generationGoes_21 : decode cX12_generationGoes 21 = .ok (.aload_n 0, 1) := by decide +kernel
theorem dX12_generationGoes_22 : decode cX12_generationGoes 22 = .ok (.getfield 249, 3) := by decide +kernel
theorem dX12_generationGoes_25 : decode cX12_generationGoes 25 = .ok (.iaload, 1) := by decide +kernel
theorem dX12_generationGoes_26 : decode cX12_generationGoes 26 = .ok (.if_icmp .ge 14, 3) := by decide +kernel
theorem dX12_generationGoes_29 : decode cX12_generationGoes 29 = .ok (.aload_n 0, 1) := by decide +kernel
theorem dX12_generationGoes_30 : decode cX12_generationGoes 30 = .ok (.iload_n 1, 1) := by decide +kernel
theorem dX12_generationGoes_31 : decode cX12_generationGoes 31 = .ok (.invokevirtual 392, 3) := by decide +kernel
theorem dX12_generationGoes_34 : decode cX12_generationGoes 34 = .ok (.iinc 1 1, 3) := by decide +kernel
theorem dX12_generationGoes_37 : decode cX12_generationGoes 37 = .ok (.goto (-21), 3) := by decide +kernel
theorem dX12_generationGoes_40 : decode cX12_generationGoes 40 = .ok (.aload_n 0, 1) := by decide +kernel
theorem dX12_generationGoes_41 : decode cX12_generationGoes 41 = .ok (.getfield 107, 3) := by decide +kernel
theorem dX12_generationGoes_44 : decode cX12_generationGoes 44 = .ok (.bipush 36, 2) := by decide +kernel
theorem dX12_generationGoes_46 : decode cX12_generationGoes 46 = .ok (.dup2, 1) := by decide +kernel
theorem dX12_generationGoes_47 : decode cX12_generationGoes 47 = .ok (.iaload, 1) := by decide +kernel
theorem dX12_generationGoes_48 : decode cX12_generationGoes 48 = .ok (.iconst 1, 1) := by decide +kernel
theorem dX12_generationGoes_49 : decode cX12_generationGoes 49 = .ok (.iadd, 1) := by decide +kernel
theorem dX12_generationGoes_50 : decode cX12_generationGoes 50 = .ok (.iastore, 1) := by decide +kernel
theorem dX12_generationGoes_51 : decode cX12_generationGoes 51 = .ok (.return_, 1) := by decide +kernel
def xX12_generationGoes : zX := (RX12, cX12_generationGoes, 2, none, false, { frames := 6, cells := 0, slots := 0, locals := 205 }, 0, 0, 0, 0)
theorem rmX12_generationGoes : z_Rm xX12_generationGoes := by unfold z_Rm xX12_generationGoes; exact ⟨by decide, by decide⟩
theorem reX12_generationGoes : z_Re xX12_generationGoes := ⟨rfl, rfl⟩
theorem rlX12_generationGoes : 1 ≤ xX12_generationGoes.2.2.2.2.2.1.frames ∧ 21 ≤ xX12_generationGoes.2.2.2.2.2.1.locals := by unfold xX12_generationGoes; exact ⟨by decide, by decide⟩
theorem meX12_generationGoes : z_Me yX12_generationGoes xX12_generationGoes 0 := ⟨wd1124, wd848, by decide, by decide, by decide +kernel⟩
theorem fitX12_generationGoes_9 : z_Fit xX12_paysAll xX12_generationGoes := by unfold z_Fit; simp only [xX12_paysAll, xX12_generationGoes]; exact ⟨by decide, by decide⟩
theorem fitX12_generationGoes_31 : z_Fit xX12_grows xX12_generationGoes := by unfold z_Fit; simp only [xX12_grows, xX12_generationGoes]; exact ⟨by decide, by decide⟩
noncomputable def kX12_generationGoes_40 : zK zR := (q_aload 0 (q_getR 12 47 (q_push 36 (q_dup2 (q_iald (q_push 1 (q_iadd (q_iast q_vret))))))))
noncomputable def bX12_generationGoes_16 : zK ((zL × zS) ⊕ zR) := (q_iload 1 (q_aload 0 (q_getR 12 26 (q_aload 0 (q_getI 12 18 (q_iald (q_icmp_ge (q_dn kX12_generationGoes_40) (q_aload 0 (q_iload 1 (q_callV 12 fX12_grows 1 (q_iinc 1 1 q_ag)))))))))))
noncomputable def kX12_generationGoes_16 : zK zR := q_lp (bX12_generationGoes_16)
noncomputable def kX12_generationGoes_0 : zK zR := (q_aload 0 (q_getR 12 47 (q_push 37 (q_dup2 (q_iald (q_aload 0 (q_callV 12 fX12_paysAll 0 (q_iadd (q_iast (q_push 0 (q_istore 1 kX12_generationGoes_16)))))))))))
set_option maxRecDepth 100000 in
theorem tX12_generationGoes_40 {l : Launch} {D : zD} {B sz0 : Nat} {post : Option Value → zS → Prop} : zSnd l D B xX12_generationGoes sz0 post 40 kX12_generationGoes_40 (z_Jr post) := (s_aload_n dX12_generationGoes_40 rfl (s_getR (f := 47) dX12_generationGoes_41 clX12 (by decide) rfl wd856 (s_bipush dX12_generationGoes_44 (by decide) (s_dup2 dX12_generationGoes_46 (s_iald dX12_generationGoes_47 (s_iconst dX12_generationGoes_48 (by decide) (s_iadd dX12_generationGoes_49 (s_iast dX12_generationGoes_50 (s_vret dX12_generationGoes_51 rfl)))))))))
set_option maxRecDepth 100000 in
theorem tX12_generationGoes_16 {l : Launch} {D : zD} {B sz0 : Nat} {post : Option Value → zS → Prop} : zSnd l D B xX12_generationGoes sz0 post 16 kX12_generationGoes_16 (z_Jr post) := s_lp (body := bX12_generationGoes_16) (s_iload_n dX12_generationGoes_16 rfl (s_aload_n dX12_generationGoes_17 rfl (s_getR (f := 26) dX12_generationGoes_18 clX12 (by decide) rfl wd842 (s_aload_n dX12_generationGoes_21 rfl (s_getI (f := 18) dX12_generationGoes_22 clX12 (by decide) rfl wd854 (s_iald dX12_generationGoes_25 (s_icmp_ge (tgt := 40) dX12_generationGoes_26 (by decide) (s_dn tX12_generationGoes_40) (s_aload_n dX12_generationGoes_29 rfl (s_iload_n dX12_generationGoes_30 rfl (s_callV (r := (RX12, TX12, 74)) dX12_generationGoes_31 mX12_grows meX12_grows wd1121 wd1122 rfl rfl reX12_grows rmX12_generationGoes (fitX12_generationGoes_31) wd1123 (s_iinc dX12_generationGoes_34 (by decide) (s_goto (tgt := 16) dX12_generationGoes_37 (by decide) s_ag))))))))))))
set_option maxRecDepth 100000 in
theorem tX12_generationGoes_0 {l : Launch} {D : zD} {B sz0 : Nat} {post : Option Value → zS → Prop} : zSnd l D B xX12_generationGoes sz0 post 0 kX12_generationGoes_0 (z_Jr post) := (s_aload_n dX12_generationGoes_0 rfl (s_getR (f := 47) dX12_generationGoes_1 clX12 (by decide) rfl wd856 (s_bipush dX12_generationGoes_4 (by decide) (s_dup2 dX12_generationGoes_6 (s_iald dX12_generationGoes_7 (s_aload_n dX12_generationGoes_8 rfl (s_callV (r := (RX12, TX12, 74)) dX12_generationGoes_9 mX12_paysAll meX12_paysAll wd1118 wd1119 rfl rfl reX12_paysAll rmX12_generationGoes (fitX12_generationGoes_9) wd1120 (s_iadd dX12_generationGoes_12 (s_iast dX12_generationGoes_13 (s_iconst dX12_generationGoes_14 (by decide) (s_istore_n dX12_generationGoes_15 rfl tX12_generationGoes_16)))))))))))
noncomputable def fX12_generationGoes : zF := z_fn 2 kX12_generationGoes_0
theorem mX12_generationGoes {l : Launch} {D : zD} {B : Nat} : z_MF l D B yX12_generationGoes xX12_generationGoes fX12_generationGoes := z_mf (by decide) rfl (fun h => by cases h) rfl (fun as σ r h => ⟨z_fn_len h, kX12_generationGoes_0, z_fn_run h, fun _ => tX12_generationGoes_0⟩)
/-! ===== RowChildrenModel.goes ===== -/
theorem dX12_goes_0 : decode cX12_goes 0 = .ok (.iconst 0, 1) := by decide +kernel
theorem dX12_goes_1 : decode cX12_goes 1 = .ok (.istore_n 2, 1) := by decide +kernel
theorem dX12_goes_2 : decode cX12_goes 2 = .ok (.iload_n 2, 1) := by decide +kernel
theorem dX12_goes_3 : decode cX12_goes 3 = .ok (.iload_n 1, 1) := by decide +kernel
theorem dX12_goes_4 : decode cX12_goes 4 = .ok (.if_icmp .ge 13, 3) := by decide +kernel
theorem dX12_goes_7 : decode cX12_goes 7 = .ok (.aload_n 0, 1) := by decide +kernel
theorem dX12_goes_8 : decode cX12_goes 8 = .ok (.invokevirtual 395, 3) := by decide +kernel
theorem dX12_goes_11 : decode cX12_goes 11 = .ok (.iinc 2 1, 3) := by decide +kernel
theorem dX12_goes_14 : decode cX12_goes 14 = .ok (.goto (-12), 3) := by decide +kernel
theorem dX12_goes_17 : decode cX12_goes 17 = .ok (.return_, 1) := by decide +kernel
def xX12_goes : zX := (RX12, cX12_goes, 3, none, false, { frames := 7, cells := 0, slots := 0, locals := 226 }, 0, 0, 0, 0)
theorem rmX12_goes : z_Rm xX12_goes := by unfold z_Rm xX12_goes; exact ⟨by decide, by decide⟩
theorem reX12_goes : z_Re xX12_goes := ⟨rfl, rfl⟩
theorem rlX12_goes : 1 ≤ xX12_goes.2.2.2.2.2.1.frames ∧ 21 ≤ xX12_goes.2.2.2.2.2.1.locals := by unfold xX12_goes; exact ⟨by decide, by decide⟩
theorem meX12_goes : z_Me yX12_goes xX12_goes 1 := ⟨wd1128, wd848, by decide, by decide, by decide +kernel⟩
theorem fitX12_goes_8 : z_Fit xX12_generationGoes xX12_goes := by unfold z_Fit; simp only [xX12_generationGoes, xX12_goes]; exact ⟨by decide, by decide⟩
noncomputable def kX12_goes_17 : zK zR := q_vret
noncomputable def bX12_goes_2 : zK ((zL × zS) ⊕ zR) := (q_iload 2 (q_iload 1 (q_icmp_ge (q_dn kX12_goes_17) (q_aload 0 (q_callV 12 fX12_generationGoes 0 (q_iinc 2 1 q_ag))))))
noncomputable def kX12_goes_2 : zK zR := q_lp (bX12_goes_2)
noncomputable def kX12_goes_0 : zK zR := (q_push 0 (q_istore 2 kX12_goes_2))
set_option maxRecDepth 100000 in
theorem tX12_goes_17 {l : Launch} {D : zD} {B sz0 : Nat} {post : Option Value → zS → Prop} : zSnd l D B xX12_goes sz0 post 17 kX12_goes_17 (z_Jr post) := (s_vret dX12_goes_17 rfl)
set_option maxRecDepth 100000 in
theorem tX12_goes_2 {l : Launch} {D : zD} {B sz0 : Nat} {post : Option Value → zS → Prop} : zSnd l D B xX12_goes sz0 post 2 kX12_goes_2 (z_Jr post) := s_lp (body := bX12_goes_2) (s_iload_n dX12_goes_2 rfl (s_iload_n dX12_goes_3 rfl (s_icmp_ge (tgt := 17) dX12_goes_4 (by decide) (s_dn tX12_goes_17) (s_aload_n dX12_goes_7 rfl (s_callV (r := (RX12, TX12, 74)) dX12_goes_8 mX12_generationGoes meX12_generationGoes wd1125 wd1126 rfl rfl reX12_generationGoes rmX12_goes (fitX12_goes_8) wd1127 (s_iinc dX12_goes_11 (by decide) (s_goto (tgt := 2) dX12_goes_14 (by decide) s_ag)))))))
set_option maxRecDepth 100000 in
theorem tX12_goes_0 {l : Launch} {D : zD} {B sz0 : Nat} {post : Option Value → zS → Prop} : zSnd l D B xX12_goes sz0 post 0 kX12_goes_0 (z_Jr post) := (s_iconst dX12_goes_0 (by decide) (s_istore_n dX12_goes_1 rfl tX12_goes_2))
noncomputable def fX12_goes : zF := z_fn 3 kX12_goes_0
theorem mX12_goes {l : Launch} {D : zD} {B : Nat} : z_MF l D B yX12_goes xX12_goes fX12_goes := z_mf (by decide) rfl (fun h => by cases h) rfl (fun as σ r h => ⟨z_fn_len h, kX12_goes_0, z_fn_run h, fun _ => tX12_goes_0⟩)
/-! ===== RowChildrenModel.child ===== -/
theorem dX12_child_0 : decode cX12_child 0 = .ok (.aload_n 0, 1) := by decide +kernel
theorem dX12_child_1 : decode cX12_child 1 = .ok (.iload_n 1, 1) := by decide +kernel
theorem dX12_child_2 : decode cX12_child 2 = .ok (.invokevirtual 398, 3) := by decide +kernel
theorem dX12_child_5 : decode cX12_child 5 = .ok (.ifCond .eq 20, 3) := by decide +kernel
theorem dX12_child_8 : decode cX12_child 8 = .ok (.aload_n 0, 1) := by decide +kernel
theorem dX12_child_9 : decode cX12_child 9 = .ok (.iload_n 2, 1) := by decide +kernel
theorem dX12_child_10 : decode cX12_child 10 = .ok (.invokevirtual 398, 3) := by decide +kernel
theorem dX12_child_13 : decode cX12_child 13 = .ok (.ifCond .eq 12, 3) := by decide +kernel
theorem dX12_child_16 : decode cX12_child 16 = .ok (.aload_n 0, 1) := by decide +kernel
theorem dX12_child_17 : decode cX12_child 17 = .ok (.iload_n 1, 1) := by decide +kernel
theorem dX12_child_18 : decode cX12_child 18 = .ok (.iload_n 2, 1) := by decide +kernel
theorem dX12_child_19 : decode cX12_child 19 = .ok (.invokevirtual 346, 3) := by decide +kernel
theorem dX12_child_22 : decode cX12_child 22 = .ok (.goto 4, 3) := by decide +kernel
theorem dX12_child_25 : decode cX12_child 25 = .ok (.iconst (-1), 1) := by decide +kernel
theorem dX12_child_26 : decode cX12_child 26 = .ok (.ireturn, 1) := by decide +kernel
def xX12_child : zX := (RX12, cX12_child, 3, (some .int), false, { frames := 3, cells := 0, slots := 0, locals := 133 }, 0, 0, 0, 0)
theorem rmX12_child : z_Rm xX12_child := by unfold z_Rm xX12_child; exact ⟨by decide, by decide⟩
theorem reX12_child : z_Re xX12_child := ⟨rfl, rfl⟩
theorem rlX12_child : 1 ≤ xX12_child.2.2.2.2.2.1.frames ∧ 21 ≤ xX12_child.2.2.2.2.2.1.locals := by unfold xX12_child; exact ⟨by decide, by decide⟩
theorem meX12_child : z_Me yX12_child xX12_child 2 := ⟨wd1132, wd848, by decide, by decide, by decide +kernel⟩
theorem fitX12_child_2 : z_Fit xX12_isColour xX12_child := by unfold z_Fit; simp only [xX12_isColour, xX12_child]; exact ⟨by decide, by decide⟩
theorem fitX12_child_10 : z_Fit xX12_isColour xX12_child := by unfold z_Fit; simp only [xX12_isColour, xX12_child]; exact ⟨by decide, by decide⟩
theorem fitX12_child_19 : z_Fit xX12_childOf xX12_child := by unfold z_Fit; simp only [xX12_childOf, xX12_child]; exact ⟨by decide, by decide⟩
noncomputable def kX12_child_26 : zK zR := q_iret
noncomputable def kX12_child_25 : zK zR := (q_push (-1) kX12_child_26)
noncomputable def kX12_child_0 : zK zR := (q_aload 0 (q_iload 1 (q_callV 12 fX12_isColour 1 (q_if_eq kX12_child_25 (q_aload 0 (q_iload 2 (q_callV 12 fX12_isColour 1 (q_if_eq kX12_child_25 (q_aload 0 (q_iload 1 (q_iload 2 (q_callV 12 fX12_childOf 2 kX12_child_26))))))))))))
set_option maxRecDepth 100000 in
theorem tX12_child_26 {l : Launch} {D : zD} {B sz0 : Nat} {post : Option Value → zS → Prop} : zSnd l D B xX12_child sz0 post 26 kX12_child_26 (z_Jr post) := (s_iret dX12_child_26 rfl)
set_option maxRecDepth 100000 in
theorem tX12_child_25 {l : Launch} {D : zD} {B sz0 : Nat} {post : Option Value → zS → Prop} : zSnd l D B xX12_child sz0 post 25 kX12_child_25 (z_Jr post) := (s_iconst dX12_child_25 (by decide) tX12_child_26)
set_option maxRecDepth 100000 in
theorem tX12_child_0 {l : Launch} {D : zD} {B sz0 : Nat} {post : Option Value → zS → Prop} : zSnd l D B xX12_child sz0 post 0 kX12_child_0 (z_Jr post) := (s_aload_n dX12_child_0 rfl (s_iload_n dX12_child_1 rfl (s_callV (r := (RX12, TX12, 74)) dX12_child_2 mX12_isColour meX12_isColour wd1129 wd1130 rfl rfl reX12_isColour rmX12_child (fitX12_child_2) wd1131 (s_if_eq (tgt := 25) dX12_child_5 (by decide) tX12_child_25 (s_aload_n dX12_child_8 rfl (s_iload_n dX12_child_9 rfl (s_callV (r := (RX12, TX12, 74)) dX12_child_10 mX12_isColour meX12_isColour wd1129 wd1130 rfl rfl reX12_isColour rmX12_child (fitX12_child_10) wd1131 (s_if_eq (tgt := 25) dX12_child_13 (by decide) tX12_child_25 (s_aload_n dX12_child_16 rfl (s_iload_n dX12_child_17 rfl (s_iload_n dX12_child_18 rfl (s_callV (r := (RX12, TX12, 74)) dX12_child_19 mX12_childOf meX12_childOf wd1057 wd1058 rfl rfl reX12_childOf rmX12_child (fitX12_child_19) wd1059 (s_goto (tgt := 26) dX12_child_22 (by decide) tX12_child_26)))))))))))))
noncomputable def fX12_child : zF := z_fn 3 kX12_child_0
theorem mX12_child {l : Launch} {D : zD} {B : Nat} : z_MF l D B yX12_child xX12_child fX12_child := z_mf (by decide) rfl (fun h => by cases h) rfl (fun as σ r h => ⟨z_fn_len h, kX12_child_0, z_fn_run h, fun _ => tX12_child_0⟩)
/-! ===== RowChildrenModel.row ===== -/
theorem dX12_row_0 : decode cX12_row 0 = .ok (.aload_n 0, 1) := by decide +kernel
theorem dX12_row_1 : decode cX12_row 1 = .ok (.iload_n 1, 1) := by decide +kernel
theorem dX12_row_2 : decode cX12_row 2 = .ok (.invokevirtual 330, 3) := by decide +kernel
theorem dX12_row_5 : decode cX12_row 5 = .ok (.ifCond .ne 5, 3) := by decide +kernel
theorem dX12_row_8 : decode cX12_row 8 = .ok (.iconst (-1), 1) := by decide +kernel
theorem dX12_row_9 : decode cX12_row 9 = .ok (.ireturn, 1) := by decide +kernel
theorem dX12_row_10 : decode cX12_row 10 = .ok (.aload_n 0, 1) := by decide +kernel
theorem dX12_row_11 : decode cX12_row 11 = .ok (.invokevirtual 401, 3) := by decide +kernel
theorem dX12_row_14 : decode cX12_row 14 = .ok (.aload_n 0, 1) := by decide +kernel
theorem dX12_row_15 : decode cX12_row 15 = .ok (.iload_n 1, 1) := by decide +kernel
theorem dX12_row_16 : decode cX12_row 16 = .ok (.invokevirtual 380, 3) := by decide +kernel
theorem dX12_row_19 : decode cX12_row 19 = .ok (.iload_n 2, 1) := by decide +kernel
theorem dX12_row_20 : decode cX12_row 20 = .ok (.tableswitch 99 0 6 #[44, 51, 56, 61, 67, 80, 93], 44) := by decide +kernel
theorem dX12_row_64 : decode cX12_row 64 = .ok (.aload_n 0, 1) := by decide +kernel
theorem dX12_row_65 : decode cX12_row 65 = .ok (.getfield 107, 3) := by decide +kernel
theorem dX12_row_68 : decode cX12_row 68 = .ok (.iload_n 1, 1) := by decide +kernel
theorem dX12_row_69 : decode cX12_row 69 = .ok (.iaload, 1) := by decide +kernel
theorem dX12_row_70 : decode cX12_row 70 = .ok (.ireturn, 1) := by decide +kernel
theorem dX12_row_71 : decode cX12_row 71 = .ok (.aload_n 0, 1) := by decide +kernel
theorem dX12_row_72 : decode cX12_row 72 = .ok (.invokevirtual 404, 3) := by decide +kernel
theorem dX12_row_75 : decode cX12_row 75 = .ok (.ireturn, 1) := by decide +kernel
theorem dX12_row_76 : decode cX12_row 76 = .ok (.aload_n 0, 1) := by decide +kernel
theorem dX12_row_77 : decode cX12_row 77 = .ok (.invokevirtual 407, 3) := by decide +kernel
theorem dX12_row_80 : decode cX12_row 80 = .ok (.ireturn, 1) := by decide +kernel
theorem dX12_row_81 : decode cX12_row 81 = .ok (.aload_n 0, 1) := by decide +kernel
theorem dX12_row_82 : decode cX12_row 82 = .ok (.iload_n 1, 1) := by decide +kernel
theorem dX12_row_83 : decode cX12_row 83 = .ok (.invokevirtual 377, 3) := by decide +kernel
theorem dX12_row_86 : decode cX12_row 86 = .ok (.ireturn, 1) := by decide +kernel
theorem dX12_row_87 : decode cX12_row 87 = .ok (.aload_n 0, 1) := by decide +kernel
theorem dX12_row_88 : decode cX12_row 88 = .ok (.invokevirtual 410, 3) := by decide +kernel
theorem dX12_row_91 : decode cX12_row 91 = .ok (.ifCond .eq 7, 3) := by decide +kernel
theorem dX12_row_94 : decode cX12_row 94 = .ok (.iconst 1, 1) := by decide +kernel
theorem dX12_row_95 : decode cX12_row 95 = .ok (.goto 4, 3) := by decide +kernel
theorem dX12_row_98 : decode cX12_row 98 = .ok (.iconst 0, 1) := by decide +kernel
theorem dX12_row_99 : decode cX12_row 99 = .ok (.ireturn, 1) := by decide +kernel
theorem dX12_row_100 : decode cX12_row 100 = .ok (.aload_n 0, 1) := by decide +kernel
theorem dX12_row_101 : decode cX12_row 101 = .ok (.invokevirtual 414, 3) := by decide +kernel
theorem dX12_row_104 : decode cX12_row 104 = .ok (.ifCond .eq 7, 3) := by decide +kernel
theorem dX12_row_107 : decode cX12_row 107 = .ok (.iconst 1, 1) := by decide +kernel
theorem dX12_row_108 : decode cX12_row 108 = .ok (.goto 4, 3) := by decide +kernel
theorem dX12_row_111 : decode cX12_row 111 = .ok (.iconst 0, 1) := by decide +kernel
theorem dX12_row_112 : decode cX12_row 112 = .ok (.ireturn, 1) := by decide +kernel
theorem dX12_row_113 : decode cX12_row 113 = .ok (.aload_n 0, 1) := by decide +kernel
theorem dX12_row_114 : decode cX12_row 114 = .ok (.iload_n 1, 1) := by decide +kernel
theorem dX12_row_115 : decode cX12_row 115 = .ok (.invokevirtual 417, 3) := by decide +kernel
theorem dX12_row_118 : decode cX12_row 118 = .ok (.ireturn, 1) := by decide +kernel
theorem dX12_row_119 : decode cX12_row 119 = .ok (.iconst (-1), 1) := by decide +kernel
theorem dX12_row_120 : decode cX12_row 120 = .ok (.ireturn, 1) := by decide +kernel
def xX12_row : zX := (RX12, cX12_row, 3, (some .int), false, { frames := 6, cells := 0, slots := 0, locals := 207 }, 0, 0, 0, 0)
theorem rmX12_row : z_Rm xX12_row := by unfold z_Rm xX12_row; exact ⟨by decide, by decide⟩
theorem reX12_row : z_Re xX12_row := ⟨rfl, rfl⟩
theorem rlX12_row : 1 ≤ xX12_row.2.2.2.2.2.1.frames ∧ 21 ≤ xX12_row.2.2.2.2.2.1.locals := by unfold xX12_row; exact ⟨by decide, by decide⟩
theorem meX12_row : z_Me yX12_row xX12_row 2 := ⟨wd1151, wd848, by decide, by decide, by decide +kernel⟩
theorem fitX12_row_2 : z_Fit xX12_isRow xX12_row := by unfold z_Fit; simp only [xX12_isRow, xX12_row]; exact ⟨by decide, by decide⟩
theorem fitX12_row_11 : z_Fit xX12_copies xX12_row := by unfold z_Fit; simp only [xX12_copies, xX12_row]; exact ⟨by decide, by decide⟩
theorem fitX12_row_16 : z_Fit xX12_laysRow xX12_row := by unfold z_Fit; simp only [xX12_laysRow, xX12_row]; exact ⟨by decide, by decide⟩
theorem fitX12_row_72 : z_Fit xX12_numberLaid xX12_row := by unfold z_Fit; simp only [xX12_numberLaid, xX12_row]; exact ⟨by decide, by decide⟩
theorem fitX12_row_77 : z_Fit xX12_lastLaid xX12_row := by unfold z_Fit; simp only [xX12_lastLaid, xX12_row]; exact ⟨by decide, by decide⟩
theorem fitX12_row_83 : z_Fit xX12_paysOf xX12_row := by unfold z_Fit; simp only [xX12_paysOf, xX12_row]; exact ⟨by decide, by decide⟩
theorem fitX12_row_88 : z_Fit xX12_isFair xX12_row := by unfold z_Fit; simp only [xX12_isFair, xX12_row]; exact ⟨by decide, by decide⟩
theorem fitX12_row_101 : z_Fit xX12_isTurned xX12_row := by unfold z_Fit; simp only [xX12_isTurned, xX12_row]; exact ⟨by decide, by decide⟩
theorem fitX12_row_115 : z_Fit xX12_worthAll xX12_row := by unfold z_Fit; simp only [xX12_worthAll, xX12_row]; exact ⟨by decide, by decide⟩
noncomputable def kX12_row_99 : zK zR := q_iret
noncomputable def kX12_row_112 : zK zR := q_iret
noncomputable def kX12_row_0 : zK zR := (q_aload 0 (q_iload 1 (q_callV 12 fX12_isRow 1 (q_if_ne (q_aload 0 (q_callV 12 fX12_copies 0 (q_aload 0 (q_iload 1 (q_callV 12 fX12_laysRow 1 (q_iload 2 (q_sw 0 [(q_aload 0 (q_getR 12 47 (q_iload 1 (q_iald q_iret)))), (q_aload 0 (q_callV 12 fX12_numberLaid 0 q_iret)), (q_aload 0 (q_callV 12 fX12_lastLaid 0 q_iret)), (q_aload 0 (q_iload 1 (q_callV 12 fX12_paysOf 1 q_iret))), (q_aload 0 (q_callV 12 fX12_isFair 0 (q_if_eq (q_push 0 kX12_row_99) (q_push 1 kX12_row_99)))), (q_aload 0 (q_callV 12 fX12_isTurned 0 (q_if_eq (q_push 0 kX12_row_112) (q_push 1 kX12_row_112)))), (q_aload 0 (q_iload 1 (q_callV 12 fX12_worthAll 1 q_iret)))] (q_push (-1) q_iret)))))))) (q_push (-1) q_iret)))))
set_option maxRecDepth 100000 in
theorem tX12_row_99 {l : Launch} {D : zD} {B sz0 : Nat} {post : Option Value → zS → Prop} : zSnd l D B xX12_row sz0 post 99 kX12_row_99 (z_Jr post) := (s_iret dX12_row_99 rfl)
set_option maxRecDepth 100000 in
theorem tX12_row_112 {l : Launch} {D : zD} {B sz0 : Nat} {post : Option Value → zS → Prop} : zSnd l D B xX12_row sz0 post 112 kX12_row_112 (z_Jr post) := (s_iret dX12_row_112 rfl)
set_option maxRecDepth 100000 in
theorem tX12_row_0 {l : Launch} {D : zD} {B sz0 : Nat} {post : Option Value → zS → Prop} : zSnd l D B xX12_row sz0 post 0 kX12_row_0 (z_Jr post) := (s_aload_n dX12_row_0 rfl (s_iload_n dX12_row_1 rfl (s_callV (r := (RX12, TX12, 74)) dX12_row_2 mX12_isRow meX12_isRow wd1042 wd1043 rfl rfl reX12_isRow rmX12_row (fitX12_row_2) wd1044 (s_if_ne (tgt := 10) dX12_row_5 (by decide) (s_aload_n dX12_row_10 rfl (s_callV (r := (RX12, TX12, 74)) dX12_row_11 mX12_copies meX12_copies wd1133 wd1134 rfl rfl reX12_copies rmX12_row (fitX12_row_11) wd1135 (s_aload_n dX12_row_14 rfl (s_iload_n dX12_row_15 rfl (s_callV (r := (RX12, TX12, 74)) dX12_row_16 mX12_laysRow meX12_laysRow wd1108 wd1109 rfl rfl reX12_laysRow rmX12_row (fitX12_row_16) wd1110 (s_iload_n dX12_row_19 rfl (s_swL (tgts := [64, 71, 76, 81, 87, 100, 113]) (td := 119) dX12_row_20 (by decide) (by decide) (by decide) ⟨(s_aload_n dX12_row_64 rfl (s_getR (f := 47) dX12_row_65 clX12 (by decide) rfl wd856 (s_iload_n dX12_row_68 rfl (s_iald dX12_row_69 (s_iret dX12_row_70 rfl))))), ⟨(s_aload_n dX12_row_71 rfl (s_callV (r := (RX12, TX12, 74)) dX12_row_72 mX12_numberLaid meX12_numberLaid wd1136 wd1137 rfl rfl reX12_numberLaid rmX12_row (fitX12_row_72) wd1138 (s_iret dX12_row_75 rfl))), ⟨(s_aload_n dX12_row_76 rfl (s_callV (r := (RX12, TX12, 74)) dX12_row_77 mX12_lastLaid meX12_lastLaid wd1139 wd1140 rfl rfl reX12_lastLaid rmX12_row (fitX12_row_77) wd1141 (s_iret dX12_row_80 rfl))), ⟨(s_aload_n dX12_row_81 rfl (s_iload_n dX12_row_82 rfl (s_callV (r := (RX12, TX12, 74)) dX12_row_83 mX12_paysOf meX12_paysOf wd1104 wd1105 rfl rfl reX12_paysOf rmX12_row (fitX12_row_83) wd1106 (s_iret dX12_row_86 rfl)))), ⟨(s_aload_n dX12_row_87 rfl (s_callV (r := (RX12, TX12, 74)) dX12_row_88 mX12_isFair meX12_isFair wd1142 wd1143 rfl rfl reX12_isFair rmX12_row (fitX12_row_88) wd1144 (s_if_eq (tgt := 98) dX12_row_91 (by decide) (s_iconst dX12_row_98 (by decide) tX12_row_99) (s_iconst dX12_row_94 (by decide) (s_goto (tgt := 99) dX12_row_95 (by decide) tX12_row_99))))), ⟨(s_aload_n dX12_row_100 rfl (s_callV (r := (RX12, TX12, 74)) dX12_row_101 mX12_isTurned meX12_isTurned wd1145 wd1146 rfl rfl reX12_isTurned rmX12_row (fitX12_row_101) wd1147 (s_if_eq (tgt := 111) dX12_row_104 (by decide) (s_iconst dX12_row_111 (by decide) tX12_row_112) (s_iconst dX12_row_107 (by decide) (s_goto (tgt := 112) dX12_row_108 (by decide) tX12_row_112))))), ⟨(s_aload_n dX12_row_113 rfl (s_iload_n dX12_row_114 rfl (s_callV (r := (RX12, TX12, 74)) dX12_row_115 mX12_worthAll meX12_worthAll wd1148 wd1149 rfl rfl reX12_worthAll rmX12_row (fitX12_row_115) wd1150 (s_iret dX12_row_118 rfl)))), True.intro⟩⟩⟩⟩⟩⟩⟩ (s_iconst dX12_row_119 (by decide) (s_iret dX12_row_120 rfl))))))))) (s_iconst dX12_row_8 (by decide) (s_iret dX12_row_9 rfl))))))
noncomputable def fX12_row : zF := z_fn 3 kX12_row_0
theorem mX12_row {l : Launch} {D : zD} {B : Nat} : z_MF l D B yX12_row xX12_row fX12_row := z_mf (by decide) rfl (fun h => by cases h) rfl (fun as σ r h => ⟨z_fn_len h, kX12_row_0, z_fn_run h, fun _ => tX12_row_0⟩)
/-! ===== RowChildrenModel.at ===== -/
theorem dX12_at_0 : decode cX12_at 0 = .ok (.aload_n 0, 1) := by decide +kernel
theorem dX12_at_1 : decode cX12_at 1 = .ok (.iload_n 1, 1) := by decide +kernel
theorem dX12_at_2 : decode cX12_at 2 = .ok (.invokevirtual 330, 3) := by decide +kernel
theorem dX12_at_5 : decode cX12_at 5 = .ok (.ifCond .ne 5, 3) := by decide +kernel
theorem dX12_at_8 : decode cX12_at 8 = .ok (.iconst (-1), 1) := by decide +kernel
theorem dX12_at_9 : decode cX12_at 9 = .ok (.ireturn, 1) := by decide +kernel
theorem dX12_at_10 : decode cX12_at 10 = .ok (.aload_n 0, 1) := by decide +kernel
theorem dX12_at_11 : decode cX12_at 11 = .ok (.invokevirtual 401, 3) := by decide +kernel
theorem dX12_at_14 : decode cX12_at 14 = .ok (.aload_n 0, 1) := by decide +kernel
theorem dX12_at_15 : decode cX12_at 15 = .ok (.iload_n 1, 1) := by decide +kernel
theorem dX12_at_16 : decode cX12_at 16 = .ok (.invokevirtual 380, 3) := by decide +kernel
theorem dX12_at_19 : decode cX12_at 19 = .ok (.aload_n 0, 1) := by decide +kernel
theorem dX12_at_20 : decode cX12_at 20 = .ok (.iload_n 2, 1) := by decide +kernel
theorem dX12_at_21 : decode cX12_at 21 = .ok (.iload_n 3, 1) := by decide +kernel
theorem dX12_at_22 : decode cX12_at 22 = .ok (.invokevirtual 420, 3) := by decide +kernel
theorem dX12_at_25 : decode cX12_at 25 = .ok (.ifCond .eq 12, 3) := by decide +kernel
theorem dX12_at_28 : decode cX12_at 28 = .ok (.aload_n 0, 1) := by decide +kernel
theorem dX12_at_29 : decode cX12_at 29 = .ok (.iload_n 2, 1) := by decide +kernel
theorem dX12_at_30 : decode cX12_at 30 = .ok (.iload_n 3, 1) := by decide +kernel
theorem dX12_at_31 : decode cX12_at 31 = .ok (.invokevirtual 343, 3) := by decide +kernel
theorem dX12_at_34 : decode cX12_at 34 = .ok (.goto 4, 3) := by decide +kernel
theorem dX12_at_37 : decode cX12_at 37 = .ok (.iconst (-1), 1) := by decide +kernel
theorem dX12_at_38 : decode cX12_at 38 = .ok (.ireturn, 1) := by decide +kernel
def xX12_at : zX := (RX12, cX12_at, 4, (some .int), false, { frames := 5, cells := 0, slots := 0, locals := 177 }, 0, 0, 0, 0)
theorem rmX12_at : z_Rm xX12_at := by unfold z_Rm xX12_at; exact ⟨by decide, by decide⟩
theorem reX12_at : z_Re xX12_at := ⟨rfl, rfl⟩
theorem rlX12_at : 1 ≤ xX12_at.2.2.2.2.2.1.frames ∧ 21 ≤ xX12_at.2.2.2.2.2.1.locals := by unfold xX12_at; exact ⟨by decide, by decide⟩
theorem meX12_at : z_Me yX12_at xX12_at 3 := ⟨wd1155, wd848, by decide, by decide, by decide +kernel⟩
theorem fitX12_at_2 : z_Fit xX12_isRow xX12_at := by unfold z_Fit; simp only [xX12_isRow, xX12_at]; exact ⟨by decide, by decide⟩
theorem fitX12_at_11 : z_Fit xX12_copies xX12_at := by unfold z_Fit; simp only [xX12_copies, xX12_at]; exact ⟨by decide, by decide⟩
theorem fitX12_at_16 : z_Fit xX12_laysRow xX12_at := by unfold z_Fit; simp only [xX12_laysRow, xX12_at]; exact ⟨by decide, by decide⟩
theorem fitX12_at_22 : z_Fit xX12_isInside xX12_at := by unfold z_Fit; simp only [xX12_isInside, xX12_at]; exact ⟨by decide, by decide⟩
theorem fitX12_at_31 : z_Fit xX12_laidAt xX12_at := by unfold z_Fit; simp only [xX12_laidAt, xX12_at]; exact ⟨by decide, by decide⟩
noncomputable def kX12_at_38 : zK zR := q_iret
noncomputable def kX12_at_0 : zK zR := (q_aload 0 (q_iload 1 (q_callV 12 fX12_isRow 1 (q_if_ne (q_aload 0 (q_callV 12 fX12_copies 0 (q_aload 0 (q_iload 1 (q_callV 12 fX12_laysRow 1 (q_aload 0 (q_iload 2 (q_iload 3 (q_callV 12 fX12_isInside 2 (q_if_eq (q_push (-1) kX12_at_38) (q_aload 0 (q_iload 2 (q_iload 3 (q_callV 12 fX12_laidAt 2 kX12_at_38)))))))))))))) (q_push (-1) q_iret)))))
set_option maxRecDepth 100000 in
theorem tX12_at_38 {l : Launch} {D : zD} {B sz0 : Nat} {post : Option Value → zS → Prop} : zSnd l D B xX12_at sz0 post 38 kX12_at_38 (z_Jr post) := (s_iret dX12_at_38 rfl)
set_option maxRecDepth 100000 in
theorem tX12_at_0 {l : Launch} {D : zD} {B sz0 : Nat} {post : Option Value → zS → Prop} : zSnd l D B xX12_at sz0 post 0 kX12_at_0 (z_Jr post) := (s_aload_n dX12_at_0 rfl (s_iload_n dX12_at_1 rfl (s_callV (r := (RX12, TX12, 74)) dX12_at_2 mX12_isRow meX12_isRow wd1042 wd1043 rfl rfl reX12_isRow rmX12_at (fitX12_at_2) wd1044 (s_if_ne (tgt := 10) dX12_at_5 (by decide) (s_aload_n dX12_at_10 rfl (s_callV (r := (RX12, TX12, 74)) dX12_at_11 mX12_copies meX12_copies wd1133 wd1134 rfl rfl reX12_copies rmX12_at (fitX12_at_11) wd1135 (s_aload_n dX12_at_14 rfl (s_iload_n dX12_at_15 rfl (s_callV (r := (RX12, TX12, 74)) dX12_at_16 mX12_laysRow meX12_laysRow wd1108 wd1109 rfl rfl reX12_laysRow rmX12_at (fitX12_at_16) wd1110 (s_aload_n dX12_at_19 rfl (s_iload_n dX12_at_20 rfl (s_iload_n dX12_at_21 rfl (s_callV (r := (RX12, TX12, 74)) dX12_at_22 mX12_isInside meX12_isInside wd1152 wd1153 rfl rfl reX12_isInside rmX12_at (fitX12_at_22) wd1154 (s_if_eq (tgt := 37) dX12_at_25 (by decide) (s_iconst dX12_at_37 (by decide) tX12_at_38) (s_aload_n dX12_at_28 rfl (s_iload_n dX12_at_29 rfl (s_iload_n dX12_at_30 rfl (s_callV (r := (RX12, TX12, 74)) dX12_at_31 mX12_laidAt meX12_laidAt wd1054 wd1055 rfl rfl reX12_laidAt rmX12_at (fitX12_at_31) wd1056 (s_goto (tgt := 38) dX12_at_34 (by decide) tX12_at_38))))))))))))))) (s_iconst dX12_at_8 (by decide) (s_iret dX12_at_9 rfl))))))
noncomputable def fX12_at : zF := z_fn 4 kX12_at_0
theorem mX12_at {l : Launch} {D : zD} {B : Nat} : z_MF l D B yX12_at xX12_at fX12_at := z_mf (by decide) rfl (fun h => by cases h) rfl (fun as σ r h => ⟨z_fn_len h, kX12_at_0, z_fn_run h, fun _ => tX12_at_0⟩)
/-! ===== RowChildrenModel.worth ===== -/
theorem dX12_worth_0 : decode cX12_worth 0 = .ok (.aload_n 0, 1) := by decide +kernel
theorem dX12_worth_1 : decode cX12_worth 1 = .ok (.iload_n 1, 1) := by decide +kernel
theorem dX12_worth_2 : decode cX12_worth 2 = .ok (.invokevirtual 330, 3) := by decide +kernel
theorem dX12_worth_5 : decode cX12_worth 5 = .ok (.ifCond .ne 5, 3) := by decide +kernel
theorem dX12_worth_8 : decode cX12_worth 8 = .ok (.iconst (-1), 1) := by decide +kernel
theorem dX12_worth_9 : decode cX12_worth 9 = .ok (.ireturn, 1) := by decide +kernel
theorem dX12_worth_10 : decode cX12_worth 10 = .ok (.aload_n 0, 1) := by decide +kernel
theorem dX12_worth_11 : decode cX12_worth 11 = .ok (.invokevirtual 401, 3) := by decide +kernel
theorem dX12_worth_14 : decode cX12_worth 14 = .ok (.aload_n 0, 1) := by decide +kernel
theorem dX12_worth_15 : decode cX12_worth 15 = .ok (.iload_n 1, 1) := by decide +kernel
theorem dX12_worth_16 : decode cX12_worth 16 = .ok (.invokevirtual 380, 3) := by decide +kernel
theorem dX12_worth_19 : decode cX12_worth 19 = .ok (.aload_n 0, 1) := by decide +kernel
theorem dX12_worth_20 : decode cX12_worth 20 = .ok (.iload_n 2, 1) := by decide +kernel
theorem dX12_worth_21 : decode cX12_worth 21 = .ok (.iload_n 3, 1) := by decide +kernel
theorem dX12_worth_22 : decode cX12_worth 22 = .ok (.invokevirtual 420, 3) := by decide +kernel
theorem dX12_worth_25 : decode cX12_worth 25 = .ok (.ifCond .eq 13, 3) := by decide +kernel
theorem dX12_worth_28 : decode cX12_worth 28 = .ok (.aload_n 0, 1) := by decide +kernel
theorem dX12_worth_29 : decode cX12_worth 29 = .ok (.iload_n 1, 1) := by decide +kernel
theorem dX12_worth_30 : decode cX12_worth 30 = .ok (.iload_n 2, 1) := by decide +kernel
theorem dX12_worth_31 : decode cX12_worth 31 = .ok (.iload_n 3, 1) := by decide +kernel
theorem dX12_worth_32 : decode cX12_worth 32 = .ok (.invokevirtual 374, 3) := by decide +kernel
theorem dX12_worth_35 : decode cX12_worth 35 = .ok (.goto 4, 3) := by decide +kernel
theorem dX12_worth_38 : decode cX12_worth 38 = .ok (.iconst (-1), 1) := by decide +kernel
theorem dX12_worth_39 : decode cX12_worth 39 = .ok (.ireturn, 1) := by decide +kernel
def xX12_worth : zX := (RX12, cX12_worth, 4, (some .int), false, { frames := 5, cells := 0, slots := 0, locals := 183 }, 0, 0, 0, 0)
theorem rmX12_worth : z_Rm xX12_worth := by unfold z_Rm xX12_worth; exact ⟨by decide, by decide⟩
theorem reX12_worth : z_Re xX12_worth := ⟨rfl, rfl⟩
theorem rlX12_worth : 1 ≤ xX12_worth.2.2.2.2.2.1.frames ∧ 21 ≤ xX12_worth.2.2.2.2.2.1.locals := by unfold xX12_worth; exact ⟨by decide, by decide⟩
theorem meX12_worth : z_Me yX12_worth xX12_worth 3 := ⟨wd1156, wd848, by decide, by decide, by decide +kernel⟩
theorem fitX12_worth_2 : z_Fit xX12_isRow xX12_worth := by unfold z_Fit; simp only [xX12_isRow, xX12_worth]; exact ⟨by decide, by decide⟩
theorem fitX12_worth_11 : z_Fit xX12_copies xX12_worth := by unfold z_Fit; simp only [xX12_copies, xX12_worth]; exact ⟨by decide, by decide⟩
theorem fitX12_worth_16 : z_Fit xX12_laysRow xX12_worth := by unfold z_Fit; simp only [xX12_laysRow, xX12_worth]; exact ⟨by decide, by decide⟩
theorem fitX12_worth_22 : z_Fit xX12_isInside xX12_worth := by unfold z_Fit; simp only [xX12_isInside, xX12_worth]; exact ⟨by decide, by decide⟩
theorem fitX12_worth_32 : z_Fit xX12_worthOf xX12_worth := by unfold z_Fit; simp only [xX12_worthOf, xX12_worth]; exact ⟨by decide, by decide⟩
noncomputable def kX12_worth_39 : zK zR := q_iret
noncomputable def kX12_worth_0 : zK zR := (q_aload 0 (q_iload 1 (q_callV 12 fX12_isRow 1 (q_if_ne (q_aload 0 (q_callV 12 fX12_copies 0 (q_aload 0 (q_iload 1 (q_callV 12 fX12_laysRow 1 (q_aload 0 (q_iload 2 (q_iload 3 (q_callV 12 fX12_isInside 2 (q_if_eq (q_push (-1) kX12_worth_39) (q_aload 0 (q_iload 1 (q_iload 2 (q_iload 3 (q_callV 12 fX12_worthOf 3 kX12_worth_39))))))))))))))) (q_push (-1) q_iret)))))
set_option maxRecDepth 100000 in
theorem tX12_worth_39 {l : Launch} {D : zD} {B sz0 : Nat} {post : Option Value → zS → Prop} : zSnd l D B xX12_worth sz0 post 39 kX12_worth_39 (z_Jr post) := (s_iret dX12_worth_39 rfl)
set_option maxRecDepth 100000 in
theorem tX12_worth_0 {l : Launch} {D : zD} {B sz0 : Nat} {post : Option Value → zS → Prop} : zSnd l D B xX12_worth sz0 post 0 kX12_worth_0 (z_Jr post) := (s_aload_n dX12_worth_0 rfl (s_iload_n dX12_worth_1 rfl (s_callV (r := (RX12, TX12, 74)) dX12_worth_2 mX12_isRow meX12_isRow wd1042 wd1043 rfl rfl reX12_isRow rmX12_worth (fitX12_worth_2) wd1044 (s_if_ne (tgt := 10) dX12_worth_5 (by decide) (s_aload_n dX12_worth_10 rfl (s_callV (r := (RX12, TX12, 74)) dX12_worth_11 mX12_copies meX12_copies wd1133 wd1134 rfl rfl reX12_copies rmX12_worth (fitX12_worth_11) wd1135 (s_aload_n dX12_worth_14 rfl (s_iload_n dX12_worth_15 rfl (s_callV (r := (RX12, TX12, 74)) dX12_worth_16 mX12_laysRow meX12_laysRow wd1108 wd1109 rfl rfl reX12_laysRow rmX12_worth (fitX12_worth_16) wd1110 (s_aload_n dX12_worth_19 rfl (s_iload_n dX12_worth_20 rfl (s_iload_n dX12_worth_21 rfl (s_callV (r := (RX12, TX12, 74)) dX12_worth_22 mX12_isInside meX12_isInside wd1152 wd1153 rfl rfl reX12_isInside rmX12_worth (fitX12_worth_22) wd1154 (s_if_eq (tgt := 38) dX12_worth_25 (by decide) (s_iconst dX12_worth_38 (by decide) tX12_worth_39) (s_aload_n dX12_worth_28 rfl (s_iload_n dX12_worth_29 rfl (s_iload_n dX12_worth_30 rfl (s_iload_n dX12_worth_31 rfl (s_callV (r := (RX12, TX12, 74)) dX12_worth_32 mX12_worthOf meX12_worthOf wd1100 wd1101 rfl rfl reX12_worthOf rmX12_worth (fitX12_worth_32) wd1102 (s_goto (tgt := 39) dX12_worth_35 (by decide) tX12_worth_39)))))))))))))))) (s_iconst dX12_worth_8 (by decide) (s_iret dX12_worth_9 rfl))))))
noncomputable def fX12_worth : zF := z_fn 4 kX12_worth_0
theorem mX12_worth {l : Launch} {D : zD} {B : Nat} : z_MF l D B yX12_worth xX12_worth fX12_worth := z_mf (by decide) rfl (fun h => by cases h) rfl (fun as σ r h => ⟨z_fn_len h, kX12_worth_0, z_fn_run h, fun _ => tX12_worth_0⟩)
/-! ===== RowChildrenModel.many ===== -/
theorem dX12_many_0 : decode cX12_many 0 = .ok (.aload_n 0, 1) := by decide +kernel
theorem dX12_many_1 : decode cX12_many 1 = .ok (.iload_n 1, 1) := by decide +kernel
theorem dX12_many_2 : decode cX12_many 2 = .ok (.invokevirtual 330, 3) := by decide +kernel
theorem dX12_many_5 : decode cX12_many 5 = .ok (.ifCond .eq 11, 3) := by decide +kernel
theorem dX12_many_8 : decode cX12_many 8 = .ok (.aload_n 0, 1) := by decide +kernel
theorem dX12_many_9 : decode cX12_many 9 = .ok (.iload_n 2, 1) := by decide +kernel
theorem dX12_many_10 : decode cX12_many 10 = .ok (.invokevirtual 398, 3) := by decide +kernel
theorem dX12_many_13 : decode cX12_many 13 = .ok (.ifCond .ne 5, 3) := by decide +kernel
theorem dX12_many_16 : decode cX12_many 16 = .ok (.iconst (-1), 1) := by decide +kernel
theorem dX12_many_17 : decode cX12_many 17 = .ok (.ireturn, 1) := by decide +kernel
theorem dX12_many_18 : decode cX12_many 18 = .ok (.aload_n 0, 1) := by decide +kernel
theorem dX12_many_19 : decode cX12_many 19 = .ok (.invokevirtual 401, 3) := by decide +kernel
theorem dX12_many_22 : decode cX12_many 22 = .ok (.aload_n 0, 1) := by decide +kernel
theorem dX12_many_23 : decode cX12_many 23 = .ok (.iload_n 1, 1) := by decide +kernel
theorem dX12_many_24 : decode cX12_many 24 = .ok (.invokevirtual 380, 3) := by decide +kernel
theorem dX12_many_27 : decode cX12_many 27 = .ok (.aload_n 0, 1) := by decide +kernel
theorem dX12_many_28 : decode cX12_many 28 = .ok (.iload_n 2, 1) := by decide +kernel
theorem dX12_many_29 : decode cX12_many 29 = .ok (.invokevirtual 355, 3) := by decide +kernel
theorem dX12_many_32 : decode cX12_many 32 = .ok (.ireturn, 1) := by decide +kernel
def xX12_many : zX := (RX12, cX12_many, 3, (some .int), false, { frames := 5, cells := 0, slots := 0, locals := 177 }, 0, 0, 0, 0)
theorem rmX12_many : z_Rm xX12_many := by unfold z_Rm xX12_many; exact ⟨by decide, by decide⟩
theorem reX12_many : z_Re xX12_many := ⟨rfl, rfl⟩
theorem rlX12_many : 1 ≤ xX12_many.2.2.2.2.2.1.frames ∧ 21 ≤ xX12_many.2.2.2.2.2.1.locals := by unfold xX12_many; exact ⟨by decide, by decide⟩
theorem meX12_many : z_Me yX12_many xX12_many 2 := ⟨wd1157, wd848, by decide, by decide, by decide +kernel⟩
theorem fitX12_many_2 : z_Fit xX12_isRow xX12_many := by unfold z_Fit; simp only [xX12_isRow, xX12_many]; exact ⟨by decide, by decide⟩
theorem fitX12_many_10 : z_Fit xX12_isColour xX12_many := by unfold z_Fit; simp only [xX12_isColour, xX12_many]; exact ⟨by decide, by decide⟩
theorem fitX12_many_19 : z_Fit xX12_copies xX12_many := by unfold z_Fit; simp only [xX12_copies, xX12_many]; exact ⟨by decide, by decide⟩
theorem fitX12_many_24 : z_Fit xX12_laysRow xX12_many := by unfold z_Fit; simp only [xX12_laysRow, xX12_many]; exact ⟨by decide, by decide⟩
theorem fitX12_many_29 : z_Fit xX12_manyLaid xX12_many := by unfold z_Fit; simp only [xX12_manyLaid, xX12_many]; exact ⟨by decide, by decide⟩
noncomputable def kX12_many_16 : zK zR := (q_push (-1) q_iret)
noncomputable def kX12_many_0 : zK zR := (q_aload 0 (q_iload 1 (q_callV 12 fX12_isRow 1 (q_if_eq kX12_many_16 (q_aload 0 (q_iload 2 (q_callV 12 fX12_isColour 1 (q_if_ne (q_aload 0 (q_callV 12 fX12_copies 0 (q_aload 0 (q_iload 1 (q_callV 12 fX12_laysRow 1 (q_aload 0 (q_iload 2 (q_callV 12 fX12_manyLaid 1 q_iret)))))))) kX12_many_16))))))))
set_option maxRecDepth 100000 in
theorem tX12_many_16 {l : Launch} {D : zD} {B sz0 : Nat} {post : Option Value → zS → Prop} : zSnd l D B xX12_many sz0 post 16 kX12_many_16 (z_Jr post) := (s_iconst dX12_many_16 (by decide) (s_iret dX12_many_17 rfl))
set_option maxRecDepth 100000 in
theorem tX12_many_0 {l : Launch} {D : zD} {B sz0 : Nat} {post : Option Value → zS → Prop} : zSnd l D B xX12_many sz0 post 0 kX12_many_0 (z_Jr post) := (s_aload_n dX12_many_0 rfl (s_iload_n dX12_many_1 rfl (s_callV (r := (RX12, TX12, 74)) dX12_many_2 mX12_isRow meX12_isRow wd1042 wd1043 rfl rfl reX12_isRow rmX12_many (fitX12_many_2) wd1044 (s_if_eq (tgt := 16) dX12_many_5 (by decide) tX12_many_16 (s_aload_n dX12_many_8 rfl (s_iload_n dX12_many_9 rfl (s_callV (r := (RX12, TX12, 74)) dX12_many_10 mX12_isColour meX12_isColour wd1129 wd1130 rfl rfl reX12_isColour rmX12_many (fitX12_many_10) wd1131 (s_if_ne (tgt := 18) dX12_many_13 (by decide) (s_aload_n dX12_many_18 rfl (s_callV (r := (RX12, TX12, 74)) dX12_many_19 mX12_copies meX12_copies wd1133 wd1134 rfl rfl reX12_copies rmX12_many (fitX12_many_19) wd1135 (s_aload_n dX12_many_22 rfl (s_iload_n dX12_many_23 rfl (s_callV (r := (RX12, TX12, 74)) dX12_many_24 mX12_laysRow meX12_laysRow wd1108 wd1109 rfl rfl reX12_laysRow rmX12_many (fitX12_many_24) wd1110 (s_aload_n dX12_many_27 rfl (s_iload_n dX12_many_28 rfl (s_callV (r := (RX12, TX12, 74)) dX12_many_29 mX12_manyLaid meX12_manyLaid wd1074 wd1075 rfl rfl reX12_manyLaid rmX12_many (fitX12_many_29) wd1076 (s_iret dX12_many_32 rfl))))))))) tX12_many_16))))))))
noncomputable def fX12_many : zF := z_fn 3 kX12_many_0
theorem mX12_many {l : Launch} {D : zD} {B : Nat} : z_MF l D B yX12_many xX12_many fX12_many := z_mf (by decide) rfl (fun h => by cases h) rfl (fun as σ r h => ⟨z_fn_len h, kX12_many_0, z_fn_run h, fun _ => tX12_many_0⟩)
/-! ===== RowChildrenModel.side ===== -/
theorem dX12_side_0 : decode cX12_side 0 = .ok (.aload_n 0, 1) := by decide +kernel
theorem dX12_side_1 : decode cX12_side 1 = .ok (.iload_n 1, 1) := by decide +kernel
theorem dX12_side_2 : decode cX12_side 2 = .ok (.iload_n 3, 1) := by decide +kernel
theorem dX12_side_3 : decode cX12_side 3 = .ok (.invokevirtual 424, 3) := by decide +kernel
theorem dX12_side_6 : decode cX12_side 6 = .ok (.ifCond .eq 12, 3) := by decide +kernel
theorem dX12_side_9 : decode cX12_side 9 = .ok (.iload_n 2, 1) := by decide +kernel
theorem dX12_side_10 : decode cX12_side 10 = .ok (.iconst 0, 1) := by decide +kernel
theorem dX12_side_11 : decode cX12_side 11 = .ok (.iconst 1, 1) := by decide +kernel
theorem dX12_side_12 : decode cX12_side 12 = .ok (.invokestatic 323, 3) := by decide +kernel
theorem dX12_side_15 : decode cX12_side 15 = .ok (.ifCond .ne 5, 3) := by decide +kernel
theorem dX12_side_18 : decode cX12_side 18 = .ok (.iconst (-1), 1) := by decide +kernel
theorem dX12_side_19 : decode cX12_side 19 = .ok (.ireturn, 1) := by decide +kernel
theorem dX12_side_20 : decode cX12_side 20 = .ok (.aload_n 0, 1) := by decide +kernel
theorem dX12_side_21 : decode cX12_side 21 = .ok (.invokevirtual 401, 3) := by decide +kernel
theorem dX12_side_24 : decode cX12_side 24 = .ok (.aload_n 0, 1) := by decide +kernel
theorem dX12_side_25 : decode cX12_side 25 = .ok (.iload_n 1, 1) := by decide +kernel
theorem dX12_side_26 : decode cX12_side 26 = .ok (.invokevirtual 380, 3) := by decide +kernel
theorem dX12_side_29 : decode cX12_side 29 = .ok (.iload_n 2, 1) := by decide +kernel
theorem dX12_side_30 : decode cX12_side 30 = .ok (.ifCond .ne 12, 3) := by decide +kernel
theorem dX12_side_33 : decode cX12_side 33 = .ok (.aload_n 0, 1) := by decide +kernel
theorem dX12_side_34 : decode cX12_side 34 = .ok (.iload_n 3, 1) := by decide +kernel
theorem dX12_side_35 : decode cX12_side 35 = .ok (.iconst 0, 1) := by decide +kernel
theorem dX12_side_36 : decode cX12_side 36 = .ok (.invokevirtual 343, 3) := by decide +kernel
theorem dX12_side_39 : decode cX12_side 39 = .ok (.goto 16, 3) := by decide +kernel
theorem dX12_side_42 : decode cX12_side 42 = .ok (.aload_n 0, 1) := by decide +kernel
theorem dX12_side_43 : decode cX12_side 43 = .ok (.iload_n 3, 1) := by decide +kernel
theorem dX12_side_44 : decode cX12_side 44 = .ok (.aload_n 0, 1) := by decide +kernel
theorem dX12_side_45 : decode cX12_side 45 = .ok (.getfield 340, 3) := by decide +kernel
theorem dX12_side_48 : decode cX12_side 48 = .ok (.iconst 1, 1) := by decide +kernel
theorem dX12_side_49 : decode cX12_side 49 = .ok (.isub, 1) := by decide +kernel
theorem dX12_side_50 : decode cX12_side 50 = .ok (.iload_n 3, 1) := by decide +kernel
theorem dX12_side_51 : decode cX12_side 51 = .ok (.isub, 1) := by decide +kernel
theorem dX12_side_52 : decode cX12_side 52 = .ok (.invokevirtual 343, 3) := by decide +kernel
theorem dX12_side_55 : decode cX12_side 55 = .ok (.ireturn, 1) := by decide +kernel
def xX12_side : zX := (RX12, cX12_side, 4, (some .int), false, { frames := 5, cells := 0, slots := 0, locals := 177 }, 0, 0, 0, 0)
theorem rmX12_side : z_Rm xX12_side := by unfold z_Rm xX12_side; exact ⟨by decide, by decide⟩
theorem reX12_side : z_Re xX12_side := ⟨rfl, rfl⟩
theorem rlX12_side : 1 ≤ xX12_side.2.2.2.2.2.1.frames ∧ 21 ≤ xX12_side.2.2.2.2.2.1.locals := by unfold xX12_side; exact ⟨by decide, by decide⟩
theorem meX12_side : z_Me yX12_side xX12_side 3 := ⟨wd1161, wd848, by decide, by decide, by decide +kernel⟩
theorem fitX12_side_3 : z_Fit xX12_isSeat xX12_side := by unfold z_Fit; simp only [xX12_isSeat, xX12_side]; exact ⟨by decide, by decide⟩
theorem fitX12_side_12 : z_Fit xX12_in xX12_side := by unfold z_Fit; simp only [xX12_in, xX12_side]; exact ⟨by decide, by decide⟩
theorem fitX12_side_21 : z_Fit xX12_copies xX12_side := by unfold z_Fit; simp only [xX12_copies, xX12_side]; exact ⟨by decide, by decide⟩
theorem fitX12_side_26 : z_Fit xX12_laysRow xX12_side := by unfold z_Fit; simp only [xX12_laysRow, xX12_side]; exact ⟨by decide, by decide⟩
theorem fitX12_side_52 : z_Fit xX12_laidAt xX12_side := by unfold z_Fit; simp only [xX12_laidAt, xX12_side]; exact ⟨by decide, by decide⟩
theorem fitX12_side_36 : z_Fit xX12_laidAt xX12_side := by unfold z_Fit; simp only [xX12_laidAt, xX12_side]; exact ⟨by decide, by decide⟩
noncomputable def kX12_side_18 : zK zR := (q_push (-1) q_iret)
noncomputable def kX12_side_55 : zK zR := q_iret
noncomputable def kX12_side_0 : zK zR := (q_aload 0 (q_iload 1 (q_iload 3 (q_callV 12 fX12_isSeat 2 (q_if_eq kX12_side_18 (q_iload 2 (q_push 0 (q_push 1 (q_callS fX12_in 3 (q_if_ne (q_aload 0 (q_callV 12 fX12_copies 0 (q_aload 0 (q_iload 1 (q_callV 12 fX12_laysRow 1 (q_iload 2 (q_if_ne (q_aload 0 (q_iload 3 (q_aload 0 (q_getI 12 50 (q_push 1 (q_isub (q_iload 3 (q_isub (q_callV 12 fX12_laidAt 2 kX12_side_55))))))))) (q_aload 0 (q_iload 3 (q_push 0 (q_callV 12 fX12_laidAt 2 kX12_side_55))))))))))) kX12_side_18))))))))))
set_option maxRecDepth 100000 in
theorem tX12_side_18 {l : Launch} {D : zD} {B sz0 : Nat} {post : Option Value → zS → Prop} : zSnd l D B xX12_side sz0 post 18 kX12_side_18 (z_Jr post) := (s_iconst dX12_side_18 (by decide) (s_iret dX12_side_19 rfl))
set_option maxRecDepth 100000 in
theorem tX12_side_55 {l : Launch} {D : zD} {B sz0 : Nat} {post : Option Value → zS → Prop} : zSnd l D B xX12_side sz0 post 55 kX12_side_55 (z_Jr post) := (s_iret dX12_side_55 rfl)
set_option maxRecDepth 100000 in
theorem tX12_side_0 {l : Launch} {D : zD} {B sz0 : Nat} {post : Option Value → zS → Prop} : zSnd l D B xX12_side sz0 post 0 kX12_side_0 (z_Jr post) := (s_aload_n dX12_side_0 rfl (s_iload_n dX12_side_1 rfl (s_iload_n dX12_side_2 rfl (s_callV (r := (RX12, TX12, 74)) dX12_side_3 mX12_isSeat meX12_isSeat wd1158 wd1159 rfl rfl reX12_isSeat rmX12_side (fitX12_side_3) wd1160 (s_if_eq (tgt := 18) dX12_side_6 (by decide) tX12_side_18 (s_iload_n dX12_side_9 rfl (s_iconst dX12_side_10 (by decide) (s_iconst dX12_side_11 (by decide) (s_callS dX12_side_12 mX12_in meX12_in wd1033 rfl reX12_in rmX12_side (fitX12_side_12) wd1034 (s_if_ne (tgt := 20) dX12_side_15 (by decide) (s_aload_n dX12_side_20 rfl (s_callV (r := (RX12, TX12, 74)) dX12_side_21 mX12_copies meX12_copies wd1133 wd1134 rfl rfl reX12_copies rmX12_side (fitX12_side_21) wd1135 (s_aload_n dX12_side_24 rfl (s_iload_n dX12_side_25 rfl (s_callV (r := (RX12, TX12, 74)) dX12_side_26 mX12_laysRow meX12_laysRow wd1108 wd1109 rfl rfl reX12_laysRow rmX12_side (fitX12_side_26) wd1110 (s_iload_n dX12_side_29 rfl (s_if_ne (tgt := 42) dX12_side_30 (by decide) (s_aload_n dX12_side_42 rfl (s_iload_n dX12_side_43 rfl (s_aload_n dX12_side_44 rfl (s_getI (f := 50) dX12_side_45 clX12 (by decide) rfl wd1053 (s_iconst dX12_side_48 (by decide) (s_isub dX12_side_49 (s_iload_n dX12_side_50 rfl (s_isub dX12_side_51 (s_callV (r := (RX12, TX12, 74)) dX12_side_52 mX12_laidAt meX12_laidAt wd1054 wd1055 rfl rfl reX12_laidAt rmX12_side (fitX12_side_52) wd1056 tX12_side_55))))))))) (s_aload_n dX12_side_33 rfl (s_iload_n dX12_side_34 rfl (s_iconst dX12_side_35 (by decide) (s_callV (r := (RX12, TX12, 74)) dX12_side_36 mX12_laidAt meX12_laidAt wd1054 wd1055 rfl rfl reX12_laidAt rmX12_side (fitX12_side_36) wd1056 (s_goto (tgt := 55) dX12_side_39 (by decide) tX12_side_55)))))))))))) tX12_side_18))))))))))
noncomputable def fX12_side : zF := z_fn 4 kX12_side_0
theorem mX12_side {l : Launch} {D : zD} {B : Nat} : z_MF l D B yX12_side xX12_side fX12_side := z_mf (by decide) rfl (fun h => by cases h) rfl (fun as σ r h => ⟨z_fn_len h, kX12_side_0, z_fn_run h, fun _ => tX12_side_0⟩)
/-! ===== RowChildrenModel.isOther ===== -/
theorem dX12_isOther_0 : decode cX12_isOther 0 = .ok (.aload_n 0, 1) := by decide +kernel
theorem dX12_isOther_1 : decode cX12_isOther 1 = .ok (.iload_n 1, 1) := by decide +kernel
theorem dX12_isOther_2 : decode cX12_isOther 2 = .ok (.iload_n 2, 1) := by decide +kernel
theorem dX12_isOther_3 : decode cX12_isOther 3 = .ok (.invokevirtual 424, 3) := by decide +kernel
theorem dX12_isOther_6 : decode cX12_isOther 6 = .ok (.ifCond .eq 32, 3) := by decide +kernel
theorem dX12_isOther_9 : decode cX12_isOther 9 = .ok (.aload_n 0, 1) := by decide +kernel
theorem dX12_isOther_10 : decode cX12_isOther 10 = .ok (.iload_n 3, 1) := by decide +kernel
theorem dX12_isOther_11 : decode cX12_isOther 11 = .ok (.invokevirtual 398, 3) := by decide +kernel
theorem dX12_isOther_14 : decode cX12_isOther 14 = .ok (.ifCond .eq 24, 3) := by decide +kernel
theorem dX12_isOther_17 : decode cX12_isOther 17 = .ok (.aload_n 0, 1) := by decide +kernel
theorem dX12_isOther_18 : decode cX12_isOther 18 = .ok (.getfield 104, 3) := by decide +kernel
theorem dX12_isOther_21 : decode cX12_isOther 21 = .ok (.iconst 4, 1) := by decide +kernel
theorem dX12_isOther_22 : decode cX12_isOther 22 = .ok (.bipush 8, 2) := by decide +kernel
theorem dX12_isOther_24 : decode cX12_isOther 24 = .ok (.iload_n 1, 1) := by decide +kernel
theorem dX12_isOther_25 : decode cX12_isOther 25 = .ok (.imul, 1) := by decide +kernel
theorem dX12_isOther_26 : decode cX12_isOther 26 = .ok (.iadd, 1) := by decide +kernel
theorem dX12_isOther_27 : decode cX12_isOther 27 = .ok (.iload_n 2, 1) := by decide +kernel
theorem dX12_isOther_28 : decode cX12_isOther 28 = .ok (.iadd, 1) := by decide +kernel
theorem dX12_isOther_29 : decode cX12_isOther 29 = .ok (.iaload, 1) := by decide +kernel
theorem dX12_isOther_30 : decode cX12_isOther 30 = .ok (.iload_n 3, 1) := by decide +kernel
theorem dX12_isOther_31 : decode cX12_isOther 31 = .ok (.if_icmp .eq 7, 3) := by decide +kernel
theorem dX12_isOther_34 : decode cX12_isOther 34 = .ok (.iconst 1, 1) := by decide +kernel
theorem dX12_isOther_35 : decode cX12_isOther 35 = .ok (.goto 4, 3) := by decide +kernel
theorem dX12_isOther_38 : decode cX12_isOther 38 = .ok (.iconst 0, 1) := by decide +kernel
theorem dX12_isOther_39 : decode cX12_isOther 39 = .ok (.ireturn, 1) := by decide +kernel
def xX12_isOther : zX := (RX12, cX12_isOther, 4, (some .boolean), false, { frames := 4, cells := 0, slots := 0, locals := 155 }, 0, 0, 0, 0)
theorem rmX12_isOther : z_Rm xX12_isOther := by unfold z_Rm xX12_isOther; exact ⟨by decide, by decide⟩
theorem reX12_isOther : z_Re xX12_isOther := ⟨rfl, rfl⟩
theorem rlX12_isOther : 1 ≤ xX12_isOther.2.2.2.2.2.1.frames ∧ 21 ≤ xX12_isOther.2.2.2.2.2.1.locals := by unfold xX12_isOther; exact ⟨by decide, by decide⟩
theorem meX12_isOther : z_Me yX12_isOther xX12_isOther 3 := ⟨wd1162, wd848, by decide, by decide, by decide +kernel⟩
theorem fitX12_isOther_3 : z_Fit xX12_isSeat xX12_isOther := by unfold z_Fit; simp only [xX12_isSeat, xX12_isOther]; exact ⟨by decide, by decide⟩
theorem fitX12_isOther_11 : z_Fit xX12_isColour xX12_isOther := by unfold z_Fit; simp only [xX12_isColour, xX12_isOther]; exact ⟨by decide, by decide⟩
noncomputable def kX12_isOther_39 : zK zR := q_zret
noncomputable def kX12_isOther_38 : zK zR := (q_push 0 kX12_isOther_39)
noncomputable def kX12_isOther_0 : zK zR := (q_aload 0 (q_iload 1 (q_iload 2 (q_callV 12 fX12_isSeat 2 (q_if_eq kX12_isOther_38 (q_aload 0 (q_iload 3 (q_callV 12 fX12_isColour 1 (q_if_eq kX12_isOther_38 (q_aload 0 (q_getR 12 46 (q_push 4 (q_push 8 (q_iload 1 (q_imul (q_iadd (q_iload 2 (q_iadd (q_iald (q_iload 3 (q_icmp_eq kX12_isOther_38 (q_push 1 kX12_isOther_39))))))))))))))))))))))
set_option maxRecDepth 100000 in
theorem tX12_isOther_39 {l : Launch} {D : zD} {B sz0 : Nat} {post : Option Value → zS → Prop} : zSnd l D B xX12_isOther sz0 post 39 kX12_isOther_39 (z_Jr post) := (s_zret dX12_isOther_39 rfl)
set_option maxRecDepth 100000 in
theorem tX12_isOther_38 {l : Launch} {D : zD} {B sz0 : Nat} {post : Option Value → zS → Prop} : zSnd l D B xX12_isOther sz0 post 38 kX12_isOther_38 (z_Jr post) := (s_iconst dX12_isOther_38 (by decide) tX12_isOther_39)
set_option maxRecDepth 100000 in
theorem tX12_isOther_0 {l : Launch} {D : zD} {B sz0 : Nat} {post : Option Value → zS → Prop} : zSnd l D B xX12_isOther sz0 post 0 kX12_isOther_0 (z_Jr post) := (s_aload_n dX12_isOther_0 rfl (s_iload_n dX12_isOther_1 rfl (s_iload_n dX12_isOther_2 rfl (s_callV (r := (RX12, TX12, 74)) dX12_isOther_3 mX12_isSeat meX12_isSeat wd1158 wd1159 rfl rfl reX12_isSeat rmX12_isOther (fitX12_isOther_3) wd1160 (s_if_eq (tgt := 38) dX12_isOther_6 (by decide) tX12_isOther_38 (s_aload_n dX12_isOther_9 rfl (s_iload_n dX12_isOther_10 rfl (s_callV (r := (RX12, TX12, 74)) dX12_isOther_11 mX12_isColour meX12_isColour wd1129 wd1130 rfl rfl reX12_isColour rmX12_isOther (fitX12_isOther_11) wd1131 (s_if_eq (tgt := 38) dX12_isOther_14 (by decide) tX12_isOther_38 (s_aload_n dX12_isOther_17 rfl (s_getR (f := 46) dX12_isOther_18 clX12 (by decide) rfl wd860 (s_iconst dX12_isOther_21 (by decide) (s_bipush dX12_isOther_22 (by decide) (s_iload_n dX12_isOther_24 rfl (s_imul dX12_isOther_25 (s_iadd dX12_isOther_26 (s_iload_n dX12_isOther_27 rfl (s_iadd dX12_isOther_28 (s_iald dX12_isOther_29 (s_iload_n dX12_isOther_30 rfl (s_icmp_eq (tgt := 38) dX12_isOther_31 (by decide) tX12_isOther_38 (s_iconst dX12_isOther_34 (by decide) (s_goto (tgt := 39) dX12_isOther_35 (by decide) tX12_isOther_39)))))))))))))))))))))))
noncomputable def fX12_isOther : zF := z_fn 4 kX12_isOther_0
theorem mX12_isOther {l : Launch} {D : zD} {B : Nat} : z_MF l D B yX12_isOther xX12_isOther fX12_isOther := z_mf (by decide) rfl (fun h => by cases h) rfl (fun as σ r h => ⟨z_fn_len h, kX12_isOther_0, z_fn_run h, fun _ => tX12_isOther_0⟩)
/-! ===== RowChildrenModel.costs ===== -/
theorem dX12_costs_0 : decode cX12_costs 0 = .ok (.aload_n 0, 1) := by decide +kernel
theorem dX12_costs_1 : decode cX12_costs 1 = .ok (.iload_n 1, 1) := by decide +kernel
theorem dX12_costs_2 : decode cX12_costs 2 = .ok (.iload_n 2, 1) := by decide +kernel
theorem dX12_costs_3 : decode cX12_costs 3 = .ok (.iload_n 3, 1) := by decide +kernel
theorem dX12_costs_4 : decode cX12_costs 4 = .ok (.invokevirtual 427, 3) := by decide +kernel
theorem dX12_costs_7 : decode cX12_costs 7 = .ok (.ifCond .ne 5, 3) := by decide +kernel
theorem dX12_costs_10 : decode cX12_costs 10 = .ok (.iconst (-1), 1) := by decide +kernel
theorem dX12_costs_11 : decode cX12_costs 11 = .ok (.ireturn, 1) := by decide +kernel
theorem dX12_costs_12 : decode cX12_costs 12 = .ok (.aload_n 0, 1) := by decide +kernel
theorem dX12_costs_13 : decode cX12_costs 13 = .ok (.invokevirtual 401, 3) := by decide +kernel
theorem dX12_costs_16 : decode cX12_costs 16 = .ok (.aload_n 0, 1) := by decide +kernel
theorem dX12_costs_17 : decode cX12_costs 17 = .ok (.iload_n 1, 1) := by decide +kernel
theorem dX12_costs_18 : decode cX12_costs 18 = .ok (.iload_n 2, 1) := by decide +kernel
theorem dX12_costs_19 : decode cX12_costs 19 = .ok (.iload_n 3, 1) := by decide +kernel
theorem dX12_costs_20 : decode cX12_costs 20 = .ok (.invokevirtual 430, 3) := by decide +kernel
theorem dX12_costs_23 : decode cX12_costs 23 = .ok (.ireturn, 1) := by decide +kernel
def xX12_costs : zX := (RX12, cX12_costs, 4, (some .int), false, { frames := 5, cells := 0, slots := 0, locals := 183 }, 0, 0, 0, 0)
theorem rmX12_costs : z_Rm xX12_costs := by unfold z_Rm xX12_costs; exact ⟨by decide, by decide⟩
theorem reX12_costs : z_Re xX12_costs := ⟨rfl, rfl⟩
theorem rlX12_costs : 1 ≤ xX12_costs.2.2.2.2.2.1.frames ∧ 21 ≤ xX12_costs.2.2.2.2.2.1.locals := by unfold xX12_costs; exact ⟨by decide, by decide⟩
theorem meX12_costs : z_Me yX12_costs xX12_costs 3 := ⟨wd1169, wd848, by decide, by decide, by decide +kernel⟩
theorem fitX12_costs_4 : z_Fit xX12_isOther xX12_costs := by unfold z_Fit; simp only [xX12_isOther, xX12_costs]; exact ⟨by decide, by decide⟩
theorem fitX12_costs_13 : z_Fit xX12_copies xX12_costs := by unfold z_Fit; simp only [xX12_copies, xX12_costs]; exact ⟨by decide, by decide⟩
theorem fitX12_costs_20 : z_Fit xX12_costsOf xX12_costs := by unfold z_Fit; simp only [xX12_costsOf, xX12_costs]; exact ⟨by decide, by decide⟩
noncomputable def kX12_costs_0 : zK zR := (q_aload 0 (q_iload 1 (q_iload 2 (q_iload 3 (q_callV 12 fX12_isOther 3 (q_if_ne (q_aload 0 (q_callV 12 fX12_copies 0 (q_aload 0 (q_iload 1 (q_iload 2 (q_iload 3 (q_callV 12 fX12_costsOf 3 q_iret))))))) (q_push (-1) q_iret)))))))
set_option maxRecDepth 100000 in
theorem tX12_costs_0 {l : Launch} {D : zD} {B sz0 : Nat} {post : Option Value → zS → Prop} : zSnd l D B xX12_costs sz0 post 0 kX12_costs_0 (z_Jr post) := (s_aload_n dX12_costs_0 rfl (s_iload_n dX12_costs_1 rfl (s_iload_n dX12_costs_2 rfl (s_iload_n dX12_costs_3 rfl (s_callV (r := (RX12, TX12, 74)) dX12_costs_4 mX12_isOther meX12_isOther wd1163 wd1164 rfl rfl reX12_isOther rmX12_costs (fitX12_costs_4) wd1165 (s_if_ne (tgt := 12) dX12_costs_7 (by decide) (s_aload_n dX12_costs_12 rfl (s_callV (r := (RX12, TX12, 74)) dX12_costs_13 mX12_copies meX12_copies wd1133 wd1134 rfl rfl reX12_copies rmX12_costs (fitX12_costs_13) wd1135 (s_aload_n dX12_costs_16 rfl (s_iload_n dX12_costs_17 rfl (s_iload_n dX12_costs_18 rfl (s_iload_n dX12_costs_19 rfl (s_callV (r := (RX12, TX12, 74)) dX12_costs_20 mX12_costsOf meX12_costsOf wd1166 wd1167 rfl rfl reX12_costsOf rmX12_costs (fitX12_costs_20) wd1168 (s_iret dX12_costs_23 rfl)))))))) (s_iconst dX12_costs_10 (by decide) (s_iret dX12_costs_11 rfl))))))))
noncomputable def fX12_costs : zF := z_fn 4 kX12_costs_0
theorem mX12_costs {l : Launch} {D : zD} {B : Nat} : z_MF l D B yX12_costs xX12_costs fX12_costs := z_mf (by decide) rfl (fun h => by cases h) rfl (fun as σ r h => ⟨z_fn_len h, kX12_costs_0, z_fn_run h, fun _ => tX12_costs_0⟩)
/-! ===== RowChildrenModel.records ===== -/
theorem dX12_records_0 : decode cX12_records 0 = .ok (.aload_n 0, 1) := by decide +kernel
theorem dX12_records_1 : decode cX12_records 1 = .ok (.getfield 271, 3) := by decide +kernel
theorem dX12_records_4 : decode cX12_records 4 = .ok (.bipush 40, 2) := by decide +kernel
theorem dX12_records_6 : decode cX12_records 6 = .ok (.if_icmp .ne 43, 3) := by decide +kernel
theorem dX12_records_9 : decode cX12_records 9 = .ok (.iconst 0, 1) := by decide +kernel
theorem dX12_records_10 : decode cX12_records 10 = .ok (.istore_n 1, 1) := by decide +kernel
theorem dX12_records_11 : decode cX12_records 11 = .ok (.iload_n 1, 1) := by decide +kernel
theorem dX12_records_12 : decode cX12_records 12 = .ok (.sipush 1482, 3) := by decide +kernel
theorem dX12_records_15 : decode cX12_records 15 = .ok (.if_icmp .ge 24, 3) := by decide +kernel
theorem dX12_records_18 : decode cX12_records 18 = .ok (.aload_n 0, 1) := by decide +kernel
theorem dX12_records_19 : decode cX12_records 19 = .ok (.getfield 116, 3) := by decide +kernel
theorem dX12_records_22 : decode cX12_records 22 = .ok (.iload_n 1, 1) := by decide +kernel
theorem dX12_records_23 : decode cX12_records 23 = .ok (.aload_n 0, 1) := by decide +kernel
theorem dX12_records_24 : decode cX12_records 24 = .ok (.getfield 116, 3) := by decide +kernel
theorem dX12_records_27 : decode cX12_records 27 = .ok (.iload_n 1, 1) := by decide +kernel
theorem dX12_records_28 : decode cX12_records 28 = .ok (.bipush 38, 2) := by decide +kernel
theorem dX12_records_30 : decode cX12_records 30 = .ok (.iadd, 1) := by decide +kernel
theorem dX12_records_31 : decode cX12_records 31 = .ok (.iaload, 1) := by decide +kernel
theorem dX12_records_32 : decode cX12_records 32 = .ok (.iastore, 1) := by decide +kernel
theorem dX12_records_33 : decode cX12_records 33 = .ok (.iinc 1 1, 3) := by decide +kernel
theorem dX12_records_36 : decode cX12_records 36 = .ok (.goto (-25), 3) := by decide +kernel
theorem dX12_records_39 : decode cX12_records 39 = .ok (.aload_n 0, 1) := by decide +kernel
theorem dX12_records_40 : decode cX12_records 40 = .ok (.dup, 1) := by decide +kernel
theorem dX12_records_41 : decode cX12_records 41 = .ok (.getfield 271, 3) := by decide +kernel
theorem dX12_records_44 : decode cX12_records 44 = .ok (.iconst 1, 1) := by decide +kernel
theorem dX12_records_45 : decode cX12_records 45 = .ok (.isub, 1) := by decide +kernel
theorem dX12_records_46 : decode cX12_records 46 = .ok (.putfield 271, 3) := by decide +kernel
theorem dX12_records_49 : decode cX12_records 49 = .ok (.iconst 0, 1) := by decide +kernel
theorem dX12_records_50 : decode cX12_records 50 = .ok (.istore_n 1, 1) := by decide +kernel
theorem dX12_records_51 : decode cX12_records 51 = .ok (.iload_n 1, 1) := by decide +kernel
theorem dX12_records_52 : decode cX12_records 52 = .ok (.bipush 38, 2) := by decide +kernel
theorem dX12_records_54 : decode cX12_records 54 = .ok (.if_icmp .ge 29, 3) := by decide +kernel
theorem dX12_records_57 : decode cX12_records 57 = .ok (.aload_n 0, 1) := by decide +kernel
theorem dX12_records_58 : decode cX12_records 58 = .ok (.getfield 116, 3) := by decide +kernel
theorem dX12_records_61 : decode cX12_records 61 = .ok (.bipush 38, 2) := by decide +kernel
theorem dX12_records_63 : decode cX12_records 63 = .ok (.aload_n 0, 1) := by decide +kernel
theorem dX12_records_64 : decode cX12_records 64 = .ok (.getfield 271, 3) := by decide +kernel
theorem dX12_records_67 : decode cX12_records 67 = .ok (.imul, 1) := by decide +kernel
theorem dX12_records_68 : decode cX12_records 68 = .ok (.iload_n 1, 1) := by decide +kernel
theorem dX12_records_69 : decode cX12_records 69 = .ok (.iadd, 1) := by decide +kernel
theorem dX12_records_70 : decode cX12_records 70 = .ok (.aload_n 0, 1) := by decide +kernel
theorem dX12_records_71 : decode cX12_records 71 = .ok (.getfield 104, 3) := by decide +kernel
theorem dX12_records_74 : decode cX12_records 74 = .ok (.iload_n 1, 1) := by decide +kernel
theorem dX12_records_75 : decode cX12_records 75 = .ok (.iaload, 1) := by decide +kernel
theorem dX12_records_76 : decode cX12_records 76 = .ok (.iastore, 1) := by decide +kernel
theorem dX12_records_77 : decode cX12_records 77 = .ok (.iinc 1 1, 3) := by decide +kernel
theorem dX12_records_80 : decode cX12_records 80 = .ok (.goto (-29), 3) := by decide +kernel
theorem dX12_records_83 : decode cX12_records 83 = .ok (.aload_n 0, 1) := by decide +kernel
theorem dX12_records_84 : decode cX12_records 84 = .ok (.dup, 1) := by decide +kernel
theorem dX12_records_85 : decode cX12_records 85 = .ok (.getfield 271, 3) := by decide +kernel
theorem dX12_records_88 : decode cX12_records 88 = .ok (.iconst 1, 1) := by decide +kernel
theorem dX12_records_89 : decode cX12_records 89 = .ok (.iadd, 1) := by decide +kernel
theorem dX12_records_90 : decode cX12_records 90 = .ok (.putfield 271, 3) := by decide +kernel
theorem dX12_records_93 : decode cX12_records 93 = .ok (.aload_n 0, 1) := by decide +kernel
theorem dX12_records_94 : decode cX12_records 94 = .ok (.invokevirtual 179, 3) := by decide +kernel
theorem dX12_records_97 : decode cX12_records 97 = .ok (.return_, 1) := by decide +kernel
def xX12_records : zX := (RX12, cX12_records, 2, none, false, { frames := 2, cells := 0, slots := 0, locals := 111 }, 0, 0, 0, 0)
theorem rmX12_records : z_Rm xX12_records := by unfold z_Rm xX12_records; exact ⟨by decide, by decide⟩
theorem reX12_records : z_Re xX12_records := ⟨rfl, rfl⟩
theorem rlX12_records : 1 ≤ xX12_records.2.2.2.2.2.1.frames ∧ 21 ≤ xX12_records.2.2.2.2.2.1.locals := by unfold xX12_records; exact ⟨by decide, by decide⟩
theorem meX12_records : z_Me yX12_records xX12_records 0 := ⟨wd1170, wd848, by decide, by decide, by decide +kernel⟩
theorem fitX12_records_94 : z_Fit xX12_keepsRow xX12_records := by unfold z_Fit; simp only [xX12_keepsRow, xX12_records]; exact ⟨by decide, by decide⟩
noncomputable def kX12_records_83 : zK zR := (q_aload 0 (q_dup (q_getI 12 52 (q_push 1 (q_iadd (q_putI 12 52 (q_aload 0 (q_callV 12 fX12_keepsRow 0 q_vret))))))))
noncomputable def bX12_records_51 : zK ((zL × zS) ⊕ zR) := (q_iload 1 (q_push 38 (q_icmp_ge (q_dn kX12_records_83) (q_aload 0 (q_getR 12 53 (q_push 38 (q_aload 0 (q_getI 12 52 (q_imul (q_iload 1 (q_iadd (q_aload 0 (q_getR 12 46 (q_iload 1 (q_iald (q_iast (q_iinc 1 1 q_ag)))))))))))))))))
noncomputable def kX12_records_51 : zK zR := q_lp (bX12_records_51)
noncomputable def kX12_records_49 : zK zR := (q_push 0 (q_istore 1 kX12_records_51))
noncomputable def kX12_records_39 : zK zR := (q_aload 0 (q_dup (q_getI 12 52 (q_push 1 (q_isub (q_putI 12 52 kX12_records_49))))))
noncomputable def bX12_records_11 : zK ((zL × zS) ⊕ zR) := (q_iload 1 (q_push 1482 (q_icmp_ge (q_dn kX12_records_39) (q_aload 0 (q_getR 12 53 (q_iload 1 (q_aload 0 (q_getR 12 53 (q_iload 1 (q_push 38 (q_iadd (q_iald (q_iast (q_iinc 1 1 q_ag))))))))))))))
noncomputable def kX12_records_11 : zK zR := q_lp (bX12_records_11)
noncomputable def kX12_records_0 : zK zR := (q_aload 0 (q_getI 12 52 (q_push 40 (q_icmp_ne kX12_records_49 (q_push 0 (q_istore 1 kX12_records_11))))))
set_option maxRecDepth 100000 in
theorem tX12_records_83 {l : Launch} {D : zD} {B sz0 : Nat} {post : Option Value → zS → Prop} : zSnd l D B xX12_records sz0 post 83 kX12_records_83 (z_Jr post) := (s_aload_n dX12_records_83 rfl (s_dup dX12_records_84 (s_getI (f := 52) dX12_records_85 clX12 (by decide) rfl wd1021 (s_iconst dX12_records_88 (by decide) (s_iadd dX12_records_89 (s_putI (f := 52) dX12_records_90 clX12 (by decide) rfl rfl rfl wd1021 (s_aload_n dX12_records_93 rfl (s_callV (r := (RX12, TX12, 74)) dX12_records_94 mX12_keepsRow meX12_keepsRow wd910 wd911 rfl rfl reX12_keepsRow rmX12_records (fitX12_records_94) wd912 (s_vret dX12_records_97 rfl)))))))))
set_option maxRecDepth 100000 in
theorem tX12_records_51 {l : Launch} {D : zD} {B sz0 : Nat} {post : Option Value → zS → Prop} : zSnd l D B xX12_records sz0 post 51 kX12_records_51 (z_Jr post) := s_lp (body := bX12_records_51) (s_iload_n dX12_records_51 rfl (s_bipush dX12_records_52 (by decide) (s_icmp_ge (tgt := 83) dX12_records_54 (by decide) (s_dn tX12_records_83) (s_aload_n dX12_records_57 rfl (s_getR (f := 53) dX12_records_58 clX12 (by decide) rfl wd884 (s_bipush dX12_records_61 (by decide) (s_aload_n dX12_records_63 rfl (s_getI (f := 52) dX12_records_64 clX12 (by decide) rfl wd1021 (s_imul dX12_records_67 (s_iload_n dX12_records_68 rfl (s_iadd dX12_records_69 (s_aload_n dX12_records_70 rfl (s_getR (f := 46) dX12_records_71 clX12 (by decide) rfl wd860 (s_iload_n dX12_records_74 rfl (s_iald dX12_records_75 (s_iast dX12_records_76 (s_iinc dX12_records_77 (by decide) (s_goto (tgt := 51) dX12_records_80 (by decide) s_ag))))))))))))))))))
set_option maxRecDepth 100000 in
theorem tX12_records_49 {l : Launch} {D : zD} {B sz0 : Nat} {post : Option Value → zS → Prop} : zSnd l D B xX12_records sz0 post 49 kX12_records_49 (z_Jr post) := (s_iconst dX12_records_49 (by decide) (s_istore_n dX12_records_50 rfl tX12_records_51))
set_option maxRecDepth 100000 in
theorem tX12_records_39 {l : Launch} {D : zD} {B sz0 : Nat} {post : Option Value → zS → Prop} : zSnd l D B xX12_records sz0 post 39 kX12_records_39 (z_Jr post) := (s_aload_n dX12_records_39 rfl (s_dup dX12_records_40 (s_getI (f := 52) dX12_records_41 clX12 (by decide) rfl wd1021 (s_iconst dX12_records_44 (by decide) (s_isub dX12_records_45 (s_putI (f := 52) dX12_records_46 clX12 (by decide) rfl rfl rfl wd1021 tX12_records_49))))))
set_option maxRecDepth 100000 in
theorem tX12_records_11 {l : Launch} {D : zD} {B sz0 : Nat} {post : Option Value → zS → Prop} : zSnd l D B xX12_records sz0 post 11 kX12_records_11 (z_Jr post) := s_lp (body := bX12_records_11) (s_iload_n dX12_records_11 rfl (s_sipush dX12_records_12 (by decide) (s_icmp_ge (tgt := 39) dX12_records_15 (by decide) (s_dn tX12_records_39) (s_aload_n dX12_records_18 rfl (s_getR (f := 53) dX12_records_19 clX12 (by decide) rfl wd884 (s_iload_n dX12_records_22 rfl (s_aload_n dX12_records_23 rfl (s_getR (f := 53) dX12_records_24 clX12 (by decide) rfl wd884 (s_iload_n dX12_records_27 rfl (s_bipush dX12_records_28 (by decide) (s_iadd dX12_records_30 (s_iald dX12_records_31 (s_iast dX12_records_32 (s_iinc dX12_records_33 (by decide) (s_goto (tgt := 11) dX12_records_36 (by decide) s_ag)))))))))))))))
set_option maxRecDepth 100000 in
theorem tX12_records_0 {l : Launch} {D : zD} {B sz0 : Nat} {post : Option Value → zS → Prop} : zSnd l D B xX12_records sz0 post 0 kX12_records_0 (z_Jr post) := (s_aload_n dX12_records_0 rfl (s_getI (f := 52) dX12_records_1 clX12 (by decide) rfl wd1021 (s_bipush dX12_records_4 (by decide) (s_icmp_ne (tgt := 49) dX12_records_6 (by decide) tX12_records_49 (s_iconst dX12_records_9 (by decide) (s_istore_n dX12_records_10 rfl tX12_records_11))))))
noncomputable def fX12_records : zF := z_fn 2 kX12_records_0
theorem mX12_records {l : Launch} {D : zD} {B : Nat} : z_MF l D B yX12_records xX12_records fX12_records := z_mf (by decide) rfl (fun h => by cases h) rfl (fun as σ r h => ⟨z_fn_len h, kX12_records_0, z_fn_run h, fun _ => tX12_records_0⟩)
