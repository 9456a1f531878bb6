/-! ===== RowChildrenModel.isAlikeTurned ===== -/
theorem dX12_isAlikeTurned_0 : decode cX12_isAlikeTurned 0 = .ok (.iconst 0, 1) := by decide +kernel
theorem dX12_isAlikeTurned_1 : decode cX12_isAlikeTurned 1 = .ok (.istore_n 1, 1) := by decide +kernel
theorem dX12_isAlikeTurned_2 : decode cX12_isAlikeTurned 2 = .ok (.iload_n 1, 1) := by decide +kernel
theorem dX12_isAlikeTurned_3 : decode cX12_isAlikeTurned 3 = .ok (.bipush 16, 2) := by decide +kernel
theorem dX12_isAlikeTurned_5 : decode cX12_isAlikeTurned 5 = .ok (.if_icmp .ge 54, 3) := by decide +kernel
theorem dX12_isAlikeTurned_8 : decode cX12_isAlikeTurned 8 = .ok (.aload_n 0, 1) := by decide +kernel
theorem dX12_isAlikeTurned_9 : decode cX12_isAlikeTurned 9 = .ok (.iload_n 1, 1) := by decide +kernel
theorem dX12_isAlikeTurned_10 : decode cX12_isAlikeTurned 10 = .ok (.iconst 4, 1) := by decide +kernel
theorem dX12_isAlikeTurned_11 : decode cX12_isAlikeTurned 11 = .ok (.idiv, 1) := by decide +kernel
theorem dX12_isAlikeTurned_12 : decode cX12_isAlikeTurned 12 = .ok (.invokevirtual 398, 3) := by decide +kernel
theorem dX12_isAlikeTurned_15 : decode cX12_isAlikeTurned 15 = .ok (.ifCond .eq 38, 3) := by decide +kernel
theorem dX12_isAlikeTurned_18 : decode cX12_isAlikeTurned 18 = .ok (.aload_n 0, 1) := by decide +kernel
theorem dX12_isAlikeTurned_19 : decode cX12_isAlikeTurned 19 = .ok (.iload_n 1, 1) := by decide +kernel
theorem dX12_isAlikeTurned_20 : decode cX12_isAlikeTurned 20 = .ok (.iconst 4, 1) := by decide +kernel
theorem dX12_isAlikeTurned_21 : decode cX12_isAlikeTurned 21 = .ok (.irem, 1) := by decide +kernel
theorem dX12_isAlikeTurned_22 : decode cX12_isAlikeTurned 22 = .ok (.invokevirtual 398, 3) := by decide +kernel
theorem dX12_isAlikeTurned_25 : decode cX12_isAlikeTurned 25 = .ok (.ifCond .eq 28, 3) := by decide +kernel
theorem dX12_isAlikeTurned_28 : decode cX12_isAlikeTurned 28 = .ok (.aload_n 0, 1) := by decide +kernel
theorem dX12_isAlikeTurned_29 : decode cX12_isAlikeTurned 29 = .ok (.iload_n 1, 1) := by decide +kernel
theorem dX12_isAlikeTurned_30 : decode cX12_isAlikeTurned 30 = .ok (.iconst 4, 1) := by decide +kernel
theorem dX12_isAlikeTurned_31 : decode cX12_isAlikeTurned 31 = .ok (.idiv, 1) := by decide +kernel
theorem dX12_isAlikeTurned_32 : decode cX12_isAlikeTurned 32 = .ok (.iload_n 1, 1) := by decide +kernel
theorem dX12_isAlikeTurned_33 : decode cX12_isAlikeTurned 33 = .ok (.iconst 4, 1) := by decide +kernel
theorem dX12_isAlikeTurned_34 : decode cX12_isAlikeTurned 34 = .ok (.irem, 1) := by decide +kernel
theorem dX12_isAlikeTurned_35 : decode cX12_isAlikeTurned 35 = .ok (.invokevirtual 346, 3) := by decide +kernel
theorem dX12_isAlikeTurned_38 : decode cX12_isAlikeTurned 38 = .ok (.aload_n 0, 1) := by decide +kernel
theorem dX12_isAlikeTurned_39 : decode cX12_isAlikeTurned 39 = .ok (.iload_n 1, 1) := by decide +kernel
theorem dX12_isAlikeTurned_40 : decode cX12_isAlikeTurned 40 = .ok (.iconst 4, 1) := by decide +kernel
theorem dX12_isAlikeTurned_41 : decode cX12_isAlikeTurned 41 = .ok (.irem, 1) := by decide +kernel
theorem dX12_isAlikeTurned_42 : decode cX12_isAlikeTurned 42 = .ok (.iload_n 1, 1) := by decide +kernel
theorem dX12_isAlikeTurned_43 : decode cX12_isAlikeTurned 43 = .ok (.iconst 4, 1) := by decide +kernel
theorem dX12_isAlikeTurned_44 : decode cX12_isAlikeTurned 44 = .ok (.idiv, 1) := by decide +kernel
theorem dX12_isAlikeTurned_45 : decode cX12_isAlikeTurned 45 = .ok (.invokevirtual 346, 3) := by decide +kernel
theorem dX12_isAlikeTurned_48 : decode cX12_isAlikeTurned 48 = .ok (.if_icmp .eq 5, 3) := by decide +kernel
theorem dX12_isAlikeTurned_51 : decode cX12_isAlikeTurned 51 = .ok (.iconst 0, 1) := by decide +kernel
theorem dX12_isAlikeTurned_52 : decode cX12_isAlikeTurned 52 = .ok (.ireturn, 1) := by decide +kernel
theorem dX12_isAlikeTurned_53 : decode cX12_isAlikeTurned 53 = .ok (.iinc 1 1, 3) := by decide +kernel
theorem dX12_isAlikeTurned_56 : decode cX12_isAlikeTurned 56 = .ok (.goto (-54), 3) := by decide +kernel
theorem dX12_isAlikeTurned_59 : decode cX12_isAlikeTurned 59 = .ok (.iconst 1, 1) := by decide +kernel
theorem dX12_isAlikeTurned_60 : decode cX12_isAlikeTurned 60 = .ok (.ireturn, 1) := by decide +kernel
def xX12_isAlikeTurned : zX := (RX12, cX12_isAlikeTurned, 2, (some .boolean), false, { frames := 3, cells := 0, slots := 0, locals := 133 }, 0, 0, 0, 0)
theorem rmX12_isAlikeTurned : z_Rm xX12_isAlikeTurned := by unfold z_Rm xX12_isAlikeTurned; exact ⟨by decide, by decide⟩
theorem reX12_isAlikeTurned : z_Re xX12_isAlikeTurned := ⟨rfl, rfl⟩
theorem rlX12_isAlikeTurned : 1 ≤ xX12_isAlikeTurned.2.2.2.2.2.1.frames ∧ 21 ≤ xX12_isAlikeTurned.2.2.2.2.2.1.locals := by unfold xX12_isAlikeTurned; exact ⟨by decide, by decide⟩
theorem meX12_isAlikeTurned : z_Me yX12_isAlikeTurned xX12_isAlikeTurned 0 := ⟨wd1294, wd893, by decide, by decide, by decide +kernel⟩
theorem fitX12_isAlikeTurned_12 : z_Fit xX12_isColour xX12_isAlikeTurned := by unfold z_Fit; simp only [xX12_isColour, xX12_isAlikeTurned]; exact ⟨by decide, by decide⟩
theorem fitX12_isAlikeTurned_22 : z_Fit xX12_isColour xX12_isAlikeTurned := by unfold z_Fit; simp only [xX12_isColour, xX12_isAlikeTurned]; exact ⟨by decide, by decide⟩
theorem fitX12_isAlikeTurned_35 : z_Fit xX12_childOf xX12_isAlikeTurned := by unfold z_Fit; simp only [xX12_childOf, xX12_isAlikeTurned]; exact ⟨by decide, by decide⟩
theorem fitX12_isAlikeTurned_45 : z_Fit xX12_childOf xX12_isAlikeTurned := by unfold z_Fit; simp only [xX12_childOf, xX12_isAlikeTurned]; exact ⟨by decide, by decide⟩
noncomputable def kX12_isAlikeTurned_59 : zK zR := (q_push 1 q_zret)
noncomputable def kX12_isAlikeTurned_53 : zK ((zL × zS) ⊕ zR) := (q_iinc 1 1 q_ag)
noncomputable def kX12_isAlikeTurned_51 : zK zR := (q_push 0 q_zret)
noncomputable def bX12_isAlikeTurned_2 : zK ((zL × zS) ⊕ zR) := (q_iload 1 (q_push 16 (q_icmp_ge (q_dn kX12_isAlikeTurned_59) (q_aload 0 (q_iload 1 (q_push 4 (q_idiv (q_callV 12 fX12_isColour 1 (q_if_eq kX12_isAlikeTurned_53 (q_aload 0 (q_iload 1 (q_push 4 (q_irem (q_callV 12 fX12_isColour 1 (q_if_eq kX12_isAlikeTurned_53 (q_aload 0 (q_iload 1 (q_push 4 (q_idiv (q_iload 1 (q_push 4 (q_irem (q_callV 12 fX12_childOf 2 (q_aload 0 (q_iload 1 (q_push 4 (q_irem (q_iload 1 (q_push 4 (q_idiv (q_callV 12 fX12_childOf 2 (q_icmp_eq kX12_isAlikeTurned_53 (q_dn kX12_isAlikeTurned_51)))))))))))))))))))))))))))))))))
noncomputable def kX12_isAlikeTurned_2 : zK zR := q_lp (bX12_isAlikeTurned_2)
noncomputable def kX12_isAlikeTurned_0 : zK zR := (q_push 0 (q_istore 1 kX12_isAlikeTurned_2))
set_option maxRecDepth 100000 in
theorem tX12_isAlikeTurned_59 {l : Launch} {D : zD} {B sz0 : Nat} {post : Option Value → zS → Prop} : zSnd l D B xX12_isAlikeTurned sz0 post 59 kX12_isAlikeTurned_59 (z_Jr post) := (s_iconst dX12_isAlikeTurned_59 (by decide) (s_zret dX12_isAlikeTurned_60 rfl))
set_option maxRecDepth 100000 in
theorem tX12_isAlikeTurned_53 {l : Launch} {D : zD} {B sz0 : Nat} {post : Option Value → zS → Prop} : zSnd l D B xX12_isAlikeTurned sz0 post 53 kX12_isAlikeTurned_53 (z_Jl l D B xX12_isAlikeTurned sz0 post 2 (z_Jr post)) := (s_iinc dX12_isAlikeTurned_53 (by decide) (s_goto (tgt := 2) dX12_isAlikeTurned_56 (by decide) s_ag))
set_option maxRecDepth 100000 in
theorem tX12_isAlikeTurned_51 {l : Launch} {D : zD} {B sz0 : Nat} {post : Option Value → zS → Prop} : zSnd l D B xX12_isAlikeTurned sz0 post 51 kX12_isAlikeTurned_51 (z_Jr post) := (s_iconst dX12_isAlikeTurned_51 (by decide) (s_zret dX12_isAlikeTurned_52 rfl))
set_option maxRecDepth 100000 in
theorem tX12_isAlikeTurned_2 {l : Launch} {D : zD} {B sz0 : Nat} {post : Option Value → zS → Prop} : zSnd l D B xX12_isAlikeTurned sz0 post 2 kX12_isAlikeTurned_2 (z_Jr post) := s_lp (body := bX12_isAlikeTurned_2) (s_iload_n dX12_isAlikeTurned_2 rfl (s_bipush dX12_isAlikeTurned_3 (by decide) (s_icmp_ge (tgt := 59) dX12_isAlikeTurned_5 (by decide) (s_dn tX12_isAlikeTurned_59) (s_aload_n dX12_isAlikeTurned_8 rfl (s_iload_n dX12_isAlikeTurned_9 rfl (s_iconst dX12_isAlikeTurned_10 (by decide) (s_idiv dX12_isAlikeTurned_11 (s_callV (r := (RX12, TX12, 74)) dX12_isAlikeTurned_12 mX12_isColour meX12_isColour wd1174 wd1175 rfl rfl reX12_isColour rmX12_isAlikeTurned (fitX12_isAlikeTurned_12) wd1176 (s_if_eq (tgt := 53) dX12_isAlikeTurned_15 (by decide) tX12_isAlikeTurned_53 (s_aload_n dX12_isAlikeTurned_18 rfl (s_iload_n dX12_isAlikeTurned_19 rfl (s_iconst dX12_isAlikeTurned_20 (by decide) (s_irem dX12_isAlikeTurned_21 (s_callV (r := (RX12, TX12, 74)) dX12_isAlikeTurned_22 mX12_isColour meX12_isColour wd1174 wd1175 rfl rfl reX12_isColour rmX12_isAlikeTurned (fitX12_isAlikeTurned_22) wd1176 (s_if_eq (tgt := 53) dX12_isAlikeTurned_25 (by decide) tX12_isAlikeTurned_53 (s_aload_n dX12_isAlikeTurned_28 rfl (s_iload_n dX12_isAlikeTurned_29 rfl (s_iconst dX12_isAlikeTurned_30 (by decide) (s_idiv dX12_isAlikeTurned_31 (s_iload_n dX12_isAlikeTurned_32 rfl (s_iconst dX12_isAlikeTurned_33 (by decide) (s_irem dX12_isAlikeTurned_34 (s_callV (r := (RX12, TX12, 74)) dX12_isAlikeTurned_35 mX12_childOf meX12_childOf wd1102 wd1103 rfl rfl reX12_childOf rmX12_isAlikeTurned (fitX12_isAlikeTurned_35) wd1104 (s_aload_n dX12_isAlikeTurned_38 rfl (s_iload_n dX12_isAlikeTurned_39 rfl (s_iconst dX12_isAlikeTurned_40 (by decide) (s_irem dX12_isAlikeTurned_41 (s_iload_n dX12_isAlikeTurned_42 rfl (s_iconst dX12_isAlikeTurned_43 (by decide) (s_idiv dX12_isAlikeTurned_44 (s_callV (r := (RX12, TX12, 74)) dX12_isAlikeTurned_45 mX12_childOf meX12_childOf wd1102 wd1103 rfl rfl reX12_childOf rmX12_isAlikeTurned (fitX12_isAlikeTurned_45) wd1104 (s_icmp_eq (tgt := 53) dX12_isAlikeTurned_48 (by decide) tX12_isAlikeTurned_53 (s_dn tX12_isAlikeTurned_51)))))))))))))))))))))))))))))))))
set_option maxRecDepth 100000 in
theorem tX12_isAlikeTurned_0 {l : Launch} {D : zD} {B sz0 : Nat} {post : Option Value → zS → Prop} : zSnd l D B xX12_isAlikeTurned sz0 post 0 kX12_isAlikeTurned_0 (z_Jr post) := (s_iconst dX12_isAlikeTurned_0 (by decide) (s_istore_n dX12_isAlikeTurned_1 rfl tX12_isAlikeTurned_2))
noncomputable def fX12_isAlikeTurned : zF := z_fn 2 kX12_isAlikeTurned_0
theorem mX12_isAlikeTurned {l : Launch} {D : zD} {B : Nat} : z_MF l D B yX12_isAlikeTurned xX12_isAlikeTurned fX12_isAlikeTurned := z_mf (by decide) rfl (fun h => by cases h) rfl (fun as σ r h => ⟨z_fn_len h, kX12_isAlikeTurned_0, z_fn_run h, fun _ => tX12_isAlikeTurned_0⟩)
/-! ===== RowChildrenModel.isUnlike ===== -/
theorem dX12_isUnlike_0 : decode cX12_isUnlike 0 = .ok (.iconst 0, 1) := by decide +kernel
theorem dX12_isUnlike_1 : decode cX12_isUnlike 1 = .ok (.istore_n 3, 1) := by decide +kernel
theorem dX12_isUnlike_2 : decode cX12_isUnlike 2 = .ok (.iconst 0, 1) := by decide +kernel
theorem dX12_isUnlike_3 : decode cX12_isUnlike 3 = .ok (.istore 4, 2) := by decide +kernel
theorem dX12_isUnlike_5 : decode cX12_isUnlike 5 = .ok (.iload 4, 2) := by decide +kernel
theorem dX12_isUnlike_7 : decode cX12_isUnlike 7 = .ok (.aload_n 0, 1) := by decide +kernel
theorem dX12_isUnlike_8 : decode cX12_isUnlike 8 = .ok (.invokevirtual 327, 3) := by decide +kernel
theorem dX12_isUnlike_11 : decode cX12_isUnlike 11 = .ok (.if_icmp .ge 35, 3) := by decide +kernel
theorem dX12_isUnlike_14 : decode cX12_isUnlike 14 = .ok (.iload_n 3, 1) := by decide +kernel
theorem dX12_isUnlike_15 : decode cX12_isUnlike 15 = .ok (.iconst 1, 1) := by decide +kernel
theorem dX12_isUnlike_16 : decode cX12_isUnlike 16 = .ok (.iload_n 2, 1) := by decide +kernel
theorem dX12_isUnlike_17 : decode cX12_isUnlike 17 = .ok (.ifCond .eq 13, 3) := by decide +kernel
theorem dX12_isUnlike_20 : decode cX12_isUnlike 20 = .ok (.aload_n 0, 1) := by decide +kernel
theorem dX12_isUnlike_21 : decode cX12_isUnlike 21 = .ok (.iload_n 1, 1) := by decide +kernel
theorem dX12_isUnlike_22 : decode cX12_isUnlike 22 = .ok (.iload 4, 2) := by decide +kernel
theorem dX12_isUnlike_24 : decode cX12_isUnlike 24 = .ok (.invokevirtual 346, 3) := by decide +kernel
theorem dX12_isUnlike_27 : decode cX12_isUnlike 27 = .ok (.goto 10, 3) := by decide +kernel
theorem dX12_isUnlike_30 : decode cX12_isUnlike 30 = .ok (.aload_n 0, 1) := by decide +kernel
theorem dX12_isUnlike_31 : decode cX12_isUnlike 31 = .ok (.iload 4, 2) := by decide +kernel
theorem dX12_isUnlike_33 : decode cX12_isUnlike 33 = .ok (.iload_n 1, 1) := by decide +kernel
theorem dX12_isUnlike_34 : decode cX12_isUnlike 34 = .ok (.invokevirtual 346, 3) := by decide +kernel
theorem dX12_isUnlike_37 : decode cX12_isUnlike 37 = .ok (.ishl, 1) := by decide +kernel
theorem dX12_isUnlike_38 : decode cX12_isUnlike 38 = .ok (.ior, 1) := by decide +kernel
theorem dX12_isUnlike_39 : decode cX12_isUnlike 39 = .ok (.istore_n 3, 1) := by decide +kernel
theorem dX12_isUnlike_40 : decode cX12_isUnlike 40 = .ok (.iinc 4 1, 3) := by decide +kernel
theorem dX12_isUnlike_43 : decode cX12_isUnlike 43 = .ok (.goto (-38), 3) := by decide +kernel
theorem dX12_isUnlike_46 : decode cX12_isUnlike 46 = .ok (.iload_n 3, 1) := by decide +kernel
theorem dX12_isUnlike_47 : decode cX12_isUnlike 47 = .ok (.iconst 1, 1) := by decide +kernel
theorem dX12_isUnlike_48 : decode cX12_isUnlike 48 = .ok (.aload_n 0, 1) := by decide +kernel
theorem dX12_isUnlike_49 : decode cX12_isUnlike 49 = .ok (.invokevirtual 327, 3) := by decide +kernel
theorem dX12_isUnlike_52 : decode cX12_isUnlike 52 = .ok (.ishl, 1) := by decide +kernel
theorem dX12_isUnlike_53 : decode cX12_isUnlike 53 = .ok (.iconst 1, 1) := by decide +kernel
theorem dX12_isUnlike_54 : decode cX12_isUnlike 54 = .ok (.isub, 1) := by decide +kernel
theorem dX12_isUnlike_55 : decode cX12_isUnlike 55 = .ok (.if_icmp .ne 7, 3) := by decide +kernel
theorem dX12_isUnlike_58 : decode cX12_isUnlike 58 = .ok (.iconst 1, 1) := by decide +kernel
theorem dX12_isUnlike_59 : decode cX12_isUnlike 59 = .ok (.goto 4, 3) := by decide +kernel
theorem dX12_isUnlike_62 : decode cX12_isUnlike 62 = .ok (.iconst 0, 1) := by decide +kernel
theorem dX12_isUnlike_63 : decode cX12_isUnlike 63 = .ok (.ireturn, 1) := by decide +kernel
def xX12_isUnlike : zX := (RX12, cX12_isUnlike, 5, (some .boolean), false, { frames := 3, cells := 0, slots := 0, locals := 133 }, 0, 0, 0, 0)
theorem rmX12_isUnlike : z_Rm xX12_isUnlike := by unfold z_Rm xX12_isUnlike; exact ⟨by decide, by decide⟩
theorem reX12_isUnlike : z_Re xX12_isUnlike := ⟨rfl, rfl⟩
theorem rlX12_isUnlike : 1 ≤ xX12_isUnlike.2.2.2.2.2.1.frames ∧ 21 ≤ xX12_isUnlike.2.2.2.2.2.1.locals := by unfold xX12_isUnlike; exact ⟨by decide, by decide⟩
theorem meX12_isUnlike : z_Me yX12_isUnlike xX12_isUnlike 2 := ⟨wd1295, wd893, by decide, by decide, by decide +kernel⟩
theorem fitX12_isUnlike_8 : z_Fit xX12_base xX12_isUnlike := by unfold z_Fit; simp only [xX12_base, xX12_isUnlike]; exact ⟨by decide, by decide⟩
theorem fitX12_isUnlike_49 : z_Fit xX12_base xX12_isUnlike := by unfold z_Fit; simp only [xX12_base, xX12_isUnlike]; exact ⟨by decide, by decide⟩
theorem fitX12_isUnlike_34 : z_Fit xX12_childOf xX12_isUnlike := by unfold z_Fit; simp only [xX12_childOf, xX12_isUnlike]; exact ⟨by decide, by decide⟩
theorem fitX12_isUnlike_24 : z_Fit xX12_childOf xX12_isUnlike := by unfold z_Fit; simp only [xX12_childOf, xX12_isUnlike]; exact ⟨by decide, by decide⟩
noncomputable def kX12_isUnlike_63 : zK zR := q_zret
noncomputable def kX12_isUnlike_46 : zK zR := (q_iload 3 (q_push 1 (q_aload 0 (q_callV 12 fX12_base 0 (q_ishl (q_push 1 (q_isub (q_icmp_ne (q_push 0 kX12_isUnlike_63) (q_push 1 kX12_isUnlike_63)))))))))
noncomputable def kX12_isUnlike_37 : zK ((zL × zS) ⊕ zR) := (q_ishl (q_ior (q_istore 3 (q_iinc 4 1 q_ag))))
noncomputable def bX12_isUnlike_5 : zK ((zL × zS) ⊕ zR) := (q_iload 4 (q_aload 0 (q_callV 12 fX12_base 0 (q_icmp_ge (q_dn kX12_isUnlike_46) (q_iload 3 (q_push 1 (q_iload 2 (q_if_eq (q_aload 0 (q_iload 4 (q_iload 1 (q_callV 12 fX12_childOf 2 kX12_isUnlike_37)))) (q_aload 0 (q_iload 1 (q_iload 4 (q_callV 12 fX12_childOf 2 kX12_isUnlike_37))))))))))))
noncomputable def kX12_isUnlike_5 : zK zR := q_lp (bX12_isUnlike_5)
noncomputable def kX12_isUnlike_0 : zK zR := (q_push 0 (q_istore 3 (q_push 0 (q_istore 4 kX12_isUnlike_5))))
set_option maxRecDepth 100000 in
theorem tX12_isUnlike_63 {l : Launch} {D : zD} {B sz0 : Nat} {post : Option Value → zS → Prop} : zSnd l D B xX12_isUnlike sz0 post 63 kX12_isUnlike_63 (z_Jr post) := (s_zret dX12_isUnlike_63 rfl)
set_option maxRecDepth 100000 in
theorem tX12_isUnlike_46 {l : Launch} {D : zD} {B sz0 : Nat} {post : Option Value → zS → Prop} : zSnd l D B xX12_isUnlike sz0 post 46 kX12_isUnlike_46 (z_Jr post) := (s_iload_n dX12_isUnlike_46 rfl (s_iconst dX12_isUnlike_47 (by decide) (s_aload_n dX12_isUnlike_48 rfl (s_callV (r := (RX12, TX12, 74)) dX12_isUnlike_49 mX12_base meX12_base wd1081 wd1082 rfl rfl reX12_base rmX12_isUnlike (fitX12_isUnlike_49) wd1083 (s_ishl dX12_isUnlike_52 (s_iconst dX12_isUnlike_53 (by decide) (s_isub dX12_isUnlike_54 (s_icmp_ne (tgt := 62) dX12_isUnlike_55 (by decide) (s_iconst dX12_isUnlike_62 (by decide) tX12_isUnlike_63) (s_iconst dX12_isUnlike_58 (by decide) (s_goto (tgt := 63) dX12_isUnlike_59 (by decide) tX12_isUnlike_63))))))))))
set_option maxRecDepth 100000 in
theorem tX12_isUnlike_37 {l : Launch} {D : zD} {B sz0 : Nat} {post : Option Value → zS → Prop} : zSnd l D B xX12_isUnlike sz0 post 37 kX12_isUnlike_37 (z_Jl l D B xX12_isUnlike sz0 post 5 (z_Jr post)) := (s_ishl dX12_isUnlike_37 (s_ior dX12_isUnlike_38 (s_istore_n dX12_isUnlike_39 rfl (s_iinc dX12_isUnlike_40 (by decide) (s_goto (tgt := 5) dX12_isUnlike_43 (by decide) s_ag)))))
set_option maxRecDepth 100000 in
theorem tX12_isUnlike_5 {l : Launch} {D : zD} {B sz0 : Nat} {post : Option Value → zS → Prop} : zSnd l D B xX12_isUnlike sz0 post 5 kX12_isUnlike_5 (z_Jr post) := s_lp (body := bX12_isUnlike_5) (s_iload dX12_isUnlike_5 (s_aload_n dX12_isUnlike_7 rfl (s_callV (r := (RX12, TX12, 74)) dX12_isUnlike_8 mX12_base meX12_base wd1081 wd1082 rfl rfl reX12_base rmX12_isUnlike (fitX12_isUnlike_8) wd1083 (s_icmp_ge (tgt := 46) dX12_isUnlike_11 (by decide) (s_dn tX12_isUnlike_46) (s_iload_n dX12_isUnlike_14 rfl (s_iconst dX12_isUnlike_15 (by decide) (s_iload_n dX12_isUnlike_16 rfl (s_if_eq (tgt := 30) dX12_isUnlike_17 (by decide) (s_aload_n dX12_isUnlike_30 rfl (s_iload dX12_isUnlike_31 (s_iload_n dX12_isUnlike_33 rfl (s_callV (r := (RX12, TX12, 74)) dX12_isUnlike_34 mX12_childOf meX12_childOf wd1102 wd1103 rfl rfl reX12_childOf rmX12_isUnlike (fitX12_isUnlike_34) wd1104 tX12_isUnlike_37)))) (s_aload_n dX12_isUnlike_20 rfl (s_iload_n dX12_isUnlike_21 rfl (s_iload dX12_isUnlike_22 (s_callV (r := (RX12, TX12, 74)) dX12_isUnlike_24 mX12_childOf meX12_childOf wd1102 wd1103 rfl rfl reX12_childOf rmX12_isUnlike (fitX12_isUnlike_24) wd1104 (s_goto (tgt := 37) dX12_isUnlike_27 (by decide) tX12_isUnlike_37)))))))))))))
set_option maxRecDepth 100000 in
theorem tX12_isUnlike_0 {l : Launch} {D : zD} {B sz0 : Nat} {post : Option Value → zS → Prop} : zSnd l D B xX12_isUnlike sz0 post 0 kX12_isUnlike_0 (z_Jr post) := (s_iconst dX12_isUnlike_0 (by decide) (s_istore_n dX12_isUnlike_1 rfl (s_iconst dX12_isUnlike_2 (by decide) (s_istore dX12_isUnlike_3 tX12_isUnlike_5))))
noncomputable def fX12_isUnlike : zF := z_fn 5 kX12_isUnlike_0
theorem mX12_isUnlike {l : Launch} {D : zD} {B : Nat} : z_MF l D B yX12_isUnlike xX12_isUnlike fX12_isUnlike := z_mf (by decide) rfl (fun h => by cases h) rfl (fun as σ r h => ⟨z_fn_len h, kX12_isUnlike_0, z_fn_run h, fun _ => tX12_isUnlike_0⟩)
/-! ===== RowChildrenModel.areUnlike ===== -/
theorem dX12_areUnlike_0 : decode cX12_areUnlike 0 = .ok (.iconst 0, 1) := by decide +kernel
theorem dX12_areUnlike_1 : decode cX12_areUnlike 1 = .ok (.istore_n 2, 1) := by decide +kernel
theorem dX12_areUnlike_2 : decode cX12_areUnlike 2 = .ok (.iload_n 2, 1) := by decide +kernel
theorem dX12_areUnlike_3 : decode cX12_areUnlike 3 = .ok (.aload_n 0, 1) := by decide +kernel
theorem dX12_areUnlike_4 : decode cX12_areUnlike 4 = .ok (.invokevirtual 327, 3) := by decide +kernel
theorem dX12_areUnlike_7 : decode cX12_areUnlike 7 = .ok (.if_icmp .ge 20, 3) := by decide +kernel
theorem dX12_areUnlike_10 : decode cX12_areUnlike 10 = .ok (.aload_n 0, 1) := by decide +kernel
theorem dX12_areUnlike_11 : decode cX12_areUnlike 11 = .ok (.iload_n 2, 1) := by decide +kernel
theorem dX12_areUnlike_12 : decode cX12_areUnlike 12 = .ok (.iload_n 1, 1) := by decide +kernel
theorem dX12_areUnlike_13 : decode cX12_areUnlike 13 = .ok (.invokevirtual 494, 3) := by decide +kernel
theorem dX12_areUnlike_16 : decode cX12_areUnlike 16 = .ok (.ifCond .ne 5, 3) := by decide +kernel
theorem dX12_areUnlike_19 : decode cX12_areUnlike 19 = .ok (.iconst 0, 1) := by decide +kernel
theorem dX12_areUnlike_20 : decode cX12_areUnlike 20 = .ok (.ireturn, 1) := by decide +kernel
theorem dX12_areUnlike_21 : decode cX12_areUnlike 21 = .ok (.iinc 2 1, 3) := by decide +kernel
theorem dX12_areUnlike_24 : decode cX12_areUnlike 24 = .ok (.goto (-22), 3) := by decide +kernel
theorem dX12_areUnlike_27 : decode cX12_areUnlike 27 = .ok (.iconst 1, 1) := by decide +kernel
theorem dX12_areUnlike_28 : decode cX12_areUnlike 28 = .ok (.ireturn, 1) := by decide +kernel
def xX12_areUnlike : zX := (RX12, cX12_areUnlike, 3, (some .boolean), false, { frames := 4, cells := 0, slots := 0, locals := 157 }, 0, 0, 0, 0)
theorem rmX12_areUnlike : z_Rm xX12_areUnlike := by unfold z_Rm xX12_areUnlike; exact ⟨by decide, by decide⟩
theorem reX12_areUnlike : z_Re xX12_areUnlike := ⟨rfl, rfl⟩
theorem rlX12_areUnlike : 1 ≤ xX12_areUnlike.2.2.2.2.2.1.frames ∧ 21 ≤ xX12_areUnlike.2.2.2.2.2.1.locals := by unfold xX12_areUnlike; exact ⟨by decide, by decide⟩
theorem meX12_areUnlike : z_Me yX12_areUnlike xX12_areUnlike 1 := ⟨wd1299, wd893, by decide, by decide, by decide +kernel⟩
theorem fitX12_areUnlike_4 : z_Fit xX12_base xX12_areUnlike := by unfold z_Fit; simp only [xX12_base, xX12_areUnlike]; exact ⟨by decide, by decide⟩
theorem fitX12_areUnlike_13 : z_Fit xX12_isUnlike xX12_areUnlike := by unfold z_Fit; simp only [xX12_isUnlike, xX12_areUnlike]; exact ⟨by decide, by decide⟩
noncomputable def kX12_areUnlike_27 : zK zR := (q_push 1 q_zret)
noncomputable def kX12_areUnlike_19 : zK zR := (q_push 0 q_zret)
noncomputable def bX12_areUnlike_2 : zK ((zL × zS) ⊕ zR) := (q_iload 2 (q_aload 0 (q_callV 12 fX12_base 0 (q_icmp_ge (q_dn kX12_areUnlike_27) (q_aload 0 (q_iload 2 (q_iload 1 (q_callV 12 fX12_isUnlike 2 (q_if_ne (q_iinc 2 1 q_ag) (q_dn kX12_areUnlike_19))))))))))
noncomputable def kX12_areUnlike_2 : zK zR := q_lp (bX12_areUnlike_2)
noncomputable def kX12_areUnlike_0 : zK zR := (q_push 0 (q_istore 2 kX12_areUnlike_2))
set_option maxRecDepth 100000 in
theorem tX12_areUnlike_27 {l : Launch} {D : zD} {B sz0 : Nat} {post : Option Value → zS → Prop} : zSnd l D B xX12_areUnlike sz0 post 27 kX12_areUnlike_27 (z_Jr post) := (s_iconst dX12_areUnlike_27 (by decide) (s_zret dX12_areUnlike_28 rfl))
set_option maxRecDepth 100000 in
theorem tX12_areUnlike_19 {l : Launch} {D : zD} {B sz0 : Nat} {post : Option Value → zS → Prop} : zSnd l D B xX12_areUnlike sz0 post 19 kX12_areUnlike_19 (z_Jr post) := (s_iconst dX12_areUnlike_19 (by decide) (s_zret dX12_areUnlike_20 rfl))
set_option maxRecDepth 100000 in
theorem tX12_areUnlike_2 {l : Launch} {D : zD} {B sz0 : Nat} {post : Option Value → zS → Prop} : zSnd l D B xX12_areUnlike sz0 post 2 kX12_areUnlike_2 (z_Jr post) := s_lp (body := bX12_areUnlike_2) (s_iload_n dX12_areUnlike_2 rfl (s_aload_n dX12_areUnlike_3 rfl (s_callV (r := (RX12, TX12, 74)) dX12_areUnlike_4 mX12_base meX12_base wd1081 wd1082 rfl rfl reX12_base rmX12_areUnlike (fitX12_areUnlike_4) wd1083 (s_icmp_ge (tgt := 27) dX12_areUnlike_7 (by decide) (s_dn tX12_areUnlike_27) (s_aload_n dX12_areUnlike_10 rfl (s_iload_n dX12_areUnlike_11 rfl (s_iload_n dX12_areUnlike_12 rfl (s_callV (r := (RX12, TX12, 74)) dX12_areUnlike_13 mX12_isUnlike meX12_isUnlike wd1296 wd1297 rfl rfl reX12_isUnlike rmX12_areUnlike (fitX12_areUnlike_13) wd1298 (s_if_ne (tgt := 21) dX12_areUnlike_16 (by decide) (s_iinc dX12_areUnlike_21 (by decide) (s_goto (tgt := 2) dX12_areUnlike_24 (by decide) s_ag)) (s_dn tX12_areUnlike_19))))))))))
set_option maxRecDepth 100000 in
theorem tX12_areUnlike_0 {l : Launch} {D : zD} {B sz0 : Nat} {post : Option Value → zS → Prop} : zSnd l D B xX12_areUnlike sz0 post 0 kX12_areUnlike_0 (z_Jr post) := (s_iconst dX12_areUnlike_0 (by decide) (s_istore_n dX12_areUnlike_1 rfl tX12_areUnlike_2))
noncomputable def fX12_areUnlike : zF := z_fn 3 kX12_areUnlike_0
theorem mX12_areUnlike {l : Launch} {D : zD} {B : Nat} : z_MF l D B yX12_areUnlike xX12_areUnlike fX12_areUnlike := z_mf (by decide) rfl (fun h => by cases h) rfl (fun as σ r h => ⟨z_fn_len h, kX12_areUnlike_0, z_fn_run h, fun _ => tX12_areUnlike_0⟩)
/-! ===== RowChildrenModel.isGathered ===== -/
theorem dX12_isGathered_0 : decode cX12_isGathered 0 = .ok (.iconst 0, 1) := by decide +kernel
theorem dX12_isGathered_1 : decode cX12_isGathered 1 = .ok (.istore_n 1, 1) := by decide +kernel
theorem dX12_isGathered_2 : decode cX12_isGathered 2 = .ok (.iload_n 1, 1) := by decide +kernel
theorem dX12_isGathered_3 : decode cX12_isGathered 3 = .ok (.bipush 64, 2) := by decide +kernel
theorem dX12_isGathered_5 : decode cX12_isGathered 5 = .ok (.if_icmp .ge 79, 3) := by decide +kernel
theorem dX12_isGathered_8 : decode cX12_isGathered 8 = .ok (.iload_n 1, 1) := by decide +kernel
theorem dX12_isGathered_9 : decode cX12_isGathered 9 = .ok (.bipush 16, 2) := by decide +kernel
theorem dX12_isGathered_11 : decode cX12_isGathered 11 = .ok (.idiv, 1) := by decide +kernel
theorem dX12_isGathered_12 : decode cX12_isGathered 12 = .ok (.istore_n 2, 1) := by decide +kernel
theorem dX12_isGathered_13 : decode cX12_isGathered 13 = .ok (.iload_n 1, 1) := by decide +kernel
theorem dX12_isGathered_14 : decode cX12_isGathered 14 = .ok (.iconst 4, 1) := by decide +kernel
theorem dX12_isGathered_15 : decode cX12_isGathered 15 = .ok (.idiv, 1) := by decide +kernel
theorem dX12_isGathered_16 : decode cX12_isGathered 16 = .ok (.iconst 4, 1) := by decide +kernel
theorem dX12_isGathered_17 : decode cX12_isGathered 17 = .ok (.irem, 1) := by decide +kernel
theorem dX12_isGathered_18 : decode cX12_isGathered 18 = .ok (.istore_n 3, 1) := by decide +kernel
theorem dX12_isGathered_19 : decode cX12_isGathered 19 = .ok (.iload_n 1, 1) := by decide +kernel
theorem dX12_isGathered_20 : decode cX12_isGathered 20 = .ok (.iconst 4, 1) := by decide +kernel
theorem dX12_isGathered_21 : decode cX12_isGathered 21 = .ok (.irem, 1) := by decide +kernel
theorem dX12_isGathered_22 : decode cX12_isGathered 22 = .ok (.istore 4, 2) := by decide +kernel
theorem dX12_isGathered_24 : decode cX12_isGathered 24 = .ok (.aload_n 0, 1) := by decide +kernel
theorem dX12_isGathered_25 : decode cX12_isGathered 25 = .ok (.iload_n 2, 1) := by decide +kernel
theorem dX12_isGathered_26 : decode cX12_isGathered 26 = .ok (.invokevirtual 398, 3) := by decide +kernel
theorem dX12_isGathered_29 : decode cX12_isGathered 29 = .ok (.ifCond .eq 49, 3) := by decide +kernel
theorem dX12_isGathered_32 : decode cX12_isGathered 32 = .ok (.aload_n 0, 1) := by decide +kernel
theorem dX12_isGathered_33 : decode cX12_isGathered 33 = .ok (.iload_n 3, 1) := by decide +kernel
theorem dX12_isGathered_34 : decode cX12_isGathered 34 = .ok (.invokevirtual 398, 3) := by decide +kernel
theorem dX12_isGathered_37 : decode cX12_isGathered 37 = .ok (.ifCond .eq 41, 3) := by decide +kernel
theorem dX12_isGathered_40 : decode cX12_isGathered 40 = .ok (.aload_n 0, 1) := by decide +kernel
theorem dX12_isGathered_41 : decode cX12_isGathered 41 = .ok (.iload 4, 2) := by decide +kernel
theorem dX12_isGathered_43 : decode cX12_isGathered 43 = .ok (.invokevirtual 398, 3) := by decide +kernel
theorem dX12_isGathered_46 : decode cX12_isGathered 46 = .ok (.ifCond .eq 32, 3) := by decide +kernel
theorem dX12_isGathered_49 : decode cX12_isGathered 49 = .ok (.aload_n 0, 1) := by decide +kernel
theorem dX12_isGathered_50 : decode cX12_isGathered 50 = .ok (.aload_n 0, 1) := by decide +kernel
theorem dX12_isGathered_51 : decode cX12_isGathered 51 = .ok (.iload_n 2, 1) := by decide +kernel
theorem dX12_isGathered_52 : decode cX12_isGathered 52 = .ok (.iload_n 3, 1) := by decide +kernel
theorem dX12_isGathered_53 : decode cX12_isGathered 53 = .ok (.invokevirtual 346, 3) := by decide +kernel
theorem dX12_isGathered_56 : decode cX12_isGathered 56 = .ok (.iload 4, 2) := by decide +kernel
theorem dX12_isGathered_58 : decode cX12_isGathered 58 = .ok (.invokevirtual 346, 3) := by decide +kernel
theorem dX12_isGathered_61 : decode cX12_isGathered 61 = .ok (.aload_n 0, 1) := by decide +kernel
theorem dX12_isGathered_62 : decode cX12_isGathered 62 = .ok (.iload_n 2, 1) := by decide +kernel
theorem dX12_isGathered_63 : decode cX12_isGathered 63 = .ok (.aload_n 0, 1) := by decide +kernel
theorem dX12_isGathered_64 : decode cX12_isGathered 64 = .ok (.iload_n 3, 1) := by decide +kernel
theorem dX12_isGathered_65 : decode cX12_isGathered 65 = .ok (.iload 4, 2) := by decide +kernel
theorem dX12_isGathered_67 : decode cX12_isGathered 67 = .ok (.invokevirtual 346, 3) := by decide +kernel
theorem dX12_isGathered_70 : decode cX12_isGathered 70 = .ok (.invokevirtual 346, 3) := by decide +kernel
theorem dX12_isGathered_73 : decode cX12_isGathered 73 = .ok (.if_icmp .eq 5, 3) := by decide +kernel
theorem dX12_isGathered_76 : decode cX12_isGathered 76 = .ok (.iconst 0, 1) := by decide +kernel
theorem dX12_isGathered_77 : decode cX12_isGathered 77 = .ok (.ireturn, 1) := by decide +kernel
theorem dX12_isGathered_78 : decode cX12_isGathered 78 = .ok (.iinc 1 1, 3) := by decide +kernel
theorem dX12_isGathered_81 : decode cX12_isGathered 81 = .ok (.goto (-79), 3) := by decide +kernel
theorem dX12_isGathered_84 : decode cX12_isGathered 84 = .ok (.iconst 1, 1) := by decide +kernel
theorem dX12_isGathered_85 : decode cX12_isGathered 85 = .ok (.ireturn, 1) := by decide +kernel
def xX12_isGathered : zX := (RX12, cX12_isGathered, 5, (some .boolean), false, { frames := 3, cells := 0, slots := 0, locals := 133 }, 0, 0, 0, 0)
theorem rmX12_isGathered : z_Rm xX12_isGathered := by unfold z_Rm xX12_isGathered; exact ⟨by decide, by decide⟩
theorem reX12_isGathered : z_Re xX12_isGathered := ⟨rfl, rfl⟩
theorem rlX12_isGathered : 1 ≤ xX12_isGathered.2.2.2.2.2.1.frames ∧ 21 ≤ xX12_isGathered.2.2.2.2.2.1.locals := by unfold xX12_isGathered; exact ⟨by decide, by decide⟩
theorem meX12_isGathered : z_Me yX12_isGathered xX12_isGathered 0 := ⟨wd1300, wd893, by decide, by decide, by decide +kernel⟩
theorem fitX12_isGathered_26 : z_Fit xX12_isColour xX12_isGathered := by unfold z_Fit; simp only [xX12_isColour, xX12_isGathered]; exact ⟨by decide, by decide⟩
theorem fitX12_isGathered_34 : z_Fit xX12_isColour xX12_isGathered := by unfold z_Fit; simp only [xX12_isColour, xX12_isGathered]; exact ⟨by decide, by decide⟩
theorem fitX12_isGathered_43 : z_Fit xX12_isColour xX12_isGathered := by unfold z_Fit; simp only [xX12_isColour, xX12_isGathered]; exact ⟨by decide, by decide⟩
theorem fitX12_isGathered_53 : z_Fit xX12_childOf xX12_isGathered := by unfold z_Fit; simp only [xX12_childOf, xX12_isGathered]; exact ⟨by decide, by decide⟩
theorem fitX12_isGathered_58 : z_Fit xX12_childOf xX12_isGathered := by unfold z_Fit; simp only [xX12_childOf, xX12_isGathered]; exact ⟨by decide, by decide⟩
theorem fitX12_isGathered_67 : z_Fit xX12_childOf xX12_isGathered := by unfold z_Fit; simp only [xX12_childOf, xX12_isGathered]; exact ⟨by decide, by decide⟩
theorem fitX12_isGathered_70 : z_Fit xX12_childOf xX12_isGathered := by unfold z_Fit; simp only [xX12_childOf, xX12_isGathered]; exact ⟨by decide, by decide⟩
noncomputable def kX12_isGathered_84 : zK zR := (q_push 1 q_zret)
noncomputable def kX12_isGathered_78 : zK ((zL × zS) ⊕ zR) := (q_iinc 1 1 q_ag)
noncomputable def kX12_isGathered_76 : zK zR := (q_push 0 q_zret)
noncomputable def bX12_isGathered_2 : zK ((zL × zS) ⊕ zR) := (q_iload 1 (q_push 64 (q_icmp_ge (q_dn kX12_isGathered_84) (q_iload 1 (q_push 16 (q_idiv (q_istore 2 (q_iload 1 (q_push 4 (q_idiv (q_push 4 (q_irem (q_istore 3 (q_iload 1 (q_push 4 (q_irem (q_istore 4 (q_aload 0 (q_iload 2 (q_callV 12 fX12_isColour 1 (q_if_eq kX12_isGathered_78 (q_aload 0 (q_iload 3 (q_callV 12 fX12_isColour 1 (q_if_eq kX12_isGathered_78 (q_aload 0 (q_iload 4 (q_callV 12 fX12_isColour 1 (q_if_eq kX12_isGathered_78 (q_aload 0 (q_aload 0 (q_iload 2 (q_iload 3 (q_callV 12 fX12_childOf 2 (q_iload 4 (q_callV 12 fX12_childOf 2 (q_aload 0 (q_iload 2 (q_aload 0 (q_iload 3 (q_iload 4 (q_callV 12 fX12_childOf 2 (q_callV 12 fX12_childOf 2 (q_icmp_eq kX12_isGathered_78 (q_dn kX12_isGathered_76)))))))))))))))))))))))))))))))))))))))))))))
noncomputable def kX12_isGathered_2 : zK zR := q_lp (bX12_isGathered_2)
noncomputable def kX12_isGathered_0 : zK zR := (q_push 0 (q_istore 1 kX12_isGathered_2))
set_option maxRecDepth 100000 in
theorem tX12_isGathered_84 {l : Launch} {D : zD} {B sz0 : Nat} {post : Option Value → zS → Prop} : zSnd l D B xX12_isGathered sz0 post 84 kX12_isGathered_84 (z_Jr post) := (s_iconst dX12_isGathered_84 (by decide) (s_zret dX12_isGathered_85 rfl))
set_option maxRecDepth 100000 in
theorem tX12_isGathered_78 {l : Launch} {D : zD} {B sz0 : Nat} {post : Option Value → zS → Prop} : zSnd l D B xX12_isGathered sz0 post 78 kX12_isGathered_78 (z_Jl l D B xX12_isGathered sz0 post 2 (z_Jr post)) := (s_iinc dX12_isGathered_78 (by decide) (s_goto (tgt := 2) dX12_isGathered_81 (by decide) s_ag))
set_option maxRecDepth 100000 in
theorem tX12_isGathered_76 {l : Launch} {D : zD} {B sz0 : Nat} {post : Option Value → zS → Prop} : zSnd l D B xX12_isGathered sz0 post 76 kX12_isGathered_76 (z_Jr post) := (s_iconst dX12_isGathered_76 (by decide) (s_zret dX12_isGathered_77 rfl))
set_option maxRecDepth 100000 in
theorem tX12_isGathered_2 {l : Launch} {D : zD} {B sz0 : Nat} {post : Option Value → zS → Prop} : zSnd l D B xX12_isGathered sz0 post 2 kX12_isGathered_2 (z_Jr post) := s_lp (body := bX12_isGathered_2) (s_iload_n dX12_isGathered_2 rfl (s_bipush dX12_isGathered_3 (by decide) (s_icmp_ge (tgt := 84) dX12_isGathered_5 (by decide) (s_dn tX12_isGathered_84) (s_iload_n dX12_isGathered_8 rfl (s_bipush dX12_isGathered_9 (by decide) (s_idiv dX12_isGathered_11 (s_istore_n dX12_isGathered_12 rfl (s_iload_n dX12_isGathered_13 rfl (s_iconst dX12_isGathered_14 (by decide) (s_idiv dX12_isGathered_15 (s_iconst dX12_isGathered_16 (by decide) (s_irem dX12_isGathered_17 (s_istore_n dX12_isGathered_18 rfl (s_iload_n dX12_isGathered_19 rfl (s_iconst dX12_isGathered_20 (by decide) (s_irem dX12_isGathered_21 (s_istore dX12_isGathered_22 (s_aload_n dX12_isGathered_24 rfl (s_iload_n dX12_isGathered_25 rfl (s_callV (r := (RX12, TX12, 74)) dX12_isGathered_26 mX12_isColour meX12_isColour wd1174 wd1175 rfl rfl reX12_isColour rmX12_isGathered (fitX12_isGathered_26) wd1176 (s_if_eq (tgt := 78) dX12_isGathered_29 (by decide) tX12_isGathered_78 (s_aload_n dX12_isGathered_32 rfl (s_iload_n dX12_isGathered_33 rfl (s_callV (r := (RX12, TX12, 74)) dX12_isGathered_34 mX12_isColour meX12_isColour wd1174 wd1175 rfl rfl reX12_isColour rmX12_isGathered (fitX12_isGathered_34) wd1176 (s_if_eq (tgt := 78) dX12_isGathered_37 (by decide) tX12_isGathered_78 (s_aload_n dX12_isGathered_40 rfl (s_iload dX12_isGathered_41 (s_callV (r := (RX12, TX12, 74)) dX12_isGathered_43 mX12_isColour meX12_isColour wd1174 wd1175 rfl rfl reX12_isColour rmX12_isGathered (fitX12_isGathered_43) wd1176 (s_if_eq (tgt := 78) dX12_isGathered_46 (by decide) tX12_isGathered_78 (s_aload_n dX12_isGathered_49 rfl (s_aload_n dX12_isGathered_50 rfl (s_iload_n dX12_isGathered_51 rfl (s_iload_n dX12_isGathered_52 rfl (s_callV (r := (RX12, TX12, 74)) dX12_isGathered_53 mX12_childOf meX12_childOf wd1102 wd1103 rfl rfl reX12_childOf rmX12_isGathered (fitX12_isGathered_53) wd1104 (s_iload dX12_isGathered_56 (s_callV (r := (RX12, TX12, 74)) dX12_isGathered_58 mX12_childOf meX12_childOf wd1102 wd1103 rfl rfl reX12_childOf rmX12_isGathered (fitX12_isGathered_58) wd1104 (s_aload_n dX12_isGathered_61 rfl (s_iload_n dX12_isGathered_62 rfl (s_aload_n dX12_isGathered_63 rfl (s_iload_n dX12_isGathered_64 rfl (s_iload dX12_isGathered_65 (s_callV (r := (RX12, TX12, 74)) dX12_isGathered_67 mX12_childOf meX12_childOf wd1102 wd1103 rfl rfl reX12_childOf rmX12_isGathered (fitX12_isGathered_67) wd1104 (s_callV (r := (RX12, TX12, 74)) dX12_isGathered_70 mX12_childOf meX12_childOf wd1102 wd1103 rfl rfl reX12_childOf rmX12_isGathered (fitX12_isGathered_70) wd1104 (s_icmp_eq (tgt := 78) dX12_isGathered_73 (by decide) tX12_isGathered_78 (s_dn tX12_isGathered_76)))))))))))))))))))))))))))))))))))))))))))))
set_option maxRecDepth 100000 in
theorem tX12_isGathered_0 {l : Launch} {D : zD} {B sz0 : Nat} {post : Option Value → zS → Prop} : zSnd l D B xX12_isGathered sz0 post 0 kX12_isGathered_0 (z_Jr post) := (s_iconst dX12_isGathered_0 (by decide) (s_istore_n dX12_isGathered_1 rfl tX12_isGathered_2))
noncomputable def fX12_isGathered : zF := z_fn 5 kX12_isGathered_0
theorem mX12_isGathered {l : Launch} {D : zD} {B : Nat} : z_MF l D B yX12_isGathered xX12_isGathered fX12_isGathered := z_mf (by decide) rfl (fun h => by cases h) rfl (fun as σ r h => ⟨z_fn_len h, kX12_isGathered_0, z_fn_run h, fun _ => tX12_isGathered_0⟩)
/-! ===== RowChildrenModel.isOwn ===== -/
theorem dX12_isOwn_0 : decode cX12_isOwn 0 = .ok (.iconst 0, 1) := by decide +kernel
theorem dX12_isOwn_1 : decode cX12_isOwn 1 = .ok (.istore_n 1, 1) := by decide +kernel
theorem dX12_isOwn_2 : decode cX12_isOwn 2 = .ok (.iload_n 1, 1) := by decide +kernel
theorem dX12_isOwn_3 : decode cX12_isOwn 3 = .ok (.aload_n 0, 1) := by decide +kernel
theorem dX12_isOwn_4 : decode cX12_isOwn 4 = .ok (.invokevirtual 327, 3) := by decide +kernel
theorem dX12_isOwn_7 : decode cX12_isOwn 7 = .ok (.if_icmp .ge 21, 3) := by decide +kernel
theorem dX12_isOwn_10 : decode cX12_isOwn 10 = .ok (.aload_n 0, 1) := by decide +kernel
theorem dX12_isOwn_11 : decode cX12_isOwn 11 = .ok (.iload_n 1, 1) := by decide +kernel
theorem dX12_isOwn_12 : decode cX12_isOwn 12 = .ok (.iload_n 1, 1) := by decide +kernel
theorem dX12_isOwn_13 : decode cX12_isOwn 13 = .ok (.invokevirtual 346, 3) := by decide +kernel
theorem dX12_isOwn_16 : decode cX12_isOwn 16 = .ok (.iload_n 1, 1) := by decide +kernel
theorem dX12_isOwn_17 : decode cX12_isOwn 17 = .ok (.if_icmp .eq 5, 3) := by decide +kernel
theorem dX12_isOwn_20 : decode cX12_isOwn 20 = .ok (.iconst 0, 1) := by decide +kernel
theorem dX12_isOwn_21 : decode cX12_isOwn 21 = .ok (.ireturn, 1) := by decide +kernel
theorem dX12_isOwn_22 : decode cX12_isOwn 22 = .ok (.iinc 1 1, 3) := by decide +kernel
theorem dX12_isOwn_25 : decode cX12_isOwn 25 = .ok (.goto (-23), 3) := by decide +kernel
theorem dX12_isOwn_28 : decode cX12_isOwn 28 = .ok (.iconst 1, 1) := by decide +kernel
theorem dX12_isOwn_29 : decode cX12_isOwn 29 = .ok (.ireturn, 1) := by decide +kernel
def xX12_isOwn : zX := (RX12, cX12_isOwn, 2, (some .boolean), false, { frames := 3, cells := 0, slots := 0, locals := 133 }, 0, 0, 0, 0)
theorem rmX12_isOwn : z_Rm xX12_isOwn := by unfold z_Rm xX12_isOwn; exact ⟨by decide, by decide⟩
theorem reX12_isOwn : z_Re xX12_isOwn := ⟨rfl, rfl⟩
theorem rlX12_isOwn : 1 ≤ xX12_isOwn.2.2.2.2.2.1.frames ∧ 21 ≤ xX12_isOwn.2.2.2.2.2.1.locals := by unfold xX12_isOwn; exact ⟨by decide, by decide⟩
theorem meX12_isOwn : z_Me yX12_isOwn xX12_isOwn 0 := ⟨wd1301, wd893, by decide, by decide, by decide +kernel⟩
theorem fitX12_isOwn_4 : z_Fit xX12_base xX12_isOwn := by unfold z_Fit; simp only [xX12_base, xX12_isOwn]; exact ⟨by decide, by decide⟩
theorem fitX12_isOwn_13 : z_Fit xX12_childOf xX12_isOwn := by unfold z_Fit; simp only [xX12_childOf, xX12_isOwn]; exact ⟨by decide, by decide⟩
noncomputable def kX12_isOwn_28 : zK zR := (q_push 1 q_zret)
noncomputable def kX12_isOwn_20 : zK zR := (q_push 0 q_zret)
noncomputable def bX12_isOwn_2 : zK ((zL × zS) ⊕ zR) := (q_iload 1 (q_aload 0 (q_callV 12 fX12_base 0 (q_icmp_ge (q_dn kX12_isOwn_28) (q_aload 0 (q_iload 1 (q_iload 1 (q_callV 12 fX12_childOf 2 (q_iload 1 (q_icmp_eq (q_iinc 1 1 q_ag) (q_dn kX12_isOwn_20)))))))))))
noncomputable def kX12_isOwn_2 : zK zR := q_lp (bX12_isOwn_2)
noncomputable def kX12_isOwn_0 : zK zR := (q_push 0 (q_istore 1 kX12_isOwn_2))
set_option maxRecDepth 100000 in
theorem tX12_isOwn_28 {l : Launch} {D : zD} {B sz0 : Nat} {post : Option Value → zS → Prop} : zSnd l D B xX12_isOwn sz0 post 28 kX12_isOwn_28 (z_Jr post) := (s_iconst dX12_isOwn_28 (by decide) (s_zret dX12_isOwn_29 rfl))
set_option maxRecDepth 100000 in
theorem tX12_isOwn_20 {l : Launch} {D : zD} {B sz0 : Nat} {post : Option Value → zS → Prop} : zSnd l D B xX12_isOwn sz0 post 20 kX12_isOwn_20 (z_Jr post) := (s_iconst dX12_isOwn_20 (by decide) (s_zret dX12_isOwn_21 rfl))
set_option maxRecDepth 100000 in
theorem tX12_isOwn_2 {l : Launch} {D : zD} {B sz0 : Nat} {post : Option Value → zS → Prop} : zSnd l D B xX12_isOwn sz0 post 2 kX12_isOwn_2 (z_Jr post) := s_lp (body := bX12_isOwn_2) (s_iload_n dX12_isOwn_2 rfl (s_aload_n dX12_isOwn_3 rfl (s_callV (r := (RX12, TX12, 74)) dX12_isOwn_4 mX12_base meX12_base wd1081 wd1082 rfl rfl reX12_base rmX12_isOwn (fitX12_isOwn_4) wd1083 (s_icmp_ge (tgt := 28) dX12_isOwn_7 (by decide) (s_dn tX12_isOwn_28) (s_aload_n dX12_isOwn_10 rfl (s_iload_n dX12_isOwn_11 rfl (s_iload_n dX12_isOwn_12 rfl (s_callV (r := (RX12, TX12, 74)) dX12_isOwn_13 mX12_childOf meX12_childOf wd1102 wd1103 rfl rfl reX12_childOf rmX12_isOwn (fitX12_isOwn_13) wd1104 (s_iload_n dX12_isOwn_16 rfl (s_icmp_eq (tgt := 22) dX12_isOwn_17 (by decide) (s_iinc dX12_isOwn_22 (by decide) (s_goto (tgt := 2) dX12_isOwn_25 (by decide) s_ag)) (s_dn tX12_isOwn_20)))))))))))
set_option maxRecDepth 100000 in
theorem tX12_isOwn_0 {l : Launch} {D : zD} {B sz0 : Nat} {post : Option Value → zS → Prop} : zSnd l D B xX12_isOwn sz0 post 0 kX12_isOwn_0 (z_Jr post) := (s_iconst dX12_isOwn_0 (by decide) (s_istore_n dX12_isOwn_1 rfl tX12_isOwn_2))
noncomputable def fX12_isOwn : zF := z_fn 2 kX12_isOwn_0
theorem mX12_isOwn {l : Launch} {D : zD} {B : Nat} : z_MF l D B yX12_isOwn xX12_isOwn fX12_isOwn := z_mf (by decide) rfl (fun h => by cases h) rfl (fun as σ r h => ⟨z_fn_len h, kX12_isOwn_0, z_fn_run h, fun _ => tX12_isOwn_0⟩)
/-! ===== RowChildrenModel.isMinding ===== -/
theorem dX12_isMinding_0 : decode cX12_isMinding 0 = .ok (.iconst 0, 1) := by decide +kernel
theorem dX12_isMinding_1 : decode cX12_isMinding 1 = .ok (.istore_n 2, 1) := by decide +kernel
theorem dX12_isMinding_2 : decode cX12_isMinding 2 = .ok (.iload_n 2, 1) := by decide +kernel
theorem dX12_isMinding_3 : decode cX12_isMinding 3 = .ok (.aload_n 0, 1) := by decide +kernel
theorem dX12_isMinding_4 : decode cX12_isMinding 4 = .ok (.invokevirtual 327, 3) := by decide +kernel
theorem dX12_isMinding_7 : decode cX12_isMinding 7 = .ok (.if_icmp .ge 31, 3) := by decide +kernel
theorem dX12_isMinding_10 : decode cX12_isMinding 10 = .ok (.aload_n 0, 1) := by decide +kernel
theorem dX12_isMinding_11 : decode cX12_isMinding 11 = .ok (.iload_n 1, 1) := by decide +kernel
theorem dX12_isMinding_12 : decode cX12_isMinding 12 = .ok (.iload_n 2, 1) := by decide +kernel
theorem dX12_isMinding_13 : decode cX12_isMinding 13 = .ok (.invokevirtual 346, 3) := by decide +kernel
theorem dX12_isMinding_16 : decode cX12_isMinding 16 = .ok (.iload_n 2, 1) := by decide +kernel
theorem dX12_isMinding_17 : decode cX12_isMinding 17 = .ok (.if_icmp .ne 13, 3) := by decide +kernel
theorem dX12_isMinding_20 : decode cX12_isMinding 20 = .ok (.aload_n 0, 1) := by decide +kernel
theorem dX12_isMinding_21 : decode cX12_isMinding 21 = .ok (.iload_n 2, 1) := by decide +kernel
theorem dX12_isMinding_22 : decode cX12_isMinding 22 = .ok (.iload_n 1, 1) := by decide +kernel
theorem dX12_isMinding_23 : decode cX12_isMinding 23 = .ok (.invokevirtual 346, 3) := by decide +kernel
theorem dX12_isMinding_26 : decode cX12_isMinding 26 = .ok (.iload_n 2, 1) := by decide +kernel
theorem dX12_isMinding_27 : decode cX12_isMinding 27 = .ok (.if_icmp .eq 5, 3) := by decide +kernel
theorem dX12_isMinding_30 : decode cX12_isMinding 30 = .ok (.iconst 1, 1) := by decide +kernel
theorem dX12_isMinding_31 : decode cX12_isMinding 31 = .ok (.ireturn, 1) := by decide +kernel
theorem dX12_isMinding_32 : decode cX12_isMinding 32 = .ok (.iinc 2 1, 3) := by decide +kernel
theorem dX12_isMinding_35 : decode cX12_isMinding 35 = .ok (.goto (-33), 3) := by decide +kernel
theorem dX12_isMinding_38 : decode cX12_isMinding 38 = .ok (.iconst 0, 1) := by decide +kernel
theorem dX12_isMinding_39 : decode cX12_isMinding 39 = .ok (.ireturn, 1) := by decide +kernel
def xX12_isMinding : zX := (RX12, cX12_isMinding, 3, (some .boolean), false, { frames := 3, cells := 0, slots := 0, locals := 133 }, 0, 0, 0, 0)
theorem rmX12_isMinding : z_Rm xX12_isMinding := by unfold z_Rm xX12_isMinding; exact ⟨by decide, by decide⟩
theorem reX12_isMinding : z_Re xX12_isMinding := ⟨rfl, rfl⟩
theorem rlX12_isMinding : 1 ≤ xX12_isMinding.2.2.2.2.2.1.frames ∧ 21 ≤ xX12_isMinding.2.2.2.2.2.1.locals := by unfold xX12_isMinding; exact ⟨by decide, by decide⟩
theorem meX12_isMinding : z_Me yX12_isMinding xX12_isMinding 1 := ⟨wd1302, wd893, by decide, by decide, by decide +kernel⟩
theorem fitX12_isMinding_4 : z_Fit xX12_base xX12_isMinding := by unfold z_Fit; simp only [xX12_base, xX12_isMinding]; exact ⟨by decide, by decide⟩
theorem fitX12_isMinding_13 : z_Fit xX12_childOf xX12_isMinding := by unfold z_Fit; simp only [xX12_childOf, xX12_isMinding]; exact ⟨by decide, by decide⟩
theorem fitX12_isMinding_23 : z_Fit xX12_childOf xX12_isMinding := by unfold z_Fit; simp only [xX12_childOf, xX12_isMinding]; exact ⟨by decide, by decide⟩
noncomputable def kX12_isMinding_38 : zK zR := (q_push 0 q_zret)
noncomputable def kX12_isMinding_30 : zK zR := (q_push 1 q_zret)
noncomputable def bX12_isMinding_2 : zK ((zL × zS) ⊕ zR) := (q_iload 2 (q_aload 0 (q_callV 12 fX12_base 0 (q_icmp_ge (q_dn kX12_isMinding_38) (q_aload 0 (q_iload 1 (q_iload 2 (q_callV 12 fX12_childOf 2 (q_iload 2 (q_icmp_ne (q_dn kX12_isMinding_30) (q_aload 0 (q_iload 2 (q_iload 1 (q_callV 12 fX12_childOf 2 (q_iload 2 (q_icmp_eq (q_iinc 2 1 q_ag) (q_dn kX12_isMinding_30)))))))))))))))))
noncomputable def kX12_isMinding_2 : zK zR := q_lp (bX12_isMinding_2)
noncomputable def kX12_isMinding_0 : zK zR := (q_push 0 (q_istore 2 kX12_isMinding_2))
set_option maxRecDepth 100000 in
theorem tX12_isMinding_38 {l : Launch} {D : zD} {B sz0 : Nat} {post : Option Value → zS → Prop} : zSnd l D B xX12_isMinding sz0 post 38 kX12_isMinding_38 (z_Jr post) := (s_iconst dX12_isMinding_38 (by decide) (s_zret dX12_isMinding_39 rfl))
set_option maxRecDepth 100000 in
theorem tX12_isMinding_30 {l : Launch} {D : zD} {B sz0 : Nat} {post : Option Value → zS → Prop} : zSnd l D B xX12_isMinding sz0 post 30 kX12_isMinding_30 (z_Jr post) := (s_iconst dX12_isMinding_30 (by decide) (s_zret dX12_isMinding_31 rfl))
set_option maxRecDepth 100000 in
theorem tX12_isMinding_2 {l : Launch} {D : zD} {B sz0 : Nat} {post : Option Value → zS → Prop} : zSnd l D B xX12_isMinding sz0 post 2 kX12_isMinding_2 (z_Jr post) := s_lp (body := bX12_isMinding_2) (s_iload_n dX12_isMinding_2 rfl (s_aload_n dX12_isMinding_3 rfl (s_callV (r := (RX12, TX12, 74)) dX12_isMinding_4 mX12_base meX12_base wd1081 wd1082 rfl rfl reX12_base rmX12_isMinding (fitX12_isMinding_4) wd1083 (s_icmp_ge (tgt := 38) dX12_isMinding_7 (by decide) (s_dn tX12_isMinding_38) (s_aload_n dX12_isMinding_10 rfl (s_iload_n dX12_isMinding_11 rfl (s_iload_n dX12_isMinding_12 rfl (s_callV (r := (RX12, TX12, 74)) dX12_isMinding_13 mX12_childOf meX12_childOf wd1102 wd1103 rfl rfl reX12_childOf rmX12_isMinding (fitX12_isMinding_13) wd1104 (s_iload_n dX12_isMinding_16 rfl (s_icmp_ne (tgt := 30) dX12_isMinding_17 (by decide) (s_dn tX12_isMinding_30) (s_aload_n dX12_isMinding_20 rfl (s_iload_n dX12_isMinding_21 rfl (s_iload_n dX12_isMinding_22 rfl (s_callV (r := (RX12, TX12, 74)) dX12_isMinding_23 mX12_childOf meX12_childOf wd1102 wd1103 rfl rfl reX12_childOf rmX12_isMinding (fitX12_isMinding_23) wd1104 (s_iload_n dX12_isMinding_26 rfl (s_icmp_eq (tgt := 32) dX12_isMinding_27 (by decide) (s_iinc dX12_isMinding_32 (by decide) (s_goto (tgt := 2) dX12_isMinding_35 (by decide) s_ag)) (s_dn tX12_isMinding_30)))))))))))))))))
set_option maxRecDepth 100000 in
theorem tX12_isMinding_0 {l : Launch} {D : zD} {B sz0 : Nat} {post : Option Value → zS → Prop} : zSnd l D B xX12_isMinding sz0 post 0 kX12_isMinding_0 (z_Jr post) := (s_iconst dX12_isMinding_0 (by decide) (s_istore_n dX12_isMinding_1 rfl tX12_isMinding_2))
noncomputable def fX12_isMinding : zF := z_fn 3 kX12_isMinding_0
theorem mX12_isMinding {l : Launch} {D : zD} {B : Nat} : z_MF l D B yX12_isMinding xX12_isMinding fX12_isMinding := z_mf (by decide) rfl (fun h => by cases h) rfl (fun as σ r h => ⟨z_fn_len h, kX12_isMinding_0, z_fn_run h, fun _ => tX12_isMinding_0⟩)
/-! ===== RowChildrenModel.hasIdle ===== -/
theorem dX12_hasIdle_0 : decode cX12_hasIdle 0 = .ok (.iconst 0, 1) := by decide +kernel
theorem dX12_hasIdle_1 : decode cX12_hasIdle 1 = .ok (.istore_n 1, 1) := by decide +kernel
theorem dX12_hasIdle_2 : decode cX12_hasIdle 2 = .ok (.iload_n 1, 1) := by decide +kernel
theorem dX12_hasIdle_3 : decode cX12_hasIdle 3 = .ok (.aload_n 0, 1) := by decide +kernel
theorem dX12_hasIdle_4 : decode cX12_hasIdle 4 = .ok (.invokevirtual 327, 3) := by decide +kernel
theorem dX12_hasIdle_7 : decode cX12_hasIdle 7 = .ok (.if_icmp .ge 19, 3) := by decide +kernel
theorem dX12_hasIdle_10 : decode cX12_hasIdle 10 = .ok (.aload_n 0, 1) := by decide +kernel
theorem dX12_hasIdle_11 : decode cX12_hasIdle 11 = .ok (.iload_n 1, 1) := by decide +kernel
theorem dX12_hasIdle_12 : decode cX12_hasIdle 12 = .ok (.invokevirtual 498, 3) := by decide +kernel
theorem dX12_hasIdle_15 : decode cX12_hasIdle 15 = .ok (.ifCond .ne 5, 3) := by decide +kernel
theorem dX12_hasIdle_18 : decode cX12_hasIdle 18 = .ok (.iconst 1, 1) := by decide +kernel
theorem dX12_hasIdle_19 : decode cX12_hasIdle 19 = .ok (.ireturn, 1) := by decide +kernel
theorem dX12_hasIdle_20 : decode cX12_hasIdle 20 = .ok (.iinc 1 1, 3) := by decide +kernel
theorem dX12_hasIdle_23 : decode cX12_hasIdle 23 = .ok (.goto (-21), 3) := by decide +kernel
theorem dX12_hasIdle_26 : decode cX12_hasIdle 26 = .ok (.iconst 0, 1) := by decide +kernel
theorem dX12_hasIdle_27 : decode cX12_hasIdle 27 = .ok (.ireturn, 1) := by decide +kernel
def xX12_hasIdle : zX := (RX12, cX12_hasIdle, 2, (some .boolean), false, { frames := 4, cells := 0, slots := 0, locals := 155 }, 0, 0, 0, 0)
theorem rmX12_hasIdle : z_Rm xX12_hasIdle := by unfold z_Rm xX12_hasIdle; exact ⟨by decide, by decide⟩
theorem reX12_hasIdle : z_Re xX12_hasIdle := ⟨rfl, rfl⟩
theorem rlX12_hasIdle : 1 ≤ xX12_hasIdle.2.2.2.2.2.1.frames ∧ 21 ≤ xX12_hasIdle.2.2.2.2.2.1.locals := by unfold xX12_hasIdle; exact ⟨by decide, by decide⟩
theorem meX12_hasIdle : z_Me yX12_hasIdle xX12_hasIdle 0 := ⟨wd1306, wd893, by decide, by decide, by decide +kernel⟩
theorem fitX12_hasIdle_4 : z_Fit xX12_base xX12_hasIdle := by unfold z_Fit; simp only [xX12_base, xX12_hasIdle]; exact ⟨by decide, by decide⟩
theorem fitX12_hasIdle_12 : z_Fit xX12_isMinding xX12_hasIdle := by unfold z_Fit; simp only [xX12_isMinding, xX12_hasIdle]; exact ⟨by decide, by decide⟩
noncomputable def kX12_hasIdle_26 : zK zR := (q_push 0 q_zret)
noncomputable def kX12_hasIdle_18 : zK zR := (q_push 1 q_zret)
noncomputable def bX12_hasIdle_2 : zK ((zL × zS) ⊕ zR) := (q_iload 1 (q_aload 0 (q_callV 12 fX12_base 0 (q_icmp_ge (q_dn kX12_hasIdle_26) (q_aload 0 (q_iload 1 (q_callV 12 fX12_isMinding 1 (q_if_ne (q_iinc 1 1 q_ag) (q_dn kX12_hasIdle_18)))))))))
noncomputable def kX12_hasIdle_2 : zK zR := q_lp (bX12_hasIdle_2)
noncomputable def kX12_hasIdle_0 : zK zR := (q_push 0 (q_istore 1 kX12_hasIdle_2))
set_option maxRecDepth 100000 in
theorem tX12_hasIdle_26 {l : Launch} {D : zD} {B sz0 : Nat} {post : Option Value → zS → Prop} : zSnd l D B xX12_hasIdle sz0 post 26 kX12_hasIdle_26 (z_Jr post) := (s_iconst dX12_hasIdle_26 (by decide) (s_zret dX12_hasIdle_27 rfl))
set_option maxRecDepth 100000 in
theorem tX12_hasIdle_18 {l : Launch} {D : zD} {B sz0 : Nat} {post : Option Value → zS → Prop} : zSnd l D B xX12_hasIdle sz0 post 18 kX12_hasIdle_18 (z_Jr post) := (s_iconst dX12_hasIdle_18 (by decide) (s_zret dX12_hasIdle_19 rfl))
set_option maxRecDepth 100000 in
theorem tX12_hasIdle_2 {l : Launch} {D : zD} {B sz0 : Nat} {post : Option Value → zS → Prop} : zSnd l D B xX12_hasIdle sz0 post 2 kX12_hasIdle_2 (z_Jr post) := s_lp (body := bX12_hasIdle_2) (s_iload_n dX12_hasIdle_2 rfl (s_aload_n dX12_hasIdle_3 rfl (s_callV (r := (RX12, TX12, 74)) dX12_hasIdle_4 mX12_base meX12_base wd1081 wd1082 rfl rfl reX12_base rmX12_hasIdle (fitX12_hasIdle_4) wd1083 (s_icmp_ge (tgt := 26) dX12_hasIdle_7 (by decide) (s_dn tX12_hasIdle_26) (s_aload_n dX12_hasIdle_10 rfl (s_iload_n dX12_hasIdle_11 rfl (s_callV (r := (RX12, TX12, 74)) dX12_hasIdle_12 mX12_isMinding meX12_isMinding wd1303 wd1304 rfl rfl reX12_isMinding rmX12_hasIdle (fitX12_hasIdle_12) wd1305 (s_if_ne (tgt := 20) dX12_hasIdle_15 (by decide) (s_iinc dX12_hasIdle_20 (by decide) (s_goto (tgt := 2) dX12_hasIdle_23 (by decide) s_ag)) (s_dn tX12_hasIdle_18)))))))))
set_option maxRecDepth 100000 in
theorem tX12_hasIdle_0 {l : Launch} {D : zD} {B sz0 : Nat} {post : Option Value → zS → Prop} : zSnd l D B xX12_hasIdle sz0 post 0 kX12_hasIdle_0 (z_Jr post) := (s_iconst dX12_hasIdle_0 (by decide) (s_istore_n dX12_hasIdle_1 rfl tX12_hasIdle_2))
noncomputable def fX12_hasIdle : zF := z_fn 2 kX12_hasIdle_0
theorem mX12_hasIdle {l : Launch} {D : zD} {B : Nat} : z_MF l D B yX12_hasIdle xX12_hasIdle fX12_hasIdle := z_mf (by decide) rfl (fun h => by cases h) rfl (fun as σ r h => ⟨z_fn_len h, kX12_hasIdle_0, z_fn_run h, fun _ => tX12_hasIdle_0⟩)
/-! ===== RowChildrenModel.ways ===== -/
theorem dX12_ways_0 : decode cX12_ways 0 = .ok (.aload_n 0, 1) := by decide +kernel
theorem dX12_ways_1 : decode cX12_ways 1 = .ok (.invokevirtual 501, 3) := by decide +kernel
theorem dX12_ways_4 : decode cX12_ways 4 = .ok (.ifCond .eq 7, 3) := by decide +kernel
theorem dX12_ways_7 : decode cX12_ways 7 = .ok (.iconst 1, 1) := by decide +kernel
theorem dX12_ways_8 : decode cX12_ways 8 = .ok (.goto 4, 3) := by decide +kernel
theorem dX12_ways_11 : decode cX12_ways 11 = .ok (.iconst 0, 1) := by decide +kernel
theorem dX12_ways_12 : decode cX12_ways 12 = .ok (.aload_n 0, 1) := by decide +kernel
theorem dX12_ways_13 : decode cX12_ways 13 = .ok (.iconst 1, 1) := by decide +kernel
theorem dX12_ways_14 : decode cX12_ways 14 = .ok (.invokevirtual 504, 3) := by decide +kernel
theorem dX12_ways_17 : decode cX12_ways 17 = .ok (.ifCond .eq 7, 3) := by decide +kernel
theorem dX12_ways_20 : decode cX12_ways 20 = .ok (.iconst 2, 1) := by decide +kernel
theorem dX12_ways_21 : decode cX12_ways 21 = .ok (.goto 4, 3) := by decide +kernel
theorem dX12_ways_24 : decode cX12_ways 24 = .ok (.iconst 0, 1) := by decide +kernel
theorem dX12_ways_25 : decode cX12_ways 25 = .ok (.iadd, 1) := by decide +kernel
theorem dX12_ways_26 : decode cX12_ways 26 = .ok (.aload_n 0, 1) := by decide +kernel
theorem dX12_ways_27 : decode cX12_ways 27 = .ok (.iconst 0, 1) := by decide +kernel
theorem dX12_ways_28 : decode cX12_ways 28 = .ok (.invokevirtual 504, 3) := by decide +kernel
theorem dX12_ways_31 : decode cX12_ways 31 = .ok (.ifCond .eq 7, 3) := by decide +kernel
theorem dX12_ways_34 : decode cX12_ways 34 = .ok (.iconst 4, 1) := by decide +kernel
theorem dX12_ways_35 : decode cX12_ways 35 = .ok (.goto 4, 3) := by decide +kernel
theorem dX12_ways_38 : decode cX12_ways 38 = .ok (.iconst 0, 1) := by decide +kernel
theorem dX12_ways_39 : decode cX12_ways 39 = .ok (.iadd, 1) := by decide +kernel
theorem dX12_ways_40 : decode cX12_ways 40 = .ok (.aload_n 0, 1) := by decide +kernel
theorem dX12_ways_41 : decode cX12_ways 41 = .ok (.invokevirtual 508, 3) := by decide +kernel
theorem dX12_ways_44 : decode cX12_ways 44 = .ok (.ifCond .eq 8, 3) := by decide +kernel
theorem dX12_ways_47 : decode cX12_ways 47 = .ok (.bipush 8, 2) := by decide +kernel
theorem dX12_ways_49 : decode cX12_ways 49 = .ok (.goto 4, 3) := by decide +kernel
theorem dX12_ways_52 : decode cX12_ways 52 = .ok (.iconst 0, 1) := by decide +kernel
theorem dX12_ways_53 : decode cX12_ways 53 = .ok (.iadd, 1) := by decide +kernel
theorem dX12_ways_54 : decode cX12_ways 54 = .ok (.aload_n 0, 1) := by decide +kernel
theorem dX12_ways_55 : decode cX12_ways 55 = .ok (.invokevirtual 511, 3) := by decide +kernel
theorem dX12_ways_58 : decode cX12_ways 58 = .ok (.ifCond .eq 8, 3) := by decide +kernel
theorem dX12_ways_61 : decode cX12_ways 61 = .ok (.bipush 16, 2) := by decide +kernel
theorem dX12_ways_63 : decode cX12_ways 63 = .ok (.goto 4, 3) := by decide +kernel
theorem dX12_ways_66 : decode cX12_ways 66 = .ok (.iconst 0, 1) := by decide +kernel
theorem dX12_ways_67 : decode cX12_ways 67 = .ok (.iadd, 1) := by decide +kernel
theorem dX12_ways_68 : decode cX12_ways 68 = .ok (.aload_n 0, 1) := by decide +kernel
theorem dX12_ways_69 : decode cX12_ways 69 = .ok (.invokevirtual 514, 3) := by decide +kernel
theorem dX12_ways_72 : decode cX12_ways 72 = .ok (.ifCond .eq 8, 3) := by decide +kernel
theorem dX12_ways_75 : decode cX12_ways 75 = .ok (.bipush 32, 2) := by decide +kernel
theorem dX12_ways_77 : decode cX12_ways 77 = .ok (.goto 4, 3) := by decide +kernel
theorem dX12_ways_80 : decode cX12_ways 80 = .ok (.iconst 0, 1) := by decide +kernel
theorem dX12_ways_81 : decode cX12_ways 81 = .ok (.iadd, 1) := by decide +kernel
theorem dX12_ways_82 : decode cX12_ways 82 = .ok (.ireturn, 1) := by decide +kernel
def xX12_ways : zX := (RX12, cX12_ways, 1, (some .int), false, { frames := 5, cells := 0, slots := 0, locals := 179 }, 0, 0, 0, 0)
theorem rmX12_ways : z_Rm xX12_ways := by unfold z_Rm xX12_ways; exact ⟨by decide, by decide⟩
theorem reX12_ways : z_Re xX12_ways := ⟨rfl, rfl⟩
theorem rlX12_ways : 1 ≤ xX12_ways.2.2.2.2.2.1.frames ∧ 21 ≤ xX12_ways.2.2.2.2.2.1.locals := by unfold xX12_ways; exact ⟨by decide, by decide⟩
theorem meX12_ways : z_Me yX12_ways xX12_ways 0 := ⟨wd1322, wd893, by decide, by decide, by decide +kernel⟩
theorem fitX12_ways_1 : z_Fit xX12_isAlikeTurned xX12_ways := by unfold z_Fit; simp only [xX12_isAlikeTurned, xX12_ways]; exact ⟨by decide, by decide⟩
theorem fitX12_ways_14 : z_Fit xX12_areUnlike xX12_ways := by unfold z_Fit; simp only [xX12_areUnlike, xX12_ways]; exact ⟨by decide, by decide⟩
theorem fitX12_ways_28 : z_Fit xX12_areUnlike xX12_ways := by unfold z_Fit; simp only [xX12_areUnlike, xX12_ways]; exact ⟨by decide, by decide⟩
theorem fitX12_ways_41 : z_Fit xX12_isGathered xX12_ways := by unfold z_Fit; simp only [xX12_isGathered, xX12_ways]; exact ⟨by decide, by decide⟩
theorem fitX12_ways_55 : z_Fit xX12_isOwn xX12_ways := by unfold z_Fit; simp only [xX12_isOwn, xX12_ways]; exact ⟨by decide, by decide⟩
theorem fitX12_ways_69 : z_Fit xX12_hasIdle xX12_ways := by unfold z_Fit; simp only [xX12_hasIdle, xX12_ways]; exact ⟨by decide, by decide⟩
noncomputable def kX12_ways_81 : zK zR := (q_iadd q_iret)
noncomputable def kX12_ways_67 : zK zR := (q_iadd (q_aload 0 (q_callV 12 fX12_hasIdle 0 (q_if_eq (q_push 0 kX12_ways_81) (q_push 32 kX12_ways_81)))))
noncomputable def kX12_ways_53 : zK zR := (q_iadd (q_aload 0 (q_callV 12 fX12_isOwn 0 (q_if_eq (q_push 0 kX12_ways_67) (q_push 16 kX12_ways_67)))))
noncomputable def kX12_ways_39 : zK zR := (q_iadd (q_aload 0 (q_callV 12 fX12_isGathered 0 (q_if_eq (q_push 0 kX12_ways_53) (q_push 8 kX12_ways_53)))))
noncomputable def kX12_ways_25 : zK zR := (q_iadd (q_aload 0 (q_push 0 (q_callV 12 fX12_areUnlike 1 (q_if_eq (q_push 0 kX12_ways_39) (q_push 4 kX12_ways_39))))))
noncomputable def kX12_ways_12 : zK zR := (q_aload 0 (q_push 1 (q_callV 12 fX12_areUnlike 1 (q_if_eq (q_push 0 kX12_ways_25) (q_push 2 kX12_ways_25)))))
noncomputable def kX12_ways_0 : zK zR := (q_aload 0 (q_callV 12 fX12_isAlikeTurned 0 (q_if_eq (q_push 0 kX12_ways_12) (q_push 1 kX12_ways_12))))
set_option maxRecDepth 100000 in
theorem tX12_ways_81 {l : Launch} {D : zD} {B sz0 : Nat} {post : Option Value → zS → Prop} : zSnd l D B xX12_ways sz0 post 81 kX12_ways_81 (z_Jr post) := (s_iadd dX12_ways_81 (s_iret dX12_ways_82 rfl))
set_option maxRecDepth 100000 in
theorem tX12_ways_67 {l : Launch} {D : zD} {B sz0 : Nat} {post : Option Value → zS → Prop} : zSnd l D B xX12_ways sz0 post 67 kX12_ways_67 (z_Jr post) := (s_iadd dX12_ways_67 (s_aload_n dX12_ways_68 rfl (s_callV (r := (RX12, TX12, 74)) dX12_ways_69 mX12_hasIdle meX12_hasIdle wd1319 wd1320 rfl rfl reX12_hasIdle rmX12_ways (fitX12_ways_69) wd1321 (s_if_eq (tgt := 80) dX12_ways_72 (by decide) (s_iconst dX12_ways_80 (by decide) tX12_ways_81) (s_bipush dX12_ways_75 (by decide) (s_goto (tgt := 81) dX12_ways_77 (by decide) tX12_ways_81))))))
set_option maxRecDepth 100000 in
theorem tX12_ways_53 {l : Launch} {D : zD} {B sz0 : Nat} {post : Option Value → zS → Prop} : zSnd l D B xX12_ways sz0 post 53 kX12_ways_53 (z_Jr post) := (s_iadd dX12_ways_53 (s_aload_n dX12_ways_54 rfl (s_callV (r := (RX12, TX12, 74)) dX12_ways_55 mX12_isOwn meX12_isOwn wd1316 wd1317 rfl rfl reX12_isOwn rmX12_ways (fitX12_ways_55) wd1318 (s_if_eq (tgt := 66) dX12_ways_58 (by decide) (s_iconst dX12_ways_66 (by decide) tX12_ways_67) (s_bipush dX12_ways_61 (by decide) (s_goto (tgt := 67) dX12_ways_63 (by decide) tX12_ways_67))))))
set_option maxRecDepth 100000 in
theorem tX12_ways_39 {l : Launch} {D : zD} {B sz0 : Nat} {post : Option Value → zS → Prop} : zSnd l D B xX12_ways sz0 post 39 kX12_ways_39 (z_Jr post) := (s_iadd dX12_ways_39 (s_aload_n dX12_ways_40 rfl (s_callV (r := (RX12, TX12, 74)) dX12_ways_41 mX12_isGathered meX12_isGathered wd1313 wd1314 rfl rfl reX12_isGathered rmX12_ways (fitX12_ways_41) wd1315 (s_if_eq (tgt := 52) dX12_ways_44 (by decide) (s_iconst dX12_ways_52 (by decide) tX12_ways_53) (s_bipush dX12_ways_47 (by decide) (s_goto (tgt := 53) dX12_ways_49 (by decide) tX12_ways_53))))))
set_option maxRecDepth 100000 in
theorem tX12_ways_25 {l : Launch} {D : zD} {B sz0 : Nat} {post : Option Value → zS → Prop} : zSnd l D B xX12_ways sz0 post 25 kX12_ways_25 (z_Jr post) := (s_iadd dX12_ways_25 (s_aload_n dX12_ways_26 rfl (s_iconst dX12_ways_27 (by decide) (s_callV (r := (RX12, TX12, 74)) dX12_ways_28 mX12_areUnlike meX12_areUnlike wd1310 wd1311 rfl rfl reX12_areUnlike rmX12_ways (fitX12_ways_28) wd1312 (s_if_eq (tgt := 38) dX12_ways_31 (by decide) (s_iconst dX12_ways_38 (by decide) tX12_ways_39) (s_iconst dX12_ways_34 (by decide) (s_goto (tgt := 39) dX12_ways_35 (by decide) tX12_ways_39)))))))
set_option maxRecDepth 100000 in
theorem tX12_ways_12 {l : Launch} {D : zD} {B sz0 : Nat} {post : Option Value → zS → Prop} : zSnd l D B xX12_ways sz0 post 12 kX12_ways_12 (z_Jr post) := (s_aload_n dX12_ways_12 rfl (s_iconst dX12_ways_13 (by decide) (s_callV (r := (RX12, TX12, 74)) dX12_ways_14 mX12_areUnlike meX12_areUnlike wd1310 wd1311 rfl rfl reX12_areUnlike rmX12_ways (fitX12_ways_14) wd1312 (s_if_eq (tgt := 24) dX12_ways_17 (by decide) (s_iconst dX12_ways_24 (by decide) tX12_ways_25) (s_iconst dX12_ways_20 (by decide) (s_goto (tgt := 25) dX12_ways_21 (by decide) tX12_ways_25))))))
set_option maxRecDepth 100000 in
theorem tX12_ways_0 {l : Launch} {D : zD} {B sz0 : Nat} {post : Option Value → zS → Prop} : zSnd l D B xX12_ways sz0 post 0 kX12_ways_0 (z_Jr post) := (s_aload_n dX12_ways_0 rfl (s_callV (r := (RX12, TX12, 74)) dX12_ways_1 mX12_isAlikeTurned meX12_isAlikeTurned wd1307 wd1308 rfl rfl reX12_isAlikeTurned rmX12_ways (fitX12_ways_1) wd1309 (s_if_eq (tgt := 11) dX12_ways_4 (by decide) (s_iconst dX12_ways_11 (by decide) tX12_ways_12) (s_iconst dX12_ways_7 (by decide) (s_goto (tgt := 12) dX12_ways_8 (by decide) tX12_ways_12)))))
noncomputable def fX12_ways : zF := z_fn 1 kX12_ways_0
theorem mX12_ways {l : Launch} {D : zD} {B : Nat} : z_MF l D B yX12_ways xX12_ways fX12_ways := z_mf (by decide) rfl (fun h => by cases h) rfl (fun as σ r h => ⟨z_fn_len h, kX12_ways_0, z_fn_run h, fun _ => tX12_ways_0⟩)
/-! ===== RowChildrenModel.shut ===== -/
theorem dX12_shut_0 : decode cX12_shut 0 = .ok (.iload_n 1, 1) := by decide +kernel
theorem dX12_shut_1 : decode cX12_shut 1 = .ok (.iconst 1, 1) := by decide +kernel
theorem dX12_shut_2 : decode cX12_shut 2 = .ok (.iconst 1, 1) := by decide +kernel
theorem dX12_shut_3 : decode cX12_shut 3 = .ok (.aload_n 0, 1) := by decide +kernel
theorem dX12_shut_4 : decode cX12_shut 4 = .ok (.invokevirtual 327, 3) := by decide +kernel
theorem dX12_shut_7 : decode cX12_shut 7 = .ok (.ishl, 1) := by decide +kernel
theorem dX12_shut_8 : decode cX12_shut 8 = .ok (.iconst 1, 1) := by decide +kernel
theorem dX12_shut_9 : decode cX12_shut 9 = .ok (.isub, 1) := by decide +kernel
theorem dX12_shut_10 : decode cX12_shut 10 = .ok (.invokestatic 323, 3) := by decide +kernel
theorem dX12_shut_13 : decode cX12_shut 13 = .ok (.ifCond .ne 5, 3) := by decide +kernel
theorem dX12_shut_16 : decode cX12_shut 16 = .ok (.iconst (-1), 1) := by decide +kernel
theorem dX12_shut_17 : decode cX12_shut 17 = .ok (.ireturn, 1) := by decide +kernel
theorem dX12_shut_18 : decode cX12_shut 18 = .ok (.iload_n 1, 1) := by decide +kernel
theorem dX12_shut_19 : decode cX12_shut 19 = .ok (.istore_n 2, 1) := by decide +kernel
theorem dX12_shut_20 : decode cX12_shut 20 = .ok (.iconst 0, 1) := by decide +kernel
theorem dX12_shut_21 : decode cX12_shut 21 = .ok (.istore_n 3, 1) := by decide +kernel
theorem dX12_shut_22 : decode cX12_shut 22 = .ok (.iload_n 2, 1) := by decide +kernel
theorem dX12_shut_23 : decode cX12_shut 23 = .ok (.iload_n 3, 1) := by decide +kernel
theorem dX12_shut_24 : decode cX12_shut 24 = .ok (.if_icmp .eq 60, 3) := by decide +kernel
theorem dX12_shut_27 : decode cX12_shut 27 = .ok (.iload_n 2, 1) := by decide +kernel
theorem dX12_shut_28 : decode cX12_shut 28 = .ok (.istore_n 3, 1) := by decide +kernel
theorem dX12_shut_29 : decode cX12_shut 29 = .ok (.iconst 0, 1) := by decide +kernel
theorem dX12_shut_30 : decode cX12_shut 30 = .ok (.istore 4, 2) := by decide +kernel
theorem dX12_shut_32 : decode cX12_shut 32 = .ok (.iload 4, 2) := by decide +kernel
theorem dX12_shut_34 : decode cX12_shut 34 = .ok (.bipush 16, 2) := by decide +kernel
theorem dX12_shut_36 : decode cX12_shut 36 = .ok (.if_icmp .ge 45, 3) := by decide +kernel
theorem dX12_shut_39 : decode cX12_shut 39 = .ok (.iload_n 3, 1) := by decide +kernel
theorem dX12_shut_40 : decode cX12_shut 40 = .ok (.iload 4, 2) := by decide +kernel
theorem dX12_shut_42 : decode cX12_shut 42 = .ok (.iconst 4, 1) := by decide +kernel
theorem dX12_shut_43 : decode cX12_shut 43 = .ok (.idiv, 1) := by decide +kernel
theorem dX12_shut_44 : decode cX12_shut 44 = .ok (.ishr, 1) := by decide +kernel
theorem dX12_shut_45 : decode cX12_shut 45 = .ok (.iload_n 3, 1) := by decide +kernel
theorem dX12_shut_46 : decode cX12_shut 46 = .ok (.iload 4, 2) := by decide +kernel
theorem dX12_shut_48 : decode cX12_shut 48 = .ok (.iconst 4, 1) := by decide +kernel
theorem dX12_shut_49 : decode cX12_shut 49 = .ok (.irem, 1) := by decide +kernel
theorem dX12_shut_50 : decode cX12_shut 50 = .ok (.ishr, 1) := by decide +kernel
theorem dX12_shut_51 : decode cX12_shut 51 = .ok (.iand, 1) := by decide +kernel
theorem dX12_shut_52 : decode cX12_shut 52 = .ok (.iconst 1, 1) := by decide +kernel
theorem dX12_shut_53 : decode cX12_shut 53 = .ok (.iand, 1) := by decide +kernel
theorem dX12_shut_54 : decode cX12_shut 54 = .ok (.iconst 1, 1) := by decide +kernel
theorem dX12_shut_55 : decode cX12_shut 55 = .ok (.if_icmp .ne 20, 3) := by decide +kernel
theorem dX12_shut_58 : decode cX12_shut 58 = .ok (.iload_n 2, 1) := by decide +kernel
theorem dX12_shut_59 : decode cX12_shut 59 = .ok (.iconst 1, 1) := by decide +kernel
theorem dX12_shut_60 : decode cX12_shut 60 = .ok (.aload_n 0, 1) := by decide +kernel
theorem dX12_shut_61 : decode cX12_shut 61 = .ok (.iload 4, 2) := by decide +kernel
theorem dX12_shut_63 : decode cX12_shut 63 = .ok (.iconst 4, 1) := by decide +kernel
theorem dX12_shut_64 : decode cX12_shut 64 = .ok (.idiv, 1) := by decide +kernel
theorem dX12_shut_65 : decode cX12_shut 65 = .ok (.iload 4, 2) := by decide +kernel
theorem dX12_shut_67 : decode cX12_shut 67 = .ok (.iconst 4, 1) := by decide +kernel
theorem dX12_shut_68 : decode cX12_shut 68 = .ok (.irem, 1) := by decide +kernel
theorem dX12_shut_69 : decode cX12_shut 69 = .ok (.invokevirtual 346, 3) := by decide +kernel
theorem dX12_shut_72 : decode cX12_shut 72 = .ok (.ishl, 1) := by decide +kernel
theorem dX12_shut_73 : decode cX12_shut 73 = .ok (.ior, 1) := by decide +kernel
theorem dX12_shut_74 : decode cX12_shut 74 = .ok (.istore_n 2, 1) := by decide +kernel
theorem dX12_shut_75 : decode cX12_shut 75 = .ok (.iinc 4 1, 3) := by decide +kernel
theorem dX12_shut_78 : decode cX12_shut 78 = .ok (.goto (-46), 3) := by decide +kernel
theorem dX12_shut_81 : decode cX12_shut 81 = .ok (.goto (-59), 3) := by decide +kernel
theorem dX12_shut_84 : decode cX12_shut 84 = .ok (.iload_n 2, 1) := by decide +kernel
theorem dX12_shut_85 : decode cX12_shut 85 = .ok (.ireturn, 1) := by decide +kernel
def xX12_shut : zX := (RX12, cX12_shut, 5, (some .int), false, { frames := 3, cells := 0, slots := 0, locals := 133 }, 0, 0, 0, 0)
theorem rmX12_shut : z_Rm xX12_shut := by unfold z_Rm xX12_shut; exact ⟨by decide, by decide⟩
theorem reX12_shut : z_Re xX12_shut := ⟨rfl, rfl⟩
theorem rlX12_shut : 1 ≤ xX12_shut.2.2.2.2.2.1.frames ∧ 21 ≤ xX12_shut.2.2.2.2.2.1.locals := by unfold xX12_shut; exact ⟨by decide, by decide⟩
theorem meX12_shut : z_Me yX12_shut xX12_shut 1 := ⟨wd1323, wd893, by decide, by decide, by decide +kernel⟩
theorem fitX12_shut_4 : z_Fit xX12_base xX12_shut := by unfold z_Fit; simp only [xX12_base, xX12_shut]; exact ⟨by decide, by decide⟩
theorem fitX12_shut_10 : z_Fit xX12_in xX12_shut := by unfold z_Fit; simp only [xX12_in, xX12_shut]; exact ⟨by decide, by decide⟩
theorem fitX12_shut_69 : z_Fit xX12_childOf xX12_shut := by unfold z_Fit; simp only [xX12_childOf, xX12_shut]; exact ⟨by decide, by decide⟩
noncomputable def kX12_shut_84 : zK zR := (q_iload 2 q_iret)
noncomputable def kX12_shut_81 : zK ((zL × zS) ⊕ zR) := q_ag
noncomputable def kX12_shut_75 : zK ((zL × zS) ⊕ ((zL × zS) ⊕ zR)) := (q_iinc 4 1 q_ag)
noncomputable def bX12_shut_32 : zK ((zL × zS) ⊕ ((zL × zS) ⊕ zR)) := (q_iload 4 (q_push 16 (q_icmp_ge (q_dn kX12_shut_81) (q_iload 3 (q_iload 4 (q_push 4 (q_idiv (q_ishr (q_iload 3 (q_iload 4 (q_push 4 (q_irem (q_ishr (q_iand (q_push 1 (q_iand (q_push 1 (q_icmp_ne kX12_shut_75 (q_iload 2 (q_push 1 (q_aload 0 (q_iload 4 (q_push 4 (q_idiv (q_iload 4 (q_push 4 (q_irem (q_callV 12 fX12_childOf 2 (q_ishl (q_ior (q_istore 2 kX12_shut_75)))))))))))))))))))))))))))))))
noncomputable def kX12_shut_32 : zK ((zL × zS) ⊕ zR) := q_lp (bX12_shut_32)
noncomputable def bX12_shut_22 : zK ((zL × zS) ⊕ zR) := (q_iload 2 (q_iload 3 (q_icmp_eq (q_dn kX12_shut_84) (q_iload 2 (q_istore 3 (q_push 0 (q_istore 4 kX12_shut_32)))))))
noncomputable def kX12_shut_22 : zK zR := q_lp (bX12_shut_22)
noncomputable def kX12_shut_0 : zK zR := (q_iload 1 (q_push 1 (q_push 1 (q_aload 0 (q_callV 12 fX12_base 0 (q_ishl (q_push 1 (q_isub (q_callS fX12_in 3 (q_if_ne (q_iload 1 (q_istore 2 (q_push 0 (q_istore 3 kX12_shut_22)))) (q_push (-1) q_iret)))))))))))
set_option maxRecDepth 100000 in
theorem tX12_shut_84 {l : Launch} {D : zD} {B sz0 : Nat} {post : Option Value → zS → Prop} : zSnd l D B xX12_shut sz0 post 84 kX12_shut_84 (z_Jr post) := (s_iload_n dX12_shut_84 rfl (s_iret dX12_shut_85 rfl))
set_option maxRecDepth 100000 in
theorem tX12_shut_81 {l : Launch} {D : zD} {B sz0 : Nat} {post : Option Value → zS → Prop} : zSnd l D B xX12_shut sz0 post 81 kX12_shut_81 (z_Jl l D B xX12_shut sz0 post 22 (z_Jr post)) := (s_goto (tgt := 22) dX12_shut_81 (by decide) s_ag)
set_option maxRecDepth 100000 in
theorem tX12_shut_75 {l : Launch} {D : zD} {B sz0 : Nat} {post : Option Value → zS → Prop} : zSnd l D B xX12_shut sz0 post 75 kX12_shut_75 (z_Jl l D B xX12_shut sz0 post 32 (z_Jl l D B xX12_shut sz0 post 22 (z_Jr post))) := (s_iinc dX12_shut_75 (by decide) (s_goto (tgt := 32) dX12_shut_78 (by decide) s_ag))
set_option maxRecDepth 100000 in
theorem tX12_shut_32 {l : Launch} {D : zD} {B sz0 : Nat} {post : Option Value → zS → Prop} : zSnd l D B xX12_shut sz0 post 32 kX12_shut_32 (z_Jl l D B xX12_shut sz0 post 22 (z_Jr post)) := s_lp (body := bX12_shut_32) (s_iload dX12_shut_32 (s_bipush dX12_shut_34 (by decide) (s_icmp_ge (tgt := 81) dX12_shut_36 (by decide) (s_dn tX12_shut_81) (s_iload_n dX12_shut_39 rfl (s_iload dX12_shut_40 (s_iconst dX12_shut_42 (by decide) (s_idiv dX12_shut_43 (s_ishr dX12_shut_44 (s_iload_n dX12_shut_45 rfl (s_iload dX12_shut_46 (s_iconst dX12_shut_48 (by decide) (s_irem dX12_shut_49 (s_ishr dX12_shut_50 (s_iand dX12_shut_51 (s_iconst dX12_shut_52 (by decide) (s_iand dX12_shut_53 (s_iconst dX12_shut_54 (by decide) (s_icmp_ne (tgt := 75) dX12_shut_55 (by decide) tX12_shut_75 (s_iload_n dX12_shut_58 rfl (s_iconst dX12_shut_59 (by decide) (s_aload_n dX12_shut_60 rfl (s_iload dX12_shut_61 (s_iconst dX12_shut_63 (by decide) (s_idiv dX12_shut_64 (s_iload dX12_shut_65 (s_iconst dX12_shut_67 (by decide) (s_irem dX12_shut_68 (s_callV (r := (RX12, TX12, 74)) dX12_shut_69 mX12_childOf meX12_childOf wd1102 wd1103 rfl rfl reX12_childOf rmX12_shut (fitX12_shut_69) wd1104 (s_ishl dX12_shut_72 (s_ior dX12_shut_73 (s_istore_n dX12_shut_74 rfl tX12_shut_75)))))))))))))))))))))))))))))))
set_option maxRecDepth 100000 in
theorem tX12_shut_22 {l : Launch} {D : zD} {B sz0 : Nat} {post : Option Value → zS → Prop} : zSnd l D B xX12_shut sz0 post 22 kX12_shut_22 (z_Jr post) := s_lp (body := bX12_shut_22) (s_iload_n dX12_shut_22 rfl (s_iload_n dX12_shut_23 rfl (s_icmp_eq (tgt := 84) dX12_shut_24 (by decide) (s_dn tX12_shut_84) (s_iload_n dX12_shut_27 rfl (s_istore_n dX12_shut_28 rfl (s_iconst dX12_shut_29 (by decide) (s_istore dX12_shut_30 tX12_shut_32)))))))
set_option maxRecDepth 100000 in
theorem tX12_shut_0 {l : Launch} {D : zD} {B sz0 : Nat} {post : Option Value → zS → Prop} : zSnd l D B xX12_shut sz0 post 0 kX12_shut_0 (z_Jr post) := (s_iload_n dX12_shut_0 rfl (s_iconst dX12_shut_1 (by decide) (s_iconst dX12_shut_2 (by decide) (s_aload_n dX12_shut_3 rfl (s_callV (r := (RX12, TX12, 74)) dX12_shut_4 mX12_base meX12_base wd1081 wd1082 rfl rfl reX12_base rmX12_shut (fitX12_shut_4) wd1083 (s_ishl dX12_shut_7 (s_iconst dX12_shut_8 (by decide) (s_isub dX12_shut_9 (s_callS dX12_shut_10 mX12_in meX12_in wd1078 rfl reX12_in rmX12_shut (fitX12_shut_10) wd1079 (s_if_ne (tgt := 18) dX12_shut_13 (by decide) (s_iload_n dX12_shut_18 rfl (s_istore_n dX12_shut_19 rfl (s_iconst dX12_shut_20 (by decide) (s_istore_n dX12_shut_21 rfl tX12_shut_22)))) (s_iconst dX12_shut_16 (by decide) (s_iret dX12_shut_17 rfl))))))))))))
noncomputable def fX12_shut : zF := z_fn 5 kX12_shut_0
theorem mX12_shut {l : Launch} {D : zD} {B : Nat} : z_MF l D B yX12_shut xX12_shut fX12_shut := z_mf (by decide) rfl (fun h => by cases h) rfl (fun as σ r h => ⟨z_fn_len h, kX12_shut_0, z_fn_run h, fun _ => tX12_shut_0⟩)
/-! ===== RowChildrenModel.chosen ===== -/
theorem dX12_chosen_0 : decode cX12_chosen 0 = .ok (.iload_n 1, 1) := by decide +kernel
theorem dX12_chosen_1 : decode cX12_chosen 1 = .ok (.iload_n 0, 1) := by decide +kernel
theorem dX12_chosen_2 : decode cX12_chosen 2 = .ok (.if_icmp .le 7, 3) := by decide +kernel
theorem dX12_chosen_5 : decode cX12_chosen 5 = .ok (.iconst 0, 1) := by decide +kernel
theorem dX12_chosen_6 : decode cX12_chosen 6 = .ok (.goto 18, 3) := by decide +kernel
theorem dX12_chosen_9 : decode cX12_chosen 9 = .ok (.iload_n 0, 1) := by decide +kernel
theorem dX12_chosen_10 : decode cX12_chosen 10 = .ok (.iconst 2, 1) := by decide +kernel
theorem dX12_chosen_11 : decode cX12_chosen 11 = .ok (.if_icmp .ne 12, 3) := by decide +kernel
theorem dX12_chosen_14 : decode cX12_chosen 14 = .ok (.iload_n 1, 1) := by decide +kernel
theorem dX12_chosen_15 : decode cX12_chosen 15 = .ok (.iconst 1, 1) := by decide +kernel
theorem dX12_chosen_16 : decode cX12_chosen 16 = .ok (.if_icmp .ne 7, 3) := by decide +kernel
theorem dX12_chosen_19 : decode cX12_chosen 19 = .ok (.iconst 2, 1) := by decide +kernel
theorem dX12_chosen_20 : decode cX12_chosen 20 = .ok (.goto 4, 3) := by decide +kernel
theorem dX12_chosen_23 : decode cX12_chosen 23 = .ok (.iconst 1, 1) := by decide +kernel
theorem dX12_chosen_24 : decode cX12_chosen 24 = .ok (.ireturn, 1) := by decide +kernel
def xX12_chosen : zX := (RX12, cX12_chosen, 2, (some .int), false, { frames := 1, cells := 0, slots := 0, locals := 90 }, 0, 0, 0, 0)
theorem rmX12_chosen : z_Rm xX12_chosen := by unfold z_Rm xX12_chosen; exact ⟨by decide, by decide⟩
theorem reX12_chosen : z_Re xX12_chosen := ⟨rfl, rfl⟩
theorem rlX12_chosen : 1 ≤ xX12_chosen.2.2.2.2.2.1.frames ∧ 21 ≤ xX12_chosen.2.2.2.2.2.1.locals := by unfold xX12_chosen; exact ⟨by decide, by decide⟩
theorem meX12_chosen : z_Me yX12_chosen xX12_chosen 2 := ⟨wd1324, wd893, by decide, by decide, by decide +kernel⟩
noncomputable def kX12_chosen_24 : zK zR := q_iret
noncomputable def kX12_chosen_23 : zK zR := (q_push 1 kX12_chosen_24)
noncomputable def kX12_chosen_0 : zK zR := (q_iload 1 (q_iload 0 (q_icmp_le (q_iload 0 (q_push 2 (q_icmp_ne kX12_chosen_23 (q_iload 1 (q_push 1 (q_icmp_ne kX12_chosen_23 (q_push 2 kX12_chosen_24))))))) (q_push 0 kX12_chosen_24))))
set_option maxRecDepth 100000 in
theorem tX12_chosen_24 {l : Launch} {D : zD} {B sz0 : Nat} {post : Option Value → zS → Prop} : zSnd l D B xX12_chosen sz0 post 24 kX12_chosen_24 (z_Jr post) := (s_iret dX12_chosen_24 rfl)
set_option maxRecDepth 100000 in
theorem tX12_chosen_23 {l : Launch} {D : zD} {B sz0 : Nat} {post : Option Value → zS → Prop} : zSnd l D B xX12_chosen sz0 post 23 kX12_chosen_23 (z_Jr post) := (s_iconst dX12_chosen_23 (by decide) tX12_chosen_24)
set_option maxRecDepth 100000 in
theorem tX12_chosen_0 {l : Launch} {D : zD} {B sz0 : Nat} {post : Option Value → zS → Prop} : zSnd l D B xX12_chosen sz0 post 0 kX12_chosen_0 (z_Jr post) := (s_iload_n dX12_chosen_0 rfl (s_iload_n dX12_chosen_1 rfl (s_icmp_le (tgt := 9) dX12_chosen_2 (by decide) (s_iload_n dX12_chosen_9 rfl (s_iconst dX12_chosen_10 (by decide) (s_icmp_ne (tgt := 23) dX12_chosen_11 (by decide) tX12_chosen_23 (s_iload_n dX12_chosen_14 rfl (s_iconst dX12_chosen_15 (by decide) (s_icmp_ne (tgt := 23) dX12_chosen_16 (by decide) tX12_chosen_23 (s_iconst dX12_chosen_19 (by decide) (s_goto (tgt := 24) dX12_chosen_20 (by decide) tX12_chosen_24)))))))) (s_iconst dX12_chosen_5 (by decide) (s_goto (tgt := 24) dX12_chosen_6 (by decide) tX12_chosen_24)))))
noncomputable def fX12_chosen : zF := z_fn 2 kX12_chosen_0
theorem mX12_chosen {l : Launch} {D : zD} {B : Nat} : z_MF l D B yX12_chosen xX12_chosen fX12_chosen := z_mf (by decide) rfl (fun h => by cases h) rfl (fun as σ r h => ⟨z_fn_len h, kX12_chosen_0, z_fn_run h, fun _ => tX12_chosen_0⟩)
/-! ===== RowChildrenModel.deep ===== -/
theorem dX12_deep_0 : decode cX12_deep 0 = .ok (.iload_n 1, 1) := by decide +kernel
theorem dX12_deep_1 : decode cX12_deep 1 = .ok (.iconst 0, 1) := by decide +kernel
theorem dX12_deep_2 : decode cX12_deep 2 = .ok (.ldc_w 493, 3) := by decide +kernel
theorem dX12_deep_5 : decode cX12_deep 5 = .ok (.invokestatic 323, 3) := by decide +kernel
theorem dX12_deep_8 : decode cX12_deep 8 = .ok (.ifCond .eq 12, 3) := by decide +kernel
theorem dX12_deep_11 : decode cX12_deep 11 = .ok (.iload_n 2, 1) := by decide +kernel
theorem dX12_deep_12 : decode cX12_deep 12 = .ok (.iconst 0, 1) := by decide +kernel
theorem dX12_deep_13 : decode cX12_deep 13 = .ok (.iload_n 1, 1) := by decide +kernel
theorem dX12_deep_14 : decode cX12_deep 14 = .ok (.invokestatic 323, 3) := by decide +kernel
theorem dX12_deep_17 : decode cX12_deep 17 = .ok (.ifCond .ne 5, 3) := by decide +kernel
theorem dX12_deep_20 : decode cX12_deep 20 = .ok (.iconst (-1), 1) := by decide +kernel
theorem dX12_deep_21 : decode cX12_deep 21 = .ok (.ireturn, 1) := by decide +kernel
theorem dX12_deep_22 : decode cX12_deep 22 = .ok (.aload_n 0, 1) := by decide +kernel
theorem dX12_deep_23 : decode cX12_deep 23 = .ok (.invokevirtual 327, 3) := by decide +kernel
theorem dX12_deep_26 : decode cX12_deep 26 = .ok (.iconst 4, 1) := by decide +kernel
theorem dX12_deep_27 : decode cX12_deep 27 = .ok (.if_icmp .ne 6, 3) := by decide +kernel
theorem dX12_deep_30 : decode cX12_deep 30 = .ok (.bipush (-2), 2) := by decide +kernel
theorem dX12_deep_32 : decode cX12_deep 32 = .ok (.ireturn, 1) := by decide +kernel
theorem dX12_deep_33 : decode cX12_deep 33 = .ok (.iconst 1, 1) := by decide +kernel
theorem dX12_deep_34 : decode cX12_deep 34 = .ok (.istore_n 3, 1) := by decide +kernel
theorem dX12_deep_35 : decode cX12_deep 35 = .ok (.iload_n 1, 1) := by decide +kernel
theorem dX12_deep_36 : decode cX12_deep 36 = .ok (.istore 4, 2) := by decide +kernel
theorem dX12_deep_38 : decode cX12_deep 38 = .ok (.iload_n 2, 1) := by decide +kernel
theorem dX12_deep_39 : decode cX12_deep 39 = .ok (.istore 5, 2) := by decide +kernel
theorem dX12_deep_41 : decode cX12_deep 41 = .ok (.iload 4, 2) := by decide +kernel
theorem dX12_deep_43 : decode cX12_deep 43 = .ok (.ifCond .le 49, 3) := by decide +kernel
theorem dX12_deep_46 : decode cX12_deep 46 = .ok (.iload_n 3, 1) := by decide +kernel
theorem dX12_deep_47 : decode cX12_deep 47 = .ok (.iload 4, 2) := by decide +kernel
theorem dX12_deep_49 : decode cX12_deep 49 = .ok (.aload_n 0, 1) := by decide +kernel
theorem dX12_deep_50 : decode cX12_deep 50 = .ok (.invokevirtual 327, 3) := by decide +kernel
theorem dX12_deep_53 : decode cX12_deep 53 = .ok (.irem, 1) := by decide +kernel
theorem dX12_deep_54 : decode cX12_deep 54 = .ok (.iload 5, 2) := by decide +kernel
theorem dX12_deep_56 : decode cX12_deep 56 = .ok (.aload_n 0, 1) := by decide +kernel
theorem dX12_deep_57 : decode cX12_deep 57 = .ok (.invokevirtual 327, 3) := by decide +kernel
theorem dX12_deep_60 : decode cX12_deep 60 = .ok (.irem, 1) := by decide +kernel
theorem dX12_deep_61 : decode cX12_deep 61 = .ok (.invokestatic 517, 3) := by decide +kernel
theorem dX12_deep_64 : decode cX12_deep 64 = .ok (.imul, 1) := by decide +kernel
theorem dX12_deep_65 : decode cX12_deep 65 = .ok (.aload_n 0, 1) := by decide +kernel
theorem dX12_deep_66 : decode cX12_deep 66 = .ok (.invokevirtual 327, 3) := by decide +kernel
theorem dX12_deep_69 : decode cX12_deep 69 = .ok (.irem, 1) := by decide +kernel
theorem dX12_deep_70 : decode cX12_deep 70 = .ok (.istore_n 3, 1) := by decide +kernel
theorem dX12_deep_71 : decode cX12_deep 71 = .ok (.iload 4, 2) := by decide +kernel
theorem dX12_deep_73 : decode cX12_deep 73 = .ok (.aload_n 0, 1) := by decide +kernel
theorem dX12_deep_74 : decode cX12_deep 74 = .ok (.invokevirtual 327, 3) := by decide +kernel
theorem dX12_deep_77 : decode cX12_deep 77 = .ok (.idiv, 1) := by decide +kernel
theorem dX12_deep_78 : decode cX12_deep 78 = .ok (.istore 4, 2) := by decide +kernel
theorem dX12_deep_80 : decode cX12_deep 80 = .ok (.iload 5, 2) := by decide +kernel
theorem dX12_deep_82 : decode cX12_deep 82 = .ok (.aload_n 0, 1) := by decide +kernel
theorem dX12_deep_83 : decode cX12_deep 83 = .ok (.invokevirtual 327, 3) := by decide +kernel
theorem dX12_deep_86 : decode cX12_deep 86 = .ok (.idiv, 1) := by decide +kernel
theorem dX12_deep_87 : decode cX12_deep 87 = .ok (.istore 5, 2) := by decide +kernel
theorem dX12_deep_89 : decode cX12_deep 89 = .ok (.goto (-48), 3) := by decide +kernel
theorem dX12_deep_92 : decode cX12_deep 92 = .ok (.iload_n 3, 1) := by decide +kernel
theorem dX12_deep_93 : decode cX12_deep 93 = .ok (.ireturn, 1) := by decide +kernel
def xX12_deep : zX := (RX12, cX12_deep, 6, (some .int), false, { frames := 2, cells := 0, slots := 0, locals := 112 }, 0, 0, 0, 0)
theorem rmX12_deep : z_Rm xX12_deep := by unfold z_Rm xX12_deep; exact ⟨by decide, by decide⟩
theorem reX12_deep : z_Re xX12_deep := ⟨rfl, rfl⟩
theorem rlX12_deep : 1 ≤ xX12_deep.2.2.2.2.2.1.frames ∧ 21 ≤ xX12_deep.2.2.2.2.2.1.locals := by unfold xX12_deep; exact ⟨by decide, by decide⟩
theorem meX12_deep : z_Me yX12_deep xX12_deep 2 := ⟨wd1327, wd893, by decide, by decide, by decide +kernel⟩
theorem fitX12_deep_5 : z_Fit xX12_in xX12_deep := by unfold z_Fit; simp only [xX12_in, xX12_deep]; exact ⟨by decide, by decide⟩
theorem fitX12_deep_14 : z_Fit xX12_in xX12_deep := by unfold z_Fit; simp only [xX12_in, xX12_deep]; exact ⟨by decide, by decide⟩
theorem fitX12_deep_23 : z_Fit xX12_base xX12_deep := by unfold z_Fit; simp only [xX12_base, xX12_deep]; exact ⟨by decide, by decide⟩
theorem fitX12_deep_50 : z_Fit xX12_base xX12_deep := by unfold z_Fit; simp only [xX12_base, xX12_deep]; exact ⟨by decide, by decide⟩
theorem fitX12_deep_57 : z_Fit xX12_base xX12_deep := by unfold z_Fit; simp only [xX12_base, xX12_deep]; exact ⟨by decide, by decide⟩
theorem fitX12_deep_61 : z_Fit xX12_chosen xX12_deep := by unfold z_Fit; simp only [xX12_chosen, xX12_deep]; exact ⟨by decide, by decide⟩
theorem fitX12_deep_66 : z_Fit xX12_base xX12_deep := by unfold z_Fit; simp only [xX12_base, xX12_deep]; exact ⟨by decide, by decide⟩
theorem fitX12_deep_74 : z_Fit xX12_base xX12_deep := by unfold z_Fit; simp only [xX12_base, xX12_deep]; exact ⟨by decide, by decide⟩
theorem fitX12_deep_83 : z_Fit xX12_base xX12_deep := by unfold z_Fit; simp only [xX12_base, xX12_deep]; exact ⟨by decide, by decide⟩
noncomputable def kX12_deep_20 : zK zR := (q_push (-1) q_iret)
noncomputable def kX12_deep_92 : zK zR := (q_iload 3 q_iret)
noncomputable def bX12_deep_41 : zK ((zL × zS) ⊕ zR) := (q_iload 4 (q_if_le (q_dn kX12_deep_92) (q_iload 3 (q_iload 4 (q_aload 0 (q_callV 12 fX12_base 0 (q_irem (q_iload 5 (q_aload 0 (q_callV 12 fX12_base 0 (q_irem (q_callS fX12_chosen 2 (q_imul (q_aload 0 (q_callV 12 fX12_base 0 (q_irem (q_istore 3 (q_iload 4 (q_aload 0 (q_callV 12 fX12_base 0 (q_idiv (q_istore 4 (q_iload 5 (q_aload 0 (q_callV 12 fX12_base 0 (q_idiv (q_istore 5 q_ag)))))))))))))))))))))))))))
noncomputable def kX12_deep_41 : zK zR := q_lp (bX12_deep_41)
noncomputable def kX12_deep_0 : zK zR := (q_iload 1 (q_push 0 (q_push 1000000000 (q_callS fX12_in 3 (q_if_eq kX12_deep_20 (q_iload 2 (q_push 0 (q_iload 1 (q_callS fX12_in 3 (q_if_ne (q_aload 0 (q_callV 12 fX12_base 0 (q_push 4 (q_icmp_ne (q_push 1 (q_istore 3 (q_iload 1 (q_istore 4 (q_iload 2 (q_istore 5 kX12_deep_41)))))) (q_push (-2) q_iret))))) kX12_deep_20))))))))))
set_option maxRecDepth 100000 in
theorem tX12_deep_20 {l : Launch} {D : zD} {B sz0 : Nat} {post : Option Value → zS → Prop} : zSnd l D B xX12_deep sz0 post 20 kX12_deep_20 (z_Jr post) := (s_iconst dX12_deep_20 (by decide) (s_iret dX12_deep_21 rfl))
set_option maxRecDepth 100000 in
theorem tX12_deep_92 {l : Launch} {D : zD} {B sz0 : Nat} {post : Option Value → zS → Prop} : zSnd l D B xX12_deep sz0 post 92 kX12_deep_92 (z_Jr post) := (s_iload_n dX12_deep_92 rfl (s_iret dX12_deep_93 rfl))
set_option maxRecDepth 100000 in
theorem tX12_deep_41 {l : Launch} {D : zD} {B sz0 : Nat} {post : Option Value → zS → Prop} : zSnd l D B xX12_deep sz0 post 41 kX12_deep_41 (z_Jr post) := s_lp (body := bX12_deep_41) (s_iload dX12_deep_41 (s_if_le (tgt := 92) dX12_deep_43 (by decide) (s_dn tX12_deep_92) (s_iload_n dX12_deep_46 rfl (s_iload dX12_deep_47 (s_aload_n dX12_deep_49 rfl (s_callV (r := (RX12, TX12, 74)) dX12_deep_50 mX12_base meX12_base wd1081 wd1082 rfl rfl reX12_base rmX12_deep (fitX12_deep_50) wd1083 (s_irem dX12_deep_53 (s_iload dX12_deep_54 (s_aload_n dX12_deep_56 rfl (s_callV (r := (RX12, TX12, 74)) dX12_deep_57 mX12_base meX12_base wd1081 wd1082 rfl rfl reX12_base rmX12_deep (fitX12_deep_57) wd1083 (s_irem dX12_deep_60 (s_callS dX12_deep_61 mX12_chosen meX12_chosen wd1325 rfl reX12_chosen rmX12_deep (fitX12_deep_61) wd1326 (s_imul dX12_deep_64 (s_aload_n dX12_deep_65 rfl (s_callV (r := (RX12, TX12, 74)) dX12_deep_66 mX12_base meX12_base wd1081 wd1082 rfl rfl reX12_base rmX12_deep (fitX12_deep_66) wd1083 (s_irem dX12_deep_69 (s_istore_n dX12_deep_70 rfl (s_iload dX12_deep_71 (s_aload_n dX12_deep_73 rfl (s_callV (r := (RX12, TX12, 74)) dX12_deep_74 mX12_base meX12_base wd1081 wd1082 rfl rfl reX12_base rmX12_deep (fitX12_deep_74) wd1083 (s_idiv dX12_deep_77 (s_istore dX12_deep_78 (s_iload dX12_deep_80 (s_aload_n dX12_deep_82 rfl (s_callV (r := (RX12, TX12, 74)) dX12_deep_83 mX12_base meX12_base wd1081 wd1082 rfl rfl reX12_base rmX12_deep (fitX12_deep_83) wd1083 (s_idiv dX12_deep_86 (s_istore dX12_deep_87 (s_goto (tgt := 41) dX12_deep_89 (by decide) s_ag))))))))))))))))))))))))))))
set_option maxRecDepth 100000 in
theorem tX12_deep_0 {l : Launch} {D : zD} {B sz0 : Nat} {post : Option Value → zS → Prop} : zSnd l D B xX12_deep sz0 post 0 kX12_deep_0 (z_Jr post) := (s_iload_n dX12_deep_0 rfl (s_iconst dX12_deep_1 (by decide) (s_ldcw dX12_deep_2 wd1292 (s_callS dX12_deep_5 mX12_in meX12_in wd1078 rfl reX12_in rmX12_deep (fitX12_deep_5) wd1079 (s_if_eq (tgt := 20) dX12_deep_8 (by decide) tX12_deep_20 (s_iload_n dX12_deep_11 rfl (s_iconst dX12_deep_12 (by decide) (s_iload_n dX12_deep_13 rfl (s_callS dX12_deep_14 mX12_in meX12_in wd1078 rfl reX12_in rmX12_deep (fitX12_deep_14) wd1079 (s_if_ne (tgt := 22) dX12_deep_17 (by decide) (s_aload_n dX12_deep_22 rfl (s_callV (r := (RX12, TX12, 74)) dX12_deep_23 mX12_base meX12_base wd1081 wd1082 rfl rfl reX12_base rmX12_deep (fitX12_deep_23) wd1083 (s_iconst dX12_deep_26 (by decide) (s_icmp_ne (tgt := 33) dX12_deep_27 (by decide) (s_iconst dX12_deep_33 (by decide) (s_istore_n dX12_deep_34 rfl (s_iload_n dX12_deep_35 rfl (s_istore dX12_deep_36 (s_iload_n dX12_deep_38 rfl (s_istore dX12_deep_39 tX12_deep_41)))))) (s_bipush dX12_deep_30 (by decide) (s_iret dX12_deep_32 rfl)))))) tX12_deep_20))))))))))
noncomputable def fX12_deep : zF := z_fn 6 kX12_deep_0
theorem mX12_deep {l : Launch} {D : zD} {B : Nat} : z_MF l D B yX12_deep xX12_deep fX12_deep := z_mf (by decide) rfl (fun h => by cases h) rfl (fun as σ r h => ⟨z_fn_len h, kX12_deep_0, z_fn_run h, fun _ => tX12_deep_0⟩)
/-! ===== RowChildrenModel.wonWith ===== -/
theorem dX12_wonWith_0 : decode cX12_wonWith 0 = .ok (.iconst 0, 1) := by decide +kernel
theorem dX12_wonWith_1 : decode cX12_wonWith 1 = .ok (.istore_n 3, 1) := by decide +kernel
theorem dX12_wonWith_2 : decode cX12_wonWith 2 = .ok (.iload_n 3, 1) := by decide +kernel
theorem dX12_wonWith_3 : decode cX12_wonWith 3 = .ok (.aload_n 0, 1) := by decide +kernel
theorem dX12_wonWith_4 : decode cX12_wonWith 4 = .ok (.invokevirtual 327, 3) := by decide +kernel
theorem dX12_wonWith_7 : decode cX12_wonWith 7 = .ok (.if_icmp .ge 37, 3) := by decide +kernel
theorem dX12_wonWith_10 : decode cX12_wonWith 10 = .ok (.aload_n 0, 1) := by decide +kernel
theorem dX12_wonWith_11 : decode cX12_wonWith 11 = .ok (.getfield 144, 3) := by decide +kernel
theorem dX12_wonWith_14 : decode cX12_wonWith 14 = .ok (.iload_n 1, 1) := by decide +kernel
theorem dX12_wonWith_15 : decode cX12_wonWith 15 = .ok (.aload_n 0, 1) := by decide +kernel
theorem dX12_wonWith_16 : decode cX12_wonWith 16 = .ok (.invokevirtual 327, 3) := by decide +kernel
theorem dX12_wonWith_19 : decode cX12_wonWith 19 = .ok (.imul, 1) := by decide +kernel
theorem dX12_wonWith_20 : decode cX12_wonWith 20 = .ok (.iload_n 3, 1) := by decide +kernel
theorem dX12_wonWith_21 : decode cX12_wonWith 21 = .ok (.iadd, 1) := by decide +kernel
theorem dX12_wonWith_22 : decode cX12_wonWith 22 = .ok (.iaload, 1) := by decide +kernel
theorem dX12_wonWith_23 : decode cX12_wonWith 23 = .ok (.iconst 1, 1) := by decide +kernel
theorem dX12_wonWith_24 : decode cX12_wonWith 24 = .ok (.if_icmp .ne 7, 3) := by decide +kernel
theorem dX12_wonWith_27 : decode cX12_wonWith 27 = .ok (.iconst 1, 1) := by decide +kernel
theorem dX12_wonWith_28 : decode cX12_wonWith 28 = .ok (.goto 4, 3) := by decide +kernel
theorem dX12_wonWith_31 : decode cX12_wonWith 31 = .ok (.iconst 0, 1) := by decide +kernel
theorem dX12_wonWith_32 : decode cX12_wonWith 32 = .ok (.iload_n 2, 1) := by decide +kernel
theorem dX12_wonWith_33 : decode cX12_wonWith 33 = .ok (.if_icmp .ne 5, 3) := by decide +kernel
theorem dX12_wonWith_36 : decode cX12_wonWith 36 = .ok (.iload_n 3, 1) := by decide +kernel
theorem dX12_wonWith_37 : decode cX12_wonWith 37 = .ok (.ireturn, 1) := by decide +kernel
theorem dX12_wonWith_38 : decode cX12_wonWith 38 = .ok (.iinc 3 1, 3) := by decide +kernel
theorem dX12_wonWith_41 : decode cX12_wonWith 41 = .ok (.goto (-39), 3) := by decide +kernel
theorem dX12_wonWith_44 : decode cX12_wonWith 44 = .ok (.iconst (-1), 1) := by decide +kernel
theorem dX12_wonWith_45 : decode cX12_wonWith 45 = .ok (.ireturn, 1) := by decide +kernel
def xX12_wonWith : zX := (RX12, cX12_wonWith, 4, (some .int), false, { frames := 2, cells := 0, slots := 0, locals := 110 }, 0, 0, 0, 0)
theorem rmX12_wonWith : z_Rm xX12_wonWith := by unfold z_Rm xX12_wonWith; exact ⟨by decide, by decide⟩
theorem reX12_wonWith : z_Re xX12_wonWith := ⟨rfl, rfl⟩
theorem rlX12_wonWith : 1 ≤ xX12_wonWith.2.2.2.2.2.1.frames ∧ 21 ≤ xX12_wonWith.2.2.2.2.2.1.locals := by unfold xX12_wonWith; exact ⟨by decide, by decide⟩
theorem meX12_wonWith : z_Me yX12_wonWith xX12_wonWith 2 := ⟨wd1328, wd893, by decide, by decide, by decide +kernel⟩
theorem fitX12_wonWith_4 : z_Fit xX12_base xX12_wonWith := by unfold z_Fit; simp only [xX12_base, xX12_wonWith]; exact ⟨by decide, by decide⟩
theorem fitX12_wonWith_16 : z_Fit xX12_base xX12_wonWith := by unfold z_Fit; simp only [xX12_base, xX12_wonWith]; exact ⟨by decide, by decide⟩
noncomputable def kX12_wonWith_44 : zK zR := (q_push (-1) q_iret)
noncomputable def kX12_wonWith_36 : zK zR := (q_iload 3 q_iret)
noncomputable def kX12_wonWith_32 : zK ((zL × zS) ⊕ zR) := (q_iload 2 (q_icmp_ne (q_iinc 3 1 q_ag) (q_dn kX12_wonWith_36)))
noncomputable def bX12_wonWith_2 : zK ((zL × zS) ⊕ zR) := (q_iload 3 (q_aload 0 (q_callV 12 fX12_base 0 (q_icmp_ge (q_dn kX12_wonWith_44) (q_aload 0 (q_getR 12 65 (q_iload 1 (q_aload 0 (q_callV 12 fX12_base 0 (q_imul (q_iload 3 (q_iadd (q_iald (q_push 1 (q_icmp_ne (q_push 0 kX12_wonWith_32) (q_push 1 kX12_wonWith_32))))))))))))))))
noncomputable def kX12_wonWith_2 : zK zR := q_lp (bX12_wonWith_2)
noncomputable def kX12_wonWith_0 : zK zR := (q_push 0 (q_istore 3 kX12_wonWith_2))
set_option maxRecDepth 100000 in
theorem tX12_wonWith_44 {l : Launch} {D : zD} {B sz0 : Nat} {post : Option Value → zS → Prop} : zSnd l D B xX12_wonWith sz0 post 44 kX12_wonWith_44 (z_Jr post) := (s_iconst dX12_wonWith_44 (by decide) (s_iret dX12_wonWith_45 rfl))
set_option maxRecDepth 100000 in
theorem tX12_wonWith_36 {l : Launch} {D : zD} {B sz0 : Nat} {post : Option Value → zS → Prop} : zSnd l D B xX12_wonWith sz0 post 36 kX12_wonWith_36 (z_Jr post) := (s_iload_n dX12_wonWith_36 rfl (s_iret dX12_wonWith_37 rfl))
set_option maxRecDepth 100000 in
theorem tX12_wonWith_32 {l : Launch} {D : zD} {B sz0 : Nat} {post : Option Value → zS → Prop} : zSnd l D B xX12_wonWith sz0 post 32 kX12_wonWith_32 (z_Jl l D B xX12_wonWith sz0 post 2 (z_Jr post)) := (s_iload_n dX12_wonWith_32 rfl (s_icmp_ne (tgt := 38) dX12_wonWith_33 (by decide) (s_iinc dX12_wonWith_38 (by decide) (s_goto (tgt := 2) dX12_wonWith_41 (by decide) s_ag)) (s_dn tX12_wonWith_36)))
set_option maxRecDepth 100000 in
theorem tX12_wonWith_2 {l : Launch} {D : zD} {B sz0 : Nat} {post : Option Value → zS → Prop} : zSnd l D B xX12_wonWith sz0 post 2 kX12_wonWith_2 (z_Jr post) := s_lp (body := bX12_wonWith_2) (s_iload_n dX12_wonWith_2 rfl (s_aload_n dX12_wonWith_3 rfl (s_callV (r := (RX12, TX12, 74)) dX12_wonWith_4 mX12_base meX12_base wd1081 wd1082 rfl rfl reX12_base rmX12_wonWith (fitX12_wonWith_4) wd1083 (s_icmp_ge (tgt := 44) dX12_wonWith_7 (by decide) (s_dn tX12_wonWith_44) (s_aload_n dX12_wonWith_10 rfl (s_getR (f := 65) dX12_wonWith_11 clX12 (by decide) rfl wd939 (s_iload_n dX12_wonWith_14 rfl (s_aload_n dX12_wonWith_15 rfl (s_callV (r := (RX12, TX12, 74)) dX12_wonWith_16 mX12_base meX12_base wd1081 wd1082 rfl rfl reX12_base rmX12_wonWith (fitX12_wonWith_16) wd1083 (s_imul dX12_wonWith_19 (s_iload_n dX12_wonWith_20 rfl (s_iadd dX12_wonWith_21 (s_iald dX12_wonWith_22 (s_iconst dX12_wonWith_23 (by decide) (s_icmp_ne (tgt := 31) dX12_wonWith_24 (by decide) (s_iconst dX12_wonWith_31 (by decide) tX12_wonWith_32) (s_iconst dX12_wonWith_27 (by decide) (s_goto (tgt := 32) dX12_wonWith_28 (by decide) tX12_wonWith_32)))))))))))))))))
set_option maxRecDepth 100000 in
theorem tX12_wonWith_0 {l : Launch} {D : zD} {B sz0 : Nat} {post : Option Value → zS → Prop} : zSnd l D B xX12_wonWith sz0 post 0 kX12_wonWith_0 (z_Jr post) := (s_iconst dX12_wonWith_0 (by decide) (s_istore_n dX12_wonWith_1 rfl tX12_wonWith_2))
noncomputable def fX12_wonWith : zF := z_fn 4 kX12_wonWith_0
theorem mX12_wonWith {l : Launch} {D : zD} {B : Nat} : z_MF l D B yX12_wonWith xX12_wonWith fX12_wonWith := z_mf (by decide) rfl (fun h => by cases h) rfl (fun as σ r h => ⟨z_fn_len h, kX12_wonWith_0, z_fn_run h, fun _ => tX12_wonWith_0⟩)
/-! ===== RowChildrenModel.game ===== -/
theorem dX12_game_0 : decode cX12_game 0 = .ok (.aload_n 0, 1) := by decide +kernel
theorem dX12_game_1 : decode cX12_game 1 = .ok (.iload_n 1, 1) := by decide +kernel
theorem dX12_game_2 : decode cX12_game 2 = .ok (.invokevirtual 398, 3) := by decide +kernel
theorem dX12_game_5 : decode cX12_game 5 = .ok (.ifCond .eq 19, 3) := by decide +kernel
theorem dX12_game_8 : decode cX12_game 8 = .ok (.iload_n 2, 1) := by decide +kernel
theorem dX12_game_9 : decode cX12_game 9 = .ok (.invokestatic 442, 3) := by decide +kernel
theorem dX12_game_12 : decode cX12_game 12 = .ok (.ifCond .eq 12, 3) := by decide +kernel
theorem dX12_game_15 : decode cX12_game 15 = .ok (.iload_n 3, 1) := by decide +kernel
theorem dX12_game_16 : decode cX12_game 16 = .ok (.iconst 0, 1) := by decide +kernel
theorem dX12_game_17 : decode cX12_game 17 = .ok (.iconst 1, 1) := by decide +kernel
theorem dX12_game_18 : decode cX12_game 18 = .ok (.invokestatic 323, 3) := by decide +kernel
theorem dX12_game_21 : decode cX12_game 21 = .ok (.ifCond .ne 5, 3) := by decide +kernel
theorem dX12_game_24 : decode cX12_game 24 = .ok (.iconst (-1), 1) := by decide +kernel
theorem dX12_game_25 : decode cX12_game 25 = .ok (.ireturn, 1) := by decide +kernel
theorem dX12_game_26 : decode cX12_game 26 = .ok (.iconst 0, 1) := by decide +kernel
theorem dX12_game_27 : decode cX12_game 27 = .ok (.istore 4, 2) := by decide +kernel
theorem dX12_game_29 : decode cX12_game 29 = .ok (.iload 4, 2) := by decide +kernel
theorem dX12_game_31 : decode cX12_game 31 = .ok (.aload_n 0, 1) := by decide +kernel
theorem dX12_game_32 : decode cX12_game 32 = .ok (.iload_n 2, 1) := by decide +kernel
theorem dX12_game_33 : decode cX12_game 33 = .ok (.invokevirtual 445, 3) := by decide +kernel
theorem dX12_game_36 : decode cX12_game 36 = .ok (.if_icmp .ge 36, 3) := by decide +kernel
theorem dX12_game_39 : decode cX12_game 39 = .ok (.aload_n 0, 1) := by decide +kernel
theorem dX12_game_40 : decode cX12_game 40 = .ok (.iload 4, 2) := by decide +kernel
theorem dX12_game_42 : decode cX12_game 42 = .ok (.iload_n 2, 1) := by decide +kernel
theorem dX12_game_43 : decode cX12_game 43 = .ok (.invokevirtual 448, 3) := by decide +kernel
theorem dX12_game_46 : decode cX12_game 46 = .ok (.aload_n 0, 1) := by decide +kernel
theorem dX12_game_47 : decode cX12_game 47 = .ok (.getfield 144, 3) := by decide +kernel
theorem dX12_game_50 : decode cX12_game 50 = .ok (.iload 4, 2) := by decide +kernel
theorem dX12_game_52 : decode cX12_game 52 = .ok (.aload_n 0, 1) := by decide +kernel
theorem dX12_game_53 : decode cX12_game 53 = .ok (.invokevirtual 407, 3) := by decide +kernel
theorem dX12_game_56 : decode cX12_game 56 = .ok (.iload_n 1, 1) := by decide +kernel
theorem dX12_game_57 : decode cX12_game 57 = .ok (.if_icmp .ne 7, 3) := by decide +kernel
theorem dX12_game_60 : decode cX12_game 60 = .ok (.iconst 1, 1) := by decide +kernel
theorem dX12_game_61 : decode cX12_game 61 = .ok (.goto 4, 3) := by decide +kernel
theorem dX12_game_64 : decode cX12_game 64 = .ok (.iconst 0, 1) := by decide +kernel
theorem dX12_game_65 : decode cX12_game 65 = .ok (.iastore, 1) := by decide +kernel
theorem dX12_game_66 : decode cX12_game 66 = .ok (.iinc 4 1, 3) := by decide +kernel
theorem dX12_game_69 : decode cX12_game 69 = .ok (.goto (-40), 3) := by decide +kernel
theorem dX12_game_72 : decode cX12_game 72 = .ok (.iload_n 2, 1) := by decide +kernel
theorem dX12_game_73 : decode cX12_game 73 = .ok (.iconst 1, 1) := by decide +kernel
theorem dX12_game_74 : decode cX12_game 74 = .ok (.isub, 1) := by decide +kernel
theorem dX12_game_75 : decode cX12_game 75 = .ok (.istore 4, 2) := by decide +kernel
theorem dX12_game_77 : decode cX12_game 77 = .ok (.iload 4, 2) := by decide +kernel
theorem dX12_game_79 : decode cX12_game 79 = .ok (.ifCond .le 76, 3) := by decide +kernel
theorem dX12_game_82 : decode cX12_game 82 = .ok (.iload 4, 2) := by decide +kernel
theorem dX12_game_84 : decode cX12_game 84 = .ok (.iconst 2, 1) := by decide +kernel
theorem dX12_game_85 : decode cX12_game 85 = .ok (.irem, 1) := by decide +kernel
theorem dX12_game_86 : decode cX12_game 86 = .ok (.ifCond .ne 7, 3) := by decide +kernel
theorem dX12_game_89 : decode cX12_game 89 = .ok (.iconst 1, 1) := by decide +kernel
theorem dX12_game_90 : decode cX12_game 90 = .ok (.goto 4, 3) := by decide +kernel
theorem dX12_game_93 : decode cX12_game 93 = .ok (.iconst 0, 1) := by decide +kernel
theorem dX12_game_94 : decode cX12_game 94 = .ok (.istore 5, 2) := by decide +kernel
theorem dX12_game_96 : decode cX12_game 96 = .ok (.iconst 0, 1) := by decide +kernel
theorem dX12_game_97 : decode cX12_game 97 = .ok (.istore 6, 2) := by decide +kernel
theorem dX12_game_99 : decode cX12_game 99 = .ok (.iload 6, 2) := by decide +kernel
theorem dX12_game_101 : decode cX12_game 101 = .ok (.aload_n 0, 1) := by decide +kernel
theorem dX12_game_102 : decode cX12_game 102 = .ok (.iload 4, 2) := by decide +kernel
theorem dX12_game_104 : decode cX12_game 104 = .ok (.invokevirtual 445, 3) := by decide +kernel
theorem dX12_game_107 : decode cX12_game 107 = .ok (.if_icmp .ge 42, 3) := by decide +kernel
theorem dX12_game_110 : decode cX12_game 110 = .ok (.aload_n 0, 1) := by decide +kernel
theorem dX12_game_111 : decode cX12_game 111 = .ok (.getfield 144, 3) := by decide +kernel
theorem dX12_game_114 : decode cX12_game 114 = .ok (.iload 6, 2) := by decide +kernel
theorem dX12_game_116 : decode cX12_game 116 = .ok (.aload_n 0, 1) := by decide +kernel
theorem dX12_game_117 : decode cX12_game 117 = .ok (.iload 6, 2) := by decide +kernel
theorem dX12_game_119 : decode cX12_game 119 = .ok (.iload 5, 2) := by decide +kernel
theorem dX12_game_121 : decode cX12_game 121 = .ok (.invokevirtual 520, 3) := by decide +kernel
theorem dX12_game_124 : decode cX12_game 124 = .ok (.ifCond .lt 7, 3) := by decide +kernel
theorem dX12_game_127 : decode cX12_game 127 = .ok (.iconst 1, 1) := by decide +kernel
theorem dX12_game_128 : decode cX12_game 128 = .ok (.goto 4, 3) := by decide +kernel
theorem dX12_game_131 : decode cX12_game 131 = .ok (.iconst 0, 1) := by decide +kernel
theorem dX12_game_132 : decode cX12_game 132 = .ok (.iload 5, 2) := by decide +kernel
theorem dX12_game_134 : decode cX12_game 134 = .ok (.if_icmp .ne 7, 3) := by decide +kernel
theorem dX12_game_137 : decode cX12_game 137 = .ok (.iconst 1, 1) := by decide +kernel
theorem dX12_game_138 : decode cX12_game 138 = .ok (.goto 4, 3) := by decide +kernel
theorem dX12_game_141 : decode cX12_game 141 = .ok (.iconst 0, 1) := by decide +kernel
theorem dX12_game_142 : decode cX12_game 142 = .ok (.iastore, 1) := by decide +kernel
theorem dX12_game_143 : decode cX12_game 143 = .ok (.iinc 6 1, 3) := by decide +kernel
theorem dX12_game_146 : decode cX12_game 146 = .ok (.goto (-47), 3) := by decide +kernel
theorem dX12_game_149 : decode cX12_game 149 = .ok (.iinc 4 (-1), 3) := by decide +kernel
theorem dX12_game_152 : decode cX12_game 152 = .ok (.goto (-75), 3) := by decide +kernel
theorem dX12_game_155 : decode cX12_game 155 = .ok (.aload_n 0, 1) := by decide +kernel
theorem dX12_game_156 : decode cX12_game 156 = .ok (.iconst 0, 1) := by decide +kernel
theorem dX12_game_157 : decode cX12_game 157 = .ok (.iconst 1, 1) := by decide +kernel
theorem dX12_game_158 : decode cX12_game 158 = .ok (.invokevirtual 520, 3) := by decide +kernel
theorem dX12_game_161 : decode cX12_game 161 = .ok (.istore 4, 2) := by decide +kernel
theorem dX12_game_163 : decode cX12_game 163 = .ok (.iload_n 3, 1) := by decide +kernel
theorem dX12_game_164 : decode cX12_game 164 = .ok (.ifCond .ne 16, 3) := by decide +kernel
theorem dX12_game_167 : decode cX12_game 167 = .ok (.iload 4, 2) := by decide +kernel
theorem dX12_game_169 : decode cX12_game 169 = .ok (.ifCond .lt 7, 3) := by decide +kernel
theorem dX12_game_172 : decode cX12_game 172 = .ok (.iconst 1, 1) := by decide +kernel
theorem dX12_game_173 : decode cX12_game 173 = .ok (.goto 19, 3) := by decide +kernel
theorem dX12_game_176 : decode cX12_game 176 = .ok (.iconst 2, 1) := by decide +kernel
theorem dX12_game_177 : decode cX12_game 177 = .ok (.goto 15, 3) := by decide +kernel
theorem dX12_game_180 : decode cX12_game 180 = .ok (.iload 4, 2) := by decide +kernel
theorem dX12_game_182 : decode cX12_game 182 = .ok (.ifCond .lt 8, 3) := by decide +kernel
theorem dX12_game_185 : decode cX12_game 185 = .ok (.iload 4, 2) := by decide +kernel
theorem dX12_game_187 : decode cX12_game 187 = .ok (.goto 5, 3) := by decide +kernel
theorem dX12_game_190 : decode cX12_game 190 = .ok (.bipush (-2), 2) := by decide +kernel
theorem dX12_game_192 : decode cX12_game 192 = .ok (.ireturn, 1) := by decide +kernel
def xX12_game : zX := (RX12, cX12_game, 7, (some .int), false, { frames := 5, cells := 0, slots := 0, locals := 179 }, 0, 0, 0, 0)
theorem rmX12_game : z_Rm xX12_game := by unfold z_Rm xX12_game; exact ⟨by decide, by decide⟩
theorem reX12_game : z_Re xX12_game := ⟨rfl, rfl⟩
theorem rlX12_game : 1 ≤ xX12_game.2.2.2.2.2.1.frames ∧ 21 ≤ xX12_game.2.2.2.2.2.1.locals := by unfold xX12_game; exact ⟨by decide, by decide⟩
theorem meX12_game : z_Me yX12_game xX12_game 3 := ⟨wd1332, wd893, by decide, by decide, by decide +kernel⟩
theorem fitX12_game_2 : z_Fit xX12_isColour xX12_game := by unfold z_Fit; simp only [xX12_isColour, xX12_game]; exact ⟨by decide, by decide⟩
theorem fitX12_game_9 : z_Fit xX12_isLength xX12_game := by unfold z_Fit; simp only [xX12_isLength, xX12_game]; exact ⟨by decide, by decide⟩
theorem fitX12_game_18 : z_Fit xX12_in xX12_game := by unfold z_Fit; simp only [xX12_in, xX12_game]; exact ⟨by decide, by decide⟩
theorem fitX12_game_33 : z_Fit xX12_rowsOf xX12_game := by unfold z_Fit; simp only [xX12_rowsOf, xX12_game]; exact ⟨by decide, by decide⟩
theorem fitX12_game_158 : z_Fit xX12_wonWith xX12_game := by unfold z_Fit; simp only [xX12_wonWith, xX12_game]; exact ⟨by decide, by decide⟩
theorem fitX12_game_104 : z_Fit xX12_rowsOf xX12_game := by unfold z_Fit; simp only [xX12_rowsOf, xX12_game]; exact ⟨by decide, by decide⟩
theorem fitX12_game_121 : z_Fit xX12_wonWith xX12_game := by unfold z_Fit; simp only [xX12_wonWith, xX12_game]; exact ⟨by decide, by decide⟩
theorem fitX12_game_43 : z_Fit xX12_laysNumber xX12_game := by unfold z_Fit; simp only [xX12_laysNumber, xX12_game]; exact ⟨by decide, by decide⟩
theorem fitX12_game_53 : z_Fit xX12_lastLaid xX12_game := by unfold z_Fit; simp only [xX12_lastLaid, xX12_game]; exact ⟨by decide, by decide⟩
noncomputable def kX12_game_24 : zK zR := (q_push (-1) q_iret)
noncomputable def kX12_game_192 : zK zR := q_iret
noncomputable def kX12_game_155 : zK zR := (q_aload 0 (q_push 0 (q_push 1 (q_callV 12 fX12_wonWith 2 (q_istore 4 (q_iload 3 (q_if_ne (q_iload 4 (q_if_lt (q_push (-2) kX12_game_192) (q_iload 4 kX12_game_192))) (q_iload 4 (q_if_lt (q_push 2 kX12_game_192) (q_push 1 kX12_game_192))))))))))
noncomputable def kX12_game_149 : zK ((zL × zS) ⊕ zR) := (q_iinc 4 (-1) q_ag)
noncomputable def kX12_game_142 : zK ((zL × zS) ⊕ ((zL × zS) ⊕ zR)) := (q_iast (q_iinc 6 1 q_ag))
noncomputable def kX12_game_132 : zK ((zL × zS) ⊕ ((zL × zS) ⊕ zR)) := (q_iload 5 (q_icmp_ne (q_push 0 kX12_game_142) (q_push 1 kX12_game_142)))
noncomputable def bX12_game_99 : zK ((zL × zS) ⊕ ((zL × zS) ⊕ zR)) := (q_iload 6 (q_aload 0 (q_iload 4 (q_callV 12 fX12_rowsOf 1 (q_icmp_ge (q_dn kX12_game_149) (q_aload 0 (q_getR 12 65 (q_iload 6 (q_aload 0 (q_iload 6 (q_iload 5 (q_callV 12 fX12_wonWith 2 (q_if_lt (q_push 0 kX12_game_132) (q_push 1 kX12_game_132))))))))))))))
noncomputable def kX12_game_99 : zK ((zL × zS) ⊕ zR) := q_lp (bX12_game_99)
noncomputable def kX12_game_94 : zK ((zL × zS) ⊕ zR) := (q_istore 5 (q_push 0 (q_istore 6 kX12_game_99)))
noncomputable def bX12_game_77 : zK ((zL × zS) ⊕ zR) := (q_iload 4 (q_if_le (q_dn kX12_game_155) (q_iload 4 (q_push 2 (q_irem (q_if_ne (q_push 0 kX12_game_94) (q_push 1 kX12_game_94)))))))
noncomputable def kX12_game_77 : zK zR := q_lp (bX12_game_77)
noncomputable def kX12_game_72 : zK zR := (q_iload 2 (q_push 1 (q_isub (q_istore 4 kX12_game_77))))
noncomputable def kX12_game_65 : zK ((zL × zS) ⊕ zR) := (q_iast (q_iinc 4 1 q_ag))
noncomputable def bX12_game_29 : zK ((zL × zS) ⊕ zR) := (q_iload 4 (q_aload 0 (q_iload 2 (q_callV 12 fX12_rowsOf 1 (q_icmp_ge (q_dn kX12_game_72) (q_aload 0 (q_iload 4 (q_iload 2 (q_callV 12 fX12_laysNumber 2 (q_aload 0 (q_getR 12 65 (q_iload 4 (q_aload 0 (q_callV 12 fX12_lastLaid 0 (q_iload 1 (q_icmp_ne (q_push 0 kX12_game_65) (q_push 1 kX12_game_65)))))))))))))))))
noncomputable def kX12_game_29 : zK zR := q_lp (bX12_game_29)
noncomputable def kX12_game_0 : zK zR := (q_aload 0 (q_iload 1 (q_callV 12 fX12_isColour 1 (q_if_eq kX12_game_24 (q_iload 2 (q_callS fX12_isLength 1 (q_if_eq kX12_game_24 (q_iload 3 (q_push 0 (q_push 1 (q_callS fX12_in 3 (q_if_ne (q_push 0 (q_istore 4 kX12_game_29)) kX12_game_24))))))))))))
set_option maxRecDepth 100000 in
theorem tX12_game_24 {l : Launch} {D : zD} {B sz0 : Nat} {post : Option Value → zS → Prop} : zSnd l D B xX12_game sz0 post 24 kX12_game_24 (z_Jr post) := (s_iconst dX12_game_24 (by decide) (s_iret dX12_game_25 rfl))
set_option maxRecDepth 100000 in
theorem tX12_game_192 {l : Launch} {D : zD} {B sz0 : Nat} {post : Option Value → zS → Prop} : zSnd l D B xX12_game sz0 post 192 kX12_game_192 (z_Jr post) := (s_iret dX12_game_192 rfl)
set_option maxRecDepth 100000 in
theorem tX12_game_155 {l : Launch} {D : zD} {B sz0 : Nat} {post : Option Value → zS → Prop} : zSnd l D B xX12_game sz0 post 155 kX12_game_155 (z_Jr post) := (s_aload_n dX12_game_155 rfl (s_iconst dX12_game_156 (by decide) (s_iconst dX12_game_157 (by decide) (s_callV (r := (RX12, TX12, 74)) dX12_game_158 mX12_wonWith meX12_wonWith wd1329 wd1330 rfl rfl reX12_wonWith rmX12_game (fitX12_game_158) wd1331 (s_istore dX12_game_161 (s_iload_n dX12_game_163 rfl (s_if_ne (tgt := 180) dX12_game_164 (by decide) (s_iload dX12_game_180 (s_if_lt (tgt := 190) dX12_game_182 (by decide) (s_bipush dX12_game_190 (by decide) tX12_game_192) (s_iload dX12_game_185 (s_goto (tgt := 192) dX12_game_187 (by decide) tX12_game_192)))) (s_iload dX12_game_167 (s_if_lt (tgt := 176) dX12_game_169 (by decide) (s_iconst dX12_game_176 (by decide) (s_goto (tgt := 192) dX12_game_177 (by decide) tX12_game_192)) (s_iconst dX12_game_172 (by decide) (s_goto (tgt := 192) dX12_game_173 (by decide) tX12_game_192)))))))))))
set_option maxRecDepth 100000 in
theorem tX12_game_149 {l : Launch} {D : zD} {B sz0 : Nat} {post : Option Value → zS → Prop} : zSnd l D B xX12_game sz0 post 149 kX12_game_149 (z_Jl l D B xX12_game sz0 post 77 (z_Jr post)) := (s_iinc dX12_game_149 (by decide) (s_goto (tgt := 77) dX12_game_152 (by decide) s_ag))
set_option maxRecDepth 100000 in
theorem tX12_game_142 {l : Launch} {D : zD} {B sz0 : Nat} {post : Option Value → zS → Prop} : zSnd l D B xX12_game sz0 post 142 kX12_game_142 (z_Jl l D B xX12_game sz0 post 99 (z_Jl l D B xX12_game sz0 post 77 (z_Jr post))) := (s_iast dX12_game_142 (s_iinc dX12_game_143 (by decide) (s_goto (tgt := 99) dX12_game_146 (by decide) s_ag)))
set_option maxRecDepth 100000 in
theorem tX12_game_132 {l : Launch} {D : zD} {B sz0 : Nat} {post : Option Value → zS → Prop} : zSnd l D B xX12_game sz0 post 132 kX12_game_132 (z_Jl l D B xX12_game sz0 post 99 (z_Jl l D B xX12_game sz0 post 77 (z_Jr post))) := (s_iload dX12_game_132 (s_icmp_ne (tgt := 141) dX12_game_134 (by decide) (s_iconst dX12_game_141 (by decide) tX12_game_142) (s_iconst dX12_game_137 (by decide) (s_goto (tgt := 142) dX12_game_138 (by decide) tX12_game_142))))
set_option maxRecDepth 100000 in
theorem tX12_game_99 {l : Launch} {D : zD} {B sz0 : Nat} {post : Option Value → zS → Prop} : zSnd l D B xX12_game sz0 post 99 kX12_game_99 (z_Jl l D B xX12_game sz0 post 77 (z_Jr post)) := s_lp (body := bX12_game_99) (s_iload dX12_game_99 (s_aload_n dX12_game_101 rfl (s_iload dX12_game_102 (s_callV (r := (RX12, TX12, 74)) dX12_game_104 mX12_rowsOf meX12_rowsOf wd1233 wd1234 rfl rfl reX12_rowsOf rmX12_game (fitX12_game_104) wd1235 (s_icmp_ge (tgt := 149) dX12_game_107 (by decide) (s_dn tX12_game_149) (s_aload_n dX12_game_110 rfl (s_getR (f := 65) dX12_game_111 clX12 (by decide) rfl wd939 (s_iload dX12_game_114 (s_aload_n dX12_game_116 rfl (s_iload dX12_game_117 (s_iload dX12_game_119 (s_callV (r := (RX12, TX12, 74)) dX12_game_121 mX12_wonWith meX12_wonWith wd1329 wd1330 rfl rfl reX12_wonWith rmX12_game (fitX12_game_121) wd1331 (s_if_lt (tgt := 131) dX12_game_124 (by decide) (s_iconst dX12_game_131 (by decide) tX12_game_132) (s_iconst dX12_game_127 (by decide) (s_goto (tgt := 132) dX12_game_128 (by decide) tX12_game_132)))))))))))))))
set_option maxRecDepth 100000 in
theorem tX12_game_94 {l : Launch} {D : zD} {B sz0 : Nat} {post : Option Value → zS → Prop} : zSnd l D B xX12_game sz0 post 94 kX12_game_94 (z_Jl l D B xX12_game sz0 post 77 (z_Jr post)) := (s_istore dX12_game_94 (s_iconst dX12_game_96 (by decide) (s_istore dX12_game_97 tX12_game_99)))
set_option maxRecDepth 100000 in
theorem tX12_game_77 {l : Launch} {D : zD} {B sz0 : Nat} {post : Option Value → zS → Prop} : zSnd l D B xX12_game sz0 post 77 kX12_game_77 (z_Jr post) := s_lp (body := bX12_game_77) (s_iload dX12_game_77 (s_if_le (tgt := 155) dX12_game_79 (by decide) (s_dn tX12_game_155) (s_iload dX12_game_82 (s_iconst dX12_game_84 (by decide) (s_irem dX12_game_85 (s_if_ne (tgt := 93) dX12_game_86 (by decide) (s_iconst dX12_game_93 (by decide) tX12_game_94) (s_iconst dX12_game_89 (by decide) (s_goto (tgt := 94) dX12_game_90 (by decide) tX12_game_94))))))))
set_option maxRecDepth 100000 in
theorem tX12_game_72 {l : Launch} {D : zD} {B sz0 : Nat} {post : Option Value → zS → Prop} : zSnd l D B xX12_game sz0 post 72 kX12_game_72 (z_Jr post) := (s_iload_n dX12_game_72 rfl (s_iconst dX12_game_73 (by decide) (s_isub dX12_game_74 (s_istore dX12_game_75 tX12_game_77))))
set_option maxRecDepth 100000 in
theorem tX12_game_65 {l : Launch} {D : zD} {B sz0 : Nat} {post : Option Value → zS → Prop} : zSnd l D B xX12_game sz0 post 65 kX12_game_65 (z_Jl l D B xX12_game sz0 post 29 (z_Jr post)) := (s_iast dX12_game_65 (s_iinc dX12_game_66 (by decide) (s_goto (tgt := 29) dX12_game_69 (by decide) s_ag)))
set_option maxRecDepth 100000 in
theorem tX12_game_29 {l : Launch} {D : zD} {B sz0 : Nat} {post : Option Value → zS → Prop} : zSnd l D B xX12_game sz0 post 29 kX12_game_29 (z_Jr post) := s_lp (body := bX12_game_29) (s_iload dX12_game_29 (s_aload_n dX12_game_31 rfl (s_iload_n dX12_game_32 rfl (s_callV (r := (RX12, TX12, 74)) dX12_game_33 mX12_rowsOf meX12_rowsOf wd1233 wd1234 rfl rfl reX12_rowsOf rmX12_game (fitX12_game_33) wd1235 (s_icmp_ge (tgt := 72) dX12_game_36 (by decide) (s_dn tX12_game_72) (s_aload_n dX12_game_39 rfl (s_iload dX12_game_40 (s_iload_n dX12_game_42 rfl (s_callV (r := (RX12, TX12, 74)) dX12_game_43 mX12_laysNumber meX12_laysNumber wd1236 wd1237 rfl rfl reX12_laysNumber rmX12_game (fitX12_game_43) wd1238 (s_aload_n dX12_game_46 rfl (s_getR (f := 65) dX12_game_47 clX12 (by decide) rfl wd939 (s_iload dX12_game_50 (s_aload_n dX12_game_52 rfl (s_callV (r := (RX12, TX12, 74)) dX12_game_53 mX12_lastLaid meX12_lastLaid wd1184 wd1185 rfl rfl reX12_lastLaid rmX12_game (fitX12_game_53) wd1186 (s_iload_n dX12_game_56 rfl (s_icmp_ne (tgt := 64) dX12_game_57 (by decide) (s_iconst dX12_game_64 (by decide) tX12_game_65) (s_iconst dX12_game_60 (by decide) (s_goto (tgt := 65) dX12_game_61 (by decide) tX12_game_65))))))))))))))))))
set_option maxRecDepth 100000 in
theorem tX12_game_0 {l : Launch} {D : zD} {B sz0 : Nat} {post : Option Value → zS → Prop} : zSnd l D B xX12_game sz0 post 0 kX12_game_0 (z_Jr post) := (s_aload_n dX12_game_0 rfl (s_iload_n dX12_game_1 rfl (s_callV (r := (RX12, TX12, 74)) dX12_game_2 mX12_isColour meX12_isColour wd1174 wd1175 rfl rfl reX12_isColour rmX12_game (fitX12_game_2) wd1176 (s_if_eq (tgt := 24) dX12_game_5 (by decide) tX12_game_24 (s_iload_n dX12_game_8 rfl (s_callS dX12_game_9 mX12_isLength meX12_isLength wd1231 rfl reX12_isLength rmX12_game (fitX12_game_9) wd1232 (s_if_eq (tgt := 24) dX12_game_12 (by decide) tX12_game_24 (s_iload_n dX12_game_15 rfl (s_iconst dX12_game_16 (by decide) (s_iconst dX12_game_17 (by decide) (s_callS dX12_game_18 mX12_in meX12_in wd1078 rfl reX12_in rmX12_game (fitX12_game_18) wd1079 (s_if_ne (tgt := 26) dX12_game_21 (by decide) (s_iconst dX12_game_26 (by decide) (s_istore dX12_game_27 tX12_game_29)) tX12_game_24))))))))))))
noncomputable def fX12_game : zF := z_fn 7 kX12_game_0
theorem mX12_game {l : Launch} {D : zD} {B : Nat} : z_MF l D B yX12_game xX12_game fX12_game := z_mf (by decide) rfl (fun h => by cases h) rfl (fun as σ r h => ⟨z_fn_len h, kX12_game_0, z_fn_run h, fun _ => tX12_game_0⟩)
/-! ===== RowChildrenModel.then ===== -/
theorem dX12_then_0 : decode cX12_then 0 = .ok (.aload_n 0, 1) := by decide +kernel
theorem dX12_then_1 : decode cX12_then 1 = .ok (.iload_n 1, 1) := by decide +kernel
theorem dX12_then_2 : decode cX12_then 2 = .ok (.invokevirtual 330, 3) := by decide +kernel
theorem dX12_then_5 : decode cX12_then 5 = .ok (.ifCond .eq 20, 3) := by decide +kernel
theorem dX12_then_8 : decode cX12_then 8 = .ok (.iload_n 2, 1) := by decide +kernel
theorem dX12_then_9 : decode cX12_then 9 = .ok (.invokestatic 436, 3) := by decide +kernel
theorem dX12_then_12 : decode cX12_then 12 = .ok (.ifCond .eq 13, 3) := by decide +kernel
theorem dX12_then_15 : decode cX12_then 15 = .ok (.iload_n 3, 1) := by decide +kernel
theorem dX12_then_16 : decode cX12_then 16 = .ok (.iconst 0, 1) := by decide +kernel
theorem dX12_then_17 : decode cX12_then 17 = .ok (.bipush 7, 2) := by decide +kernel
theorem dX12_then_19 : decode cX12_then 19 = .ok (.invokestatic 323, 3) := by decide +kernel
theorem dX12_then_22 : decode cX12_then 22 = .ok (.ifCond .ne 5, 3) := by decide +kernel
theorem dX12_then_25 : decode cX12_then 25 = .ok (.iconst (-1), 1) := by decide +kernel
theorem dX12_then_26 : decode cX12_then 26 = .ok (.ireturn, 1) := by decide +kernel
theorem dX12_then_27 : decode cX12_then 27 = .ok (.aload_n 0, 1) := by decide +kernel
theorem dX12_then_28 : decode cX12_then 28 = .ok (.invokevirtual 401, 3) := by decide +kernel
theorem dX12_then_31 : decode cX12_then 31 = .ok (.aload_n 0, 1) := by decide +kernel
theorem dX12_then_32 : decode cX12_then 32 = .ok (.iload_n 2, 1) := by decide +kernel
theorem dX12_then_33 : decode cX12_then 33 = .ok (.invokevirtual 439, 3) := by decide +kernel
theorem dX12_then_36 : decode cX12_then 36 = .ok (.iload_n 3, 1) := by decide +kernel
theorem dX12_then_37 : decode cX12_then 37 = .ok (.aload_n 0, 1) := by decide +kernel
theorem dX12_then_38 : decode cX12_then 38 = .ok (.getfield 107, 3) := by decide +kernel
theorem dX12_then_41 : decode cX12_then 41 = .ok (.iload_n 1, 1) := by decide +kernel
theorem dX12_then_42 : decode cX12_then 42 = .ok (.iaload, 1) := by decide +kernel
theorem dX12_then_43 : decode cX12_then 43 = .ok (.if_icmp .ge 12, 3) := by decide +kernel
theorem dX12_then_46 : decode cX12_then 46 = .ok (.aload_n 0, 1) := by decide +kernel
theorem dX12_then_47 : decode cX12_then 47 = .ok (.iload_n 1, 1) := by decide +kernel
theorem dX12_then_48 : decode cX12_then 48 = .ok (.iload_n 3, 1) := by decide +kernel
theorem dX12_then_49 : decode cX12_then 49 = .ok (.invokevirtual 349, 3) := by decide +kernel
theorem dX12_then_52 : decode cX12_then 52 = .ok (.goto 5, 3) := by decide +kernel
theorem dX12_then_55 : decode cX12_then 55 = .ok (.bipush (-2), 2) := by decide +kernel
theorem dX12_then_57 : decode cX12_then 57 = .ok (.ireturn, 1) := by decide +kernel
def xX12_then : zX := (RX12, cX12_then, 4, (some .int), false, { frames := 8, cells := 0, slots := 0, locals := 248 }, 0, 0, 0, 0)
theorem rmX12_then : z_Rm xX12_then := by unfold z_Rm xX12_then; exact ⟨by decide, by decide⟩
theorem reX12_then : z_Re xX12_then := ⟨rfl, rfl⟩
theorem rlX12_then : 1 ≤ xX12_then.2.2.2.2.2.1.frames ∧ 21 ≤ xX12_then.2.2.2.2.2.1.locals := by unfold xX12_then; exact ⟨by decide, by decide⟩
theorem meX12_then : z_Me yX12_then xX12_then 3 := ⟨wd1333, wd893, by decide, by decide, by decide +kernel⟩
theorem fitX12_then_2 : z_Fit xX12_isRow xX12_then := by unfold z_Fit; simp only [xX12_isRow, xX12_then]; exact ⟨by decide, by decide⟩
theorem fitX12_then_9 : z_Fit xX12_isShort xX12_then := by unfold z_Fit; simp only [xX12_isShort, xX12_then]; exact ⟨by decide, by decide⟩
theorem fitX12_then_19 : z_Fit xX12_in xX12_then := by unfold z_Fit; simp only [xX12_in, xX12_then]; exact ⟨by decide, by decide⟩
theorem fitX12_then_28 : z_Fit xX12_copies xX12_then := by unfold z_Fit; simp only [xX12_copies, xX12_then]; exact ⟨by decide, by decide⟩
theorem fitX12_then_33 : z_Fit xX12_goes xX12_then := by unfold z_Fit; simp only [xX12_goes, xX12_then]; exact ⟨by decide, by decide⟩
theorem fitX12_then_49 : z_Fit xX12_seatAt xX12_then := by unfold z_Fit; simp only [xX12_seatAt, xX12_then]; exact ⟨by decide, by decide⟩
noncomputable def kX12_then_25 : zK zR := (q_push (-1) q_iret)
noncomputable def kX12_then_57 : zK zR := q_iret
noncomputable def kX12_then_0 : zK zR := (q_aload 0 (q_iload 1 (q_callV 12 fX12_isRow 1 (q_if_eq kX12_then_25 (q_iload 2 (q_callS fX12_isShort 1 (q_if_eq kX12_then_25 (q_iload 3 (q_push 0 (q_push 7 (q_callS fX12_in 3 (q_if_ne (q_aload 0 (q_callV 12 fX12_copies 0 (q_aload 0 (q_iload 2 (q_callV 12 fX12_goes 1 (q_iload 3 (q_aload 0 (q_getR 12 47 (q_iload 1 (q_iald (q_icmp_ge (q_push (-2) kX12_then_57) (q_aload 0 (q_iload 1 (q_iload 3 (q_callV 12 fX12_seatAt 2 kX12_then_57))))))))))))))) kX12_then_25))))))))))))
set_option maxRecDepth 100000 in
theorem tX12_then_25 {l : Launch} {D : zD} {B sz0 : Nat} {post : Option Value → zS → Prop} : zSnd l D B xX12_then sz0 post 25 kX12_then_25 (z_Jr post) := (s_iconst dX12_then_25 (by decide) (s_iret dX12_then_26 rfl))
set_option maxRecDepth 100000 in
theorem tX12_then_57 {l : Launch} {D : zD} {B sz0 : Nat} {post : Option Value → zS → Prop} : zSnd l D B xX12_then sz0 post 57 kX12_then_57 (z_Jr post) := (s_iret dX12_then_57 rfl)
set_option maxRecDepth 100000 in
theorem tX12_then_0 {l : Launch} {D : zD} {B sz0 : Nat} {post : Option Value → zS → Prop} : zSnd l D B xX12_then sz0 post 0 kX12_then_0 (z_Jr post) := (s_aload_n dX12_then_0 rfl (s_iload_n dX12_then_1 rfl (s_callV (r := (RX12, TX12, 74)) dX12_then_2 mX12_isRow meX12_isRow wd1087 wd1088 rfl rfl reX12_isRow rmX12_then (fitX12_then_2) wd1089 (s_if_eq (tgt := 25) dX12_then_5 (by decide) tX12_then_25 (s_iload_n dX12_then_8 rfl (s_callS dX12_then_9 mX12_isShort meX12_isShort wd1223 rfl reX12_isShort rmX12_then (fitX12_then_9) wd1224 (s_if_eq (tgt := 25) dX12_then_12 (by decide) tX12_then_25 (s_iload_n dX12_then_15 rfl (s_iconst dX12_then_16 (by decide) (s_bipush dX12_then_17 (by decide) (s_callS dX12_then_19 mX12_in meX12_in wd1078 rfl reX12_in rmX12_then (fitX12_then_19) wd1079 (s_if_ne (tgt := 27) dX12_then_22 (by decide) (s_aload_n dX12_then_27 rfl (s_callV (r := (RX12, TX12, 74)) dX12_then_28 mX12_copies meX12_copies wd1178 wd1179 rfl rfl reX12_copies rmX12_then (fitX12_then_28) wd1180 (s_aload_n dX12_then_31 rfl (s_iload_n dX12_then_32 rfl (s_callV (r := (RX12, TX12, 74)) dX12_then_33 mX12_goes meX12_goes wd1225 wd1226 rfl rfl reX12_goes rmX12_then (fitX12_then_33) wd1227 (s_iload_n dX12_then_36 rfl (s_aload_n dX12_then_37 rfl (s_getR (f := 47) dX12_then_38 clX12 (by decide) rfl wd901 (s_iload_n dX12_then_41 rfl (s_iald dX12_then_42 (s_icmp_ge (tgt := 55) dX12_then_43 (by decide) (s_bipush dX12_then_55 (by decide) tX12_then_57) (s_aload_n dX12_then_46 rfl (s_iload_n dX12_then_47 rfl (s_iload_n dX12_then_48 rfl (s_callV (r := (RX12, TX12, 74)) dX12_then_49 mX12_seatAt meX12_seatAt wd1109 wd1110 rfl rfl reX12_seatAt rmX12_then (fitX12_then_49) wd1111 (s_goto (tgt := 57) dX12_then_52 (by decide) tX12_then_57)))))))))))))))) tX12_then_25))))))))))))
noncomputable def fX12_then : zF := z_fn 4 kX12_then_0
theorem mX12_then {l : Launch} {D : zD} {B : Nat} : z_MF l D B yX12_then xX12_then fX12_then := z_mf (by decide) rfl (fun h => by cases h) rfl (fun as σ r h => ⟨z_fn_len h, kX12_then_0, z_fn_run h, fun _ => tX12_then_0⟩)
/-! ===== RowChildrenModel.paidIn ===== -/
theorem dX12_paidIn_0 : decode cX12_paidIn 0 = .ok (.iload_n 1, 1) := by decide +kernel
theorem dX12_paidIn_1 : decode cX12_paidIn 1 = .ok (.invokestatic 436, 3) := by decide +kernel
theorem dX12_paidIn_4 : decode cX12_paidIn 4 = .ok (.ifCond .ne 5, 3) := by decide +kernel
theorem dX12_paidIn_7 : decode cX12_paidIn 7 = .ok (.iconst (-1), 1) := by decide +kernel
theorem dX12_paidIn_8 : decode cX12_paidIn 8 = .ok (.ireturn, 1) := by decide +kernel
theorem dX12_paidIn_9 : decode cX12_paidIn 9 = .ok (.aload_n 0, 1) := by decide +kernel
theorem dX12_paidIn_10 : decode cX12_paidIn 10 = .ok (.invokevirtual 401, 3) := by decide +kernel
theorem dX12_paidIn_13 : decode cX12_paidIn 13 = .ok (.aload_n 0, 1) := by decide +kernel
theorem dX12_paidIn_14 : decode cX12_paidIn 14 = .ok (.iload_n 1, 1) := by decide +kernel
theorem dX12_paidIn_15 : decode cX12_paidIn 15 = .ok (.invokevirtual 439, 3) := by decide +kernel
theorem dX12_paidIn_18 : decode cX12_paidIn 18 = .ok (.aload_n 0, 1) := by decide +kernel
theorem dX12_paidIn_19 : decode cX12_paidIn 19 = .ok (.getfield 107, 3) := by decide +kernel
theorem dX12_paidIn_22 : decode cX12_paidIn 22 = .ok (.bipush 37, 2) := by decide +kernel
theorem dX12_paidIn_24 : decode cX12_paidIn 24 = .ok (.iaload, 1) := by decide +kernel
theorem dX12_paidIn_25 : decode cX12_paidIn 25 = .ok (.ireturn, 1) := by decide +kernel
def xX12_paidIn : zX := (RX12, cX12_paidIn, 2, (some .int), false, { frames := 8, cells := 0, slots := 0, locals := 248 }, 0, 0, 0, 0)
theorem rmX12_paidIn : z_Rm xX12_paidIn := by unfold z_Rm xX12_paidIn; exact ⟨by decide, by decide⟩
theorem reX12_paidIn : z_Re xX12_paidIn := ⟨rfl, rfl⟩
theorem rlX12_paidIn : 1 ≤ xX12_paidIn.2.2.2.2.2.1.frames ∧ 21 ≤ xX12_paidIn.2.2.2.2.2.1.locals := by unfold xX12_paidIn; exact ⟨by decide, by decide⟩
theorem meX12_paidIn : z_Me yX12_paidIn xX12_paidIn 1 := ⟨wd1334, wd893, by decide, by decide, by decide +kernel⟩
theorem fitX12_paidIn_1 : z_Fit xX12_isShort xX12_paidIn := by unfold z_Fit; simp only [xX12_isShort, xX12_paidIn]; exact ⟨by decide, by decide⟩
theorem fitX12_paidIn_10 : z_Fit xX12_copies xX12_paidIn := by unfold z_Fit; simp only [xX12_copies, xX12_paidIn]; exact ⟨by decide, by decide⟩
theorem fitX12_paidIn_15 : z_Fit xX12_goes xX12_paidIn := by unfold z_Fit; simp only [xX12_goes, xX12_paidIn]; exact ⟨by decide, by decide⟩
noncomputable def kX12_paidIn_0 : zK zR := (q_iload 1 (q_callS fX12_isShort 1 (q_if_ne (q_aload 0 (q_callV 12 fX12_copies 0 (q_aload 0 (q_iload 1 (q_callV 12 fX12_goes 1 (q_aload 0 (q_getR 12 47 (q_push 37 (q_iald q_iret))))))))) (q_push (-1) q_iret))))
set_option maxRecDepth 100000 in
theorem tX12_paidIn_0 {l : Launch} {D : zD} {B sz0 : Nat} {post : Option Value → zS → Prop} : zSnd l D B xX12_paidIn sz0 post 0 kX12_paidIn_0 (z_Jr post) := (s_iload_n dX12_paidIn_0 rfl (s_callS dX12_paidIn_1 mX12_isShort meX12_isShort wd1223 rfl reX12_isShort rmX12_paidIn (fitX12_paidIn_1) wd1224 (s_if_ne (tgt := 9) dX12_paidIn_4 (by decide) (s_aload_n dX12_paidIn_9 rfl (s_callV (r := (RX12, TX12, 74)) dX12_paidIn_10 mX12_copies meX12_copies wd1178 wd1179 rfl rfl reX12_copies rmX12_paidIn (fitX12_paidIn_10) wd1180 (s_aload_n dX12_paidIn_13 rfl (s_iload_n dX12_paidIn_14 rfl (s_callV (r := (RX12, TX12, 74)) dX12_paidIn_15 mX12_goes meX12_goes wd1225 wd1226 rfl rfl reX12_goes rmX12_paidIn (fitX12_paidIn_15) wd1227 (s_aload_n dX12_paidIn_18 rfl (s_getR (f := 47) dX12_paidIn_19 clX12 (by decide) rfl wd901 (s_bipush dX12_paidIn_22 (by decide) (s_iald dX12_paidIn_24 (s_iret dX12_paidIn_25 rfl)))))))))) (s_iconst dX12_paidIn_7 (by decide) (s_iret dX12_paidIn_8 rfl)))))
noncomputable def fX12_paidIn : zF := z_fn 2 kX12_paidIn_0
theorem mX12_paidIn {l : Launch} {D : zD} {B : Nat} : z_MF l D B yX12_paidIn xX12_paidIn fX12_paidIn := z_mf (by decide) rfl (fun h => by cases h) rfl (fun as σ r h => ⟨z_fn_len h, kX12_paidIn_0, z_fn_run h, fun _ => tX12_paidIn_0⟩)
/-! ===== RowChildrenModel.year ===== -/
theorem dX12_year_0 : decode cX12_year 0 = .ok (.aload_n 0, 1) := by decide +kernel
theorem dX12_year_1 : decode cX12_year 1 = .ok (.iload_n 1, 1) := by decide +kernel
theorem dX12_year_2 : decode cX12_year 2 = .ok (.invokevirtual 330, 3) := by decide +kernel
theorem dX12_year_5 : decode cX12_year 5 = .ok (.ifCond .eq 29, 3) := by decide +kernel
theorem dX12_year_8 : decode cX12_year 8 = .ok (.aload_n 0, 1) := by decide +kernel
theorem dX12_year_9 : decode cX12_year 9 = .ok (.iload_n 2, 1) := by decide +kernel
theorem dX12_year_10 : decode cX12_year 10 = .ok (.invokevirtual 398, 3) := by decide +kernel
theorem dX12_year_13 : decode cX12_year 13 = .ok (.ifCond .eq 21, 3) := by decide +kernel
theorem dX12_year_16 : decode cX12_year 16 = .ok (.iload_n 3, 1) := by decide +kernel
theorem dX12_year_17 : decode cX12_year 17 = .ok (.invokestatic 436, 3) := by decide +kernel
theorem dX12_year_20 : decode cX12_year 20 = .ok (.ifCond .eq 14, 3) := by decide +kernel
theorem dX12_year_23 : decode cX12_year 23 = .ok (.iload 4, 2) := by decide +kernel
theorem dX12_year_25 : decode cX12_year 25 = .ok (.iconst 1, 1) := by decide +kernel
theorem dX12_year_26 : decode cX12_year 26 = .ok (.bipush 20, 2) := by decide +kernel
theorem dX12_year_28 : decode cX12_year 28 = .ok (.invokestatic 323, 3) := by decide +kernel
theorem dX12_year_31 : decode cX12_year 31 = .ok (.ifCond .ne 5, 3) := by decide +kernel
theorem dX12_year_34 : decode cX12_year 34 = .ok (.iconst (-1), 1) := by decide +kernel
theorem dX12_year_35 : decode cX12_year 35 = .ok (.ireturn, 1) := by decide +kernel
theorem dX12_year_36 : decode cX12_year 36 = .ok (.iconst 0, 1) := by decide +kernel
theorem dX12_year_37 : decode cX12_year 37 = .ok (.istore 5, 2) := by decide +kernel
theorem dX12_year_39 : decode cX12_year 39 = .ok (.iconst 0, 1) := by decide +kernel
theorem dX12_year_40 : decode cX12_year 40 = .ok (.istore 6, 2) := by decide +kernel
theorem dX12_year_42 : decode cX12_year 42 = .ok (.iload 6, 2) := by decide +kernel
theorem dX12_year_44 : decode cX12_year 44 = .ok (.iload 4, 2) := by decide +kernel
theorem dX12_year_46 : decode cX12_year 46 = .ok (.if_icmp .ge 42, 3) := by decide +kernel
theorem dX12_year_49 : decode cX12_year 49 = .ok (.aload_n 0, 1) := by decide +kernel
theorem dX12_year_50 : decode cX12_year 50 = .ok (.invokevirtual 401, 3) := by decide +kernel
theorem dX12_year_53 : decode cX12_year 53 = .ok (.aload_n 0, 1) := by decide +kernel
theorem dX12_year_54 : decode cX12_year 54 = .ok (.dup, 1) := by decide +kernel
theorem dX12_year_55 : decode cX12_year 55 = .ok (.getfield 333, 3) := by decide +kernel
theorem dX12_year_58 : decode cX12_year 58 = .ok (.iload 6, 2) := by decide +kernel
theorem dX12_year_60 : decode cX12_year 60 = .ok (.iadd, 1) := by decide +kernel
theorem dX12_year_61 : decode cX12_year 61 = .ok (.putfield 333, 3) := by decide +kernel
theorem dX12_year_64 : decode cX12_year 64 = .ok (.aload_n 0, 1) := by decide +kernel
theorem dX12_year_65 : decode cX12_year 65 = .ok (.iload_n 3, 1) := by decide +kernel
theorem dX12_year_66 : decode cX12_year 66 = .ok (.invokevirtual 439, 3) := by decide +kernel
theorem dX12_year_69 : decode cX12_year 69 = .ok (.aload_n 0, 1) := by decide +kernel
theorem dX12_year_70 : decode cX12_year 70 = .ok (.iload_n 1, 1) := by decide +kernel
theorem dX12_year_71 : decode cX12_year 71 = .ok (.iconst 0, 1) := by decide +kernel
theorem dX12_year_72 : decode cX12_year 72 = .ok (.invokevirtual 349, 3) := by decide +kernel
theorem dX12_year_75 : decode cX12_year 75 = .ok (.iload_n 2, 1) := by decide +kernel
theorem dX12_year_76 : decode cX12_year 76 = .ok (.if_icmp .ne 6, 3) := by decide +kernel
theorem dX12_year_79 : decode cX12_year 79 = .ok (.iinc 5 1, 3) := by decide +kernel
theorem dX12_year_82 : decode cX12_year 82 = .ok (.iinc 6 1, 3) := by decide +kernel
theorem dX12_year_85 : decode cX12_year 85 = .ok (.goto (-43), 3) := by decide +kernel
theorem dX12_year_88 : decode cX12_year 88 = .ok (.iload 5, 2) := by decide +kernel
theorem dX12_year_90 : decode cX12_year 90 = .ok (.ireturn, 1) := by decide +kernel
def xX12_year : zX := (RX12, cX12_year, 7, (some .int), false, { frames := 8, cells := 0, slots := 0, locals := 248 }, 0, 0, 0, 0)
theorem rmX12_year : z_Rm xX12_year := by unfold z_Rm xX12_year; exact ⟨by decide, by decide⟩
theorem reX12_year : z_Re xX12_year := ⟨rfl, rfl⟩
theorem rlX12_year : 1 ≤ xX12_year.2.2.2.2.2.1.frames ∧ 21 ≤ xX12_year.2.2.2.2.2.1.locals := by unfold xX12_year; exact ⟨by decide, by decide⟩
theorem meX12_year : z_Me yX12_year xX12_year 4 := ⟨wd1335, wd893, by decide, by decide, by decide +kernel⟩
theorem fitX12_year_2 : z_Fit xX12_isRow xX12_year := by unfold z_Fit; simp only [xX12_isRow, xX12_year]; exact ⟨by decide, by decide⟩
theorem fitX12_year_10 : z_Fit xX12_isColour xX12_year := by unfold z_Fit; simp only [xX12_isColour, xX12_year]; exact ⟨by decide, by decide⟩
theorem fitX12_year_17 : z_Fit xX12_isShort xX12_year := by unfold z_Fit; simp only [xX12_isShort, xX12_year]; exact ⟨by decide, by decide⟩
theorem fitX12_year_28 : z_Fit xX12_in xX12_year := by unfold z_Fit; simp only [xX12_in, xX12_year]; exact ⟨by decide, by decide⟩
theorem fitX12_year_50 : z_Fit xX12_copies xX12_year := by unfold z_Fit; simp only [xX12_copies, xX12_year]; exact ⟨by decide, by decide⟩
theorem fitX12_year_66 : z_Fit xX12_goes xX12_year := by unfold z_Fit; simp only [xX12_goes, xX12_year]; exact ⟨by decide, by decide⟩
theorem fitX12_year_72 : z_Fit xX12_seatAt xX12_year := by unfold z_Fit; simp only [xX12_seatAt, xX12_year]; exact ⟨by decide, by decide⟩
noncomputable def kX12_year_34 : zK zR := (q_push (-1) q_iret)
noncomputable def kX12_year_88 : zK zR := (q_iload 5 q_iret)
noncomputable def kX12_year_82 : zK ((zL × zS) ⊕ zR) := (q_iinc 6 1 q_ag)
noncomputable def bX12_year_42 : zK ((zL × zS) ⊕ zR) := (q_iload 6 (q_iload 4 (q_icmp_ge (q_dn kX12_year_88) (q_aload 0 (q_callV 12 fX12_copies 0 (q_aload 0 (q_dup (q_getI 12 48 (q_iload 6 (q_iadd (q_putI 12 48 (q_aload 0 (q_iload 3 (q_callV 12 fX12_goes 1 (q_aload 0 (q_iload 1 (q_push 0 (q_callV 12 fX12_seatAt 2 (q_iload 2 (q_icmp_ne kX12_year_82 (q_iinc 5 1 kX12_year_82)))))))))))))))))))))
noncomputable def kX12_year_42 : zK zR := q_lp (bX12_year_42)
noncomputable def kX12_year_0 : zK zR := (q_aload 0 (q_iload 1 (q_callV 12 fX12_isRow 1 (q_if_eq kX12_year_34 (q_aload 0 (q_iload 2 (q_callV 12 fX12_isColour 1 (q_if_eq kX12_year_34 (q_iload 3 (q_callS fX12_isShort 1 (q_if_eq kX12_year_34 (q_iload 4 (q_push 1 (q_push 20 (q_callS fX12_in 3 (q_if_ne (q_push 0 (q_istore 5 (q_push 0 (q_istore 6 kX12_year_42)))) kX12_year_34))))))))))))))))
set_option maxRecDepth 100000 in
theorem tX12_year_34 {l : Launch} {D : zD} {B sz0 : Nat} {post : Option Value → zS → Prop} : zSnd l D B xX12_year sz0 post 34 kX12_year_34 (z_Jr post) := (s_iconst dX12_year_34 (by decide) (s_iret dX12_year_35 rfl))
set_option maxRecDepth 100000 in
theorem tX12_year_88 {l : Launch} {D : zD} {B sz0 : Nat} {post : Option Value → zS → Prop} : zSnd l D B xX12_year sz0 post 88 kX12_year_88 (z_Jr post) := (s_iload dX12_year_88 (s_iret dX12_year_90 rfl))
set_option maxRecDepth 100000 in
theorem tX12_year_82 {l : Launch} {D : zD} {B sz0 : Nat} {post : Option Value → zS → Prop} : zSnd l D B xX12_year sz0 post 82 kX12_year_82 (z_Jl l D B xX12_year sz0 post 42 (z_Jr post)) := (s_iinc dX12_year_82 (by decide) (s_goto (tgt := 42) dX12_year_85 (by decide) s_ag))
set_option maxRecDepth 100000 in
theorem tX12_year_42 {l : Launch} {D : zD} {B sz0 : Nat} {post : Option Value → zS → Prop} : zSnd l D B xX12_year sz0 post 42 kX12_year_42 (z_Jr post) := s_lp (body := bX12_year_42) (s_iload dX12_year_42 (s_iload dX12_year_44 (s_icmp_ge (tgt := 88) dX12_year_46 (by decide) (s_dn tX12_year_88) (s_aload_n dX12_year_49 rfl (s_callV (r := (RX12, TX12, 74)) dX12_year_50 mX12_copies meX12_copies wd1178 wd1179 rfl rfl reX12_copies rmX12_year (fitX12_year_50) wd1180 (s_aload_n dX12_year_53 rfl (s_dup dX12_year_54 (s_getI (f := 48) dX12_year_55 clX12 (by decide) rfl wd900 (s_iload dX12_year_58 (s_iadd dX12_year_60 (s_putI (f := 48) dX12_year_61 clX12 (by decide) rfl rfl rfl wd900 (s_aload_n dX12_year_64 rfl (s_iload_n dX12_year_65 rfl (s_callV (r := (RX12, TX12, 74)) dX12_year_66 mX12_goes meX12_goes wd1225 wd1226 rfl rfl reX12_goes rmX12_year (fitX12_year_66) wd1227 (s_aload_n dX12_year_69 rfl (s_iload_n dX12_year_70 rfl (s_iconst dX12_year_71 (by decide) (s_callV (r := (RX12, TX12, 74)) dX12_year_72 mX12_seatAt meX12_seatAt wd1109 wd1110 rfl rfl reX12_seatAt rmX12_year (fitX12_year_72) wd1111 (s_iload_n dX12_year_75 rfl (s_icmp_ne (tgt := 82) dX12_year_76 (by decide) tX12_year_82 (s_iinc dX12_year_79 (by decide) tX12_year_82)))))))))))))))))))))
set_option maxRecDepth 100000 in
theorem tX12_year_0 {l : Launch} {D : zD} {B sz0 : Nat} {post : Option Value → zS → Prop} : zSnd l D B xX12_year sz0 post 0 kX12_year_0 (z_Jr post) := (s_aload_n dX12_year_0 rfl (s_iload_n dX12_year_1 rfl (s_callV (r := (RX12, TX12, 74)) dX12_year_2 mX12_isRow meX12_isRow wd1087 wd1088 rfl rfl reX12_isRow rmX12_year (fitX12_year_2) wd1089 (s_if_eq (tgt := 34) dX12_year_5 (by decide) tX12_year_34 (s_aload_n dX12_year_8 rfl (s_iload_n dX12_year_9 rfl (s_callV (r := (RX12, TX12, 74)) dX12_year_10 mX12_isColour meX12_isColour wd1174 wd1175 rfl rfl reX12_isColour rmX12_year (fitX12_year_10) wd1176 (s_if_eq (tgt := 34) dX12_year_13 (by decide) tX12_year_34 (s_iload_n dX12_year_16 rfl (s_callS dX12_year_17 mX12_isShort meX12_isShort wd1223 rfl reX12_isShort rmX12_year (fitX12_year_17) wd1224 (s_if_eq (tgt := 34) dX12_year_20 (by decide) tX12_year_34 (s_iload dX12_year_23 (s_iconst dX12_year_25 (by decide) (s_bipush dX12_year_26 (by decide) (s_callS dX12_year_28 mX12_in meX12_in wd1078 rfl reX12_in rmX12_year (fitX12_year_28) wd1079 (s_if_ne (tgt := 36) dX12_year_31 (by decide) (s_iconst dX12_year_36 (by decide) (s_istore dX12_year_37 (s_iconst dX12_year_39 (by decide) (s_istore dX12_year_40 tX12_year_42)))) tX12_year_34))))))))))))))))
noncomputable def fX12_year : zF := z_fn 7 kX12_year_0
theorem mX12_year {l : Launch} {D : zD} {B : Nat} : z_MF l D B yX12_year xX12_year fX12_year := z_mf (by decide) rfl (fun h => by cases h) rfl (fun as σ r h => ⟨z_fn_len h, kX12_year_0, z_fn_run h, fun _ => tX12_year_0⟩)
/-! ===== RowChildrenModel.tell ===== -/
theorem dX12_tell_0 : decode cX12_tell 0 = .ok (.aload_n 0, 1) := by decide +kernel
theorem dX12_tell_1 : decode cX12_tell 1 = .ok (.getfield 274, 3) := by decide +kernel
theorem dX12_tell_4 : decode cX12_tell 4 = .ok (.bipush 20, 2) := by decide +kernel
theorem dX12_tell_6 : decode cX12_tell 6 = .ok (.if_icmp .eq 29, 3) := by decide +kernel
theorem dX12_tell_9 : decode cX12_tell 9 = .ok (.iload_n 1, 1) := by decide +kernel
theorem dX12_tell_10 : decode cX12_tell 10 = .ok (.iconst 0, 1) := by decide +kernel
theorem dX12_tell_11 : decode cX12_tell 11 = .ok (.iconst 5, 1) := by decide +kernel
theorem dX12_tell_12 : decode cX12_tell 12 = .ok (.invokestatic 323, 3) := by decide +kernel
theorem dX12_tell_15 : decode cX12_tell 15 = .ok (.ifCond .eq 20, 3) := by decide +kernel
theorem dX12_tell_18 : decode cX12_tell 18 = .ok (.iload_n 2, 1) := by decide +kernel
theorem dX12_tell_19 : decode cX12_tell 19 = .ok (.iconst 0, 1) := by decide +kernel
theorem dX12_tell_20 : decode cX12_tell 20 = .ok (.iconst 5, 1) := by decide +kernel
theorem dX12_tell_21 : decode cX12_tell 21 = .ok (.invokestatic 323, 3) := by decide +kernel
theorem dX12_tell_24 : decode cX12_tell 24 = .ok (.ifCond .eq 11, 3) := by decide +kernel
theorem dX12_tell_27 : decode cX12_tell 27 = .ok (.aload_n 0, 1) := by decide +kernel
theorem dX12_tell_28 : decode cX12_tell 28 = .ok (.iload_n 3, 1) := by decide +kernel
theorem dX12_tell_29 : decode cX12_tell 29 = .ok (.invokevirtual 398, 3) := by decide +kernel
theorem dX12_tell_32 : decode cX12_tell 32 = .ok (.ifCond .ne 5, 3) := by decide +kernel
theorem dX12_tell_35 : decode cX12_tell 35 = .ok (.iconst (-1), 1) := by decide +kernel
theorem dX12_tell_36 : decode cX12_tell 36 = .ok (.ireturn, 1) := by decide +kernel
theorem dX12_tell_37 : decode cX12_tell 37 = .ok (.aload_n 0, 1) := by decide +kernel
theorem dX12_tell_38 : decode cX12_tell 38 = .ok (.getfield 147, 3) := by decide +kernel
theorem dX12_tell_41 : decode cX12_tell 41 = .ok (.aload_n 0, 1) := by decide +kernel
theorem dX12_tell_42 : decode cX12_tell 42 = .ok (.getfield 274, 3) := by decide +kernel
theorem dX12_tell_45 : decode cX12_tell 45 = .ok (.iload_n 1, 1) := by decide +kernel
theorem dX12_tell_46 : decode cX12_tell 46 = .ok (.iastore, 1) := by decide +kernel
theorem dX12_tell_47 : decode cX12_tell 47 = .ok (.aload_n 0, 1) := by decide +kernel
theorem dX12_tell_48 : decode cX12_tell 48 = .ok (.getfield 150, 3) := by decide +kernel
theorem dX12_tell_51 : decode cX12_tell 51 = .ok (.aload_n 0, 1) := by decide +kernel
theorem dX12_tell_52 : decode cX12_tell 52 = .ok (.getfield 274, 3) := by decide +kernel
theorem dX12_tell_55 : decode cX12_tell 55 = .ok (.iload_n 2, 1) := by decide +kernel
theorem dX12_tell_56 : decode cX12_tell 56 = .ok (.iastore, 1) := by decide +kernel
theorem dX12_tell_57 : decode cX12_tell 57 = .ok (.aload_n 0, 1) := by decide +kernel
theorem dX12_tell_58 : decode cX12_tell 58 = .ok (.getfield 153, 3) := by decide +kernel
theorem dX12_tell_61 : decode cX12_tell 61 = .ok (.aload_n 0, 1) := by decide +kernel
theorem dX12_tell_62 : decode cX12_tell 62 = .ok (.getfield 274, 3) := by decide +kernel
theorem dX12_tell_65 : decode cX12_tell 65 = .ok (.iload_n 3, 1) := by decide +kernel
theorem dX12_tell_66 : decode cX12_tell 66 = .ok (.iastore, 1) := by decide +kernel
theorem dX12_tell_67 : decode cX12_tell 67 = .ok (.aload_n 0, 1) := by decide +kernel
theorem dX12_tell_68 : decode cX12_tell 68 = .ok (.getfield 156, 3) := by decide +kernel
theorem dX12_tell_71 : decode cX12_tell 71 = .ok (.aload_n 0, 1) := by decide +kernel
theorem dX12_tell_72 : decode cX12_tell 72 = .ok (.getfield 274, 3) := by decide +kernel
theorem dX12_tell_75 : decode cX12_tell 75 = .ok (.iload 4, 2) := by decide +kernel
theorem dX12_tell_77 : decode cX12_tell 77 = .ok (.bastore, 1) := by decide +kernel
theorem dX12_tell_78 : decode cX12_tell 78 = .ok (.aload_n 0, 1) := by decide +kernel
theorem dX12_tell_79 : decode cX12_tell 79 = .ok (.dup, 1) := by decide +kernel
theorem dX12_tell_80 : decode cX12_tell 80 = .ok (.getfield 274, 3) := by decide +kernel
theorem dX12_tell_83 : decode cX12_tell 83 = .ok (.iconst 1, 1) := by decide +kernel
theorem dX12_tell_84 : decode cX12_tell 84 = .ok (.iadd, 1) := by decide +kernel
theorem dX12_tell_85 : decode cX12_tell 85 = .ok (.putfield 274, 3) := by decide +kernel
theorem dX12_tell_88 : decode cX12_tell 88 = .ok (.aload_n 0, 1) := by decide +kernel
theorem dX12_tell_89 : decode cX12_tell 89 = .ok (.getfield 274, 3) := by decide +kernel
theorem dX12_tell_92 : decode cX12_tell 92 = .ok (.iconst 1, 1) := by decide +kernel
theorem dX12_tell_93 : decode cX12_tell 93 = .ok (.isub, 1) := by decide +kernel
theorem dX12_tell_94 : decode cX12_tell 94 = .ok (.ireturn, 1) := by decide +kernel
def xX12_tell : zX := (RX12, cX12_tell, 5, (some .int), false, { frames := 3, cells := 0, slots := 0, locals := 133 }, 0, 0, 0, 0)
theorem rmX12_tell : z_Rm xX12_tell := by unfold z_Rm xX12_tell; exact ⟨by decide, by decide⟩
theorem reX12_tell : z_Re xX12_tell := ⟨rfl, rfl⟩
theorem rlX12_tell : 1 ≤ xX12_tell.2.2.2.2.2.1.frames ∧ 21 ≤ xX12_tell.2.2.2.2.2.1.locals := by unfold xX12_tell; exact ⟨by decide, by decide⟩
theorem meX12_tell : z_Me yX12_tell xX12_tell 4 := ⟨wd1336, wd893, by decide, by decide, by decide +kernel⟩
theorem fitX12_tell_12 : z_Fit xX12_in xX12_tell := by unfold z_Fit; simp only [xX12_in, xX12_tell]; exact ⟨by decide, by decide⟩
theorem fitX12_tell_21 : z_Fit xX12_in xX12_tell := by unfold z_Fit; simp only [xX12_in, xX12_tell]; exact ⟨by decide, by decide⟩
theorem fitX12_tell_29 : z_Fit xX12_isColour xX12_tell := by unfold z_Fit; simp only [xX12_isColour, xX12_tell]; exact ⟨by decide, by decide⟩
noncomputable def kX12_tell_35 : zK zR := (q_push (-1) q_iret)
noncomputable def kX12_tell_0 : zK zR := (q_aload 0 (q_getI 12 66 (q_push 20 (q_icmp_eq kX12_tell_35 (q_iload 1 (q_push 0 (q_push 5 (q_callS fX12_in 3 (q_if_eq kX12_tell_35 (q_iload 2 (q_push 0 (q_push 5 (q_callS fX12_in 3 (q_if_eq kX12_tell_35 (q_aload 0 (q_iload 3 (q_callV 12 fX12_isColour 1 (q_if_ne (q_aload 0 (q_getR 12 67 (q_aload 0 (q_getI 12 66 (q_iload 1 (q_iast (q_aload 0 (q_getR 12 68 (q_aload 0 (q_getI 12 66 (q_iload 2 (q_iast (q_aload 0 (q_getR 12 69 (q_aload 0 (q_getI 12 66 (q_iload 3 (q_iast (q_aload 0 (q_getR 12 70 (q_aload 0 (q_getI 12 66 (q_iload 4 (q_zast (q_aload 0 (q_dup (q_getI 12 66 (q_push 1 (q_iadd (q_putI 12 66 (q_aload 0 (q_getI 12 66 (q_push 1 (q_isub q_iret)))))))))))))))))))))))))))))))))) kX12_tell_35))))))))))))))))))
set_option maxRecDepth 100000 in
theorem tX12_tell_35 {l : Launch} {D : zD} {B sz0 : Nat} {post : Option Value → zS → Prop} : zSnd l D B xX12_tell sz0 post 35 kX12_tell_35 (z_Jr post) := (s_iconst dX12_tell_35 (by decide) (s_iret dX12_tell_36 rfl))
set_option maxRecDepth 100000 in
theorem tX12_tell_0 {l : Launch} {D : zD} {B sz0 : Nat} {post : Option Value → zS → Prop} : zSnd l D B xX12_tell sz0 post 0 kX12_tell_0 (z_Jr post) := (s_aload_n dX12_tell_0 rfl (s_getI (f := 66) dX12_tell_1 clX12 (by decide) rfl wd1067 (s_bipush dX12_tell_4 (by decide) (s_icmp_eq (tgt := 35) dX12_tell_6 (by decide) tX12_tell_35 (s_iload_n dX12_tell_9 rfl (s_iconst dX12_tell_10 (by decide) (s_iconst dX12_tell_11 (by decide) (s_callS dX12_tell_12 mX12_in meX12_in wd1078 rfl reX12_in rmX12_tell (fitX12_tell_12) wd1079 (s_if_eq (tgt := 35) dX12_tell_15 (by decide) tX12_tell_35 (s_iload_n dX12_tell_18 rfl (s_iconst dX12_tell_19 (by decide) (s_iconst dX12_tell_20 (by decide) (s_callS dX12_tell_21 mX12_in meX12_in wd1078 rfl reX12_in rmX12_tell (fitX12_tell_21) wd1079 (s_if_eq (tgt := 35) dX12_tell_24 (by decide) tX12_tell_35 (s_aload_n dX12_tell_27 rfl (s_iload_n dX12_tell_28 rfl (s_callV (r := (RX12, TX12, 74)) dX12_tell_29 mX12_isColour meX12_isColour wd1174 wd1175 rfl rfl reX12_isColour rmX12_tell (fitX12_tell_29) wd1176 (s_if_ne (tgt := 37) dX12_tell_32 (by decide) (s_aload_n dX12_tell_37 rfl (s_getR (f := 67) dX12_tell_38 clX12 (by decide) rfl wd940 (s_aload_n dX12_tell_41 rfl (s_getI (f := 66) dX12_tell_42 clX12 (by decide) rfl wd1067 (s_iload_n dX12_tell_45 rfl (s_iast dX12_tell_46 (s_aload_n dX12_tell_47 rfl (s_getR (f := 68) dX12_tell_48 clX12 (by decide) rfl wd941 (s_aload_n dX12_tell_51 rfl (s_getI (f := 66) dX12_tell_52 clX12 (by decide) rfl wd1067 (s_iload_n dX12_tell_55 rfl (s_iast dX12_tell_56 (s_aload_n dX12_tell_57 rfl (s_getR (f := 69) dX12_tell_58 clX12 (by decide) rfl wd942 (s_aload_n dX12_tell_61 rfl (s_getI (f := 66) dX12_tell_62 clX12 (by decide) rfl wd1067 (s_iload_n dX12_tell_65 rfl (s_iast dX12_tell_66 (s_aload_n dX12_tell_67 rfl (s_getR (f := 70) dX12_tell_68 clX12 (by decide) rfl wd943 (s_aload_n dX12_tell_71 rfl (s_getI (f := 66) dX12_tell_72 clX12 (by decide) rfl wd1067 (s_iload dX12_tell_75 (s_zast dX12_tell_77 (s_aload_n dX12_tell_78 rfl (s_dup dX12_tell_79 (s_getI (f := 66) dX12_tell_80 clX12 (by decide) rfl wd1067 (s_iconst dX12_tell_83 (by decide) (s_iadd dX12_tell_84 (s_putI (f := 66) dX12_tell_85 clX12 (by decide) rfl rfl rfl wd1067 (s_aload_n dX12_tell_88 rfl (s_getI (f := 66) dX12_tell_89 clX12 (by decide) rfl wd1067 (s_iconst dX12_tell_92 (by decide) (s_isub dX12_tell_93 (s_iret dX12_tell_94 rfl))))))))))))))))))))))))))))))))))) tX12_tell_35))))))))))))))))))
noncomputable def fX12_tell : zF := z_fn 5 kX12_tell_0
theorem mX12_tell {l : Launch} {D : zD} {B : Nat} : z_MF l D B yX12_tell xX12_tell fX12_tell := z_mf (by decide) rfl (fun h => by cases h) rfl (fun as σ r h => ⟨z_fn_len h, kX12_tell_0, z_fn_run h, fun _ => tX12_tell_0⟩)
/-! ===== RowChildrenModel.forget ===== -/
theorem dX12_forget_0 : decode cX12_forget 0 = .ok (.aload_n 0, 1) := by decide +kernel
theorem dX12_forget_1 : decode cX12_forget 1 = .ok (.getfield 274, 3) := by decide +kernel
theorem dX12_forget_4 : decode cX12_forget 4 = .ok (.istore_n 1, 1) := by decide +kernel
theorem dX12_forget_5 : decode cX12_forget 5 = .ok (.aload_n 0, 1) := by decide +kernel
theorem dX12_forget_6 : decode cX12_forget 6 = .ok (.iconst 0, 1) := by decide +kernel
theorem dX12_forget_7 : decode cX12_forget 7 = .ok (.putfield 274, 3) := by decide +kernel
theorem dX12_forget_10 : decode cX12_forget 10 = .ok (.iload_n 1, 1) := by decide +kernel
theorem dX12_forget_11 : decode cX12_forget 11 = .ok (.ireturn, 1) := by decide +kernel
def xX12_forget : zX := (RX12, cX12_forget, 2, (some .int), false, { frames := 1, cells := 0, slots := 0, locals := 90 }, 0, 0, 0, 0)
theorem rmX12_forget : z_Rm xX12_forget := by unfold z_Rm xX12_forget; exact ⟨by decide, by decide⟩
theorem reX12_forget : z_Re xX12_forget := ⟨rfl, rfl⟩
theorem rlX12_forget : 1 ≤ xX12_forget.2.2.2.2.2.1.frames ∧ 21 ≤ xX12_forget.2.2.2.2.2.1.locals := by unfold xX12_forget; exact ⟨by decide, by decide⟩
theorem meX12_forget : z_Me yX12_forget xX12_forget 0 := ⟨wd1337, wd893, by decide, by decide, by decide +kernel⟩
noncomputable def kX12_forget_0 : zK zR := (q_aload 0 (q_getI 12 66 (q_istore 1 (q_aload 0 (q_push 0 (q_putI 12 66 (q_iload 1 q_iret)))))))
set_option maxRecDepth 100000 in
theorem tX12_forget_0 {l : Launch} {D : zD} {B sz0 : Nat} {post : Option Value → zS → Prop} : zSnd l D B xX12_forget sz0 post 0 kX12_forget_0 (z_Jr post) := (s_aload_n dX12_forget_0 rfl (s_getI (f := 66) dX12_forget_1 clX12 (by decide) rfl wd1067 (s_istore_n dX12_forget_4 rfl (s_aload_n dX12_forget_5 rfl (s_iconst dX12_forget_6 (by decide) (s_putI (f := 66) dX12_forget_7 clX12 (by decide) rfl rfl rfl wd1067 (s_iload_n dX12_forget_10 rfl (s_iret dX12_forget_11 rfl))))))))
noncomputable def fX12_forget : zF := z_fn 2 kX12_forget_0
theorem mX12_forget {l : Launch} {D : zD} {B : Nat} : z_MF l D B yX12_forget xX12_forget fX12_forget := z_mf (by decide) rfl (fun h => by cases h) rfl (fun as σ r h => ⟨z_fn_len h, kX12_forget_0, z_fn_run h, fun _ => tX12_forget_0⟩)
/-! ===== RowChildrenModel.doesFit ===== -/
theorem dX12_doesFit_0 : decode cX12_doesFit 0 = .ok (.aload_n 0, 1) := by decide +kernel
theorem dX12_doesFit_1 : decode cX12_doesFit 1 = .ok (.iload_n 1, 1) := by decide +kernel
theorem dX12_doesFit_2 : decode cX12_doesFit 2 = .ok (.iload_n 3, 1) := by decide +kernel
theorem dX12_doesFit_3 : decode cX12_doesFit 3 = .ok (.invokevirtual 448, 3) := by decide +kernel
theorem dX12_doesFit_6 : decode cX12_doesFit 6 = .ok (.iconst 0, 1) := by decide +kernel
theorem dX12_doesFit_7 : decode cX12_doesFit 7 = .ok (.istore 4, 2) := by decide +kernel
theorem dX12_doesFit_9 : decode cX12_doesFit 9 = .ok (.iload 4, 2) := by decide +kernel
theorem dX12_doesFit_11 : decode cX12_doesFit 11 = .ok (.iload_n 2, 1) := by decide +kernel
theorem dX12_doesFit_12 : decode cX12_doesFit 12 = .ok (.if_icmp .ge 77, 3) := by decide +kernel
theorem dX12_doesFit_15 : decode cX12_doesFit 15 = .ok (.aload_n 0, 1) := by decide +kernel
theorem dX12_doesFit_16 : decode cX12_doesFit 16 = .ok (.aload_n 0, 1) := by decide +kernel
theorem dX12_doesFit_17 : decode cX12_doesFit 17 = .ok (.getfield 147, 3) := by decide +kernel
theorem dX12_doesFit_20 : decode cX12_doesFit 20 = .ok (.iload 4, 2) := by decide +kernel
theorem dX12_doesFit_22 : decode cX12_doesFit 22 = .ok (.iaload, 1) := by decide +kernel
theorem dX12_doesFit_23 : decode cX12_doesFit 23 = .ok (.aload_n 0, 1) := by decide +kernel
theorem dX12_doesFit_24 : decode cX12_doesFit 24 = .ok (.getfield 150, 3) := by decide +kernel
theorem dX12_doesFit_27 : decode cX12_doesFit 27 = .ok (.iload 4, 2) := by decide +kernel
theorem dX12_doesFit_29 : decode cX12_doesFit 29 = .ok (.iaload, 1) := by decide +kernel
theorem dX12_doesFit_30 : decode cX12_doesFit 30 = .ok (.invokevirtual 420, 3) := by decide +kernel
theorem dX12_doesFit_33 : decode cX12_doesFit 33 = .ok (.ifCond .ne 5, 3) := by decide +kernel
theorem dX12_doesFit_36 : decode cX12_doesFit 36 = .ok (.iconst 0, 1) := by decide +kernel
theorem dX12_doesFit_37 : decode cX12_doesFit 37 = .ok (.ireturn, 1) := by decide +kernel
theorem dX12_doesFit_38 : decode cX12_doesFit 38 = .ok (.aload_n 0, 1) := by decide +kernel
theorem dX12_doesFit_39 : decode cX12_doesFit 39 = .ok (.aload_n 0, 1) := by decide +kernel
theorem dX12_doesFit_40 : decode cX12_doesFit 40 = .ok (.getfield 147, 3) := by decide +kernel
theorem dX12_doesFit_43 : decode cX12_doesFit 43 = .ok (.iload 4, 2) := by decide +kernel
theorem dX12_doesFit_45 : decode cX12_doesFit 45 = .ok (.iaload, 1) := by decide +kernel
theorem dX12_doesFit_46 : decode cX12_doesFit 46 = .ok (.aload_n 0, 1) := by decide +kernel
theorem dX12_doesFit_47 : decode cX12_doesFit 47 = .ok (.getfield 150, 3) := by decide +kernel
theorem dX12_doesFit_50 : decode cX12_doesFit 50 = .ok (.iload 4, 2) := by decide +kernel
theorem dX12_doesFit_52 : decode cX12_doesFit 52 = .ok (.iaload, 1) := by decide +kernel
theorem dX12_doesFit_53 : decode cX12_doesFit 53 = .ok (.invokevirtual 343, 3) := by decide +kernel
theorem dX12_doesFit_56 : decode cX12_doesFit 56 = .ok (.aload_n 0, 1) := by decide +kernel
theorem dX12_doesFit_57 : decode cX12_doesFit 57 = .ok (.getfield 153, 3) := by decide +kernel
theorem dX12_doesFit_60 : decode cX12_doesFit 60 = .ok (.iload 4, 2) := by decide +kernel
theorem dX12_doesFit_62 : decode cX12_doesFit 62 = .ok (.iaload, 1) := by decide +kernel
theorem dX12_doesFit_63 : decode cX12_doesFit 63 = .ok (.if_icmp .ne 7, 3) := by decide +kernel
theorem dX12_doesFit_66 : decode cX12_doesFit 66 = .ok (.iconst 1, 1) := by decide +kernel
theorem dX12_doesFit_67 : decode cX12_doesFit 67 = .ok (.goto 4, 3) := by decide +kernel
theorem dX12_doesFit_70 : decode cX12_doesFit 70 = .ok (.iconst 0, 1) := by decide +kernel
theorem dX12_doesFit_71 : decode cX12_doesFit 71 = .ok (.aload_n 0, 1) := by decide +kernel
theorem dX12_doesFit_72 : decode cX12_doesFit 72 = .ok (.getfield 156, 3) := by decide +kernel
theorem dX12_doesFit_75 : decode cX12_doesFit 75 = .ok (.iload 4, 2) := by decide +kernel
theorem dX12_doesFit_77 : decode cX12_doesFit 77 = .ok (.baload, 1) := by decide +kernel
theorem dX12_doesFit_78 : decode cX12_doesFit 78 = .ok (.if_icmp .eq 5, 3) := by decide +kernel
theorem dX12_doesFit_81 : decode cX12_doesFit 81 = .ok (.iconst 0, 1) := by decide +kernel
theorem dX12_doesFit_82 : decode cX12_doesFit 82 = .ok (.ireturn, 1) := by decide +kernel
theorem dX12_doesFit_83 : decode cX12_doesFit 83 = .ok (.iinc 4 1, 3) := by decide +kernel
theorem dX12_doesFit_86 : decode cX12_doesFit 86 = .ok (.goto (-77), 3) := by decide +kernel
theorem dX12_doesFit_89 : decode cX12_doesFit 89 = .ok (.iconst 1, 1) := by decide +kernel
theorem dX12_doesFit_90 : decode cX12_doesFit 90 = .ok (.ireturn, 1) := by decide +kernel
def xX12_doesFit : zX := (RX12, cX12_doesFit, 5, (some .boolean), false, { frames := 5, cells := 0, slots := 0, locals := 179 }, 0, 0, 0, 0)
theorem rmX12_doesFit : z_Rm xX12_doesFit := by unfold z_Rm xX12_doesFit; exact ⟨by decide, by decide⟩
theorem reX12_doesFit : z_Re xX12_doesFit := ⟨rfl, rfl⟩
theorem rlX12_doesFit : 1 ≤ xX12_doesFit.2.2.2.2.2.1.frames ∧ 21 ≤ xX12_doesFit.2.2.2.2.2.1.locals := by unfold xX12_doesFit; exact ⟨by decide, by decide⟩
theorem meX12_doesFit : z_Me yX12_doesFit xX12_doesFit 3 := ⟨wd1338, wd893, by decide, by decide, by decide +kernel⟩
theorem fitX12_doesFit_3 : z_Fit xX12_laysNumber xX12_doesFit := by unfold z_Fit; simp only [xX12_laysNumber, xX12_doesFit]; exact ⟨by decide, by decide⟩
theorem fitX12_doesFit_30 : z_Fit xX12_isInside xX12_doesFit := by unfold z_Fit; simp only [xX12_isInside, xX12_doesFit]; exact ⟨by decide, by decide⟩
theorem fitX12_doesFit_53 : z_Fit xX12_laidAt xX12_doesFit := by unfold z_Fit; simp only [xX12_laidAt, xX12_doesFit]; exact ⟨by decide, by decide⟩
noncomputable def kX12_doesFit_89 : zK zR := (q_push 1 q_zret)
noncomputable def kX12_doesFit_81 : zK zR := (q_push 0 q_zret)
noncomputable def kX12_doesFit_71 : zK ((zL × zS) ⊕ zR) := (q_aload 0 (q_getR 12 70 (q_iload 4 (q_zald (q_icmp_eq (q_iinc 4 1 q_ag) (q_dn kX12_doesFit_81))))))
noncomputable def kX12_doesFit_36 : zK zR := (q_push 0 q_zret)
noncomputable def bX12_doesFit_9 : zK ((zL × zS) ⊕ zR) := (q_iload 4 (q_iload 2 (q_icmp_ge (q_dn kX12_doesFit_89) (q_aload 0 (q_aload 0 (q_getR 12 67 (q_iload 4 (q_iald (q_aload 0 (q_getR 12 68 (q_iload 4 (q_iald (q_callV 12 fX12_isInside 2 (q_if_ne (q_aload 0 (q_aload 0 (q_getR 12 67 (q_iload 4 (q_iald (q_aload 0 (q_getR 12 68 (q_iload 4 (q_iald (q_callV 12 fX12_laidAt 2 (q_aload 0 (q_getR 12 69 (q_iload 4 (q_iald (q_icmp_ne (q_push 0 kX12_doesFit_71) (q_push 1 kX12_doesFit_71)))))))))))))))) (q_dn kX12_doesFit_36)))))))))))))))
noncomputable def kX12_doesFit_9 : zK zR := q_lp (bX12_doesFit_9)
noncomputable def kX12_doesFit_0 : zK zR := (q_aload 0 (q_iload 1 (q_iload 3 (q_callV 12 fX12_laysNumber 2 (q_push 0 (q_istore 4 kX12_doesFit_9))))))
set_option maxRecDepth 100000 in
theorem tX12_doesFit_89 {l : Launch} {D : zD} {B sz0 : Nat} {post : Option Value → zS → Prop} : zSnd l D B xX12_doesFit sz0 post 89 kX12_doesFit_89 (z_Jr post) := (s_iconst dX12_doesFit_89 (by decide) (s_zret dX12_doesFit_90 rfl))
set_option maxRecDepth 100000 in
theorem tX12_doesFit_81 {l : Launch} {D : zD} {B sz0 : Nat} {post : Option Value → zS → Prop} : zSnd l D B xX12_doesFit sz0 post 81 kX12_doesFit_81 (z_Jr post) := (s_iconst dX12_doesFit_81 (by decide) (s_zret dX12_doesFit_82 rfl))
set_option maxRecDepth 100000 in
theorem tX12_doesFit_71 {l : Launch} {D : zD} {B sz0 : Nat} {post : Option Value → zS → Prop} : zSnd l D B xX12_doesFit sz0 post 71 kX12_doesFit_71 (z_Jl l D B xX12_doesFit sz0 post 9 (z_Jr post)) := (s_aload_n dX12_doesFit_71 rfl (s_getR (f := 70) dX12_doesFit_72 clX12 (by decide) rfl wd943 (s_iload dX12_doesFit_75 (s_zald dX12_doesFit_77 (s_icmp_eq (tgt := 83) dX12_doesFit_78 (by decide) (s_iinc dX12_doesFit_83 (by decide) (s_goto (tgt := 9) dX12_doesFit_86 (by decide) s_ag)) (s_dn tX12_doesFit_81))))))
set_option maxRecDepth 100000 in
theorem tX12_doesFit_36 {l : Launch} {D : zD} {B sz0 : Nat} {post : Option Value → zS → Prop} : zSnd l D B xX12_doesFit sz0 post 36 kX12_doesFit_36 (z_Jr post) := (s_iconst dX12_doesFit_36 (by decide) (s_zret dX12_doesFit_37 rfl))
set_option maxRecDepth 100000 in
theorem tX12_doesFit_9 {l : Launch} {D : zD} {B sz0 : Nat} {post : Option Value → zS → Prop} : zSnd l D B xX12_doesFit sz0 post 9 kX12_doesFit_9 (z_Jr post) := s_lp (body := bX12_doesFit_9) (s_iload dX12_doesFit_9 (s_iload_n dX12_doesFit_11 rfl (s_icmp_ge (tgt := 89) dX12_doesFit_12 (by decide) (s_dn tX12_doesFit_89) (s_aload_n dX12_doesFit_15 rfl (s_aload_n dX12_doesFit_16 rfl (s_getR (f := 67) dX12_doesFit_17 clX12 (by decide) rfl wd940 (s_iload dX12_doesFit_20 (s_iald dX12_doesFit_22 (s_aload_n dX12_doesFit_23 rfl (s_getR (f := 68) dX12_doesFit_24 clX12 (by decide) rfl wd941 (s_iload dX12_doesFit_27 (s_iald dX12_doesFit_29 (s_callV (r := (RX12, TX12, 74)) dX12_doesFit_30 mX12_isInside meX12_isInside wd1197 wd1198 rfl rfl reX12_isInside rmX12_doesFit (fitX12_doesFit_30) wd1199 (s_if_ne (tgt := 38) dX12_doesFit_33 (by decide) (s_aload_n dX12_doesFit_38 rfl (s_aload_n dX12_doesFit_39 rfl (s_getR (f := 67) dX12_doesFit_40 clX12 (by decide) rfl wd940 (s_iload dX12_doesFit_43 (s_iald dX12_doesFit_45 (s_aload_n dX12_doesFit_46 rfl (s_getR (f := 68) dX12_doesFit_47 clX12 (by decide) rfl wd941 (s_iload dX12_doesFit_50 (s_iald dX12_doesFit_52 (s_callV (r := (RX12, TX12, 74)) dX12_doesFit_53 mX12_laidAt meX12_laidAt wd1099 wd1100 rfl rfl reX12_laidAt rmX12_doesFit (fitX12_doesFit_53) wd1101 (s_aload_n dX12_doesFit_56 rfl (s_getR (f := 69) dX12_doesFit_57 clX12 (by decide) rfl wd942 (s_iload dX12_doesFit_60 (s_iald dX12_doesFit_62 (s_icmp_ne (tgt := 70) dX12_doesFit_63 (by decide) (s_iconst dX12_doesFit_70 (by decide) tX12_doesFit_71) (s_iconst dX12_doesFit_66 (by decide) (s_goto (tgt := 71) dX12_doesFit_67 (by decide) tX12_doesFit_71))))))))))))))))) (s_dn tX12_doesFit_36)))))))))))))))
set_option maxRecDepth 100000 in
theorem tX12_doesFit_0 {l : Launch} {D : zD} {B sz0 : Nat} {post : Option Value → zS → Prop} : zSnd l D B xX12_doesFit sz0 post 0 kX12_doesFit_0 (z_Jr post) := (s_aload_n dX12_doesFit_0 rfl (s_iload_n dX12_doesFit_1 rfl (s_iload_n dX12_doesFit_2 rfl (s_callV (r := (RX12, TX12, 74)) dX12_doesFit_3 mX12_laysNumber meX12_laysNumber wd1236 wd1237 rfl rfl reX12_laysNumber rmX12_doesFit (fitX12_doesFit_3) wd1238 (s_iconst dX12_doesFit_6 (by decide) (s_istore dX12_doesFit_7 tX12_doesFit_9))))))
noncomputable def fX12_doesFit : zF := z_fn 5 kX12_doesFit_0
theorem mX12_doesFit {l : Launch} {D : zD} {B : Nat} : z_MF l D B yX12_doesFit xX12_doesFit fX12_doesFit := z_mf (by decide) rfl (fun h => by cases h) rfl (fun as σ r h => ⟨z_fn_len h, kX12_doesFit_0, z_fn_run h, fun _ => tX12_doesFit_0⟩)
