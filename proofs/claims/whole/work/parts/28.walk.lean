/-! ===== RowChildrenModel.isAsked ===== -/
theorem dX12_isAsked_0 : decode cX12_isAsked 0 = .ok (.iload_n 1, 1) := by decide +kernel
theorem dX12_isAsked_1 : decode cX12_isAsked 1 = .ok (.iconst 0, 1) := by decide +kernel
theorem dX12_isAsked_2 : decode cX12_isAsked 2 = .ok (.aload_n 0, 1) := by decide +kernel
theorem dX12_isAsked_3 : decode cX12_isAsked 3 = .ok (.getfield 274, 3) := by decide +kernel
theorem dX12_isAsked_6 : decode cX12_isAsked 6 = .ok (.invokestatic 323, 3) := by decide +kernel
theorem dX12_isAsked_9 : decode cX12_isAsked 9 = .ok (.ifCond .eq 17, 3) := by decide +kernel
theorem dX12_isAsked_12 : decode cX12_isAsked 12 = .ok (.iload_n 2, 1) := by decide +kernel
theorem dX12_isAsked_13 : decode cX12_isAsked 13 = .ok (.iconst 1, 1) := by decide +kernel
theorem dX12_isAsked_14 : decode cX12_isAsked 14 = .ok (.bipush 6, 2) := by decide +kernel
theorem dX12_isAsked_16 : decode cX12_isAsked 16 = .ok (.invokestatic 323, 3) := by decide +kernel
theorem dX12_isAsked_19 : decode cX12_isAsked 19 = .ok (.ifCond .eq 7, 3) := by decide +kernel
theorem dX12_isAsked_22 : decode cX12_isAsked 22 = .ok (.iconst 1, 1) := by decide +kernel
theorem dX12_isAsked_23 : decode cX12_isAsked 23 = .ok (.goto 4, 3) := by decide +kernel
theorem dX12_isAsked_26 : decode cX12_isAsked 26 = .ok (.iconst 0, 1) := by decide +kernel
theorem dX12_isAsked_27 : decode cX12_isAsked 27 = .ok (.ireturn, 1) := by decide +kernel
def xX12_isAsked : zX := (RX12, cX12_isAsked, 3, (some .boolean), false, { frames := 2, cells := 0, slots := 0, locals := 112 }, 0, 0, 0, 0)
theorem rmX12_isAsked : z_Rm xX12_isAsked := by unfold z_Rm xX12_isAsked; exact ⟨by decide, by decide⟩
theorem reX12_isAsked : z_Re xX12_isAsked := ⟨rfl, rfl⟩
theorem rlX12_isAsked : 1 ≤ xX12_isAsked.2.2.2.2.2.1.frames ∧ 21 ≤ xX12_isAsked.2.2.2.2.2.1.locals := by unfold xX12_isAsked; exact ⟨by decide, by decide⟩
theorem meX12_isAsked : z_Me yX12_isAsked xX12_isAsked 2 := ⟨wd1339, wd893, by decide, by decide, by decide +kernel⟩
theorem fitX12_isAsked_6 : z_Fit xX12_in xX12_isAsked := by unfold z_Fit; simp only [xX12_in, xX12_isAsked]; exact ⟨by decide, by decide⟩
theorem fitX12_isAsked_16 : z_Fit xX12_in xX12_isAsked := by unfold z_Fit; simp only [xX12_in, xX12_isAsked]; exact ⟨by decide, by decide⟩
noncomputable def kX12_isAsked_27 : zK zR := q_zret
noncomputable def kX12_isAsked_26 : zK zR := (q_push 0 kX12_isAsked_27)
noncomputable def kX12_isAsked_0 : zK zR := (q_iload 1 (q_push 0 (q_aload 0 (q_getI 12 66 (q_callS fX12_in 3 (q_if_eq kX12_isAsked_26 (q_iload 2 (q_push 1 (q_push 6 (q_callS fX12_in 3 (q_if_eq kX12_isAsked_26 (q_push 1 kX12_isAsked_27))))))))))))
set_option maxRecDepth 100000 in
theorem tX12_isAsked_27 {l : Launch} {D : zD} {B sz0 : Nat} {post : Option Value → zS → Prop} : zSnd l D B xX12_isAsked sz0 post 27 kX12_isAsked_27 (z_Jr post) := (s_zret dX12_isAsked_27 rfl)
set_option maxRecDepth 100000 in
theorem tX12_isAsked_26 {l : Launch} {D : zD} {B sz0 : Nat} {post : Option Value → zS → Prop} : zSnd l D B xX12_isAsked sz0 post 26 kX12_isAsked_26 (z_Jr post) := (s_iconst dX12_isAsked_26 (by decide) tX12_isAsked_27)
set_option maxRecDepth 100000 in
theorem tX12_isAsked_0 {l : Launch} {D : zD} {B sz0 : Nat} {post : Option Value → zS → Prop} : zSnd l D B xX12_isAsked sz0 post 0 kX12_isAsked_0 (z_Jr post) := (s_iload_n dX12_isAsked_0 rfl (s_iconst dX12_isAsked_1 (by decide) (s_aload_n dX12_isAsked_2 rfl (s_getI (f := 66) dX12_isAsked_3 clX12 (by decide) rfl wd1067 (s_callS dX12_isAsked_6 mX12_in meX12_in wd1078 rfl reX12_in rmX12_isAsked (fitX12_isAsked_6) wd1079 (s_if_eq (tgt := 26) dX12_isAsked_9 (by decide) tX12_isAsked_26 (s_iload_n dX12_isAsked_12 rfl (s_iconst dX12_isAsked_13 (by decide) (s_bipush dX12_isAsked_14 (by decide) (s_callS dX12_isAsked_16 mX12_in meX12_in wd1078 rfl reX12_in rmX12_isAsked (fitX12_isAsked_16) wd1079 (s_if_eq (tgt := 26) dX12_isAsked_19 (by decide) tX12_isAsked_26 (s_iconst dX12_isAsked_22 (by decide) (s_goto (tgt := 27) dX12_isAsked_23 (by decide) tX12_isAsked_27)))))))))))))
noncomputable def fX12_isAsked : zF := z_fn 3 kX12_isAsked_0
theorem mX12_isAsked {l : Launch} {D : zD} {B : Nat} : z_MF l D B yX12_isAsked xX12_isAsked fX12_isAsked := z_mf (by decide) rfl (fun h => by cases h) rfl (fun as σ r h => ⟨z_fn_len h, kX12_isAsked_0, z_fn_run h, fun _ => tX12_isAsked_0⟩)
/-! ===== RowChildrenModel.rows ===== -/
theorem dX12_rows_0 : decode cX12_rows 0 = .ok (.aload_n 0, 1) := by decide +kernel
theorem dX12_rows_1 : decode cX12_rows 1 = .ok (.iload_n 1, 1) := by decide +kernel
theorem dX12_rows_2 : decode cX12_rows 2 = .ok (.iload_n 2, 1) := by decide +kernel
theorem dX12_rows_3 : decode cX12_rows 3 = .ok (.invokevirtual 524, 3) := by decide +kernel
theorem dX12_rows_6 : decode cX12_rows 6 = .ok (.ifCond .eq 12, 3) := by decide +kernel
theorem dX12_rows_9 : decode cX12_rows 9 = .ok (.iload_n 3, 1) := by decide +kernel
theorem dX12_rows_10 : decode cX12_rows 10 = .ok (.iconst 0, 1) := by decide +kernel
theorem dX12_rows_11 : decode cX12_rows 11 = .ok (.iconst 1, 1) := by decide +kernel
theorem dX12_rows_12 : decode cX12_rows 12 = .ok (.invokestatic 323, 3) := by decide +kernel
theorem dX12_rows_15 : decode cX12_rows 15 = .ok (.ifCond .ne 5, 3) := by decide +kernel
theorem dX12_rows_18 : decode cX12_rows 18 = .ok (.iconst (-1), 1) := by decide +kernel
theorem dX12_rows_19 : decode cX12_rows 19 = .ok (.ireturn, 1) := by decide +kernel
theorem dX12_rows_20 : decode cX12_rows 20 = .ok (.iconst 0, 1) := by decide +kernel
theorem dX12_rows_21 : decode cX12_rows 21 = .ok (.istore 4, 2) := by decide +kernel
theorem dX12_rows_23 : decode cX12_rows 23 = .ok (.bipush (-2), 2) := by decide +kernel
theorem dX12_rows_25 : decode cX12_rows 25 = .ok (.istore 5, 2) := by decide +kernel
theorem dX12_rows_27 : decode cX12_rows 27 = .ok (.aload_n 0, 1) := by decide +kernel
theorem dX12_rows_28 : decode cX12_rows 28 = .ok (.iload_n 2, 1) := by decide +kernel
theorem dX12_rows_29 : decode cX12_rows 29 = .ok (.invokevirtual 445, 3) := by decide +kernel
theorem dX12_rows_32 : decode cX12_rows 32 = .ok (.iconst 1, 1) := by decide +kernel
theorem dX12_rows_33 : decode cX12_rows 33 = .ok (.isub, 1) := by decide +kernel
theorem dX12_rows_34 : decode cX12_rows 34 = .ok (.istore 6, 2) := by decide +kernel
theorem dX12_rows_36 : decode cX12_rows 36 = .ok (.iload 6, 2) := by decide +kernel
theorem dX12_rows_38 : decode cX12_rows 38 = .ok (.ifCond .lt 30, 3) := by decide +kernel
theorem dX12_rows_41 : decode cX12_rows 41 = .ok (.aload_n 0, 1) := by decide +kernel
theorem dX12_rows_42 : decode cX12_rows 42 = .ok (.iload 6, 2) := by decide +kernel
theorem dX12_rows_44 : decode cX12_rows 44 = .ok (.iload_n 1, 1) := by decide +kernel
theorem dX12_rows_45 : decode cX12_rows 45 = .ok (.iload_n 2, 1) := by decide +kernel
theorem dX12_rows_46 : decode cX12_rows 46 = .ok (.invokevirtual 527, 3) := by decide +kernel
theorem dX12_rows_49 : decode cX12_rows 49 = .ok (.ifCond .ne 6, 3) := by decide +kernel
theorem dX12_rows_52 : decode cX12_rows 52 = .ok (.goto 10, 3) := by decide +kernel
theorem dX12_rows_55 : decode cX12_rows 55 = .ok (.iinc 4 1, 3) := by decide +kernel
theorem dX12_rows_58 : decode cX12_rows 58 = .ok (.iload 6, 2) := by decide +kernel
theorem dX12_rows_60 : decode cX12_rows 60 = .ok (.istore 5, 2) := by decide +kernel
theorem dX12_rows_62 : decode cX12_rows 62 = .ok (.iinc 6 (-1), 3) := by decide +kernel
theorem dX12_rows_65 : decode cX12_rows 65 = .ok (.goto (-29), 3) := by decide +kernel
theorem dX12_rows_68 : decode cX12_rows 68 = .ok (.iload_n 3, 1) := by decide +kernel
theorem dX12_rows_69 : decode cX12_rows 69 = .ok (.ifCond .ne 8, 3) := by decide +kernel
theorem dX12_rows_72 : decode cX12_rows 72 = .ok (.iload 4, 2) := by decide +kernel
theorem dX12_rows_74 : decode cX12_rows 74 = .ok (.goto 5, 3) := by decide +kernel
theorem dX12_rows_77 : decode cX12_rows 77 = .ok (.iload 5, 2) := by decide +kernel
theorem dX12_rows_79 : decode cX12_rows 79 = .ok (.ireturn, 1) := by decide +kernel
def xX12_rows : zX := (RX12, cX12_rows, 7, (some .int), false, { frames := 6, cells := 0, slots := 0, locals := 203 }, 0, 0, 0, 0)
theorem rmX12_rows : z_Rm xX12_rows := by unfold z_Rm xX12_rows; exact ⟨by decide, by decide⟩
theorem reX12_rows : z_Re xX12_rows := ⟨rfl, rfl⟩
theorem rlX12_rows : 1 ≤ xX12_rows.2.2.2.2.2.1.frames ∧ 21 ≤ xX12_rows.2.2.2.2.2.1.locals := by unfold xX12_rows; exact ⟨by decide, by decide⟩
theorem meX12_rows : z_Me yX12_rows xX12_rows 3 := ⟨wd1346, wd893, by decide, by decide, by decide +kernel⟩
theorem fitX12_rows_3 : z_Fit xX12_isAsked xX12_rows := by unfold z_Fit; simp only [xX12_isAsked, xX12_rows]; exact ⟨by decide, by decide⟩
theorem fitX12_rows_12 : z_Fit xX12_in xX12_rows := by unfold z_Fit; simp only [xX12_in, xX12_rows]; exact ⟨by decide, by decide⟩
theorem fitX12_rows_29 : z_Fit xX12_rowsOf xX12_rows := by unfold z_Fit; simp only [xX12_rowsOf, xX12_rows]; exact ⟨by decide, by decide⟩
theorem fitX12_rows_46 : z_Fit xX12_doesFit xX12_rows := by unfold z_Fit; simp only [xX12_doesFit, xX12_rows]; exact ⟨by decide, by decide⟩
noncomputable def kX12_rows_18 : zK zR := (q_push (-1) q_iret)
noncomputable def kX12_rows_79 : zK zR := q_iret
noncomputable def kX12_rows_68 : zK zR := (q_iload 3 (q_if_ne (q_iload 5 kX12_rows_79) (q_iload 4 kX12_rows_79)))
noncomputable def kX12_rows_62 : zK ((zL × zS) ⊕ zR) := (q_iinc 6 (-1) q_ag)
noncomputable def bX12_rows_36 : zK ((zL × zS) ⊕ zR) := (q_iload 6 (q_if_lt (q_dn kX12_rows_68) (q_aload 0 (q_iload 6 (q_iload 1 (q_iload 2 (q_callV 12 fX12_doesFit 3 (q_if_ne (q_iinc 4 1 (q_iload 6 (q_istore 5 kX12_rows_62))) kX12_rows_62))))))))
noncomputable def kX12_rows_36 : zK zR := q_lp (bX12_rows_36)
noncomputable def kX12_rows_0 : zK zR := (q_aload 0 (q_iload 1 (q_iload 2 (q_callV 12 fX12_isAsked 2 (q_if_eq kX12_rows_18 (q_iload 3 (q_push 0 (q_push 1 (q_callS fX12_in 3 (q_if_ne (q_push 0 (q_istore 4 (q_push (-2) (q_istore 5 (q_aload 0 (q_iload 2 (q_callV 12 fX12_rowsOf 1 (q_push 1 (q_isub (q_istore 6 kX12_rows_36)))))))))) kX12_rows_18))))))))))
set_option maxRecDepth 100000 in
theorem tX12_rows_18 {l : Launch} {D : zD} {B sz0 : Nat} {post : Option Value → zS → Prop} : zSnd l D B xX12_rows sz0 post 18 kX12_rows_18 (z_Jr post) := (s_iconst dX12_rows_18 (by decide) (s_iret dX12_rows_19 rfl))
set_option maxRecDepth 100000 in
theorem tX12_rows_79 {l : Launch} {D : zD} {B sz0 : Nat} {post : Option Value → zS → Prop} : zSnd l D B xX12_rows sz0 post 79 kX12_rows_79 (z_Jr post) := (s_iret dX12_rows_79 rfl)
set_option maxRecDepth 100000 in
theorem tX12_rows_68 {l : Launch} {D : zD} {B sz0 : Nat} {post : Option Value → zS → Prop} : zSnd l D B xX12_rows sz0 post 68 kX12_rows_68 (z_Jr post) := (s_iload_n dX12_rows_68 rfl (s_if_ne (tgt := 77) dX12_rows_69 (by decide) (s_iload dX12_rows_77 tX12_rows_79) (s_iload dX12_rows_72 (s_goto (tgt := 79) dX12_rows_74 (by decide) tX12_rows_79))))
set_option maxRecDepth 100000 in
theorem tX12_rows_62 {l : Launch} {D : zD} {B sz0 : Nat} {post : Option Value → zS → Prop} : zSnd l D B xX12_rows sz0 post 62 kX12_rows_62 (z_Jl l D B xX12_rows sz0 post 36 (z_Jr post)) := (s_iinc dX12_rows_62 (by decide) (s_goto (tgt := 36) dX12_rows_65 (by decide) s_ag))
set_option maxRecDepth 100000 in
theorem tX12_rows_36 {l : Launch} {D : zD} {B sz0 : Nat} {post : Option Value → zS → Prop} : zSnd l D B xX12_rows sz0 post 36 kX12_rows_36 (z_Jr post) := s_lp (body := bX12_rows_36) (s_iload dX12_rows_36 (s_if_lt (tgt := 68) dX12_rows_38 (by decide) (s_dn tX12_rows_68) (s_aload_n dX12_rows_41 rfl (s_iload dX12_rows_42 (s_iload_n dX12_rows_44 rfl (s_iload_n dX12_rows_45 rfl (s_callV (r := (RX12, TX12, 74)) dX12_rows_46 mX12_doesFit meX12_doesFit wd1343 wd1344 rfl rfl reX12_doesFit rmX12_rows (fitX12_rows_46) wd1345 (s_if_ne (tgt := 55) dX12_rows_49 (by decide) (s_iinc dX12_rows_55 (by decide) (s_iload dX12_rows_58 (s_istore dX12_rows_60 tX12_rows_62))) (s_goto (tgt := 62) dX12_rows_52 (by decide) tX12_rows_62)))))))))
set_option maxRecDepth 100000 in
theorem tX12_rows_0 {l : Launch} {D : zD} {B sz0 : Nat} {post : Option Value → zS → Prop} : zSnd l D B xX12_rows sz0 post 0 kX12_rows_0 (z_Jr post) := (s_aload_n dX12_rows_0 rfl (s_iload_n dX12_rows_1 rfl (s_iload_n dX12_rows_2 rfl (s_callV (r := (RX12, TX12, 74)) dX12_rows_3 mX12_isAsked meX12_isAsked wd1340 wd1341 rfl rfl reX12_isAsked rmX12_rows (fitX12_rows_3) wd1342 (s_if_eq (tgt := 18) dX12_rows_6 (by decide) tX12_rows_18 (s_iload_n dX12_rows_9 rfl (s_iconst dX12_rows_10 (by decide) (s_iconst dX12_rows_11 (by decide) (s_callS dX12_rows_12 mX12_in meX12_in wd1078 rfl reX12_in rmX12_rows (fitX12_rows_12) wd1079 (s_if_ne (tgt := 20) dX12_rows_15 (by decide) (s_iconst dX12_rows_20 (by decide) (s_istore dX12_rows_21 (s_bipush dX12_rows_23 (by decide) (s_istore dX12_rows_25 (s_aload_n dX12_rows_27 rfl (s_iload_n dX12_rows_28 rfl (s_callV (r := (RX12, TX12, 74)) dX12_rows_29 mX12_rowsOf meX12_rowsOf wd1233 wd1234 rfl rfl reX12_rowsOf rmX12_rows (fitX12_rows_29) wd1235 (s_iconst dX12_rows_32 (by decide) (s_isub dX12_rows_33 (s_istore dX12_rows_34 tX12_rows_36)))))))))) tX12_rows_18))))))))))
noncomputable def fX12_rows : zF := z_fn 7 kX12_rows_0
theorem mX12_rows {l : Launch} {D : zD} {B : Nat} : z_MF l D B yX12_rows xX12_rows fX12_rows := z_mf (by decide) rfl (fun h => by cases h) rfl (fun as σ r h => ⟨z_fn_len h, kX12_rows_0, z_fn_run h, fun _ => tX12_rows_0⟩)
/-! ===== RowChildrenModel.worstAt ===== -/
theorem dX12_worstAt_0 : decode cX12_worstAt 0 = .ok (.iconst 0, 1) := by decide +kernel
theorem dX12_worstAt_1 : decode cX12_worstAt 1 = .ok (.istore_n 2, 1) := by decide +kernel
theorem dX12_worstAt_2 : decode cX12_worstAt 2 = .ok (.iconst 0, 1) := by decide +kernel
theorem dX12_worstAt_3 : decode cX12_worstAt 3 = .ok (.istore_n 3, 1) := by decide +kernel
theorem dX12_worstAt_4 : decode cX12_worstAt 4 = .ok (.iload_n 3, 1) := by decide +kernel
theorem dX12_worstAt_5 : decode cX12_worstAt 5 = .ok (.iconst 4, 1) := by decide +kernel
theorem dX12_worstAt_6 : decode cX12_worstAt 6 = .ok (.if_icmp .ge 34, 3) := by decide +kernel
theorem dX12_worstAt_9 : decode cX12_worstAt 9 = .ok (.aload_n 0, 1) := by decide +kernel
theorem dX12_worstAt_10 : decode cX12_worstAt 10 = .ok (.getfield 159, 3) := by decide +kernel
theorem dX12_worstAt_13 : decode cX12_worstAt 13 = .ok (.iconst 4, 1) := by decide +kernel
theorem dX12_worstAt_14 : decode cX12_worstAt 14 = .ok (.iload_n 1, 1) := by decide +kernel
theorem dX12_worstAt_15 : decode cX12_worstAt 15 = .ok (.imul, 1) := by decide +kernel
theorem dX12_worstAt_16 : decode cX12_worstAt 16 = .ok (.iload_n 3, 1) := by decide +kernel
theorem dX12_worstAt_17 : decode cX12_worstAt 17 = .ok (.iadd, 1) := by decide +kernel
theorem dX12_worstAt_18 : decode cX12_worstAt 18 = .ok (.iaload, 1) := by decide +kernel
theorem dX12_worstAt_19 : decode cX12_worstAt 19 = .ok (.iload_n 2, 1) := by decide +kernel
theorem dX12_worstAt_20 : decode cX12_worstAt 20 = .ok (.if_icmp .le 14, 3) := by decide +kernel
theorem dX12_worstAt_23 : decode cX12_worstAt 23 = .ok (.aload_n 0, 1) := by decide +kernel
theorem dX12_worstAt_24 : decode cX12_worstAt 24 = .ok (.getfield 159, 3) := by decide +kernel
theorem dX12_worstAt_27 : decode cX12_worstAt 27 = .ok (.iconst 4, 1) := by decide +kernel
theorem dX12_worstAt_28 : decode cX12_worstAt 28 = .ok (.iload_n 1, 1) := by decide +kernel
theorem dX12_worstAt_29 : decode cX12_worstAt 29 = .ok (.imul, 1) := by decide +kernel
theorem dX12_worstAt_30 : decode cX12_worstAt 30 = .ok (.iload_n 3, 1) := by decide +kernel
theorem dX12_worstAt_31 : decode cX12_worstAt 31 = .ok (.iadd, 1) := by decide +kernel
theorem dX12_worstAt_32 : decode cX12_worstAt 32 = .ok (.iaload, 1) := by decide +kernel
theorem dX12_worstAt_33 : decode cX12_worstAt 33 = .ok (.istore_n 2, 1) := by decide +kernel
theorem dX12_worstAt_34 : decode cX12_worstAt 34 = .ok (.iinc 3 1, 3) := by decide +kernel
theorem dX12_worstAt_37 : decode cX12_worstAt 37 = .ok (.goto (-33), 3) := by decide +kernel
theorem dX12_worstAt_40 : decode cX12_worstAt 40 = .ok (.iload_n 2, 1) := by decide +kernel
theorem dX12_worstAt_41 : decode cX12_worstAt 41 = .ok (.ireturn, 1) := by decide +kernel
def xX12_worstAt : zX := (RX12, cX12_worstAt, 4, (some .int), false, { frames := 1, cells := 0, slots := 0, locals := 90 }, 0, 0, 0, 0)
theorem rmX12_worstAt : z_Rm xX12_worstAt := by unfold z_Rm xX12_worstAt; exact ⟨by decide, by decide⟩
theorem reX12_worstAt : z_Re xX12_worstAt := ⟨rfl, rfl⟩
theorem rlX12_worstAt : 1 ≤ xX12_worstAt.2.2.2.2.2.1.frames ∧ 21 ≤ xX12_worstAt.2.2.2.2.2.1.locals := by unfold xX12_worstAt; exact ⟨by decide, by decide⟩
theorem meX12_worstAt : z_Me yX12_worstAt xX12_worstAt 1 := ⟨wd1347, wd893, by decide, by decide, by decide +kernel⟩
noncomputable def kX12_worstAt_40 : zK zR := (q_iload 2 q_iret)
noncomputable def kX12_worstAt_34 : zK ((zL × zS) ⊕ zR) := (q_iinc 3 1 q_ag)
noncomputable def bX12_worstAt_4 : zK ((zL × zS) ⊕ zR) := (q_iload 3 (q_push 4 (q_icmp_ge (q_dn kX12_worstAt_40) (q_aload 0 (q_getR 12 71 (q_push 4 (q_iload 1 (q_imul (q_iload 3 (q_iadd (q_iald (q_iload 2 (q_icmp_le kX12_worstAt_34 (q_aload 0 (q_getR 12 71 (q_push 4 (q_iload 1 (q_imul (q_iload 3 (q_iadd (q_iald (q_istore 2 kX12_worstAt_34))))))))))))))))))))))
noncomputable def kX12_worstAt_4 : zK zR := q_lp (bX12_worstAt_4)
noncomputable def kX12_worstAt_0 : zK zR := (q_push 0 (q_istore 2 (q_push 0 (q_istore 3 kX12_worstAt_4))))
set_option maxRecDepth 100000 in
theorem tX12_worstAt_40 {l : Launch} {D : zD} {B sz0 : Nat} {post : Option Value → zS → Prop} : zSnd l D B xX12_worstAt sz0 post 40 kX12_worstAt_40 (z_Jr post) := (s_iload_n dX12_worstAt_40 rfl (s_iret dX12_worstAt_41 rfl))
set_option maxRecDepth 100000 in
theorem tX12_worstAt_34 {l : Launch} {D : zD} {B sz0 : Nat} {post : Option Value → zS → Prop} : zSnd l D B xX12_worstAt sz0 post 34 kX12_worstAt_34 (z_Jl l D B xX12_worstAt sz0 post 4 (z_Jr post)) := (s_iinc dX12_worstAt_34 (by decide) (s_goto (tgt := 4) dX12_worstAt_37 (by decide) s_ag))
set_option maxRecDepth 100000 in
theorem tX12_worstAt_4 {l : Launch} {D : zD} {B sz0 : Nat} {post : Option Value → zS → Prop} : zSnd l D B xX12_worstAt sz0 post 4 kX12_worstAt_4 (z_Jr post) := s_lp (body := bX12_worstAt_4) (s_iload_n dX12_worstAt_4 rfl (s_iconst dX12_worstAt_5 (by decide) (s_icmp_ge (tgt := 40) dX12_worstAt_6 (by decide) (s_dn tX12_worstAt_40) (s_aload_n dX12_worstAt_9 rfl (s_getR (f := 71) dX12_worstAt_10 clX12 (by decide) rfl wd944 (s_iconst dX12_worstAt_13 (by decide) (s_iload_n dX12_worstAt_14 rfl (s_imul dX12_worstAt_15 (s_iload_n dX12_worstAt_16 rfl (s_iadd dX12_worstAt_17 (s_iald dX12_worstAt_18 (s_iload_n dX12_worstAt_19 rfl (s_icmp_le (tgt := 34) dX12_worstAt_20 (by decide) tX12_worstAt_34 (s_aload_n dX12_worstAt_23 rfl (s_getR (f := 71) dX12_worstAt_24 clX12 (by decide) rfl wd944 (s_iconst dX12_worstAt_27 (by decide) (s_iload_n dX12_worstAt_28 rfl (s_imul dX12_worstAt_29 (s_iload_n dX12_worstAt_30 rfl (s_iadd dX12_worstAt_31 (s_iald dX12_worstAt_32 (s_istore_n dX12_worstAt_33 rfl tX12_worstAt_34))))))))))))))))))))))
set_option maxRecDepth 100000 in
theorem tX12_worstAt_0 {l : Launch} {D : zD} {B sz0 : Nat} {post : Option Value → zS → Prop} : zSnd l D B xX12_worstAt sz0 post 0 kX12_worstAt_0 (z_Jr post) := (s_iconst dX12_worstAt_0 (by decide) (s_istore_n dX12_worstAt_1 rfl (s_iconst dX12_worstAt_2 (by decide) (s_istore_n dX12_worstAt_3 rfl tX12_worstAt_4))))
noncomputable def fX12_worstAt : zF := z_fn 4 kX12_worstAt_0
theorem mX12_worstAt {l : Launch} {D : zD} {B : Nat} : z_MF l D B yX12_worstAt xX12_worstAt fX12_worstAt := z_mf (by decide) rfl (fun h => by cases h) rfl (fun as σ r h => ⟨z_fn_len h, kX12_worstAt_0, z_fn_run h, fun _ => tX12_worstAt_0⟩)
/-! ===== RowChildrenModel.look ===== -/
theorem dX12_look_0 : decode cX12_look 0 = .ok (.aload_n 0, 1) := by decide +kernel
theorem dX12_look_1 : decode cX12_look 1 = .ok (.iload_n 1, 1) := by decide +kernel
theorem dX12_look_2 : decode cX12_look 2 = .ok (.iload_n 2, 1) := by decide +kernel
theorem dX12_look_3 : decode cX12_look 3 = .ok (.invokevirtual 524, 3) := by decide +kernel
theorem dX12_look_6 : decode cX12_look 6 = .ok (.ifCond .ne 5, 3) := by decide +kernel
theorem dX12_look_9 : decode cX12_look 9 = .ok (.iconst (-1), 1) := by decide +kernel
theorem dX12_look_10 : decode cX12_look 10 = .ok (.ireturn, 1) := by decide +kernel
theorem dX12_look_11 : decode cX12_look 11 = .ok (.iconst 0, 1) := by decide +kernel
theorem dX12_look_12 : decode cX12_look 12 = .ok (.istore_n 3, 1) := by decide +kernel
theorem dX12_look_13 : decode cX12_look 13 = .ok (.iload_n 3, 1) := by decide +kernel
theorem dX12_look_14 : decode cX12_look 14 = .ok (.sipush 256, 3) := by decide +kernel
theorem dX12_look_17 : decode cX12_look 17 = .ok (.if_icmp .ge 16, 3) := by decide +kernel
theorem dX12_look_20 : decode cX12_look 20 = .ok (.aload_n 0, 1) := by decide +kernel
theorem dX12_look_21 : decode cX12_look 21 = .ok (.getfield 159, 3) := by decide +kernel
theorem dX12_look_24 : decode cX12_look 24 = .ok (.iload_n 3, 1) := by decide +kernel
theorem dX12_look_25 : decode cX12_look 25 = .ok (.iconst 0, 1) := by decide +kernel
theorem dX12_look_26 : decode cX12_look 26 = .ok (.iastore, 1) := by decide +kernel
theorem dX12_look_27 : decode cX12_look 27 = .ok (.iinc 3 1, 3) := by decide +kernel
theorem dX12_look_30 : decode cX12_look 30 = .ok (.goto (-17), 3) := by decide +kernel
theorem dX12_look_33 : decode cX12_look 33 = .ok (.iconst 0, 1) := by decide +kernel
theorem dX12_look_34 : decode cX12_look 34 = .ok (.istore_n 3, 1) := by decide +kernel
theorem dX12_look_35 : decode cX12_look 35 = .ok (.iconst 0, 1) := by decide +kernel
theorem dX12_look_36 : decode cX12_look 36 = .ok (.istore 4, 2) := by decide +kernel
theorem dX12_look_38 : decode cX12_look 38 = .ok (.iload 4, 2) := by decide +kernel
theorem dX12_look_40 : decode cX12_look 40 = .ok (.aload_n 0, 1) := by decide +kernel
theorem dX12_look_41 : decode cX12_look 41 = .ok (.iload_n 2, 1) := by decide +kernel
theorem dX12_look_42 : decode cX12_look 42 = .ok (.invokevirtual 445, 3) := by decide +kernel
theorem dX12_look_45 : decode cX12_look 45 = .ok (.if_icmp .ge 86, 3) := by decide +kernel
theorem dX12_look_48 : decode cX12_look 48 = .ok (.aload_n 0, 1) := by decide +kernel
theorem dX12_look_49 : decode cX12_look 49 = .ok (.iload 4, 2) := by decide +kernel
theorem dX12_look_51 : decode cX12_look 51 = .ok (.iload_n 1, 1) := by decide +kernel
theorem dX12_look_52 : decode cX12_look 52 = .ok (.iload_n 2, 1) := by decide +kernel
theorem dX12_look_53 : decode cX12_look 53 = .ok (.invokevirtual 527, 3) := by decide +kernel
theorem dX12_look_56 : decode cX12_look 56 = .ok (.ifCond .ne 6, 3) := by decide +kernel
theorem dX12_look_59 : decode cX12_look 59 = .ok (.goto 66, 3) := by decide +kernel
theorem dX12_look_62 : decode cX12_look 62 = .ok (.iconst 1, 1) := by decide +kernel
theorem dX12_look_63 : decode cX12_look 63 = .ok (.istore_n 3, 1) := by decide +kernel
theorem dX12_look_64 : decode cX12_look 64 = .ok (.iconst 0, 1) := by decide +kernel
theorem dX12_look_65 : decode cX12_look 65 = .ok (.istore 5, 2) := by decide +kernel
theorem dX12_look_67 : decode cX12_look 67 = .ok (.iload 5, 2) := by decide +kernel
theorem dX12_look_69 : decode cX12_look 69 = .ok (.iload_n 2, 1) := by decide +kernel
theorem dX12_look_70 : decode cX12_look 70 = .ok (.if_icmp .ge 55, 3) := by decide +kernel
theorem dX12_look_73 : decode cX12_look 73 = .ok (.iconst 0, 1) := by decide +kernel
theorem dX12_look_74 : decode cX12_look 74 = .ok (.istore 6, 2) := by decide +kernel
theorem dX12_look_76 : decode cX12_look 76 = .ok (.iload 6, 2) := by decide +kernel
theorem dX12_look_78 : decode cX12_look 78 = .ok (.iload_n 2, 1) := by decide +kernel
theorem dX12_look_79 : decode cX12_look 79 = .ok (.iload 5, 2) := by decide +kernel
theorem dX12_look_81 : decode cX12_look 81 = .ok (.isub, 1) := by decide +kernel
theorem dX12_look_82 : decode cX12_look 82 = .ok (.if_icmp .ge 37, 3) := by decide +kernel
theorem dX12_look_85 : decode cX12_look 85 = .ok (.aload_n 0, 1) := by decide +kernel
theorem dX12_look_86 : decode cX12_look 86 = .ok (.getfield 159, 3) := by decide +kernel
theorem dX12_look_89 : decode cX12_look 89 = .ok (.iconst 4, 1) := by decide +kernel
theorem dX12_look_90 : decode cX12_look 90 = .ok (.bipush 8, 2) := by decide +kernel
theorem dX12_look_92 : decode cX12_look 92 = .ok (.iload 5, 2) := by decide +kernel
theorem dX12_look_94 : decode cX12_look 94 = .ok (.imul, 1) := by decide +kernel
theorem dX12_look_95 : decode cX12_look 95 = .ok (.iload 6, 2) := by decide +kernel
theorem dX12_look_97 : decode cX12_look 97 = .ok (.iadd, 1) := by decide +kernel
theorem dX12_look_98 : decode cX12_look 98 = .ok (.imul, 1) := by decide +kernel
theorem dX12_look_99 : decode cX12_look 99 = .ok (.aload_n 0, 1) := by decide +kernel
theorem dX12_look_100 : decode cX12_look 100 = .ok (.iload 5, 2) := by decide +kernel
theorem dX12_look_102 : decode cX12_look 102 = .ok (.iload 6, 2) := by decide +kernel
theorem dX12_look_104 : decode cX12_look 104 = .ok (.invokevirtual 343, 3) := by decide +kernel
theorem dX12_look_107 : decode cX12_look 107 = .ok (.iadd, 1) := by decide +kernel
theorem dX12_look_108 : decode cX12_look 108 = .ok (.dup2, 1) := by decide +kernel
theorem dX12_look_109 : decode cX12_look 109 = .ok (.iaload, 1) := by decide +kernel
theorem dX12_look_110 : decode cX12_look 110 = .ok (.iconst 1, 1) := by decide +kernel
theorem dX12_look_111 : decode cX12_look 111 = .ok (.iadd, 1) := by decide +kernel
theorem dX12_look_112 : decode cX12_look 112 = .ok (.iastore, 1) := by decide +kernel
theorem dX12_look_113 : decode cX12_look 113 = .ok (.iinc 6 1, 3) := by decide +kernel
theorem dX12_look_116 : decode cX12_look 116 = .ok (.goto (-40), 3) := by decide +kernel
theorem dX12_look_119 : decode cX12_look 119 = .ok (.iinc 5 1, 3) := by decide +kernel
theorem dX12_look_122 : decode cX12_look 122 = .ok (.goto (-55), 3) := by decide +kernel
theorem dX12_look_125 : decode cX12_look 125 = .ok (.iinc 4 1, 3) := by decide +kernel
theorem dX12_look_128 : decode cX12_look 128 = .ok (.goto (-90), 3) := by decide +kernel
theorem dX12_look_131 : decode cX12_look 131 = .ok (.bipush (-2), 2) := by decide +kernel
theorem dX12_look_133 : decode cX12_look 133 = .ok (.istore 4, 2) := by decide +kernel
theorem dX12_look_135 : decode cX12_look 135 = .ok (.iconst 0, 1) := by decide +kernel
theorem dX12_look_136 : decode cX12_look 136 = .ok (.istore 5, 2) := by decide +kernel
theorem dX12_look_138 : decode cX12_look 138 = .ok (.iconst 0, 1) := by decide +kernel
theorem dX12_look_139 : decode cX12_look 139 = .ok (.istore 6, 2) := by decide +kernel
theorem dX12_look_141 : decode cX12_look 141 = .ok (.iload 6, 2) := by decide +kernel
theorem dX12_look_143 : decode cX12_look 143 = .ok (.iload_n 2, 1) := by decide +kernel
theorem dX12_look_144 : decode cX12_look 144 = .ok (.if_icmp .ge 80, 3) := by decide +kernel
theorem dX12_look_147 : decode cX12_look 147 = .ok (.iload_n 3, 1) := by decide +kernel
theorem dX12_look_148 : decode cX12_look 148 = .ok (.ifCond .eq 76, 3) := by decide +kernel
theorem dX12_look_151 : decode cX12_look 151 = .ok (.iconst 0, 1) := by decide +kernel
theorem dX12_look_152 : decode cX12_look 152 = .ok (.istore 7, 2) := by decide +kernel
theorem dX12_look_154 : decode cX12_look 154 = .ok (.iload 7, 2) := by decide +kernel
theorem dX12_look_156 : decode cX12_look 156 = .ok (.iload_n 2, 1) := by decide +kernel
theorem dX12_look_157 : decode cX12_look 157 = .ok (.iload 6, 2) := by decide +kernel
theorem dX12_look_159 : decode cX12_look 159 = .ok (.isub, 1) := by decide +kernel
theorem dX12_look_160 : decode cX12_look 160 = .ok (.if_icmp .ge 58, 3) := by decide +kernel
theorem dX12_look_163 : decode cX12_look 163 = .ok (.iload 4, 2) := by decide +kernel
theorem dX12_look_165 : decode cX12_look 165 = .ok (.ifCond .lt 23, 3) := by decide +kernel
theorem dX12_look_168 : decode cX12_look 168 = .ok (.aload_n 0, 1) := by decide +kernel
theorem dX12_look_169 : decode cX12_look 169 = .ok (.bipush 8, 2) := by decide +kernel
theorem dX12_look_171 : decode cX12_look 171 = .ok (.iload 6, 2) := by decide +kernel
theorem dX12_look_173 : decode cX12_look 173 = .ok (.imul, 1) := by decide +kernel
theorem dX12_look_174 : decode cX12_look 174 = .ok (.iload 7, 2) := by decide +kernel
theorem dX12_look_176 : decode cX12_look 176 = .ok (.iadd, 1) := by decide +kernel
theorem dX12_look_177 : decode cX12_look 177 = .ok (.invokevirtual 530, 3) := by decide +kernel
theorem dX12_look_180 : decode cX12_look 180 = .ok (.iload 5, 2) := by decide +kernel
theorem dX12_look_182 : decode cX12_look 182 = .ok (.if_icmp .lt 6, 3) := by decide +kernel
theorem dX12_look_185 : decode cX12_look 185 = .ok (.goto 27, 3) := by decide +kernel
theorem dX12_look_188 : decode cX12_look 188 = .ok (.bipush 10, 2) := by decide +kernel
theorem dX12_look_190 : decode cX12_look 190 = .ok (.iload 6, 2) := by decide +kernel
theorem dX12_look_192 : decode cX12_look 192 = .ok (.imul, 1) := by decide +kernel
theorem dX12_look_193 : decode cX12_look 193 = .ok (.iload 7, 2) := by decide +kernel
theorem dX12_look_195 : decode cX12_look 195 = .ok (.iadd, 1) := by decide +kernel
theorem dX12_look_196 : decode cX12_look 196 = .ok (.istore 4, 2) := by decide +kernel
theorem dX12_look_198 : decode cX12_look 198 = .ok (.aload_n 0, 1) := by decide +kernel
theorem dX12_look_199 : decode cX12_look 199 = .ok (.bipush 8, 2) := by decide +kernel
theorem dX12_look_201 : decode cX12_look 201 = .ok (.iload 6, 2) := by decide +kernel
theorem dX12_look_203 : decode cX12_look 203 = .ok (.imul, 1) := by decide +kernel
theorem dX12_look_204 : decode cX12_look 204 = .ok (.iload 7, 2) := by decide +kernel
theorem dX12_look_206 : decode cX12_look 206 = .ok (.iadd, 1) := by decide +kernel
theorem dX12_look_207 : decode cX12_look 207 = .ok (.invokevirtual 530, 3) := by decide +kernel
theorem dX12_look_210 : decode cX12_look 210 = .ok (.istore 5, 2) := by decide +kernel
theorem dX12_look_212 : decode cX12_look 212 = .ok (.iinc 7 1, 3) := by decide +kernel
theorem dX12_look_215 : decode cX12_look 215 = .ok (.goto (-61), 3) := by decide +kernel
theorem dX12_look_218 : decode cX12_look 218 = .ok (.iinc 6 1, 3) := by decide +kernel
theorem dX12_look_221 : decode cX12_look 221 = .ok (.goto (-80), 3) := by decide +kernel
theorem dX12_look_224 : decode cX12_look 224 = .ok (.iload 4, 2) := by decide +kernel
theorem dX12_look_226 : decode cX12_look 226 = .ok (.ireturn, 1) := by decide +kernel
def xX12_look : zX := (RX12, cX12_look, 8, (some .int), false, { frames := 6, cells := 0, slots := 0, locals := 203 }, 0, 0, 0, 0)
theorem rmX12_look : z_Rm xX12_look := by unfold z_Rm xX12_look; exact ⟨by decide, by decide⟩
theorem reX12_look : z_Re xX12_look := ⟨rfl, rfl⟩
theorem rlX12_look : 1 ≤ xX12_look.2.2.2.2.2.1.frames ∧ 21 ≤ xX12_look.2.2.2.2.2.1.locals := by unfold xX12_look; exact ⟨by decide, by decide⟩
theorem meX12_look : z_Me yX12_look xX12_look 2 := ⟨wd1351, wd893, by decide, by decide, by decide +kernel⟩
theorem fitX12_look_3 : z_Fit xX12_isAsked xX12_look := by unfold z_Fit; simp only [xX12_isAsked, xX12_look]; exact ⟨by decide, by decide⟩
theorem fitX12_look_42 : z_Fit xX12_rowsOf xX12_look := by unfold z_Fit; simp only [xX12_rowsOf, xX12_look]; exact ⟨by decide, by decide⟩
theorem fitX12_look_207 : z_Fit xX12_worstAt xX12_look := by unfold z_Fit; simp only [xX12_worstAt, xX12_look]; exact ⟨by decide, by decide⟩
theorem fitX12_look_177 : z_Fit xX12_worstAt xX12_look := by unfold z_Fit; simp only [xX12_worstAt, xX12_look]; exact ⟨by decide, by decide⟩
theorem fitX12_look_53 : z_Fit xX12_doesFit xX12_look := by unfold z_Fit; simp only [xX12_doesFit, xX12_look]; exact ⟨by decide, by decide⟩
theorem fitX12_look_104 : z_Fit xX12_laidAt xX12_look := by unfold z_Fit; simp only [xX12_laidAt, xX12_look]; exact ⟨by decide, by decide⟩
noncomputable def kX12_look_224 : zK zR := (q_iload 4 q_iret)
noncomputable def kX12_look_218 : zK ((zL × zS) ⊕ zR) := (q_iinc 6 1 q_ag)
noncomputable def kX12_look_212 : zK ((zL × zS) ⊕ ((zL × zS) ⊕ zR)) := (q_iinc 7 1 q_ag)
noncomputable def kX12_look_188 : zK ((zL × zS) ⊕ ((zL × zS) ⊕ zR)) := (q_push 10 (q_iload 6 (q_imul (q_iload 7 (q_iadd (q_istore 4 (q_aload 0 (q_push 8 (q_iload 6 (q_imul (q_iload 7 (q_iadd (q_callV 12 fX12_worstAt 1 (q_istore 5 kX12_look_212))))))))))))))
noncomputable def bX12_look_154 : zK ((zL × zS) ⊕ ((zL × zS) ⊕ zR)) := (q_iload 7 (q_iload 2 (q_iload 6 (q_isub (q_icmp_ge (q_dn kX12_look_218) (q_iload 4 (q_if_lt kX12_look_188 (q_aload 0 (q_push 8 (q_iload 6 (q_imul (q_iload 7 (q_iadd (q_callV 12 fX12_worstAt 1 (q_iload 5 (q_icmp_lt kX12_look_188 kX12_look_212))))))))))))))))
noncomputable def kX12_look_154 : zK ((zL × zS) ⊕ zR) := q_lp (bX12_look_154)
noncomputable def bX12_look_141 : zK ((zL × zS) ⊕ zR) := (q_iload 6 (q_iload 2 (q_icmp_ge (q_dn kX12_look_224) (q_iload 3 (q_if_eq (q_dn kX12_look_224) (q_push 0 (q_istore 7 kX12_look_154)))))))
noncomputable def kX12_look_141 : zK zR := q_lp (bX12_look_141)
noncomputable def kX12_look_131 : zK zR := (q_push (-2) (q_istore 4 (q_push 0 (q_istore 5 (q_push 0 (q_istore 6 kX12_look_141))))))
noncomputable def kX12_look_125 : zK ((zL × zS) ⊕ zR) := (q_iinc 4 1 q_ag)
noncomputable def kX12_look_119 : zK ((zL × zS) ⊕ ((zL × zS) ⊕ zR)) := (q_iinc 5 1 q_ag)
noncomputable def bX12_look_76 : zK ((zL × zS) ⊕ ((zL × zS) ⊕ ((zL × zS) ⊕ zR))) := (q_iload 6 (q_iload 2 (q_iload 5 (q_isub (q_icmp_ge (q_dn kX12_look_119) (q_aload 0 (q_getR 12 71 (q_push 4 (q_push 8 (q_iload 5 (q_imul (q_iload 6 (q_iadd (q_imul (q_aload 0 (q_iload 5 (q_iload 6 (q_callV 12 fX12_laidAt 2 (q_iadd (q_dup2 (q_iald (q_push 1 (q_iadd (q_iast (q_iinc 6 1 q_ag)))))))))))))))))))))))))
noncomputable def kX12_look_76 : zK ((zL × zS) ⊕ ((zL × zS) ⊕ zR)) := q_lp (bX12_look_76)
noncomputable def bX12_look_67 : zK ((zL × zS) ⊕ ((zL × zS) ⊕ zR)) := (q_iload 5 (q_iload 2 (q_icmp_ge (q_dn kX12_look_125) (q_push 0 (q_istore 6 kX12_look_76)))))
noncomputable def kX12_look_67 : zK ((zL × zS) ⊕ zR) := q_lp (bX12_look_67)
noncomputable def bX12_look_38 : zK ((zL × zS) ⊕ zR) := (q_iload 4 (q_aload 0 (q_iload 2 (q_callV 12 fX12_rowsOf 1 (q_icmp_ge (q_dn kX12_look_131) (q_aload 0 (q_iload 4 (q_iload 1 (q_iload 2 (q_callV 12 fX12_doesFit 3 (q_if_ne (q_push 1 (q_istore 3 (q_push 0 (q_istore 5 kX12_look_67)))) kX12_look_125)))))))))))
noncomputable def kX12_look_38 : zK zR := q_lp (bX12_look_38)
noncomputable def kX12_look_33 : zK zR := (q_push 0 (q_istore 3 (q_push 0 (q_istore 4 kX12_look_38))))
noncomputable def bX12_look_13 : zK ((zL × zS) ⊕ zR) := (q_iload 3 (q_push 256 (q_icmp_ge (q_dn kX12_look_33) (q_aload 0 (q_getR 12 71 (q_iload 3 (q_push 0 (q_iast (q_iinc 3 1 q_ag)))))))))
noncomputable def kX12_look_13 : zK zR := q_lp (bX12_look_13)
noncomputable def kX12_look_0 : zK zR := (q_aload 0 (q_iload 1 (q_iload 2 (q_callV 12 fX12_isAsked 2 (q_if_ne (q_push 0 (q_istore 3 kX12_look_13)) (q_push (-1) q_iret))))))
set_option maxRecDepth 100000 in
theorem tX12_look_224 {l : Launch} {D : zD} {B sz0 : Nat} {post : Option Value → zS → Prop} : zSnd l D B xX12_look sz0 post 224 kX12_look_224 (z_Jr post) := (s_iload dX12_look_224 (s_iret dX12_look_226 rfl))
set_option maxRecDepth 100000 in
theorem tX12_look_218 {l : Launch} {D : zD} {B sz0 : Nat} {post : Option Value → zS → Prop} : zSnd l D B xX12_look sz0 post 218 kX12_look_218 (z_Jl l D B xX12_look sz0 post 141 (z_Jr post)) := (s_iinc dX12_look_218 (by decide) (s_goto (tgt := 141) dX12_look_221 (by decide) s_ag))
set_option maxRecDepth 100000 in
theorem tX12_look_212 {l : Launch} {D : zD} {B sz0 : Nat} {post : Option Value → zS → Prop} : zSnd l D B xX12_look sz0 post 212 kX12_look_212 (z_Jl l D B xX12_look sz0 post 154 (z_Jl l D B xX12_look sz0 post 141 (z_Jr post))) := (s_iinc dX12_look_212 (by decide) (s_goto (tgt := 154) dX12_look_215 (by decide) s_ag))
set_option maxRecDepth 100000 in
theorem tX12_look_188 {l : Launch} {D : zD} {B sz0 : Nat} {post : Option Value → zS → Prop} : zSnd l D B xX12_look sz0 post 188 kX12_look_188 (z_Jl l D B xX12_look sz0 post 154 (z_Jl l D B xX12_look sz0 post 141 (z_Jr post))) := (s_bipush dX12_look_188 (by decide) (s_iload dX12_look_190 (s_imul dX12_look_192 (s_iload dX12_look_193 (s_iadd dX12_look_195 (s_istore dX12_look_196 (s_aload_n dX12_look_198 rfl (s_bipush dX12_look_199 (by decide) (s_iload dX12_look_201 (s_imul dX12_look_203 (s_iload dX12_look_204 (s_iadd dX12_look_206 (s_callV (r := (RX12, TX12, 74)) dX12_look_207 mX12_worstAt meX12_worstAt wd1348 wd1349 rfl rfl reX12_worstAt rmX12_look (fitX12_look_207) wd1350 (s_istore dX12_look_210 tX12_look_212))))))))))))))
set_option maxRecDepth 100000 in
theorem tX12_look_154 {l : Launch} {D : zD} {B sz0 : Nat} {post : Option Value → zS → Prop} : zSnd l D B xX12_look sz0 post 154 kX12_look_154 (z_Jl l D B xX12_look sz0 post 141 (z_Jr post)) := s_lp (body := bX12_look_154) (s_iload dX12_look_154 (s_iload_n dX12_look_156 rfl (s_iload dX12_look_157 (s_isub dX12_look_159 (s_icmp_ge (tgt := 218) dX12_look_160 (by decide) (s_dn tX12_look_218) (s_iload dX12_look_163 (s_if_lt (tgt := 188) dX12_look_165 (by decide) tX12_look_188 (s_aload_n dX12_look_168 rfl (s_bipush dX12_look_169 (by decide) (s_iload dX12_look_171 (s_imul dX12_look_173 (s_iload dX12_look_174 (s_iadd dX12_look_176 (s_callV (r := (RX12, TX12, 74)) dX12_look_177 mX12_worstAt meX12_worstAt wd1348 wd1349 rfl rfl reX12_worstAt rmX12_look (fitX12_look_177) wd1350 (s_iload dX12_look_180 (s_icmp_lt (tgt := 188) dX12_look_182 (by decide) tX12_look_188 (s_goto (tgt := 212) dX12_look_185 (by decide) tX12_look_212)))))))))))))))))
set_option maxRecDepth 100000 in
theorem tX12_look_141 {l : Launch} {D : zD} {B sz0 : Nat} {post : Option Value → zS → Prop} : zSnd l D B xX12_look sz0 post 141 kX12_look_141 (z_Jr post) := s_lp (body := bX12_look_141) (s_iload dX12_look_141 (s_iload_n dX12_look_143 rfl (s_icmp_ge (tgt := 224) dX12_look_144 (by decide) (s_dn tX12_look_224) (s_iload_n dX12_look_147 rfl (s_if_eq (tgt := 224) dX12_look_148 (by decide) (s_dn tX12_look_224) (s_iconst dX12_look_151 (by decide) (s_istore dX12_look_152 tX12_look_154)))))))
set_option maxRecDepth 100000 in
theorem tX12_look_131 {l : Launch} {D : zD} {B sz0 : Nat} {post : Option Value → zS → Prop} : zSnd l D B xX12_look sz0 post 131 kX12_look_131 (z_Jr post) := (s_bipush dX12_look_131 (by decide) (s_istore dX12_look_133 (s_iconst dX12_look_135 (by decide) (s_istore dX12_look_136 (s_iconst dX12_look_138 (by decide) (s_istore dX12_look_139 tX12_look_141))))))
set_option maxRecDepth 100000 in
theorem tX12_look_125 {l : Launch} {D : zD} {B sz0 : Nat} {post : Option Value → zS → Prop} : zSnd l D B xX12_look sz0 post 125 kX12_look_125 (z_Jl l D B xX12_look sz0 post 38 (z_Jr post)) := (s_iinc dX12_look_125 (by decide) (s_goto (tgt := 38) dX12_look_128 (by decide) s_ag))
set_option maxRecDepth 100000 in
theorem tX12_look_119 {l : Launch} {D : zD} {B sz0 : Nat} {post : Option Value → zS → Prop} : zSnd l D B xX12_look sz0 post 119 kX12_look_119 (z_Jl l D B xX12_look sz0 post 67 (z_Jl l D B xX12_look sz0 post 38 (z_Jr post))) := (s_iinc dX12_look_119 (by decide) (s_goto (tgt := 67) dX12_look_122 (by decide) s_ag))
set_option maxRecDepth 100000 in
theorem tX12_look_76 {l : Launch} {D : zD} {B sz0 : Nat} {post : Option Value → zS → Prop} : zSnd l D B xX12_look sz0 post 76 kX12_look_76 (z_Jl l D B xX12_look sz0 post 67 (z_Jl l D B xX12_look sz0 post 38 (z_Jr post))) := s_lp (body := bX12_look_76) (s_iload dX12_look_76 (s_iload_n dX12_look_78 rfl (s_iload dX12_look_79 (s_isub dX12_look_81 (s_icmp_ge (tgt := 119) dX12_look_82 (by decide) (s_dn tX12_look_119) (s_aload_n dX12_look_85 rfl (s_getR (f := 71) dX12_look_86 clX12 (by decide) rfl wd944 (s_iconst dX12_look_89 (by decide) (s_bipush dX12_look_90 (by decide) (s_iload dX12_look_92 (s_imul dX12_look_94 (s_iload dX12_look_95 (s_iadd dX12_look_97 (s_imul dX12_look_98 (s_aload_n dX12_look_99 rfl (s_iload dX12_look_100 (s_iload dX12_look_102 (s_callV (r := (RX12, TX12, 74)) dX12_look_104 mX12_laidAt meX12_laidAt wd1099 wd1100 rfl rfl reX12_laidAt rmX12_look (fitX12_look_104) wd1101 (s_iadd dX12_look_107 (s_dup2 dX12_look_108 (s_iald dX12_look_109 (s_iconst dX12_look_110 (by decide) (s_iadd dX12_look_111 (s_iast dX12_look_112 (s_iinc dX12_look_113 (by decide) (s_goto (tgt := 76) dX12_look_116 (by decide) s_ag))))))))))))))))))))))))))
set_option maxRecDepth 100000 in
theorem tX12_look_67 {l : Launch} {D : zD} {B sz0 : Nat} {post : Option Value → zS → Prop} : zSnd l D B xX12_look sz0 post 67 kX12_look_67 (z_Jl l D B xX12_look sz0 post 38 (z_Jr post)) := s_lp (body := bX12_look_67) (s_iload dX12_look_67 (s_iload_n dX12_look_69 rfl (s_icmp_ge (tgt := 125) dX12_look_70 (by decide) (s_dn tX12_look_125) (s_iconst dX12_look_73 (by decide) (s_istore dX12_look_74 tX12_look_76)))))
set_option maxRecDepth 100000 in
theorem tX12_look_38 {l : Launch} {D : zD} {B sz0 : Nat} {post : Option Value → zS → Prop} : zSnd l D B xX12_look sz0 post 38 kX12_look_38 (z_Jr post) := s_lp (body := bX12_look_38) (s_iload dX12_look_38 (s_aload_n dX12_look_40 rfl (s_iload_n dX12_look_41 rfl (s_callV (r := (RX12, TX12, 74)) dX12_look_42 mX12_rowsOf meX12_rowsOf wd1233 wd1234 rfl rfl reX12_rowsOf rmX12_look (fitX12_look_42) wd1235 (s_icmp_ge (tgt := 131) dX12_look_45 (by decide) (s_dn tX12_look_131) (s_aload_n dX12_look_48 rfl (s_iload dX12_look_49 (s_iload_n dX12_look_51 rfl (s_iload_n dX12_look_52 rfl (s_callV (r := (RX12, TX12, 74)) dX12_look_53 mX12_doesFit meX12_doesFit wd1343 wd1344 rfl rfl reX12_doesFit rmX12_look (fitX12_look_53) wd1345 (s_if_ne (tgt := 62) dX12_look_56 (by decide) (s_iconst dX12_look_62 (by decide) (s_istore_n dX12_look_63 rfl (s_iconst dX12_look_64 (by decide) (s_istore dX12_look_65 tX12_look_67)))) (s_goto (tgt := 125) dX12_look_59 (by decide) tX12_look_125))))))))))))
set_option maxRecDepth 100000 in
theorem tX12_look_33 {l : Launch} {D : zD} {B sz0 : Nat} {post : Option Value → zS → Prop} : zSnd l D B xX12_look sz0 post 33 kX12_look_33 (z_Jr post) := (s_iconst dX12_look_33 (by decide) (s_istore_n dX12_look_34 rfl (s_iconst dX12_look_35 (by decide) (s_istore dX12_look_36 tX12_look_38))))
set_option maxRecDepth 100000 in
theorem tX12_look_13 {l : Launch} {D : zD} {B sz0 : Nat} {post : Option Value → zS → Prop} : zSnd l D B xX12_look sz0 post 13 kX12_look_13 (z_Jr post) := s_lp (body := bX12_look_13) (s_iload_n dX12_look_13 rfl (s_sipush dX12_look_14 (by decide) (s_icmp_ge (tgt := 33) dX12_look_17 (by decide) (s_dn tX12_look_33) (s_aload_n dX12_look_20 rfl (s_getR (f := 71) dX12_look_21 clX12 (by decide) rfl wd944 (s_iload_n dX12_look_24 rfl (s_iconst dX12_look_25 (by decide) (s_iast dX12_look_26 (s_iinc dX12_look_27 (by decide) (s_goto (tgt := 13) dX12_look_30 (by decide) s_ag))))))))))
set_option maxRecDepth 100000 in
theorem tX12_look_0 {l : Launch} {D : zD} {B sz0 : Nat} {post : Option Value → zS → Prop} : zSnd l D B xX12_look sz0 post 0 kX12_look_0 (z_Jr post) := (s_aload_n dX12_look_0 rfl (s_iload_n dX12_look_1 rfl (s_iload_n dX12_look_2 rfl (s_callV (r := (RX12, TX12, 74)) dX12_look_3 mX12_isAsked meX12_isAsked wd1340 wd1341 rfl rfl reX12_isAsked rmX12_look (fitX12_look_3) wd1342 (s_if_ne (tgt := 11) dX12_look_6 (by decide) (s_iconst dX12_look_11 (by decide) (s_istore_n dX12_look_12 rfl tX12_look_13)) (s_iconst dX12_look_9 (by decide) (s_iret dX12_look_10 rfl)))))))
noncomputable def fX12_look : zF := z_fn 8 kX12_look_0
theorem mX12_look {l : Launch} {D : zD} {B : Nat} : z_MF l D B yX12_look xX12_look fX12_look := z_mf (by decide) rfl (fun h => by cases h) rfl (fun as σ r h => ⟨z_fn_len h, kX12_look_0, z_fn_run h, fun _ => tX12_look_0⟩)
/-! ===== RowChildrenModel.hold ===== -/
theorem dX12_hold_0 : decode cX12_hold 0 = .ok (.iload_n 1, 1) := by decide +kernel
theorem dX12_hold_1 : decode cX12_hold 1 = .ok (.iconst 0, 1) := by decide +kernel
theorem dX12_hold_2 : decode cX12_hold 2 = .ok (.iconst 2, 1) := by decide +kernel
theorem dX12_hold_3 : decode cX12_hold 3 = .ok (.invokestatic 323, 3) := by decide +kernel
theorem dX12_hold_6 : decode cX12_hold 6 = .ok (.ifCond .ne 5, 3) := by decide +kernel
theorem dX12_hold_9 : decode cX12_hold 9 = .ok (.iconst 0, 1) := by decide +kernel
theorem dX12_hold_10 : decode cX12_hold 10 = .ok (.ireturn, 1) := by decide +kernel
theorem dX12_hold_11 : decode cX12_hold 11 = .ok (.aload_n 0, 1) := by decide +kernel
theorem dX12_hold_12 : decode cX12_hold 12 = .ok (.getfield 162, 3) := by decide +kernel
theorem dX12_hold_15 : decode cX12_hold 15 = .ok (.iload_n 1, 1) := by decide +kernel
theorem dX12_hold_16 : decode cX12_hold 16 = .ok (.iconst 1, 1) := by decide +kernel
theorem dX12_hold_17 : decode cX12_hold 17 = .ok (.bastore, 1) := by decide +kernel
theorem dX12_hold_18 : decode cX12_hold 18 = .ok (.iconst 0, 1) := by decide +kernel
theorem dX12_hold_19 : decode cX12_hold 19 = .ok (.istore_n 2, 1) := by decide +kernel
theorem dX12_hold_20 : decode cX12_hold 20 = .ok (.iload_n 2, 1) := by decide +kernel
theorem dX12_hold_21 : decode cX12_hold 21 = .ok (.bipush 38, 2) := by decide +kernel
theorem dX12_hold_23 : decode cX12_hold 23 = .ok (.if_icmp .ge 26, 3) := by decide +kernel
theorem dX12_hold_26 : decode cX12_hold 26 = .ok (.aload_n 0, 1) := by decide +kernel
theorem dX12_hold_27 : decode cX12_hold 27 = .ok (.getfield 165, 3) := by decide +kernel
theorem dX12_hold_30 : decode cX12_hold 30 = .ok (.bipush 38, 2) := by decide +kernel
theorem dX12_hold_32 : decode cX12_hold 32 = .ok (.iload_n 1, 1) := by decide +kernel
theorem dX12_hold_33 : decode cX12_hold 33 = .ok (.imul, 1) := by decide +kernel
theorem dX12_hold_34 : decode cX12_hold 34 = .ok (.iload_n 2, 1) := by decide +kernel
theorem dX12_hold_35 : decode cX12_hold 35 = .ok (.iadd, 1) := by decide +kernel
theorem dX12_hold_36 : decode cX12_hold 36 = .ok (.aload_n 0, 1) := by decide +kernel
theorem dX12_hold_37 : decode cX12_hold 37 = .ok (.getfield 104, 3) := by decide +kernel
theorem dX12_hold_40 : decode cX12_hold 40 = .ok (.iload_n 2, 1) := by decide +kernel
theorem dX12_hold_41 : decode cX12_hold 41 = .ok (.iaload, 1) := by decide +kernel
theorem dX12_hold_42 : decode cX12_hold 42 = .ok (.iastore, 1) := by decide +kernel
theorem dX12_hold_43 : decode cX12_hold 43 = .ok (.iinc 2 1, 3) := by decide +kernel
theorem dX12_hold_46 : decode cX12_hold 46 = .ok (.goto (-26), 3) := by decide +kernel
theorem dX12_hold_49 : decode cX12_hold 49 = .ok (.iconst 1, 1) := by decide +kernel
theorem dX12_hold_50 : decode cX12_hold 50 = .ok (.ireturn, 1) := by decide +kernel
def xX12_hold : zX := (RX12, cX12_hold, 3, (some .boolean), false, { frames := 2, cells := 0, slots := 0, locals := 112 }, 0, 0, 0, 0)
theorem rmX12_hold : z_Rm xX12_hold := by unfold z_Rm xX12_hold; exact ⟨by decide, by decide⟩
theorem reX12_hold : z_Re xX12_hold := ⟨rfl, rfl⟩
theorem rlX12_hold : 1 ≤ xX12_hold.2.2.2.2.2.1.frames ∧ 21 ≤ xX12_hold.2.2.2.2.2.1.locals := by unfold xX12_hold; exact ⟨by decide, by decide⟩
theorem meX12_hold : z_Me yX12_hold xX12_hold 1 := ⟨wd1352, wd893, by decide, by decide, by decide +kernel⟩
theorem fitX12_hold_3 : z_Fit xX12_in xX12_hold := by unfold z_Fit; simp only [xX12_in, xX12_hold]; exact ⟨by decide, by decide⟩
noncomputable def kX12_hold_49 : zK zR := (q_push 1 q_zret)
noncomputable def bX12_hold_20 : zK ((zL × zS) ⊕ zR) := (q_iload 2 (q_push 38 (q_icmp_ge (q_dn kX12_hold_49) (q_aload 0 (q_getR 12 73 (q_push 38 (q_iload 1 (q_imul (q_iload 2 (q_iadd (q_aload 0 (q_getR 12 46 (q_iload 2 (q_iald (q_iast (q_iinc 2 1 q_ag))))))))))))))))
noncomputable def kX12_hold_20 : zK zR := q_lp (bX12_hold_20)
noncomputable def kX12_hold_0 : zK zR := (q_iload 1 (q_push 0 (q_push 2 (q_callS fX12_in 3 (q_if_ne (q_aload 0 (q_getR 12 72 (q_iload 1 (q_push 1 (q_zast (q_push 0 (q_istore 2 kX12_hold_20))))))) (q_push 0 q_zret))))))
set_option maxRecDepth 100000 in
theorem tX12_hold_49 {l : Launch} {D : zD} {B sz0 : Nat} {post : Option Value → zS → Prop} : zSnd l D B xX12_hold sz0 post 49 kX12_hold_49 (z_Jr post) := (s_iconst dX12_hold_49 (by decide) (s_zret dX12_hold_50 rfl))
set_option maxRecDepth 100000 in
theorem tX12_hold_20 {l : Launch} {D : zD} {B sz0 : Nat} {post : Option Value → zS → Prop} : zSnd l D B xX12_hold sz0 post 20 kX12_hold_20 (z_Jr post) := s_lp (body := bX12_hold_20) (s_iload_n dX12_hold_20 rfl (s_bipush dX12_hold_21 (by decide) (s_icmp_ge (tgt := 49) dX12_hold_23 (by decide) (s_dn tX12_hold_49) (s_aload_n dX12_hold_26 rfl (s_getR (f := 73) dX12_hold_27 clX12 (by decide) rfl wd946 (s_bipush dX12_hold_30 (by decide) (s_iload_n dX12_hold_32 rfl (s_imul dX12_hold_33 (s_iload_n dX12_hold_34 rfl (s_iadd dX12_hold_35 (s_aload_n dX12_hold_36 rfl (s_getR (f := 46) dX12_hold_37 clX12 (by decide) rfl wd905 (s_iload_n dX12_hold_40 rfl (s_iald dX12_hold_41 (s_iast dX12_hold_42 (s_iinc dX12_hold_43 (by decide) (s_goto (tgt := 20) dX12_hold_46 (by decide) s_ag)))))))))))))))))
set_option maxRecDepth 100000 in
theorem tX12_hold_0 {l : Launch} {D : zD} {B sz0 : Nat} {post : Option Value → zS → Prop} : zSnd l D B xX12_hold sz0 post 0 kX12_hold_0 (z_Jr post) := (s_iload_n dX12_hold_0 rfl (s_iconst dX12_hold_1 (by decide) (s_iconst dX12_hold_2 (by decide) (s_callS dX12_hold_3 mX12_in meX12_in wd1078 rfl reX12_in rmX12_hold (fitX12_hold_3) wd1079 (s_if_ne (tgt := 11) dX12_hold_6 (by decide) (s_aload_n dX12_hold_11 rfl (s_getR (f := 72) dX12_hold_12 clX12 (by decide) rfl wd945 (s_iload_n dX12_hold_15 rfl (s_iconst dX12_hold_16 (by decide) (s_zast dX12_hold_17 (s_iconst dX12_hold_18 (by decide) (s_istore_n dX12_hold_19 rfl tX12_hold_20))))))) (s_iconst dX12_hold_9 (by decide) (s_zret dX12_hold_10 rfl)))))))
noncomputable def fX12_hold : zF := z_fn 3 kX12_hold_0
theorem mX12_hold {l : Launch} {D : zD} {B : Nat} : z_MF l D B yX12_hold xX12_hold fX12_hold := z_mf (by decide) rfl (fun h => by cases h) rfl (fun as σ r h => ⟨z_fn_len h, kX12_hold_0, z_fn_run h, fun _ => tX12_hold_0⟩)
/-! ===== RowChildrenModel.restore ===== -/
theorem dX12_restore_0 : decode cX12_restore 0 = .ok (.iload_n 1, 1) := by decide +kernel
theorem dX12_restore_1 : decode cX12_restore 1 = .ok (.iconst 0, 1) := by decide +kernel
theorem dX12_restore_2 : decode cX12_restore 2 = .ok (.iconst 2, 1) := by decide +kernel
theorem dX12_restore_3 : decode cX12_restore 3 = .ok (.invokestatic 323, 3) := by decide +kernel
theorem dX12_restore_6 : decode cX12_restore 6 = .ok (.ifCond .eq 12, 3) := by decide +kernel
theorem dX12_restore_9 : decode cX12_restore 9 = .ok (.aload_n 0, 1) := by decide +kernel
theorem dX12_restore_10 : decode cX12_restore 10 = .ok (.getfield 162, 3) := by decide +kernel
theorem dX12_restore_13 : decode cX12_restore 13 = .ok (.iload_n 1, 1) := by decide +kernel
theorem dX12_restore_14 : decode cX12_restore 14 = .ok (.baload, 1) := by decide +kernel
theorem dX12_restore_15 : decode cX12_restore 15 = .ok (.ifCond .ne 5, 3) := by decide +kernel
theorem dX12_restore_18 : decode cX12_restore 18 = .ok (.iconst 0, 1) := by decide +kernel
theorem dX12_restore_19 : decode cX12_restore 19 = .ok (.ireturn, 1) := by decide +kernel
theorem dX12_restore_20 : decode cX12_restore 20 = .ok (.iconst 0, 1) := by decide +kernel
theorem dX12_restore_21 : decode cX12_restore 21 = .ok (.istore_n 2, 1) := by decide +kernel
theorem dX12_restore_22 : decode cX12_restore 22 = .ok (.iload_n 2, 1) := by decide +kernel
theorem dX12_restore_23 : decode cX12_restore 23 = .ok (.bipush 38, 2) := by decide +kernel
theorem dX12_restore_25 : decode cX12_restore 25 = .ok (.if_icmp .ge 26, 3) := by decide +kernel
theorem dX12_restore_28 : decode cX12_restore 28 = .ok (.aload_n 0, 1) := by decide +kernel
theorem dX12_restore_29 : decode cX12_restore 29 = .ok (.getfield 104, 3) := by decide +kernel
theorem dX12_restore_32 : decode cX12_restore 32 = .ok (.iload_n 2, 1) := by decide +kernel
theorem dX12_restore_33 : decode cX12_restore 33 = .ok (.aload_n 0, 1) := by decide +kernel
theorem dX12_restore_34 : decode cX12_restore 34 = .ok (.getfield 165, 3) := by decide +kernel
theorem dX12_restore_37 : decode cX12_restore 37 = .ok (.bipush 38, 2) := by decide +kernel
theorem dX12_restore_39 : decode cX12_restore 39 = .ok (.iload_n 1, 1) := by decide +kernel
theorem dX12_restore_40 : decode cX12_restore 40 = .ok (.imul, 1) := by decide +kernel
theorem dX12_restore_41 : decode cX12_restore 41 = .ok (.iload_n 2, 1) := by decide +kernel
theorem dX12_restore_42 : decode cX12_restore 42 = .ok (.iadd, 1) := by decide +kernel
theorem dX12_restore_43 : decode cX12_restore 43 = .ok (.iaload, 1) := by decide +kernel
theorem dX12_restore_44 : decode cX12_restore 44 = .ok (.iastore, 1) := by decide +kernel
theorem dX12_restore_45 : decode cX12_restore 45 = .ok (.iinc 2 1, 3) := by decide +kernel
theorem dX12_restore_48 : decode cX12_restore 48 = .ok (.goto (-26), 3) := by decide +kernel
theorem dX12_restore_51 : decode cX12_restore 51 = .ok (.aload_n 0, 1) := by decide +kernel
theorem dX12_restore_52 : decode cX12_restore 52 = .ok (.iconst 0, 1) := by decide +kernel
theorem dX12_restore_53 : decode cX12_restore 53 = .ok (.putfield 271, 3) := by decide +kernel
theorem dX12_restore_56 : decode cX12_restore 56 = .ok (.iconst 1, 1) := by decide +kernel
theorem dX12_restore_57 : decode cX12_restore 57 = .ok (.ireturn, 1) := by decide +kernel
def xX12_restore : zX := (RX12, cX12_restore, 3, (some .boolean), false, { frames := 2, cells := 0, slots := 0, locals := 112 }, 0, 0, 0, 0)
theorem rmX12_restore : z_Rm xX12_restore := by unfold z_Rm xX12_restore; exact ⟨by decide, by decide⟩
theorem reX12_restore : z_Re xX12_restore := ⟨rfl, rfl⟩
theorem rlX12_restore : 1 ≤ xX12_restore.2.2.2.2.2.1.frames ∧ 21 ≤ xX12_restore.2.2.2.2.2.1.locals := by unfold xX12_restore; exact ⟨by decide, by decide⟩
theorem meX12_restore : z_Me yX12_restore xX12_restore 1 := ⟨wd1353, wd893, by decide, by decide, by decide +kernel⟩
theorem fitX12_restore_3 : z_Fit xX12_in xX12_restore := by unfold z_Fit; simp only [xX12_in, xX12_restore]; exact ⟨by decide, by decide⟩
noncomputable def kX12_restore_18 : zK zR := (q_push 0 q_zret)
noncomputable def kX12_restore_51 : zK zR := (q_aload 0 (q_push 0 (q_putI 12 52 (q_push 1 q_zret))))
noncomputable def bX12_restore_22 : zK ((zL × zS) ⊕ zR) := (q_iload 2 (q_push 38 (q_icmp_ge (q_dn kX12_restore_51) (q_aload 0 (q_getR 12 46 (q_iload 2 (q_aload 0 (q_getR 12 73 (q_push 38 (q_iload 1 (q_imul (q_iload 2 (q_iadd (q_iald (q_iast (q_iinc 2 1 q_ag))))))))))))))))
noncomputable def kX12_restore_22 : zK zR := q_lp (bX12_restore_22)
noncomputable def kX12_restore_0 : zK zR := (q_iload 1 (q_push 0 (q_push 2 (q_callS fX12_in 3 (q_if_eq kX12_restore_18 (q_aload 0 (q_getR 12 72 (q_iload 1 (q_zald (q_if_ne (q_push 0 (q_istore 2 kX12_restore_22)) kX12_restore_18))))))))))
set_option maxRecDepth 100000 in
theorem tX12_restore_18 {l : Launch} {D : zD} {B sz0 : Nat} {post : Option Value → zS → Prop} : zSnd l D B xX12_restore sz0 post 18 kX12_restore_18 (z_Jr post) := (s_iconst dX12_restore_18 (by decide) (s_zret dX12_restore_19 rfl))
set_option maxRecDepth 100000 in
theorem tX12_restore_51 {l : Launch} {D : zD} {B sz0 : Nat} {post : Option Value → zS → Prop} : zSnd l D B xX12_restore sz0 post 51 kX12_restore_51 (z_Jr post) := (s_aload_n dX12_restore_51 rfl (s_iconst dX12_restore_52 (by decide) (s_putI (f := 52) dX12_restore_53 clX12 (by decide) rfl rfl rfl wd1066 (s_iconst dX12_restore_56 (by decide) (s_zret dX12_restore_57 rfl)))))
set_option maxRecDepth 100000 in
theorem tX12_restore_22 {l : Launch} {D : zD} {B sz0 : Nat} {post : Option Value → zS → Prop} : zSnd l D B xX12_restore sz0 post 22 kX12_restore_22 (z_Jr post) := s_lp (body := bX12_restore_22) (s_iload_n dX12_restore_22 rfl (s_bipush dX12_restore_23 (by decide) (s_icmp_ge (tgt := 51) dX12_restore_25 (by decide) (s_dn tX12_restore_51) (s_aload_n dX12_restore_28 rfl (s_getR (f := 46) dX12_restore_29 clX12 (by decide) rfl wd905 (s_iload_n dX12_restore_32 rfl (s_aload_n dX12_restore_33 rfl (s_getR (f := 73) dX12_restore_34 clX12 (by decide) rfl wd946 (s_bipush dX12_restore_37 (by decide) (s_iload_n dX12_restore_39 rfl (s_imul dX12_restore_40 (s_iload_n dX12_restore_41 rfl (s_iadd dX12_restore_42 (s_iald dX12_restore_43 (s_iast dX12_restore_44 (s_iinc dX12_restore_45 (by decide) (s_goto (tgt := 22) dX12_restore_48 (by decide) s_ag)))))))))))))))))
set_option maxRecDepth 100000 in
theorem tX12_restore_0 {l : Launch} {D : zD} {B sz0 : Nat} {post : Option Value → zS → Prop} : zSnd l D B xX12_restore sz0 post 0 kX12_restore_0 (z_Jr post) := (s_iload_n dX12_restore_0 rfl (s_iconst dX12_restore_1 (by decide) (s_iconst dX12_restore_2 (by decide) (s_callS dX12_restore_3 mX12_in meX12_in wd1078 rfl reX12_in rmX12_restore (fitX12_restore_3) wd1079 (s_if_eq (tgt := 18) dX12_restore_6 (by decide) tX12_restore_18 (s_aload_n dX12_restore_9 rfl (s_getR (f := 72) dX12_restore_10 clX12 (by decide) rfl wd945 (s_iload_n dX12_restore_13 rfl (s_zald dX12_restore_14 (s_if_ne (tgt := 20) dX12_restore_15 (by decide) (s_iconst dX12_restore_20 (by decide) (s_istore_n dX12_restore_21 rfl tX12_restore_22)) tX12_restore_18))))))))))
noncomputable def fX12_restore : zF := z_fn 3 kX12_restore_0
theorem mX12_restore {l : Launch} {D : zD} {B : Nat} : z_MF l D B yX12_restore xX12_restore fX12_restore := z_mf (by decide) rfl (fun h => by cases h) rfl (fun as σ r h => ⟨z_fn_len h, kX12_restore_0, z_fn_run h, fun _ => tX12_restore_0⟩)
/-! ===== RowChildrenModel.fairBits ===== -/
theorem dX12_fairBits_0 : decode cX12_fairBits 0 = .ok (.iconst 0, 1) := by decide +kernel
theorem dX12_fairBits_1 : decode cX12_fairBits 1 = .ok (.istore_n 1, 1) := by decide +kernel
theorem dX12_fairBits_2 : decode cX12_fairBits 2 = .ok (.iconst 0, 1) := by decide +kernel
theorem dX12_fairBits_3 : decode cX12_fairBits 3 = .ok (.istore_n 2, 1) := by decide +kernel
theorem dX12_fairBits_4 : decode cX12_fairBits 4 = .ok (.iload_n 2, 1) := by decide +kernel
theorem dX12_fairBits_5 : decode cX12_fairBits 5 = .ok (.aload_n 0, 1) := by decide +kernel
theorem dX12_fairBits_6 : decode cX12_fairBits 6 = .ok (.getfield 55, 3) := by decide +kernel
theorem dX12_fairBits_9 : decode cX12_fairBits 9 = .ok (.aload_n 0, 1) := by decide +kernel
theorem dX12_fairBits_10 : decode cX12_fairBits 10 = .ok (.getfield 249, 3) := by decide +kernel
theorem dX12_fairBits_13 : decode cX12_fairBits 13 = .ok (.iaload, 1) := by decide +kernel
theorem dX12_fairBits_14 : decode cX12_fairBits 14 = .ok (.if_icmp .ge 27, 3) := by decide +kernel
theorem dX12_fairBits_17 : decode cX12_fairBits 17 = .ok (.aload_n 0, 1) := by decide +kernel
theorem dX12_fairBits_18 : decode cX12_fairBits 18 = .ok (.iload_n 2, 1) := by decide +kernel
theorem dX12_fairBits_19 : decode cX12_fairBits 19 = .ok (.invokevirtual 380, 3) := by decide +kernel
theorem dX12_fairBits_22 : decode cX12_fairBits 22 = .ok (.aload_n 0, 1) := by decide +kernel
theorem dX12_fairBits_23 : decode cX12_fairBits 23 = .ok (.invokevirtual 410, 3) := by decide +kernel
theorem dX12_fairBits_26 : decode cX12_fairBits 26 = .ok (.ifCond .eq 9, 3) := by decide +kernel
theorem dX12_fairBits_29 : decode cX12_fairBits 29 = .ok (.iload_n 1, 1) := by decide +kernel
theorem dX12_fairBits_30 : decode cX12_fairBits 30 = .ok (.iconst 1, 1) := by decide +kernel
theorem dX12_fairBits_31 : decode cX12_fairBits 31 = .ok (.iload_n 2, 1) := by decide +kernel
theorem dX12_fairBits_32 : decode cX12_fairBits 32 = .ok (.ishl, 1) := by decide +kernel
theorem dX12_fairBits_33 : decode cX12_fairBits 33 = .ok (.ior, 1) := by decide +kernel
theorem dX12_fairBits_34 : decode cX12_fairBits 34 = .ok (.istore_n 1, 1) := by decide +kernel
theorem dX12_fairBits_35 : decode cX12_fairBits 35 = .ok (.iinc 2 1, 3) := by decide +kernel
theorem dX12_fairBits_38 : decode cX12_fairBits 38 = .ok (.goto (-34), 3) := by decide +kernel
theorem dX12_fairBits_41 : decode cX12_fairBits 41 = .ok (.iload_n 1, 1) := by decide +kernel
theorem dX12_fairBits_42 : decode cX12_fairBits 42 = .ok (.ireturn, 1) := by decide +kernel
def xX12_fairBits : zX := (RX12, cX12_fairBits, 3, (some .int), false, { frames := 5, cells := 0, slots := 0, locals := 177 }, 0, 0, 0, 0)
theorem rmX12_fairBits : z_Rm xX12_fairBits := by unfold z_Rm xX12_fairBits; exact ⟨by decide, by decide⟩
theorem reX12_fairBits : z_Re xX12_fairBits := ⟨rfl, rfl⟩
theorem rlX12_fairBits : 1 ≤ xX12_fairBits.2.2.2.2.2.1.frames ∧ 21 ≤ xX12_fairBits.2.2.2.2.2.1.locals := by unfold xX12_fairBits; exact ⟨by decide, by decide⟩
theorem meX12_fairBits : z_Me yX12_fairBits xX12_fairBits 0 := ⟨wd1354, wd893, by decide, by decide, by decide +kernel⟩
theorem fitX12_fairBits_19 : z_Fit xX12_laysRow xX12_fairBits := by unfold z_Fit; simp only [xX12_laysRow, xX12_fairBits]; exact ⟨by decide, by decide⟩
theorem fitX12_fairBits_23 : z_Fit xX12_isFair xX12_fairBits := by unfold z_Fit; simp only [xX12_isFair, xX12_fairBits]; exact ⟨by decide, by decide⟩
noncomputable def kX12_fairBits_41 : zK zR := (q_iload 1 q_iret)
noncomputable def kX12_fairBits_35 : zK ((zL × zS) ⊕ zR) := (q_iinc 2 1 q_ag)
noncomputable def bX12_fairBits_4 : zK ((zL × zS) ⊕ zR) := (q_iload 2 (q_aload 0 (q_getR 12 26 (q_aload 0 (q_getI 12 18 (q_iald (q_icmp_ge (q_dn kX12_fairBits_41) (q_aload 0 (q_iload 2 (q_callV 12 fX12_laysRow 1 (q_aload 0 (q_callV 12 fX12_isFair 0 (q_if_eq kX12_fairBits_35 (q_iload 1 (q_push 1 (q_iload 2 (q_ishl (q_ior (q_istore 1 kX12_fairBits_35)))))))))))))))))))
noncomputable def kX12_fairBits_4 : zK zR := q_lp (bX12_fairBits_4)
noncomputable def kX12_fairBits_0 : zK zR := (q_push 0 (q_istore 1 (q_push 0 (q_istore 2 kX12_fairBits_4))))
set_option maxRecDepth 100000 in
theorem tX12_fairBits_41 {l : Launch} {D : zD} {B sz0 : Nat} {post : Option Value → zS → Prop} : zSnd l D B xX12_fairBits sz0 post 41 kX12_fairBits_41 (z_Jr post) := (s_iload_n dX12_fairBits_41 rfl (s_iret dX12_fairBits_42 rfl))
set_option maxRecDepth 100000 in
theorem tX12_fairBits_35 {l : Launch} {D : zD} {B sz0 : Nat} {post : Option Value → zS → Prop} : zSnd l D B xX12_fairBits sz0 post 35 kX12_fairBits_35 (z_Jl l D B xX12_fairBits sz0 post 4 (z_Jr post)) := (s_iinc dX12_fairBits_35 (by decide) (s_goto (tgt := 4) dX12_fairBits_38 (by decide) s_ag))
set_option maxRecDepth 100000 in
theorem tX12_fairBits_4 {l : Launch} {D : zD} {B sz0 : Nat} {post : Option Value → zS → Prop} : zSnd l D B xX12_fairBits sz0 post 4 kX12_fairBits_4 (z_Jr post) := s_lp (body := bX12_fairBits_4) (s_iload_n dX12_fairBits_4 rfl (s_aload_n dX12_fairBits_5 rfl (s_getR (f := 26) dX12_fairBits_6 clX12 (by decide) rfl wd887 (s_aload_n dX12_fairBits_9 rfl (s_getI (f := 18) dX12_fairBits_10 clX12 (by decide) rfl wd899 (s_iald dX12_fairBits_13 (s_icmp_ge (tgt := 41) dX12_fairBits_14 (by decide) (s_dn tX12_fairBits_41) (s_aload_n dX12_fairBits_17 rfl (s_iload_n dX12_fairBits_18 rfl (s_callV (r := (RX12, TX12, 74)) dX12_fairBits_19 mX12_laysRow meX12_laysRow wd1153 wd1154 rfl rfl reX12_laysRow rmX12_fairBits (fitX12_fairBits_19) wd1155 (s_aload_n dX12_fairBits_22 rfl (s_callV (r := (RX12, TX12, 74)) dX12_fairBits_23 mX12_isFair meX12_isFair wd1187 wd1188 rfl rfl reX12_isFair rmX12_fairBits (fitX12_fairBits_23) wd1189 (s_if_eq (tgt := 35) dX12_fairBits_26 (by decide) tX12_fairBits_35 (s_iload_n dX12_fairBits_29 rfl (s_iconst dX12_fairBits_30 (by decide) (s_iload_n dX12_fairBits_31 rfl (s_ishl dX12_fairBits_32 (s_ior dX12_fairBits_33 (s_istore_n dX12_fairBits_34 rfl tX12_fairBits_35)))))))))))))))))))
set_option maxRecDepth 100000 in
theorem tX12_fairBits_0 {l : Launch} {D : zD} {B sz0 : Nat} {post : Option Value → zS → Prop} : zSnd l D B xX12_fairBits sz0 post 0 kX12_fairBits_0 (z_Jr post) := (s_iconst dX12_fairBits_0 (by decide) (s_istore_n dX12_fairBits_1 rfl (s_iconst dX12_fairBits_2 (by decide) (s_istore_n dX12_fairBits_3 rfl tX12_fairBits_4))))
noncomputable def fX12_fairBits : zF := z_fn 3 kX12_fairBits_0
theorem mX12_fairBits {l : Launch} {D : zD} {B : Nat} : z_MF l D B yX12_fairBits xX12_fairBits fX12_fairBits := z_mf (by decide) rfl (fun h => by cases h) rfl (fun as σ r h => ⟨z_fn_len h, kX12_fairBits_0, z_fn_run h, fun _ => tX12_fairBits_0⟩)
/-! ===== RowChildrenModel.lastBits ===== -/
theorem dX12_lastBits_0 : decode cX12_lastBits 0 = .ok (.iconst 0, 1) := by decide +kernel
theorem dX12_lastBits_1 : decode cX12_lastBits 1 = .ok (.istore_n 1, 1) := by decide +kernel
theorem dX12_lastBits_2 : decode cX12_lastBits 2 = .ok (.iconst 0, 1) := by decide +kernel
theorem dX12_lastBits_3 : decode cX12_lastBits 3 = .ok (.istore_n 2, 1) := by decide +kernel
theorem dX12_lastBits_4 : decode cX12_lastBits 4 = .ok (.iload_n 2, 1) := by decide +kernel
theorem dX12_lastBits_5 : decode cX12_lastBits 5 = .ok (.aload_n 0, 1) := by decide +kernel
theorem dX12_lastBits_6 : decode cX12_lastBits 6 = .ok (.getfield 55, 3) := by decide +kernel
theorem dX12_lastBits_9 : decode cX12_lastBits 9 = .ok (.aload_n 0, 1) := by decide +kernel
theorem dX12_lastBits_10 : decode cX12_lastBits 10 = .ok (.getfield 249, 3) := by decide +kernel
theorem dX12_lastBits_13 : decode cX12_lastBits 13 = .ok (.iaload, 1) := by decide +kernel
theorem dX12_lastBits_14 : decode cX12_lastBits 14 = .ok (.if_icmp .ge 23, 3) := by decide +kernel
theorem dX12_lastBits_17 : decode cX12_lastBits 17 = .ok (.aload_n 0, 1) := by decide +kernel
theorem dX12_lastBits_18 : decode cX12_lastBits 18 = .ok (.iload_n 2, 1) := by decide +kernel
theorem dX12_lastBits_19 : decode cX12_lastBits 19 = .ok (.invokevirtual 380, 3) := by decide +kernel
theorem dX12_lastBits_22 : decode cX12_lastBits 22 = .ok (.iload_n 1, 1) := by decide +kernel
theorem dX12_lastBits_23 : decode cX12_lastBits 23 = .ok (.iconst 1, 1) := by decide +kernel
theorem dX12_lastBits_24 : decode cX12_lastBits 24 = .ok (.aload_n 0, 1) := by decide +kernel
theorem dX12_lastBits_25 : decode cX12_lastBits 25 = .ok (.invokevirtual 407, 3) := by decide +kernel
theorem dX12_lastBits_28 : decode cX12_lastBits 28 = .ok (.ishl, 1) := by decide +kernel
theorem dX12_lastBits_29 : decode cX12_lastBits 29 = .ok (.ior, 1) := by decide +kernel
theorem dX12_lastBits_30 : decode cX12_lastBits 30 = .ok (.istore_n 1, 1) := by decide +kernel
theorem dX12_lastBits_31 : decode cX12_lastBits 31 = .ok (.iinc 2 1, 3) := by decide +kernel
theorem dX12_lastBits_34 : decode cX12_lastBits 34 = .ok (.goto (-30), 3) := by decide +kernel
theorem dX12_lastBits_37 : decode cX12_lastBits 37 = .ok (.iload_n 1, 1) := by decide +kernel
theorem dX12_lastBits_38 : decode cX12_lastBits 38 = .ok (.ireturn, 1) := by decide +kernel
def xX12_lastBits : zX := (RX12, cX12_lastBits, 3, (some .int), false, { frames := 5, cells := 0, slots := 0, locals := 177 }, 0, 0, 0, 0)
theorem rmX12_lastBits : z_Rm xX12_lastBits := by unfold z_Rm xX12_lastBits; exact ⟨by decide, by decide⟩
theorem reX12_lastBits : z_Re xX12_lastBits := ⟨rfl, rfl⟩
theorem rlX12_lastBits : 1 ≤ xX12_lastBits.2.2.2.2.2.1.frames ∧ 21 ≤ xX12_lastBits.2.2.2.2.2.1.locals := by unfold xX12_lastBits; exact ⟨by decide, by decide⟩
theorem meX12_lastBits : z_Me yX12_lastBits xX12_lastBits 0 := ⟨wd1355, wd893, by decide, by decide, by decide +kernel⟩
theorem fitX12_lastBits_19 : z_Fit xX12_laysRow xX12_lastBits := by unfold z_Fit; simp only [xX12_laysRow, xX12_lastBits]; exact ⟨by decide, by decide⟩
theorem fitX12_lastBits_25 : z_Fit xX12_lastLaid xX12_lastBits := by unfold z_Fit; simp only [xX12_lastLaid, xX12_lastBits]; exact ⟨by decide, by decide⟩
noncomputable def kX12_lastBits_37 : zK zR := (q_iload 1 q_iret)
noncomputable def bX12_lastBits_4 : zK ((zL × zS) ⊕ zR) := (q_iload 2 (q_aload 0 (q_getR 12 26 (q_aload 0 (q_getI 12 18 (q_iald (q_icmp_ge (q_dn kX12_lastBits_37) (q_aload 0 (q_iload 2 (q_callV 12 fX12_laysRow 1 (q_iload 1 (q_push 1 (q_aload 0 (q_callV 12 fX12_lastLaid 0 (q_ishl (q_ior (q_istore 1 (q_iinc 2 1 q_ag))))))))))))))))))
noncomputable def kX12_lastBits_4 : zK zR := q_lp (bX12_lastBits_4)
noncomputable def kX12_lastBits_0 : zK zR := (q_push 0 (q_istore 1 (q_push 0 (q_istore 2 kX12_lastBits_4))))
set_option maxRecDepth 100000 in
theorem tX12_lastBits_37 {l : Launch} {D : zD} {B sz0 : Nat} {post : Option Value → zS → Prop} : zSnd l D B xX12_lastBits sz0 post 37 kX12_lastBits_37 (z_Jr post) := (s_iload_n dX12_lastBits_37 rfl (s_iret dX12_lastBits_38 rfl))
set_option maxRecDepth 100000 in
theorem tX12_lastBits_4 {l : Launch} {D : zD} {B sz0 : Nat} {post : Option Value → zS → Prop} : zSnd l D B xX12_lastBits sz0 post 4 kX12_lastBits_4 (z_Jr post) := s_lp (body := bX12_lastBits_4) (s_iload_n dX12_lastBits_4 rfl (s_aload_n dX12_lastBits_5 rfl (s_getR (f := 26) dX12_lastBits_6 clX12 (by decide) rfl wd887 (s_aload_n dX12_lastBits_9 rfl (s_getI (f := 18) dX12_lastBits_10 clX12 (by decide) rfl wd899 (s_iald dX12_lastBits_13 (s_icmp_ge (tgt := 37) dX12_lastBits_14 (by decide) (s_dn tX12_lastBits_37) (s_aload_n dX12_lastBits_17 rfl (s_iload_n dX12_lastBits_18 rfl (s_callV (r := (RX12, TX12, 74)) dX12_lastBits_19 mX12_laysRow meX12_laysRow wd1153 wd1154 rfl rfl reX12_laysRow rmX12_lastBits (fitX12_lastBits_19) wd1155 (s_iload_n dX12_lastBits_22 rfl (s_iconst dX12_lastBits_23 (by decide) (s_aload_n dX12_lastBits_24 rfl (s_callV (r := (RX12, TX12, 74)) dX12_lastBits_25 mX12_lastLaid meX12_lastLaid wd1184 wd1185 rfl rfl reX12_lastLaid rmX12_lastBits (fitX12_lastBits_25) wd1186 (s_ishl dX12_lastBits_28 (s_ior dX12_lastBits_29 (s_istore_n dX12_lastBits_30 rfl (s_iinc dX12_lastBits_31 (by decide) (s_goto (tgt := 4) dX12_lastBits_34 (by decide) s_ag)))))))))))))))))))
set_option maxRecDepth 100000 in
theorem tX12_lastBits_0 {l : Launch} {D : zD} {B sz0 : Nat} {post : Option Value → zS → Prop} : zSnd l D B xX12_lastBits sz0 post 0 kX12_lastBits_0 (z_Jr post) := (s_iconst dX12_lastBits_0 (by decide) (s_istore_n dX12_lastBits_1 rfl (s_iconst dX12_lastBits_2 (by decide) (s_istore_n dX12_lastBits_3 rfl tX12_lastBits_4))))
noncomputable def fX12_lastBits : zF := z_fn 3 kX12_lastBits_0
theorem mX12_lastBits {l : Launch} {D : zD} {B : Nat} : z_MF l D B yX12_lastBits xX12_lastBits fX12_lastBits := z_mf (by decide) rfl (fun h => by cases h) rfl (fun as σ r h => ⟨z_fn_len h, kX12_lastBits_0, z_fn_run h, fun _ => tX12_lastBits_0⟩)
/-! ===== RowChildrenModel.count ===== -/
theorem dX12_count_0 : decode cX12_count 0 = .ok (.aload_n 0, 1) := by decide +kernel
theorem dX12_count_1 : decode cX12_count 1 = .ok (.invokevirtual 401, 3) := by decide +kernel
theorem dX12_count_4 : decode cX12_count 4 = .ok (.iconst 0, 1) := by decide +kernel
theorem dX12_count_5 : decode cX12_count 5 = .ok (.istore_n 2, 1) := by decide +kernel
theorem dX12_count_6 : decode cX12_count 6 = .ok (.iload_n 1, 1) := by decide +kernel
theorem dX12_count_7 : decode cX12_count 7 = .ok (.tableswitch 297 0 13 #[69, 74, 84, 92, 100, 128, 133, 138, 143, 148, 153, 158, 203, 258], 69) := by decide +kernel
theorem dX12_count_76 : decode cX12_count 76 = .ok (.aload_n 0, 1) := by decide +kernel
theorem dX12_count_77 : decode cX12_count 77 = .ok (.invokevirtual 327, 3) := by decide +kernel
theorem dX12_count_80 : decode cX12_count 80 = .ok (.ireturn, 1) := by decide +kernel
theorem dX12_count_81 : decode cX12_count 81 = .ok (.aload_n 0, 1) := by decide +kernel
theorem dX12_count_82 : decode cX12_count 82 = .ok (.getfield 55, 3) := by decide +kernel
theorem dX12_count_85 : decode cX12_count 85 = .ok (.aload_n 0, 1) := by decide +kernel
theorem dX12_count_86 : decode cX12_count 86 = .ok (.getfield 249, 3) := by decide +kernel
theorem dX12_count_89 : decode cX12_count 89 = .ok (.iaload, 1) := by decide +kernel
theorem dX12_count_90 : decode cX12_count 90 = .ok (.ireturn, 1) := by decide +kernel
theorem dX12_count_91 : decode cX12_count 91 = .ok (.aload_n 0, 1) := by decide +kernel
theorem dX12_count_92 : decode cX12_count 92 = .ok (.getfield 107, 3) := by decide +kernel
theorem dX12_count_95 : decode cX12_count 95 = .ok (.bipush 36, 2) := by decide +kernel
theorem dX12_count_97 : decode cX12_count 97 = .ok (.iaload, 1) := by decide +kernel
theorem dX12_count_98 : decode cX12_count 98 = .ok (.ireturn, 1) := by decide +kernel
theorem dX12_count_99 : decode cX12_count 99 = .ok (.aload_n 0, 1) := by decide +kernel
theorem dX12_count_100 : decode cX12_count 100 = .ok (.getfield 107, 3) := by decide +kernel
theorem dX12_count_103 : decode cX12_count 103 = .ok (.bipush 37, 2) := by decide +kernel
theorem dX12_count_105 : decode cX12_count 105 = .ok (.iaload, 1) := by decide +kernel
theorem dX12_count_106 : decode cX12_count 106 = .ok (.ireturn, 1) := by decide +kernel
theorem dX12_count_107 : decode cX12_count 107 = .ok (.aload_n 0, 1) := by decide +kernel
theorem dX12_count_108 : decode cX12_count 108 = .ok (.getfield 107, 3) := by decide +kernel
theorem dX12_count_111 : decode cX12_count 111 = .ok (.iconst 0, 1) := by decide +kernel
theorem dX12_count_112 : decode cX12_count 112 = .ok (.iaload, 1) := by decide +kernel
theorem dX12_count_113 : decode cX12_count 113 = .ok (.aload_n 0, 1) := by decide +kernel
theorem dX12_count_114 : decode cX12_count 114 = .ok (.getfield 107, 3) := by decide +kernel
theorem dX12_count_117 : decode cX12_count 117 = .ok (.iconst 1, 1) := by decide +kernel
theorem dX12_count_118 : decode cX12_count 118 = .ok (.iaload, 1) := by decide +kernel
theorem dX12_count_119 : decode cX12_count 119 = .ok (.iadd, 1) := by decide +kernel
theorem dX12_count_120 : decode cX12_count 120 = .ok (.aload_n 0, 1) := by decide +kernel
theorem dX12_count_121 : decode cX12_count 121 = .ok (.getfield 107, 3) := by decide +kernel
theorem dX12_count_124 : decode cX12_count 124 = .ok (.iconst 2, 1) := by decide +kernel
theorem dX12_count_125 : decode cX12_count 125 = .ok (.iaload, 1) := by decide +kernel
theorem dX12_count_126 : decode cX12_count 126 = .ok (.iadd, 1) := by decide +kernel
theorem dX12_count_127 : decode cX12_count 127 = .ok (.aload_n 0, 1) := by decide +kernel
theorem dX12_count_128 : decode cX12_count 128 = .ok (.getfield 107, 3) := by decide +kernel
theorem dX12_count_131 : decode cX12_count 131 = .ok (.iconst 3, 1) := by decide +kernel
theorem dX12_count_132 : decode cX12_count 132 = .ok (.iaload, 1) := by decide +kernel
theorem dX12_count_133 : decode cX12_count 133 = .ok (.iadd, 1) := by decide +kernel
theorem dX12_count_134 : decode cX12_count 134 = .ok (.ireturn, 1) := by decide +kernel
theorem dX12_count_135 : decode cX12_count 135 = .ok (.aload_n 0, 1) := by decide +kernel
theorem dX12_count_136 : decode cX12_count 136 = .ok (.invokevirtual 533, 3) := by decide +kernel
theorem dX12_count_139 : decode cX12_count 139 = .ok (.ireturn, 1) := by decide +kernel
theorem dX12_count_140 : decode cX12_count 140 = .ok (.aload_n 0, 1) := by decide +kernel
theorem dX12_count_141 : decode cX12_count 141 = .ok (.invokevirtual 389, 3) := by decide +kernel
theorem dX12_count_144 : decode cX12_count 144 = .ok (.ireturn, 1) := by decide +kernel
theorem dX12_count_145 : decode cX12_count 145 = .ok (.aload_n 0, 1) := by decide +kernel
theorem dX12_count_146 : decode cX12_count 146 = .ok (.invokevirtual 536, 3) := by decide +kernel
theorem dX12_count_149 : decode cX12_count 149 = .ok (.ireturn, 1) := by decide +kernel
theorem dX12_count_150 : decode cX12_count 150 = .ok (.aload_n 0, 1) := by decide +kernel
theorem dX12_count_151 : decode cX12_count 151 = .ok (.getfield 182, 3) := by decide +kernel
theorem dX12_count_154 : decode cX12_count 154 = .ok (.ireturn, 1) := by decide +kernel
theorem dX12_count_155 : decode cX12_count 155 = .ok (.aload_n 0, 1) := by decide +kernel
theorem dX12_count_156 : decode cX12_count 156 = .ok (.getfield 271, 3) := by decide +kernel
theorem dX12_count_159 : decode cX12_count 159 = .ok (.ireturn, 1) := by decide +kernel
theorem dX12_count_160 : decode cX12_count 160 = .ok (.aload_n 0, 1) := by decide +kernel
theorem dX12_count_161 : decode cX12_count 161 = .ok (.getfield 274, 3) := by decide +kernel
theorem dX12_count_164 : decode cX12_count 164 = .ok (.ireturn, 1) := by decide +kernel
theorem dX12_count_165 : decode cX12_count 165 = .ok (.aload_n 0, 1) := by decide +kernel
theorem dX12_count_166 : decode cX12_count 166 = .ok (.getfield 162, 3) := by decide +kernel
theorem dX12_count_169 : decode cX12_count 169 = .ok (.iconst 0, 1) := by decide +kernel
theorem dX12_count_170 : decode cX12_count 170 = .ok (.baload, 1) := by decide +kernel
theorem dX12_count_171 : decode cX12_count 171 = .ok (.ifCond .eq 7, 3) := by decide +kernel
theorem dX12_count_174 : decode cX12_count 174 = .ok (.iconst 1, 1) := by decide +kernel
theorem dX12_count_175 : decode cX12_count 175 = .ok (.goto 4, 3) := by decide +kernel
theorem dX12_count_178 : decode cX12_count 178 = .ok (.iconst 0, 1) := by decide +kernel
theorem dX12_count_179 : decode cX12_count 179 = .ok (.aload_n 0, 1) := by decide +kernel
theorem dX12_count_180 : decode cX12_count 180 = .ok (.getfield 162, 3) := by decide +kernel
theorem dX12_count_183 : decode cX12_count 183 = .ok (.iconst 1, 1) := by decide +kernel
theorem dX12_count_184 : decode cX12_count 184 = .ok (.baload, 1) := by decide +kernel
theorem dX12_count_185 : decode cX12_count 185 = .ok (.ifCond .eq 7, 3) := by decide +kernel
theorem dX12_count_188 : decode cX12_count 188 = .ok (.iconst 1, 1) := by decide +kernel
theorem dX12_count_189 : decode cX12_count 189 = .ok (.goto 4, 3) := by decide +kernel
theorem dX12_count_192 : decode cX12_count 192 = .ok (.iconst 0, 1) := by decide +kernel
theorem dX12_count_193 : decode cX12_count 193 = .ok (.iadd, 1) := by decide +kernel
theorem dX12_count_194 : decode cX12_count 194 = .ok (.aload_n 0, 1) := by decide +kernel
theorem dX12_count_195 : decode cX12_count 195 = .ok (.getfield 162, 3) := by decide +kernel
theorem dX12_count_198 : decode cX12_count 198 = .ok (.iconst 2, 1) := by decide +kernel
theorem dX12_count_199 : decode cX12_count 199 = .ok (.baload, 1) := by decide +kernel
theorem dX12_count_200 : decode cX12_count 200 = .ok (.ifCond .eq 7, 3) := by decide +kernel
theorem dX12_count_203 : decode cX12_count 203 = .ok (.iconst 1, 1) := by decide +kernel
theorem dX12_count_204 : decode cX12_count 204 = .ok (.goto 4, 3) := by decide +kernel
theorem dX12_count_207 : decode cX12_count 207 = .ok (.iconst 0, 1) := by decide +kernel
theorem dX12_count_208 : decode cX12_count 208 = .ok (.iadd, 1) := by decide +kernel
theorem dX12_count_209 : decode cX12_count 209 = .ok (.ireturn, 1) := by decide +kernel
theorem dX12_count_210 : decode cX12_count 210 = .ok (.iconst 0, 1) := by decide +kernel
theorem dX12_count_211 : decode cX12_count 211 = .ok (.istore_n 3, 1) := by decide +kernel
theorem dX12_count_212 : decode cX12_count 212 = .ok (.iload_n 3, 1) := by decide +kernel
theorem dX12_count_213 : decode cX12_count 213 = .ok (.aload_n 0, 1) := by decide +kernel
theorem dX12_count_214 : decode cX12_count 214 = .ok (.getfield 55, 3) := by decide +kernel
theorem dX12_count_217 : decode cX12_count 217 = .ok (.aload_n 0, 1) := by decide +kernel
theorem dX12_count_218 : decode cX12_count 218 = .ok (.getfield 249, 3) := by decide +kernel
theorem dX12_count_221 : decode cX12_count 221 = .ok (.iaload, 1) := by decide +kernel
theorem dX12_count_222 : decode cX12_count 222 = .ok (.if_icmp .ge 41, 3) := by decide +kernel
theorem dX12_count_225 : decode cX12_count 225 = .ok (.iconst 0, 1) := by decide +kernel
theorem dX12_count_226 : decode cX12_count 226 = .ok (.istore 4, 2) := by decide +kernel
theorem dX12_count_228 : decode cX12_count 228 = .ok (.iload 4, 2) := by decide +kernel
theorem dX12_count_230 : decode cX12_count 230 = .ok (.aload_n 0, 1) := by decide +kernel
theorem dX12_count_231 : decode cX12_count 231 = .ok (.getfield 107, 3) := by decide +kernel
theorem dX12_count_234 : decode cX12_count 234 = .ok (.iload_n 3, 1) := by decide +kernel
theorem dX12_count_235 : decode cX12_count 235 = .ok (.iaload, 1) := by decide +kernel
theorem dX12_count_236 : decode cX12_count 236 = .ok (.if_icmp .ge 21, 3) := by decide +kernel
theorem dX12_count_239 : decode cX12_count 239 = .ok (.iload_n 2, 1) := by decide +kernel
theorem dX12_count_240 : decode cX12_count 240 = .ok (.iconst 1, 1) := by decide +kernel
theorem dX12_count_241 : decode cX12_count 241 = .ok (.aload_n 0, 1) := by decide +kernel
theorem dX12_count_242 : decode cX12_count 242 = .ok (.iload_n 3, 1) := by decide +kernel
theorem dX12_count_243 : decode cX12_count 243 = .ok (.iload 4, 2) := by decide +kernel
theorem dX12_count_245 : decode cX12_count 245 = .ok (.invokevirtual 349, 3) := by decide +kernel
theorem dX12_count_248 : decode cX12_count 248 = .ok (.ishl, 1) := by decide +kernel
theorem dX12_count_249 : decode cX12_count 249 = .ok (.ior, 1) := by decide +kernel
theorem dX12_count_250 : decode cX12_count 250 = .ok (.istore_n 2, 1) := by decide +kernel
theorem dX12_count_251 : decode cX12_count 251 = .ok (.iinc 4 1, 3) := by decide +kernel
theorem dX12_count_254 : decode cX12_count 254 = .ok (.goto (-26), 3) := by decide +kernel
theorem dX12_count_257 : decode cX12_count 257 = .ok (.iinc 3 1, 3) := by decide +kernel
theorem dX12_count_260 : decode cX12_count 260 = .ok (.goto (-48), 3) := by decide +kernel
theorem dX12_count_263 : decode cX12_count 263 = .ok (.iload_n 2, 1) := by decide +kernel
theorem dX12_count_264 : decode cX12_count 264 = .ok (.ireturn, 1) := by decide +kernel
theorem dX12_count_265 : decode cX12_count 265 = .ok (.iconst 0, 1) := by decide +kernel
theorem dX12_count_266 : decode cX12_count 266 = .ok (.istore_n 3, 1) := by decide +kernel
theorem dX12_count_267 : decode cX12_count 267 = .ok (.iload_n 3, 1) := by decide +kernel
theorem dX12_count_268 : decode cX12_count 268 = .ok (.aload_n 0, 1) := by decide +kernel
theorem dX12_count_269 : decode cX12_count 269 = .ok (.getfield 55, 3) := by decide +kernel
theorem dX12_count_272 : decode cX12_count 272 = .ok (.aload_n 0, 1) := by decide +kernel
theorem dX12_count_273 : decode cX12_count 273 = .ok (.getfield 249, 3) := by decide +kernel
theorem dX12_count_276 : decode cX12_count 276 = .ok (.iaload, 1) := by decide +kernel
theorem dX12_count_277 : decode cX12_count 277 = .ok (.if_icmp .ge 25, 3) := by decide +kernel
theorem dX12_count_280 : decode cX12_count 280 = .ok (.aload_n 0, 1) := by decide +kernel
theorem dX12_count_281 : decode cX12_count 281 = .ok (.getfield 107, 3) := by decide +kernel
theorem dX12_count_284 : decode cX12_count 284 = .ok (.iload_n 3, 1) := by decide +kernel
theorem dX12_count_285 : decode cX12_count 285 = .ok (.iaload, 1) := by decide +kernel
theorem dX12_count_286 : decode cX12_count 286 = .ok (.iconst 1, 1) := by decide +kernel
theorem dX12_count_287 : decode cX12_count 287 = .ok (.if_icmp .ne 9, 3) := by decide +kernel
theorem dX12_count_290 : decode cX12_count 290 = .ok (.iload_n 2, 1) := by decide +kernel
theorem dX12_count_291 : decode cX12_count 291 = .ok (.iconst 1, 1) := by decide +kernel
theorem dX12_count_292 : decode cX12_count 292 = .ok (.iload_n 3, 1) := by decide +kernel
theorem dX12_count_293 : decode cX12_count 293 = .ok (.ishl, 1) := by decide +kernel
theorem dX12_count_294 : decode cX12_count 294 = .ok (.ior, 1) := by decide +kernel
theorem dX12_count_295 : decode cX12_count 295 = .ok (.istore_n 2, 1) := by decide +kernel
theorem dX12_count_296 : decode cX12_count 296 = .ok (.iinc 3 1, 3) := by decide +kernel
theorem dX12_count_299 : decode cX12_count 299 = .ok (.goto (-32), 3) := by decide +kernel
theorem dX12_count_302 : decode cX12_count 302 = .ok (.iload_n 2, 1) := by decide +kernel
theorem dX12_count_303 : decode cX12_count 303 = .ok (.ireturn, 1) := by decide +kernel
theorem dX12_count_304 : decode cX12_count 304 = .ok (.iconst (-1), 1) := by decide +kernel
theorem dX12_count_305 : decode cX12_count 305 = .ok (.ireturn, 1) := by decide +kernel
def xX12_count : zX := (RX12, cX12_count, 5, (some .int), false, { frames := 6, cells := 0, slots := 0, locals := 203 }, 0, 0, 0, 0)
theorem rmX12_count : z_Rm xX12_count := by unfold z_Rm xX12_count; exact ⟨by decide, by decide⟩
theorem reX12_count : z_Re xX12_count := ⟨rfl, rfl⟩
theorem rlX12_count : 1 ≤ xX12_count.2.2.2.2.2.1.frames ∧ 21 ≤ xX12_count.2.2.2.2.2.1.locals := by unfold xX12_count; exact ⟨by decide, by decide⟩
theorem meX12_count : z_Me yX12_count xX12_count 1 := ⟨wd1362, wd893, by decide, by decide, by decide +kernel⟩
theorem fitX12_count_1 : z_Fit xX12_copies xX12_count := by unfold z_Fit; simp only [xX12_copies, xX12_count]; exact ⟨by decide, by decide⟩
theorem fitX12_count_77 : z_Fit xX12_base xX12_count := by unfold z_Fit; simp only [xX12_base, xX12_count]; exact ⟨by decide, by decide⟩
theorem fitX12_count_136 : z_Fit xX12_fairBits xX12_count := by unfold z_Fit; simp only [xX12_fairBits, xX12_count]; exact ⟨by decide, by decide⟩
theorem fitX12_count_141 : z_Fit xX12_paysAll xX12_count := by unfold z_Fit; simp only [xX12_paysAll, xX12_count]; exact ⟨by decide, by decide⟩
theorem fitX12_count_146 : z_Fit xX12_lastBits xX12_count := by unfold z_Fit; simp only [xX12_lastBits, xX12_count]; exact ⟨by decide, by decide⟩
theorem fitX12_count_245 : z_Fit xX12_seatAt xX12_count := by unfold z_Fit; simp only [xX12_seatAt, xX12_count]; exact ⟨by decide, by decide⟩
noncomputable def kX12_count_208 : zK zR := (q_iadd q_iret)
noncomputable def kX12_count_193 : zK zR := (q_iadd (q_aload 0 (q_getR 12 72 (q_push 2 (q_zald (q_if_eq (q_push 0 kX12_count_208) (q_push 1 kX12_count_208)))))))
noncomputable def kX12_count_179 : zK zR := (q_aload 0 (q_getR 12 72 (q_push 1 (q_zald (q_if_eq (q_push 0 kX12_count_193) (q_push 1 kX12_count_193))))))
noncomputable def kX12_count_263 : zK zR := (q_iload 2 q_iret)
noncomputable def kX12_count_257 : zK ((zL × zS) ⊕ zR) := (q_iinc 3 1 q_ag)
noncomputable def bX12_count_228 : zK ((zL × zS) ⊕ ((zL × zS) ⊕ zR)) := (q_iload 4 (q_aload 0 (q_getR 12 47 (q_iload 3 (q_iald (q_icmp_ge (q_dn kX12_count_257) (q_iload 2 (q_push 1 (q_aload 0 (q_iload 3 (q_iload 4 (q_callV 12 fX12_seatAt 2 (q_ishl (q_ior (q_istore 2 (q_iinc 4 1 q_ag))))))))))))))))
noncomputable def kX12_count_228 : zK ((zL × zS) ⊕ zR) := q_lp (bX12_count_228)
noncomputable def bX12_count_212 : zK ((zL × zS) ⊕ zR) := (q_iload 3 (q_aload 0 (q_getR 12 26 (q_aload 0 (q_getI 12 18 (q_iald (q_icmp_ge (q_dn kX12_count_263) (q_push 0 (q_istore 4 kX12_count_228)))))))))
noncomputable def kX12_count_212 : zK zR := q_lp (bX12_count_212)
noncomputable def kX12_count_302 : zK zR := (q_iload 2 q_iret)
noncomputable def kX12_count_296 : zK ((zL × zS) ⊕ zR) := (q_iinc 3 1 q_ag)
noncomputable def bX12_count_267 : zK ((zL × zS) ⊕ zR) := (q_iload 3 (q_aload 0 (q_getR 12 26 (q_aload 0 (q_getI 12 18 (q_iald (q_icmp_ge (q_dn kX12_count_302) (q_aload 0 (q_getR 12 47 (q_iload 3 (q_iald (q_push 1 (q_icmp_ne kX12_count_296 (q_iload 2 (q_push 1 (q_iload 3 (q_ishl (q_ior (q_istore 2 kX12_count_296)))))))))))))))))))
noncomputable def kX12_count_267 : zK zR := q_lp (bX12_count_267)
noncomputable def kX12_count_0 : zK zR := (q_aload 0 (q_callV 12 fX12_copies 0 (q_push 0 (q_istore 2 (q_iload 1 (q_sw 0 [(q_aload 0 (q_callV 12 fX12_base 0 q_iret)), (q_aload 0 (q_getR 12 26 (q_aload 0 (q_getI 12 18 (q_iald q_iret))))), (q_aload 0 (q_getR 12 47 (q_push 36 (q_iald q_iret)))), (q_aload 0 (q_getR 12 47 (q_push 37 (q_iald q_iret)))), (q_aload 0 (q_getR 12 47 (q_push 0 (q_iald (q_aload 0 (q_getR 12 47 (q_push 1 (q_iald (q_iadd (q_aload 0 (q_getR 12 47 (q_push 2 (q_iald (q_iadd (q_aload 0 (q_getR 12 47 (q_push 3 (q_iald (q_iadd q_iret))))))))))))))))))), (q_aload 0 (q_callV 12 fX12_fairBits 0 q_iret)), (q_aload 0 (q_callV 12 fX12_paysAll 0 q_iret)), (q_aload 0 (q_callV 12 fX12_lastBits 0 q_iret)), (q_aload 0 (q_getI 12 2 q_iret)), (q_aload 0 (q_getI 12 52 q_iret)), (q_aload 0 (q_getI 12 66 q_iret)), (q_aload 0 (q_getR 12 72 (q_push 0 (q_zald (q_if_eq (q_push 0 kX12_count_179) (q_push 1 kX12_count_179)))))), (q_push 0 (q_istore 3 kX12_count_212)), (q_push 0 (q_istore 3 kX12_count_267))] (q_push (-1) q_iret)))))))
set_option maxRecDepth 100000 in
theorem tX12_count_208 {l : Launch} {D : zD} {B sz0 : Nat} {post : Option Value → zS → Prop} : zSnd l D B xX12_count sz0 post 208 kX12_count_208 (z_Jr post) := (s_iadd dX12_count_208 (s_iret dX12_count_209 rfl))
set_option maxRecDepth 100000 in
theorem tX12_count_193 {l : Launch} {D : zD} {B sz0 : Nat} {post : Option Value → zS → Prop} : zSnd l D B xX12_count sz0 post 193 kX12_count_193 (z_Jr post) := (s_iadd dX12_count_193 (s_aload_n dX12_count_194 rfl (s_getR (f := 72) dX12_count_195 clX12 (by decide) rfl wd945 (s_iconst dX12_count_198 (by decide) (s_zald dX12_count_199 (s_if_eq (tgt := 207) dX12_count_200 (by decide) (s_iconst dX12_count_207 (by decide) tX12_count_208) (s_iconst dX12_count_203 (by decide) (s_goto (tgt := 208) dX12_count_204 (by decide) tX12_count_208))))))))
set_option maxRecDepth 100000 in
theorem tX12_count_179 {l : Launch} {D : zD} {B sz0 : Nat} {post : Option Value → zS → Prop} : zSnd l D B xX12_count sz0 post 179 kX12_count_179 (z_Jr post) := (s_aload_n dX12_count_179 rfl (s_getR (f := 72) dX12_count_180 clX12 (by decide) rfl wd945 (s_iconst dX12_count_183 (by decide) (s_zald dX12_count_184 (s_if_eq (tgt := 192) dX12_count_185 (by decide) (s_iconst dX12_count_192 (by decide) tX12_count_193) (s_iconst dX12_count_188 (by decide) (s_goto (tgt := 193) dX12_count_189 (by decide) tX12_count_193)))))))
set_option maxRecDepth 100000 in
theorem tX12_count_263 {l : Launch} {D : zD} {B sz0 : Nat} {post : Option Value → zS → Prop} : zSnd l D B xX12_count sz0 post 263 kX12_count_263 (z_Jr post) := (s_iload_n dX12_count_263 rfl (s_iret dX12_count_264 rfl))
set_option maxRecDepth 100000 in
theorem tX12_count_257 {l : Launch} {D : zD} {B sz0 : Nat} {post : Option Value → zS → Prop} : zSnd l D B xX12_count sz0 post 257 kX12_count_257 (z_Jl l D B xX12_count sz0 post 212 (z_Jr post)) := (s_iinc dX12_count_257 (by decide) (s_goto (tgt := 212) dX12_count_260 (by decide) s_ag))
set_option maxRecDepth 100000 in
theorem tX12_count_228 {l : Launch} {D : zD} {B sz0 : Nat} {post : Option Value → zS → Prop} : zSnd l D B xX12_count sz0 post 228 kX12_count_228 (z_Jl l D B xX12_count sz0 post 212 (z_Jr post)) := s_lp (body := bX12_count_228) (s_iload dX12_count_228 (s_aload_n dX12_count_230 rfl (s_getR (f := 47) dX12_count_231 clX12 (by decide) rfl wd901 (s_iload_n dX12_count_234 rfl (s_iald dX12_count_235 (s_icmp_ge (tgt := 257) dX12_count_236 (by decide) (s_dn tX12_count_257) (s_iload_n dX12_count_239 rfl (s_iconst dX12_count_240 (by decide) (s_aload_n dX12_count_241 rfl (s_iload_n dX12_count_242 rfl (s_iload dX12_count_243 (s_callV (r := (RX12, TX12, 74)) dX12_count_245 mX12_seatAt meX12_seatAt wd1109 wd1110 rfl rfl reX12_seatAt rmX12_count (fitX12_count_245) wd1111 (s_ishl dX12_count_248 (s_ior dX12_count_249 (s_istore_n dX12_count_250 rfl (s_iinc dX12_count_251 (by decide) (s_goto (tgt := 228) dX12_count_254 (by decide) s_ag)))))))))))))))))
set_option maxRecDepth 100000 in
theorem tX12_count_212 {l : Launch} {D : zD} {B sz0 : Nat} {post : Option Value → zS → Prop} : zSnd l D B xX12_count sz0 post 212 kX12_count_212 (z_Jr post) := s_lp (body := bX12_count_212) (s_iload_n dX12_count_212 rfl (s_aload_n dX12_count_213 rfl (s_getR (f := 26) dX12_count_214 clX12 (by decide) rfl wd887 (s_aload_n dX12_count_217 rfl (s_getI (f := 18) dX12_count_218 clX12 (by decide) rfl wd899 (s_iald dX12_count_221 (s_icmp_ge (tgt := 263) dX12_count_222 (by decide) (s_dn tX12_count_263) (s_iconst dX12_count_225 (by decide) (s_istore dX12_count_226 tX12_count_228)))))))))
set_option maxRecDepth 100000 in
theorem tX12_count_302 {l : Launch} {D : zD} {B sz0 : Nat} {post : Option Value → zS → Prop} : zSnd l D B xX12_count sz0 post 302 kX12_count_302 (z_Jr post) := (s_iload_n dX12_count_302 rfl (s_iret dX12_count_303 rfl))
set_option maxRecDepth 100000 in
theorem tX12_count_296 {l : Launch} {D : zD} {B sz0 : Nat} {post : Option Value → zS → Prop} : zSnd l D B xX12_count sz0 post 296 kX12_count_296 (z_Jl l D B xX12_count sz0 post 267 (z_Jr post)) := (s_iinc dX12_count_296 (by decide) (s_goto (tgt := 267) dX12_count_299 (by decide) s_ag))
set_option maxRecDepth 100000 in
theorem tX12_count_267 {l : Launch} {D : zD} {B sz0 : Nat} {post : Option Value → zS → Prop} : zSnd l D B xX12_count sz0 post 267 kX12_count_267 (z_Jr post) := s_lp (body := bX12_count_267) (s_iload_n dX12_count_267 rfl (s_aload_n dX12_count_268 rfl (s_getR (f := 26) dX12_count_269 clX12 (by decide) rfl wd887 (s_aload_n dX12_count_272 rfl (s_getI (f := 18) dX12_count_273 clX12 (by decide) rfl wd899 (s_iald dX12_count_276 (s_icmp_ge (tgt := 302) dX12_count_277 (by decide) (s_dn tX12_count_302) (s_aload_n dX12_count_280 rfl (s_getR (f := 47) dX12_count_281 clX12 (by decide) rfl wd901 (s_iload_n dX12_count_284 rfl (s_iald dX12_count_285 (s_iconst dX12_count_286 (by decide) (s_icmp_ne (tgt := 296) dX12_count_287 (by decide) tX12_count_296 (s_iload_n dX12_count_290 rfl (s_iconst dX12_count_291 (by decide) (s_iload_n dX12_count_292 rfl (s_ishl dX12_count_293 (s_ior dX12_count_294 (s_istore_n dX12_count_295 rfl tX12_count_296)))))))))))))))))))
set_option maxRecDepth 100000 in
theorem tX12_count_0 {l : Launch} {D : zD} {B sz0 : Nat} {post : Option Value → zS → Prop} : zSnd l D B xX12_count sz0 post 0 kX12_count_0 (z_Jr post) := (s_aload_n dX12_count_0 rfl (s_callV (r := (RX12, TX12, 74)) dX12_count_1 mX12_copies meX12_copies wd1178 wd1179 rfl rfl reX12_copies rmX12_count (fitX12_count_1) wd1180 (s_iconst dX12_count_4 (by decide) (s_istore_n dX12_count_5 rfl (s_iload_n dX12_count_6 rfl (s_swL (tgts := [76, 81, 91, 99, 107, 135, 140, 145, 150, 155, 160, 165, 210, 265]) (td := 304) dX12_count_7 (by decide) (by decide) (by decide) ⟨(s_aload_n dX12_count_76 rfl (s_callV (r := (RX12, TX12, 74)) dX12_count_77 mX12_base meX12_base wd1081 wd1082 rfl rfl reX12_base rmX12_count (fitX12_count_77) wd1083 (s_iret dX12_count_80 rfl))), ⟨(s_aload_n dX12_count_81 rfl (s_getR (f := 26) dX12_count_82 clX12 (by decide) rfl wd887 (s_aload_n dX12_count_85 rfl (s_getI (f := 18) dX12_count_86 clX12 (by decide) rfl wd899 (s_iald dX12_count_89 (s_iret dX12_count_90 rfl)))))), ⟨(s_aload_n dX12_count_91 rfl (s_getR (f := 47) dX12_count_92 clX12 (by decide) rfl wd901 (s_bipush dX12_count_95 (by decide) (s_iald dX12_count_97 (s_iret dX12_count_98 rfl))))), ⟨(s_aload_n dX12_count_99 rfl (s_getR (f := 47) dX12_count_100 clX12 (by decide) rfl wd901 (s_bipush dX12_count_103 (by decide) (s_iald dX12_count_105 (s_iret dX12_count_106 rfl))))), ⟨(s_aload_n dX12_count_107 rfl (s_getR (f := 47) dX12_count_108 clX12 (by decide) rfl wd901 (s_iconst dX12_count_111 (by decide) (s_iald dX12_count_112 (s_aload_n dX12_count_113 rfl (s_getR (f := 47) dX12_count_114 clX12 (by decide) rfl wd901 (s_iconst dX12_count_117 (by decide) (s_iald dX12_count_118 (s_iadd dX12_count_119 (s_aload_n dX12_count_120 rfl (s_getR (f := 47) dX12_count_121 clX12 (by decide) rfl wd901 (s_iconst dX12_count_124 (by decide) (s_iald dX12_count_125 (s_iadd dX12_count_126 (s_aload_n dX12_count_127 rfl (s_getR (f := 47) dX12_count_128 clX12 (by decide) rfl wd901 (s_iconst dX12_count_131 (by decide) (s_iald dX12_count_132 (s_iadd dX12_count_133 (s_iret dX12_count_134 rfl)))))))))))))))))))), ⟨(s_aload_n dX12_count_135 rfl (s_callV (r := (RX12, TX12, 74)) dX12_count_136 mX12_fairBits meX12_fairBits wd1356 wd1357 rfl rfl reX12_fairBits rmX12_count (fitX12_count_136) wd1358 (s_iret dX12_count_139 rfl))), ⟨(s_aload_n dX12_count_140 rfl (s_callV (r := (RX12, TX12, 74)) dX12_count_141 mX12_paysAll meX12_paysAll wd1163 wd1164 rfl rfl reX12_paysAll rmX12_count (fitX12_count_141) wd1165 (s_iret dX12_count_144 rfl))), ⟨(s_aload_n dX12_count_145 rfl (s_callV (r := (RX12, TX12, 74)) dX12_count_146 mX12_lastBits meX12_lastBits wd1359 wd1360 rfl rfl reX12_lastBits rmX12_count (fitX12_count_146) wd1361 (s_iret dX12_count_149 rfl))), ⟨(s_aload_n dX12_count_150 rfl (s_getI (f := 2) dX12_count_151 clX12 (by decide) rfl wd959 (s_iret dX12_count_154 rfl))), ⟨(s_aload_n dX12_count_155 rfl (s_getI (f := 52) dX12_count_156 clX12 (by decide) rfl wd1066 (s_iret dX12_count_159 rfl))), ⟨(s_aload_n dX12_count_160 rfl (s_getI (f := 66) dX12_count_161 clX12 (by decide) rfl wd1067 (s_iret dX12_count_164 rfl))), ⟨(s_aload_n dX12_count_165 rfl (s_getR (f := 72) dX12_count_166 clX12 (by decide) rfl wd945 (s_iconst dX12_count_169 (by decide) (s_zald dX12_count_170 (s_if_eq (tgt := 178) dX12_count_171 (by decide) (s_iconst dX12_count_178 (by decide) tX12_count_179) (s_iconst dX12_count_174 (by decide) (s_goto (tgt := 179) dX12_count_175 (by decide) tX12_count_179))))))), ⟨(s_iconst dX12_count_210 (by decide) (s_istore_n dX12_count_211 rfl tX12_count_212)), ⟨(s_iconst dX12_count_265 (by decide) (s_istore_n dX12_count_266 rfl tX12_count_267)), True.intro⟩⟩⟩⟩⟩⟩⟩⟩⟩⟩⟩⟩⟩⟩ (s_iconst dX12_count_304 (by decide) (s_iret dX12_count_305 rfl))))))))
noncomputable def fX12_count : zF := z_fn 5 kX12_count_0
theorem mX12_count {l : Launch} {D : zD} {B : Nat} : z_MF l D B yX12_count xX12_count fX12_count := z_mf (by decide) rfl (fun h => by cases h) rfl (fun as σ r h => ⟨z_fn_len h, kX12_count_0, z_fn_run h, fun _ => tX12_count_0⟩)
