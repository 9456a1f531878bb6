/-! ===== RowChildren.isOneOfTwo ===== -/
theorem dX11_isOneOfTwo_0 : decode cX11_isOneOfTwo 0 = .ok (.iload_n 0, 1) := by decide +kernel
theorem dX11_isOneOfTwo_1 : decode cX11_isOneOfTwo 1 = .ok (.ifCond .eq 8, 3) := by decide +kernel
theorem dX11_isOneOfTwo_4 : decode cX11_isOneOfTwo 4 = .ok (.iload_n 0, 1) := by decide +kernel
theorem dX11_isOneOfTwo_5 : decode cX11_isOneOfTwo 5 = .ok (.iconst 1, 1) := by decide +kernel
theorem dX11_isOneOfTwo_6 : decode cX11_isOneOfTwo 6 = .ok (.if_icmp .ne 7, 3) := by decide +kernel
theorem dX11_isOneOfTwo_9 : decode cX11_isOneOfTwo 9 = .ok (.iconst 1, 1) := by decide +kernel
theorem dX11_isOneOfTwo_10 : decode cX11_isOneOfTwo 10 = .ok (.goto 4, 3) := by decide +kernel
theorem dX11_isOneOfTwo_13 : decode cX11_isOneOfTwo 13 = .ok (.iconst 0, 1) := by decide +kernel
theorem dX11_isOneOfTwo_14 : decode cX11_isOneOfTwo 14 = .ok (.ireturn, 1) := by decide +kernel
def xX11_isOneOfTwo : zX := (RX11, cX11_isOneOfTwo, 1, (some .boolean), false, { frames := 1, cells := 0, slots := 0, locals := 90 }, 0, 0, 0, 0)
theorem rmX11_isOneOfTwo : z_Rm xX11_isOneOfTwo := by unfold z_Rm xX11_isOneOfTwo; exact ⟨by decide, by decide⟩
theorem reX11_isOneOfTwo : z_Re xX11_isOneOfTwo := ⟨rfl, rfl⟩
theorem rlX11_isOneOfTwo : 1 ≤ xX11_isOneOfTwo.2.2.2.2.2.1.frames ∧ 21 ≤ xX11_isOneOfTwo.2.2.2.2.2.1.locals := by unfold xX11_isOneOfTwo; exact ⟨by decide, by decide⟩
theorem meX11_isOneOfTwo : z_Me yX11_isOneOfTwo xX11_isOneOfTwo 1 := ⟨wd680, wd275, by decide, by decide, by decide +kernel⟩
noncomputable def kX11_isOneOfTwo_14 : zK zR := q_zret
noncomputable def kX11_isOneOfTwo_9 : zK zR := (q_push 1 kX11_isOneOfTwo_14)
noncomputable def kX11_isOneOfTwo_0 : zK zR := (q_iload 0 (q_if_eq kX11_isOneOfTwo_9 (q_iload 0 (q_push 1 (q_icmp_ne (q_push 0 kX11_isOneOfTwo_14) kX11_isOneOfTwo_9)))))
set_option maxRecDepth 100000 in
theorem tX11_isOneOfTwo_14 {l : Launch} {D : zD} {B sz0 : Nat} {post : Option Value → zS → Prop} : zSnd l D B xX11_isOneOfTwo sz0 post 14 kX11_isOneOfTwo_14 (z_Jr post) := (s_zret dX11_isOneOfTwo_14 rfl)
set_option maxRecDepth 100000 in
theorem tX11_isOneOfTwo_9 {l : Launch} {D : zD} {B sz0 : Nat} {post : Option Value → zS → Prop} : zSnd l D B xX11_isOneOfTwo sz0 post 9 kX11_isOneOfTwo_9 (z_Jr post) := (s_iconst dX11_isOneOfTwo_9 (by decide) (s_goto (tgt := 14) dX11_isOneOfTwo_10 (by decide) tX11_isOneOfTwo_14))
set_option maxRecDepth 100000 in
theorem tX11_isOneOfTwo_0 {l : Launch} {D : zD} {B sz0 : Nat} {post : Option Value → zS → Prop} : zSnd l D B xX11_isOneOfTwo sz0 post 0 kX11_isOneOfTwo_0 (z_Jr post) := (s_iload_n dX11_isOneOfTwo_0 rfl (s_if_eq (tgt := 9) dX11_isOneOfTwo_1 (by decide) tX11_isOneOfTwo_9 (s_iload_n dX11_isOneOfTwo_4 rfl (s_iconst dX11_isOneOfTwo_5 (by decide) (s_icmp_ne (tgt := 13) dX11_isOneOfTwo_6 (by decide) (s_iconst dX11_isOneOfTwo_13 (by decide) tX11_isOneOfTwo_14) tX11_isOneOfTwo_9)))))
noncomputable def fX11_isOneOfTwo : zF := z_fn 1 kX11_isOneOfTwo_0
theorem mX11_isOneOfTwo {l : Launch} {D : zD} {B : Nat} : z_MF l D B yX11_isOneOfTwo xX11_isOneOfTwo fX11_isOneOfTwo := z_mf (by decide) rfl (fun h => by cases h) rfl (fun as σ r h => ⟨z_fn_len h, kX11_isOneOfTwo_0, z_fn_run h, fun _ => tX11_isOneOfTwo_0⟩)
/-! ===== RowChildren.side ===== -/
theorem dX11_side_0 : decode cX11_side 0 = .ok (.aload_n 0, 1) := by decide +kernel
theorem dX11_side_1 : decode cX11_side 1 = .ok (.iload_n 1, 1) := by decide +kernel
theorem dX11_side_2 : decode cX11_side 2 = .ok (.invokevirtual 134, 3) := by decide +kernel
theorem dX11_side_5 : decode cX11_side 5 = .ok (.ifCond .eq 26, 3) := by decide +kernel
theorem dX11_side_8 : decode cX11_side 8 = .ok (.iload_n 2, 1) := by decide +kernel
theorem dX11_side_9 : decode cX11_side 9 = .ok (.invokestatic 184, 3) := by decide +kernel
theorem dX11_side_12 : decode cX11_side 12 = .ok (.ifCond .eq 19, 3) := by decide +kernel
theorem dX11_side_15 : decode cX11_side 15 = .ok (.iload_n 3, 1) := by decide +kernel
theorem dX11_side_16 : decode cX11_side 16 = .ok (.ifCond .lt 15, 3) := by decide +kernel
theorem dX11_side_19 : decode cX11_side 19 = .ok (.iload_n 3, 1) := by decide +kernel
theorem dX11_side_20 : decode cX11_side 20 = .ok (.aload_n 0, 1) := by decide +kernel
theorem dX11_side_21 : decode cX11_side 21 = .ok (.getfield 33, 3) := by decide +kernel
theorem dX11_side_24 : decode cX11_side 24 = .ok (.iload_n 1, 1) := by decide +kernel
theorem dX11_side_25 : decode cX11_side 25 = .ok (.invokevirtual 141, 3) := by decide +kernel
theorem dX11_side_28 : decode cX11_side 28 = .ok (.if_icmp .lt 5, 3) := by decide +kernel
theorem dX11_side_31 : decode cX11_side 31 = .ok (.iconst (-1), 1) := by decide +kernel
theorem dX11_side_32 : decode cX11_side 32 = .ok (.ireturn, 1) := by decide +kernel
theorem dX11_side_33 : decode cX11_side 33 = .ok (.aload_n 0, 1) := by decide +kernel
theorem dX11_side_34 : decode cX11_side 34 = .ok (.getfield 54, 3) := by decide +kernel
theorem dX11_side_37 : decode cX11_side 37 = .ok (.aload_n 0, 1) := by decide +kernel
theorem dX11_side_38 : decode cX11_side 38 = .ok (.getfield 19, 3) := by decide +kernel
theorem dX11_side_41 : decode cX11_side 41 = .ok (.getfield 124, 3) := by decide +kernel
theorem dX11_side_44 : decode cX11_side 44 = .ok (.aload_n 0, 1) := by decide +kernel
theorem dX11_side_45 : decode cX11_side 45 = .ok (.getfield 33, 3) := by decide +kernel
theorem dX11_side_48 : decode cX11_side 48 = .ok (.iload_n 1, 1) := by decide +kernel
theorem dX11_side_49 : decode cX11_side 49 = .ok (.invokevirtual 137, 3) := by decide +kernel
theorem dX11_side_52 : decode cX11_side 52 = .ok (.iload_n 2, 1) := by decide +kernel
theorem dX11_side_53 : decode cX11_side 53 = .ok (.ifCond .ne 14, 3) := by decide +kernel
theorem dX11_side_56 : decode cX11_side 56 = .ok (.aload_n 0, 1) := by decide +kernel
theorem dX11_side_57 : decode cX11_side 57 = .ok (.getfield 54, 3) := by decide +kernel
theorem dX11_side_60 : decode cX11_side 60 = .ok (.iload_n 3, 1) := by decide +kernel
theorem dX11_side_61 : decode cX11_side 61 = .ok (.invokevirtual 187, 3) := by decide +kernel
theorem dX11_side_64 : decode cX11_side 64 = .ok (.goto 11, 3) := by decide +kernel
theorem dX11_side_67 : decode cX11_side 67 = .ok (.aload_n 0, 1) := by decide +kernel
theorem dX11_side_68 : decode cX11_side 68 = .ok (.getfield 54, 3) := by decide +kernel
theorem dX11_side_71 : decode cX11_side 71 = .ok (.iload_n 3, 1) := by decide +kernel
theorem dX11_side_72 : decode cX11_side 72 = .ok (.invokevirtual 190, 3) := by decide +kernel
theorem dX11_side_75 : decode cX11_side 75 = .ok (.ireturn, 1) := by decide +kernel
def xX11_side : zX := (RX11, cX11_side, 4, (some .int), false, { frames := 4, cells := 0, slots := 0, locals := 159 }, 0, 0, 0, 0)
theorem rmX11_side : z_Rm xX11_side := by unfold z_Rm xX11_side; exact ⟨by decide, by decide⟩
theorem reX11_side : z_Re xX11_side := ⟨rfl, rfl⟩
theorem rlX11_side : 1 ≤ xX11_side.2.2.2.2.2.1.frames ∧ 21 ≤ xX11_side.2.2.2.2.2.1.locals := by unfold xX11_side; exact ⟨by decide, by decide⟩
theorem meX11_side : z_Me yX11_side xX11_side 3 := ⟨wd685, wd275, by decide, by decide, by decide +kernel⟩
theorem fitX11_side_2 : z_Fit xX11_isRow xX11_side := by unfold z_Fit; simp only [xX11_isRow, xX11_side]; exact ⟨by decide, by decide⟩
theorem fitX11_side_9 : z_Fit xX11_isOneOfTwo xX11_side := by unfold z_Fit; simp only [xX11_isOneOfTwo, xX11_side]; exact ⟨by decide, by decide⟩
theorem fitX11_side_25 : z_Fit xX1_lengthOf xX11_side := by unfold z_Fit; simp only [xX1_lengthOf, xX11_side]; exact ⟨by decide, by decide⟩
theorem fitX11_side_49 : z_Fit xX10_fill xX11_side := by unfold z_Fit; simp only [xX10_fill, xX11_side]; exact ⟨by decide, by decide⟩
theorem fitX11_side_72 : z_Fit xX10_rightSide xX11_side := by unfold z_Fit; simp only [xX10_rightSide, xX11_side]; exact ⟨by decide, by decide⟩
theorem fitX11_side_61 : z_Fit xX10_leftSide xX11_side := by unfold z_Fit; simp only [xX10_leftSide, xX11_side]; exact ⟨by decide, by decide⟩
noncomputable def kX11_side_31 : zK zR := (q_push (-1) q_iret)
noncomputable def kX11_side_75 : zK zR := q_iret
noncomputable def kX11_side_0 : zK zR := (q_aload 0 (q_iload 1 (q_callV 11 fX11_isRow 1 (q_if_eq kX11_side_31 (q_iload 2 (q_callS fX11_isOneOfTwo 1 (q_if_eq kX11_side_31 (q_iload 3 (q_if_lt kX11_side_31 (q_iload 3 (q_aload 0 (q_getR 11 4 (q_iload 1 (q_callV 1 fX1_lengthOf 1 (q_icmp_lt (q_aload 0 (q_getR 11 8 (q_aload 0 (q_getR 11 1 (q_getR 7 1 (q_aload 0 (q_getR 11 4 (q_iload 1 (q_callV 10 fX10_fill 3 (q_iload 2 (q_if_ne (q_aload 0 (q_getR 11 8 (q_iload 3 (q_callV 10 fX10_rightSide 1 kX11_side_75)))) (q_aload 0 (q_getR 11 8 (q_iload 3 (q_callV 10 fX10_leftSide 1 kX11_side_75))))))))))))))) kX11_side_31)))))))))))))))
set_option maxRecDepth 100000 in
theorem tX11_side_31 {l : Launch} {D : zD} {B sz0 : Nat} {post : Option Value → zS → Prop} : zSnd l D B xX11_side sz0 post 31 kX11_side_31 (z_Jr post) := (s_iconst dX11_side_31 (by decide) (s_iret dX11_side_32 rfl))
set_option maxRecDepth 100000 in
theorem tX11_side_75 {l : Launch} {D : zD} {B sz0 : Nat} {post : Option Value → zS → Prop} : zSnd l D B xX11_side sz0 post 75 kX11_side_75 (z_Jr post) := (s_iret dX11_side_75 rfl)
set_option maxRecDepth 100000 in
theorem tX11_side_0 {l : Launch} {D : zD} {B sz0 : Nat} {post : Option Value → zS → Prop} : zSnd l D B xX11_side sz0 post 0 kX11_side_0 (z_Jr post) := (s_aload_n dX11_side_0 rfl (s_iload_n dX11_side_1 rfl (s_callV (r := (RX11, TX11, 13)) dX11_side_2 mX11_isRow meX11_isRow wd655 wd656 rfl rfl reX11_isRow rmX11_side (fitX11_side_2) wd657 (s_if_eq (tgt := 31) dX11_side_5 (by decide) tX11_side_31 (s_iload_n dX11_side_8 rfl (s_callS dX11_side_9 mX11_isOneOfTwo meX11_isOneOfTwo wd681 rfl reX11_isOneOfTwo rmX11_side (fitX11_side_9) wd682 (s_if_eq (tgt := 31) dX11_side_12 (by decide) tX11_side_31 (s_iload_n dX11_side_15 rfl (s_if_lt (tgt := 31) dX11_side_16 (by decide) tX11_side_31 (s_iload_n dX11_side_19 rfl (s_aload_n dX11_side_20 rfl (s_getR (f := 4) dX11_side_21 clX11 (by decide) rfl wd576 (s_iload_n dX11_side_24 rfl (s_callV (r := (RX1, TX1, 5)) dX11_side_25 mX1_lengthOf meX1_lengthOf wd65 wd66 rfl rfl reX1_lengthOf rmX11_side (fitX11_side_25) wd661 (s_icmp_lt (tgt := 33) dX11_side_28 (by decide) (s_aload_n dX11_side_33 rfl (s_getR (f := 8) dX11_side_34 clX11 (by decide) rfl wd584 (s_aload_n dX11_side_37 rfl (s_getR (f := 1) dX11_side_38 clX11 (by decide) rfl wd572 (s_getR (f := 1) dX11_side_41 clX7 (by decide) rfl wd628 (s_aload_n dX11_side_44 rfl (s_getR (f := 4) dX11_side_45 clX11 (by decide) rfl wd576 (s_iload_n dX11_side_48 rfl (s_callV (r := (RX10, TX10, 3)) dX11_side_49 mX10_fill meX10_fill wd658 wd659 rfl rfl reX10_fill rmX11_side (fitX11_side_49) wd660 (s_iload_n dX11_side_52 rfl (s_if_ne (tgt := 67) dX11_side_53 (by decide) (s_aload_n dX11_side_67 rfl (s_getR (f := 8) dX11_side_68 clX11 (by decide) rfl wd584 (s_iload_n dX11_side_71 rfl (s_callV (r := (RX10, TX10, 3)) dX11_side_72 mX10_rightSide meX10_rightSide wd556 wd557 rfl rfl reX10_rightSide rmX11_side (fitX11_side_72) wd683 tX11_side_75)))) (s_aload_n dX11_side_56 rfl (s_getR (f := 8) dX11_side_57 clX11 (by decide) rfl wd584 (s_iload_n dX11_side_60 rfl (s_callV (r := (RX10, TX10, 3)) dX11_side_61 mX10_leftSide meX10_leftSide wd559 wd560 rfl rfl reX10_leftSide rmX11_side (fitX11_side_61) wd684 (s_goto (tgt := 75) dX11_side_64 (by decide) tX11_side_75)))))))))))))))) tX11_side_31)))))))))))))))
noncomputable def fX11_side : zF := z_fn 4 kX11_side_0
theorem mX11_side {l : Launch} {D : zD} {B : Nat} : z_MF l D B yX11_side xX11_side fX11_side := z_mf (by decide) rfl (fun h => by cases h) rfl (fun as σ r h => ⟨z_fn_len h, kX11_side_0, z_fn_run h, fun _ => tX11_side_0⟩)
/-! ===== RowChildren.canPaint ===== -/
theorem dX11_canPaint_0 : decode cX11_canPaint 0 = .ok (.aload_n 0, 1) := by decide +kernel
theorem dX11_canPaint_1 : decode cX11_canPaint 1 = .ok (.iload_n 1, 1) := by decide +kernel
theorem dX11_canPaint_2 : decode cX11_canPaint 2 = .ok (.invokevirtual 134, 3) := by decide +kernel
theorem dX11_canPaint_5 : decode cX11_canPaint 5 = .ok (.ifCond .eq 44, 3) := by decide +kernel
theorem dX11_canPaint_8 : decode cX11_canPaint 8 = .ok (.aload_n 0, 1) := by decide +kernel
theorem dX11_canPaint_9 : decode cX11_canPaint 9 = .ok (.iload_n 3, 1) := by decide +kernel
theorem dX11_canPaint_10 : decode cX11_canPaint 10 = .ok (.invokevirtual 120, 3) := by decide +kernel
theorem dX11_canPaint_13 : decode cX11_canPaint 13 = .ok (.ifCond .eq 36, 3) := by decide +kernel
theorem dX11_canPaint_16 : decode cX11_canPaint 16 = .ok (.iload_n 2, 1) := by decide +kernel
theorem dX11_canPaint_17 : decode cX11_canPaint 17 = .ok (.ifCond .lt 32, 3) := by decide +kernel
theorem dX11_canPaint_20 : decode cX11_canPaint 20 = .ok (.iload_n 2, 1) := by decide +kernel
theorem dX11_canPaint_21 : decode cX11_canPaint 21 = .ok (.aload_n 0, 1) := by decide +kernel
theorem dX11_canPaint_22 : decode cX11_canPaint 22 = .ok (.getfield 33, 3) := by decide +kernel
theorem dX11_canPaint_25 : decode cX11_canPaint 25 = .ok (.iload_n 1, 1) := by decide +kernel
theorem dX11_canPaint_26 : decode cX11_canPaint 26 = .ok (.invokevirtual 141, 3) := by decide +kernel
theorem dX11_canPaint_29 : decode cX11_canPaint 29 = .ok (.if_icmp .ge 20, 3) := by decide +kernel
theorem dX11_canPaint_32 : decode cX11_canPaint 32 = .ok (.aload_n 0, 1) := by decide +kernel
theorem dX11_canPaint_33 : decode cX11_canPaint 33 = .ok (.getfield 33, 3) := by decide +kernel
theorem dX11_canPaint_36 : decode cX11_canPaint 36 = .ok (.iload_n 1, 1) := by decide +kernel
theorem dX11_canPaint_37 : decode cX11_canPaint 37 = .ok (.iload_n 2, 1) := by decide +kernel
theorem dX11_canPaint_38 : decode cX11_canPaint 38 = .ok (.invokevirtual 318, 3) := by decide +kernel
theorem dX11_canPaint_41 : decode cX11_canPaint 41 = .ok (.iload_n 3, 1) := by decide +kernel
theorem dX11_canPaint_42 : decode cX11_canPaint 42 = .ok (.if_icmp .eq 7, 3) := by decide +kernel
theorem dX11_canPaint_45 : decode cX11_canPaint 45 = .ok (.iconst 1, 1) := by decide +kernel
theorem dX11_canPaint_46 : decode cX11_canPaint 46 = .ok (.goto 4, 3) := by decide +kernel
theorem dX11_canPaint_49 : decode cX11_canPaint 49 = .ok (.iconst 0, 1) := by decide +kernel
theorem dX11_canPaint_50 : decode cX11_canPaint 50 = .ok (.ireturn, 1) := by decide +kernel
def xX11_canPaint : zX := (RX11, cX11_canPaint, 4, (some .boolean), false, { frames := 2, cells := 0, slots := 0, locals := 112 }, 0, 0, 0, 0)
theorem rmX11_canPaint : z_Rm xX11_canPaint := by unfold z_Rm xX11_canPaint; exact ⟨by decide, by decide⟩
theorem reX11_canPaint : z_Re xX11_canPaint := ⟨rfl, rfl⟩
theorem rlX11_canPaint : 1 ≤ xX11_canPaint.2.2.2.2.2.1.frames ∧ 21 ≤ xX11_canPaint.2.2.2.2.2.1.locals := by unfold xX11_canPaint; exact ⟨by decide, by decide⟩
theorem meX11_canPaint : z_Me yX11_canPaint xX11_canPaint 3 := ⟨wd686, wd275, by decide, by decide, by decide +kernel⟩
theorem fitX11_canPaint_2 : z_Fit xX11_isRow xX11_canPaint := by unfold z_Fit; simp only [xX11_isRow, xX11_canPaint]; exact ⟨by decide, by decide⟩
theorem fitX11_canPaint_10 : z_Fit xX11_isColour xX11_canPaint := by unfold z_Fit; simp only [xX11_isColour, xX11_canPaint]; exact ⟨by decide, by decide⟩
theorem fitX11_canPaint_26 : z_Fit xX1_lengthOf xX11_canPaint := by unfold z_Fit; simp only [xX1_lengthOf, xX11_canPaint]; exact ⟨by decide, by decide⟩
theorem fitX11_canPaint_38 : z_Fit xX1_colourAt xX11_canPaint := by unfold z_Fit; simp only [xX1_colourAt, xX11_canPaint]; exact ⟨by decide, by decide⟩
noncomputable def kX11_canPaint_50 : zK zR := q_zret
noncomputable def kX11_canPaint_49 : zK zR := (q_push 0 kX11_canPaint_50)
noncomputable def kX11_canPaint_0 : zK zR := (q_aload 0 (q_iload 1 (q_callV 11 fX11_isRow 1 (q_if_eq kX11_canPaint_49 (q_aload 0 (q_iload 3 (q_callV 11 fX11_isColour 1 (q_if_eq kX11_canPaint_49 (q_iload 2 (q_if_lt kX11_canPaint_49 (q_iload 2 (q_aload 0 (q_getR 11 4 (q_iload 1 (q_callV 1 fX1_lengthOf 1 (q_icmp_ge kX11_canPaint_49 (q_aload 0 (q_getR 11 4 (q_iload 1 (q_iload 2 (q_callV 1 fX1_colourAt 2 (q_iload 3 (q_icmp_eq kX11_canPaint_49 (q_push 1 kX11_canPaint_50))))))))))))))))))))))))
set_option maxRecDepth 100000 in
theorem tX11_canPaint_50 {l : Launch} {D : zD} {B sz0 : Nat} {post : Option Value → zS → Prop} : zSnd l D B xX11_canPaint sz0 post 50 kX11_canPaint_50 (z_Jr post) := (s_zret dX11_canPaint_50 rfl)
set_option maxRecDepth 100000 in
theorem tX11_canPaint_49 {l : Launch} {D : zD} {B sz0 : Nat} {post : Option Value → zS → Prop} : zSnd l D B xX11_canPaint sz0 post 49 kX11_canPaint_49 (z_Jr post) := (s_iconst dX11_canPaint_49 (by decide) tX11_canPaint_50)
set_option maxRecDepth 100000 in
theorem tX11_canPaint_0 {l : Launch} {D : zD} {B sz0 : Nat} {post : Option Value → zS → Prop} : zSnd l D B xX11_canPaint sz0 post 0 kX11_canPaint_0 (z_Jr post) := (s_aload_n dX11_canPaint_0 rfl (s_iload_n dX11_canPaint_1 rfl (s_callV (r := (RX11, TX11, 13)) dX11_canPaint_2 mX11_isRow meX11_isRow wd655 wd656 rfl rfl reX11_isRow rmX11_canPaint (fitX11_canPaint_2) wd657 (s_if_eq (tgt := 49) dX11_canPaint_5 (by decide) tX11_canPaint_49 (s_aload_n dX11_canPaint_8 rfl (s_iload_n dX11_canPaint_9 rfl (s_callV (r := (RX11, TX11, 13)) dX11_canPaint_10 mX11_isColour meX11_isColour wd631 wd632 rfl rfl reX11_isColour rmX11_canPaint (fitX11_canPaint_10) wd633 (s_if_eq (tgt := 49) dX11_canPaint_13 (by decide) tX11_canPaint_49 (s_iload_n dX11_canPaint_16 rfl (s_if_lt (tgt := 49) dX11_canPaint_17 (by decide) tX11_canPaint_49 (s_iload_n dX11_canPaint_20 rfl (s_aload_n dX11_canPaint_21 rfl (s_getR (f := 4) dX11_canPaint_22 clX11 (by decide) rfl wd576 (s_iload_n dX11_canPaint_25 rfl (s_callV (r := (RX1, TX1, 5)) dX11_canPaint_26 mX1_lengthOf meX1_lengthOf wd65 wd66 rfl rfl reX1_lengthOf rmX11_canPaint (fitX11_canPaint_26) wd661 (s_icmp_ge (tgt := 49) dX11_canPaint_29 (by decide) tX11_canPaint_49 (s_aload_n dX11_canPaint_32 rfl (s_getR (f := 4) dX11_canPaint_33 clX11 (by decide) rfl wd576 (s_iload_n dX11_canPaint_36 rfl (s_iload_n dX11_canPaint_37 rfl (s_callV (r := (RX1, TX1, 5)) dX11_canPaint_38 mX1_colourAt meX1_colourAt wd75 wd76 rfl rfl reX1_colourAt rmX11_canPaint (fitX11_canPaint_38) wd638 (s_iload_n dX11_canPaint_41 rfl (s_icmp_eq (tgt := 49) dX11_canPaint_42 (by decide) tX11_canPaint_49 (s_iconst dX11_canPaint_45 (by decide) (s_goto (tgt := 50) dX11_canPaint_46 (by decide) tX11_canPaint_50)))))))))))))))))))))))))
noncomputable def fX11_canPaint : zF := z_fn 4 kX11_canPaint_0
theorem mX11_canPaint {l : Launch} {D : zD} {B : Nat} : z_MF l D B yX11_canPaint xX11_canPaint fX11_canPaint := z_mf (by decide) rfl (fun h => by cases h) rfl (fun as σ r h => ⟨z_fn_len h, kX11_canPaint_0, z_fn_run h, fun _ => tX11_canPaint_0⟩)
/-! ===== RowChildren.costsOf ===== -/
theorem dX11_costsOf_0 : decode cX11_costsOf 0 = .ok (.aload_n 0, 1) := by decide +kernel
theorem dX11_costsOf_1 : decode cX11_costsOf 1 = .ok (.getfield 47, 3) := by decide +kernel
theorem dX11_costsOf_4 : decode cX11_costsOf 4 = .ok (.aload_n 0, 1) := by decide +kernel
theorem dX11_costsOf_5 : decode cX11_costsOf 5 = .ok (.getfield 33, 3) := by decide +kernel
theorem dX11_costsOf_8 : decode cX11_costsOf 8 = .ok (.iload_n 1, 1) := by decide +kernel
theorem dX11_costsOf_9 : decode cX11_costsOf 9 = .ok (.iload_n 3, 1) := by decide +kernel
theorem dX11_costsOf_10 : decode cX11_costsOf 10 = .ok (.invokevirtual 377, 3) := by decide +kernel
theorem dX11_costsOf_13 : decode cX11_costsOf 13 = .ok (.aload_n 0, 1) := by decide +kernel
theorem dX11_costsOf_14 : decode cX11_costsOf 14 = .ok (.getfield 47, 3) := by decide +kernel
theorem dX11_costsOf_17 : decode cX11_costsOf 17 = .ok (.iconst 0, 1) := by decide +kernel
theorem dX11_costsOf_18 : decode cX11_costsOf 18 = .ok (.iload_n 2, 1) := by decide +kernel
theorem dX11_costsOf_19 : decode cX11_costsOf 19 = .ok (.invokevirtual 380, 3) := by decide +kernel
theorem dX11_costsOf_22 : decode cX11_costsOf 22 = .ok (.aload_n 0, 1) := by decide +kernel
theorem dX11_costsOf_23 : decode cX11_costsOf 23 = .ok (.getfield 47, 3) := by decide +kernel
theorem dX11_costsOf_26 : decode cX11_costsOf 26 = .ok (.aload_n 0, 1) := by decide +kernel
theorem dX11_costsOf_27 : decode cX11_costsOf 27 = .ok (.getfield 19, 3) := by decide +kernel
theorem dX11_costsOf_30 : decode cX11_costsOf 30 = .ok (.iconst 1, 1) := by decide +kernel
theorem dX11_costsOf_31 : decode cX11_costsOf 31 = .ok (.bipush 99, 2) := by decide +kernel
theorem dX11_costsOf_33 : decode cX11_costsOf 33 = .ok (.invokevirtual 386, 3) := by decide +kernel
theorem dX11_costsOf_36 : decode cX11_costsOf 36 = .ok (.ireturn, 1) := by decide +kernel
def xX11_costsOf : zX := (RX11, cX11_costsOf, 4, (some .int), false, { frames := 21, cells := 0, slots := 0, locals := 598 }, 0, 0, 0, 0)
theorem rmX11_costsOf : z_Rm xX11_costsOf := by unfold z_Rm xX11_costsOf; exact ⟨by decide, by decide⟩
theorem reX11_costsOf : z_Re xX11_costsOf := ⟨rfl, rfl⟩
theorem rlX11_costsOf : 1 ≤ xX11_costsOf.2.2.2.2.2.1.frames ∧ 21 ≤ xX11_costsOf.2.2.2.2.2.1.locals := by unfold xX11_costsOf; exact ⟨by decide, by decide⟩
theorem meX11_costsOf : z_Me yX11_costsOf xX11_costsOf 3 := ⟨wd687, wd275, by decide, by decide, by decide +kernel⟩
theorem fitX11_costsOf_10 : z_Fit xX2_standOn xX11_costsOf := by unfold z_Fit; simp only [xX2_standOn, xX11_costsOf]; exact ⟨by decide, by decide⟩
theorem fitX11_costsOf_19 : z_Fit xX2_standAt xX11_costsOf := by unfold z_Fit; simp only [xX2_standAt, xX11_costsOf]; exact ⟨by decide, by decide⟩
theorem fitX11_costsOf_33 : z_Fit xX2_held xX11_costsOf := by unfold z_Fit; simp only [xX2_held, xX11_costsOf]; exact ⟨by decide, by decide⟩
noncomputable def kX11_costsOf_0 : zK zR := (q_aload 0 (q_getR 11 7 (q_aload 0 (q_getR 11 4 (q_iload 1 (q_iload 3 (q_callV 2 fX2_standOn 3 (q_aload 0 (q_getR 11 7 (q_push 0 (q_iload 2 (q_callV 2 fX2_standAt 2 (q_aload 0 (q_getR 11 7 (q_aload 0 (q_getR 11 1 (q_push 1 (q_push 99 (q_callV 2 fX2_held 3 q_iret)))))))))))))))))))
set_option maxRecDepth 100000 in
theorem tX11_costsOf_0 {l : Launch} {D : zD} {B sz0 : Nat} {post : Option Value → zS → Prop} : zSnd l D B xX11_costsOf sz0 post 0 kX11_costsOf_0 (z_Jr post) := (s_aload_n dX11_costsOf_0 rfl (s_getR (f := 7) dX11_costsOf_1 clX11 (by decide) rfl wd582 (s_aload_n dX11_costsOf_4 rfl (s_getR (f := 4) dX11_costsOf_5 clX11 (by decide) rfl wd576 (s_iload_n dX11_costsOf_8 rfl (s_iload_n dX11_costsOf_9 rfl (s_callV (r := (RX2, TX2, 3)) dX11_costsOf_10 mX2_standOn meX2_standOn wd639 wd640 rfl rfl reX2_standOn rmX11_costsOf (fitX11_costsOf_10) wd641 (s_aload_n dX11_costsOf_13 rfl (s_getR (f := 7) dX11_costsOf_14 clX11 (by decide) rfl wd582 (s_iconst dX11_costsOf_17 (by decide) (s_iload_n dX11_costsOf_18 rfl (s_callV (r := (RX2, TX2, 3)) dX11_costsOf_19 mX2_standAt meX2_standAt wd98 wd99 rfl rfl reX2_standAt rmX11_costsOf (fitX11_costsOf_19) wd647 (s_aload_n dX11_costsOf_22 rfl (s_getR (f := 7) dX11_costsOf_23 clX11 (by decide) rfl wd582 (s_aload_n dX11_costsOf_26 rfl (s_getR (f := 1) dX11_costsOf_27 clX11 (by decide) rfl wd572 (s_iconst dX11_costsOf_30 (by decide) (s_bipush dX11_costsOf_31 (by decide) (s_callV (r := (RX2, TX2, 3)) dX11_costsOf_33 mX2_held meX2_held wd642 wd643 rfl rfl reX2_held rmX11_costsOf (fitX11_costsOf_33) wd644 (s_iret dX11_costsOf_36 rfl))))))))))))))))))))
noncomputable def fX11_costsOf : zF := z_fn 4 kX11_costsOf_0
theorem mX11_costsOf {l : Launch} {D : zD} {B : Nat} : z_MF l D B yX11_costsOf xX11_costsOf fX11_costsOf := z_mf (by decide) rfl (fun h => by cases h) rfl (fun as σ r h => ⟨z_fn_len h, kX11_costsOf_0, z_fn_run h, fun _ => tX11_costsOf_0⟩)
/-! ===== RowChildren.costs ===== -/
theorem dX11_costs_0 : decode cX11_costs 0 = .ok (.aload_n 0, 1) := by decide +kernel
theorem dX11_costs_1 : decode cX11_costs 1 = .ok (.iload_n 1, 1) := by decide +kernel
theorem dX11_costs_2 : decode cX11_costs 2 = .ok (.iload_n 2, 1) := by decide +kernel
theorem dX11_costs_3 : decode cX11_costs 3 = .ok (.iload_n 3, 1) := by decide +kernel
theorem dX11_costs_4 : decode cX11_costs 4 = .ok (.invokevirtual 193, 3) := by decide +kernel
theorem dX11_costs_7 : decode cX11_costs 7 = .ok (.ifCond .eq 13, 3) := by decide +kernel
theorem dX11_costs_10 : decode cX11_costs 10 = .ok (.aload_n 0, 1) := by decide +kernel
theorem dX11_costs_11 : decode cX11_costs 11 = .ok (.iload_n 1, 1) := by decide +kernel
theorem dX11_costs_12 : decode cX11_costs 12 = .ok (.iload_n 2, 1) := by decide +kernel
theorem dX11_costs_13 : decode cX11_costs 13 = .ok (.iload_n 3, 1) := by decide +kernel
theorem dX11_costs_14 : decode cX11_costs 14 = .ok (.invokevirtual 197, 3) := by decide +kernel
theorem dX11_costs_17 : decode cX11_costs 17 = .ok (.goto 4, 3) := by decide +kernel
theorem dX11_costs_20 : decode cX11_costs 20 = .ok (.iconst (-1), 1) := by decide +kernel
theorem dX11_costs_21 : decode cX11_costs 21 = .ok (.ireturn, 1) := by decide +kernel
def xX11_costs : zX := (RX11, cX11_costs, 4, (some .int), false, { frames := 22, cells := 0, slots := 0, locals := 621 }, 0, 0, 0, 0)
theorem rmX11_costs : z_Rm xX11_costs := by unfold z_Rm xX11_costs; exact ⟨by decide, by decide⟩
theorem reX11_costs : z_Re xX11_costs := ⟨rfl, rfl⟩
theorem rlX11_costs : 1 ≤ xX11_costs.2.2.2.2.2.1.frames ∧ 21 ≤ xX11_costs.2.2.2.2.2.1.locals := by unfold xX11_costs; exact ⟨by decide, by decide⟩
theorem meX11_costs : z_Me yX11_costs xX11_costs 3 := ⟨wd694, wd275, by decide, by decide, by decide +kernel⟩
theorem fitX11_costs_4 : z_Fit xX11_canPaint xX11_costs := by unfold z_Fit; simp only [xX11_canPaint, xX11_costs]; exact ⟨by decide, by decide⟩
theorem fitX11_costs_14 : z_Fit xX11_costsOf xX11_costs := by unfold z_Fit; simp only [xX11_costsOf, xX11_costs]; exact ⟨by decide, by decide⟩
noncomputable def kX11_costs_21 : zK zR := q_iret
noncomputable def kX11_costs_0 : zK zR := (q_aload 0 (q_iload 1 (q_iload 2 (q_iload 3 (q_callV 11 fX11_canPaint 3 (q_if_eq (q_push (-1) kX11_costs_21) (q_aload 0 (q_iload 1 (q_iload 2 (q_iload 3 (q_callV 11 fX11_costsOf 3 kX11_costs_21)))))))))))
set_option maxRecDepth 100000 in
theorem tX11_costs_21 {l : Launch} {D : zD} {B sz0 : Nat} {post : Option Value → zS → Prop} : zSnd l D B xX11_costs sz0 post 21 kX11_costs_21 (z_Jr post) := (s_iret dX11_costs_21 rfl)
set_option maxRecDepth 100000 in
theorem tX11_costs_0 {l : Launch} {D : zD} {B sz0 : Nat} {post : Option Value → zS → Prop} : zSnd l D B xX11_costs sz0 post 0 kX11_costs_0 (z_Jr post) := (s_aload_n dX11_costs_0 rfl (s_iload_n dX11_costs_1 rfl (s_iload_n dX11_costs_2 rfl (s_iload_n dX11_costs_3 rfl (s_callV (r := (RX11, TX11, 13)) dX11_costs_4 mX11_canPaint meX11_canPaint wd688 wd689 rfl rfl reX11_canPaint rmX11_costs (fitX11_costs_4) wd690 (s_if_eq (tgt := 20) dX11_costs_7 (by decide) (s_iconst dX11_costs_20 (by decide) tX11_costs_21) (s_aload_n dX11_costs_10 rfl (s_iload_n dX11_costs_11 rfl (s_iload_n dX11_costs_12 rfl (s_iload_n dX11_costs_13 rfl (s_callV (r := (RX11, TX11, 13)) dX11_costs_14 mX11_costsOf meX11_costsOf wd691 wd692 rfl rfl reX11_costsOf rmX11_costs (fitX11_costs_14) wd693 (s_goto (tgt := 21) dX11_costs_17 (by decide) tX11_costs_21))))))))))))
noncomputable def fX11_costs : zF := z_fn 4 kX11_costs_0
theorem mX11_costs {l : Launch} {D : zD} {B : Nat} : z_MF l D B yX11_costs xX11_costs fX11_costs := z_mf (by decide) rfl (fun h => by cases h) rfl (fun as σ r h => ⟨z_fn_len h, kX11_costs_0, z_fn_run h, fun _ => tX11_costs_0⟩)
/-! ===== RowChildren.paint ===== -/
theorem dX11_paint_0 : decode cX11_paint 0 = .ok (.aload_n 0, 1) := by decide +kernel
theorem dX11_paint_1 : decode cX11_paint 1 = .ok (.iload_n 1, 1) := by decide +kernel
theorem dX11_paint_2 : decode cX11_paint 2 = .ok (.iload_n 2, 1) := by decide +kernel
theorem dX11_paint_3 : decode cX11_paint 3 = .ok (.iload_n 3, 1) := by decide +kernel
theorem dX11_paint_4 : decode cX11_paint 4 = .ok (.invokevirtual 193, 3) := by decide +kernel
theorem dX11_paint_7 : decode cX11_paint 7 = .ok (.ifCond .ne 5, 3) := by decide +kernel
theorem dX11_paint_10 : decode cX11_paint 10 = .ok (.iconst (-1), 1) := by decide +kernel
theorem dX11_paint_11 : decode cX11_paint 11 = .ok (.ireturn, 1) := by decide +kernel
theorem dX11_paint_12 : decode cX11_paint 12 = .ok (.aload_n 0, 1) := by decide +kernel
theorem dX11_paint_13 : decode cX11_paint 13 = .ok (.iload_n 1, 1) := by decide +kernel
theorem dX11_paint_14 : decode cX11_paint 14 = .ok (.iload_n 2, 1) := by decide +kernel
theorem dX11_paint_15 : decode cX11_paint 15 = .ok (.iload_n 3, 1) := by decide +kernel
theorem dX11_paint_16 : decode cX11_paint 16 = .ok (.invokevirtual 197, 3) := by decide +kernel
theorem dX11_paint_19 : decode cX11_paint 19 = .ok (.istore 4, 2) := by decide +kernel
theorem dX11_paint_21 : decode cX11_paint 21 = .ok (.aload_n 0, 1) := by decide +kernel
theorem dX11_paint_22 : decode cX11_paint 22 = .ok (.getfield 61, 3) := by decide +kernel
theorem dX11_paint_25 : decode cX11_paint 25 = .ok (.aload_n 0, 1) := by decide +kernel
theorem dX11_paint_26 : decode cX11_paint 26 = .ok (.getfield 33, 3) := by decide +kernel
theorem dX11_paint_29 : decode cX11_paint 29 = .ok (.invokevirtual 200, 3) := by decide +kernel
theorem dX11_paint_32 : decode cX11_paint 32 = .ok (.aload_n 0, 1) := by decide +kernel
theorem dX11_paint_33 : decode cX11_paint 33 = .ok (.getfield 33, 3) := by decide +kernel
theorem dX11_paint_36 : decode cX11_paint 36 = .ok (.dup, 1) := by decide +kernel
theorem dX11_paint_37 : decode cX11_paint 37 = .ok (.getfield 203, 3) := by decide +kernel
theorem dX11_paint_40 : decode cX11_paint 40 = .ok (.iload 4, 2) := by decide +kernel
theorem dX11_paint_42 : decode cX11_paint 42 = .ok (.iadd, 1) := by decide +kernel
theorem dX11_paint_43 : decode cX11_paint 43 = .ok (.putfield 203, 3) := by decide +kernel
theorem dX11_paint_46 : decode cX11_paint 46 = .ok (.aload_n 0, 1) := by decide +kernel
theorem dX11_paint_47 : decode cX11_paint 47 = .ok (.getfield 33, 3) := by decide +kernel
theorem dX11_paint_50 : decode cX11_paint 50 = .ok (.iload_n 1, 1) := by decide +kernel
theorem dX11_paint_51 : decode cX11_paint 51 = .ok (.iload_n 2, 1) := by decide +kernel
theorem dX11_paint_52 : decode cX11_paint 52 = .ok (.iload_n 3, 1) := by decide +kernel
theorem dX11_paint_53 : decode cX11_paint 53 = .ok (.invokevirtual 206, 3) := by decide +kernel
theorem dX11_paint_56 : decode cX11_paint 56 = .ok (.iload 4, 2) := by decide +kernel
theorem dX11_paint_58 : decode cX11_paint 58 = .ok (.ireturn, 1) := by decide +kernel
def xX11_paint : zX := (RX11, cX11_paint, 5, (some .int), false, { frames := 22, cells := 0, slots := 0, locals := 621 }, 0, 0, 0, 0)
theorem rmX11_paint : z_Rm xX11_paint := by unfold z_Rm xX11_paint; exact ⟨by decide, by decide⟩
theorem reX11_paint : z_Re xX11_paint := ⟨rfl, rfl⟩
theorem rlX11_paint : 1 ≤ xX11_paint.2.2.2.2.2.1.frames ∧ 21 ≤ xX11_paint.2.2.2.2.2.1.locals := by unfold xX11_paint; exact ⟨by decide, by decide⟩
theorem meX11_paint : z_Me yX11_paint xX11_paint 3 := ⟨wd700, wd275, by decide, by decide, by decide +kernel⟩
theorem fitX11_paint_4 : z_Fit xX11_canPaint xX11_paint := by unfold z_Fit; simp only [xX11_canPaint, xX11_paint]; exact ⟨by decide, by decide⟩
theorem fitX11_paint_16 : z_Fit xX11_costsOf xX11_paint := by unfold z_Fit; simp only [xX11_costsOf, xX11_paint]; exact ⟨by decide, by decide⟩
theorem fitX11_paint_29 : z_Fit xX3_remember xX11_paint := by unfold z_Fit; simp only [xX3_remember, xX11_paint]; exact ⟨by decide, by decide⟩
theorem fitX11_paint_53 : z_Fit xX1_setColour xX11_paint := by unfold z_Fit; simp only [xX1_setColour, xX11_paint]; exact ⟨by decide, by decide⟩
noncomputable def kX11_paint_0 : zK zR := (q_aload 0 (q_iload 1 (q_iload 2 (q_iload 3 (q_callV 11 fX11_canPaint 3 (q_if_ne (q_aload 0 (q_iload 1 (q_iload 2 (q_iload 3 (q_callV 11 fX11_costsOf 3 (q_istore 4 (q_aload 0 (q_getR 11 9 (q_aload 0 (q_getR 11 4 (q_callV 3 fX3_remember 1 (q_aload 0 (q_getR 11 4 (q_dup (q_getI 1 2 (q_iload 4 (q_iadd (q_putI 1 2 (q_aload 0 (q_getR 11 4 (q_iload 1 (q_iload 2 (q_iload 3 (q_callV 1 fX1_setColour 3 (q_iload 4 q_iret))))))))))))))))))))))))) (q_push (-1) q_iret)))))))
set_option maxRecDepth 100000 in
theorem tX11_paint_0 {l : Launch} {D : zD} {B sz0 : Nat} {post : Option Value → zS → Prop} : zSnd l D B xX11_paint sz0 post 0 kX11_paint_0 (z_Jr post) := (s_aload_n dX11_paint_0 rfl (s_iload_n dX11_paint_1 rfl (s_iload_n dX11_paint_2 rfl (s_iload_n dX11_paint_3 rfl (s_callV (r := (RX11, TX11, 13)) dX11_paint_4 mX11_canPaint meX11_canPaint wd688 wd689 rfl rfl reX11_canPaint rmX11_paint (fitX11_paint_4) wd690 (s_if_ne (tgt := 12) dX11_paint_7 (by decide) (s_aload_n dX11_paint_12 rfl (s_iload_n dX11_paint_13 rfl (s_iload_n dX11_paint_14 rfl (s_iload_n dX11_paint_15 rfl (s_callV (r := (RX11, TX11, 13)) dX11_paint_16 mX11_costsOf meX11_costsOf wd691 wd692 rfl rfl reX11_costsOf rmX11_paint (fitX11_paint_16) wd693 (s_istore dX11_paint_19 (s_aload_n dX11_paint_21 rfl (s_getR (f := 9) dX11_paint_22 clX11 (by decide) rfl wd589 (s_aload_n dX11_paint_25 rfl (s_getR (f := 4) dX11_paint_26 clX11 (by decide) rfl wd576 (s_callV (r := (RX3, TX3, 5)) dX11_paint_29 mX3_remember meX3_remember wd695 wd696 rfl rfl reX3_remember rmX11_paint (fitX11_paint_29) wd697 (s_aload_n dX11_paint_32 rfl (s_getR (f := 4) dX11_paint_33 clX11 (by decide) rfl wd576 (s_dup dX11_paint_36 (s_getI (f := 2) dX11_paint_37 clX1 (by decide) rfl wd698 (s_iload dX11_paint_40 (s_iadd dX11_paint_42 (s_putI (f := 2) dX11_paint_43 clX1 (by decide) rfl rfl rfl wd698 (s_aload_n dX11_paint_46 rfl (s_getR (f := 4) dX11_paint_47 clX11 (by decide) rfl wd576 (s_iload_n dX11_paint_50 rfl (s_iload_n dX11_paint_51 rfl (s_iload_n dX11_paint_52 rfl (s_callV (r := (RX1, TX1, 5)) dX11_paint_53 mX1_setColour meX1_setColour wd68 wd69 rfl rfl reX1_setColour rmX11_paint (fitX11_paint_53) wd699 (s_iload dX11_paint_56 (s_iret dX11_paint_58 rfl)))))))))))))))))))))))))) (s_iconst dX11_paint_10 (by decide) (s_iret dX11_paint_11 rfl))))))))
noncomputable def fX11_paint : zF := z_fn 5 kX11_paint_0
theorem mX11_paint {l : Launch} {D : zD} {B : Nat} : z_MF l D B yX11_paint xX11_paint fX11_paint := z_mf (by decide) rfl (fun h => by cases h) rfl (fun as σ r h => ⟨z_fn_len h, kX11_paint_0, z_fn_run h, fun _ => tX11_paint_0⟩)
/-! ===== RowChildren.come ===== -/
theorem dX11_come_0 : decode cX11_come 0 = .ok (.aload_n 0, 1) := by decide +kernel
theorem dX11_come_1 : decode cX11_come 1 = .ok (.iload_n 1, 1) := by decide +kernel
theorem dX11_come_2 : decode cX11_come 2 = .ok (.invokevirtual 134, 3) := by decide +kernel
theorem dX11_come_5 : decode cX11_come 5 = .ok (.ifCond .eq 24, 3) := by decide +kernel
theorem dX11_come_8 : decode cX11_come 8 = .ok (.aload_n 0, 1) := by decide +kernel
theorem dX11_come_9 : decode cX11_come 9 = .ok (.iload_n 2, 1) := by decide +kernel
theorem dX11_come_10 : decode cX11_come 10 = .ok (.invokevirtual 120, 3) := by decide +kernel
theorem dX11_come_13 : decode cX11_come 13 = .ok (.ifCond .eq 16, 3) := by decide +kernel
theorem dX11_come_16 : decode cX11_come 16 = .ok (.aload_n 0, 1) := by decide +kernel
theorem dX11_come_17 : decode cX11_come 17 = .ok (.getfield 33, 3) := by decide +kernel
theorem dX11_come_20 : decode cX11_come 20 = .ok (.iload_n 1, 1) := by decide +kernel
theorem dX11_come_21 : decode cX11_come 21 = .ok (.invokevirtual 141, 3) := by decide +kernel
theorem dX11_come_24 : decode cX11_come 24 = .ok (.bipush 8, 2) := by decide +kernel
theorem dX11_come_26 : decode cX11_come 26 = .ok (.if_icmp .lt 5, 3) := by decide +kernel
theorem dX11_come_29 : decode cX11_come 29 = .ok (.iconst (-1), 1) := by decide +kernel
theorem dX11_come_30 : decode cX11_come 30 = .ok (.ireturn, 1) := by decide +kernel
theorem dX11_come_31 : decode cX11_come 31 = .ok (.aload_n 0, 1) := by decide +kernel
theorem dX11_come_32 : decode cX11_come 32 = .ok (.getfield 61, 3) := by decide +kernel
theorem dX11_come_35 : decode cX11_come 35 = .ok (.aload_n 0, 1) := by decide +kernel
theorem dX11_come_36 : decode cX11_come 36 = .ok (.getfield 33, 3) := by decide +kernel
theorem dX11_come_39 : decode cX11_come 39 = .ok (.invokevirtual 200, 3) := by decide +kernel
theorem dX11_come_42 : decode cX11_come 42 = .ok (.aload_n 0, 1) := by decide +kernel
theorem dX11_come_43 : decode cX11_come 43 = .ok (.getfield 33, 3) := by decide +kernel
theorem dX11_come_46 : decode cX11_come 46 = .ok (.iload_n 1, 1) := by decide +kernel
theorem dX11_come_47 : decode cX11_come 47 = .ok (.iload_n 2, 1) := by decide +kernel
theorem dX11_come_48 : decode cX11_come 48 = .ok (.invokevirtual 210, 3) := by decide +kernel
theorem dX11_come_51 : decode cX11_come 51 = .ok (.aload_n 0, 1) := by decide +kernel
theorem dX11_come_52 : decode cX11_come 52 = .ok (.getfield 33, 3) := by decide +kernel
theorem dX11_come_55 : decode cX11_come 55 = .ok (.iload_n 1, 1) := by decide +kernel
theorem dX11_come_56 : decode cX11_come 56 = .ok (.invokevirtual 141, 3) := by decide +kernel
theorem dX11_come_59 : decode cX11_come 59 = .ok (.ireturn, 1) := by decide +kernel
def xX11_come : zX := (RX11, cX11_come, 3, (some .int), false, { frames := 3, cells := 0, slots := 0, locals := 135 }, 0, 0, 0, 0)
theorem rmX11_come : z_Rm xX11_come := by unfold z_Rm xX11_come; exact ⟨by decide, by decide⟩
theorem reX11_come : z_Re xX11_come := ⟨rfl, rfl⟩
theorem rlX11_come : 1 ≤ xX11_come.2.2.2.2.2.1.frames ∧ 21 ≤ xX11_come.2.2.2.2.2.1.locals := by unfold xX11_come; exact ⟨by decide, by decide⟩
theorem meX11_come : z_Me yX11_come xX11_come 2 := ⟨wd702, wd275, by decide, by decide, by decide +kernel⟩
theorem fitX11_come_2 : z_Fit xX11_isRow xX11_come := by unfold z_Fit; simp only [xX11_isRow, xX11_come]; exact ⟨by decide, by decide⟩
theorem fitX11_come_10 : z_Fit xX11_isColour xX11_come := by unfold z_Fit; simp only [xX11_isColour, xX11_come]; exact ⟨by decide, by decide⟩
theorem fitX11_come_21 : z_Fit xX1_lengthOf xX11_come := by unfold z_Fit; simp only [xX1_lengthOf, xX11_come]; exact ⟨by decide, by decide⟩
theorem fitX11_come_39 : z_Fit xX3_remember xX11_come := by unfold z_Fit; simp only [xX3_remember, xX11_come]; exact ⟨by decide, by decide⟩
theorem fitX11_come_48 : z_Fit xX1_append xX11_come := by unfold z_Fit; simp only [xX1_append, xX11_come]; exact ⟨by decide, by decide⟩
theorem fitX11_come_56 : z_Fit xX1_lengthOf xX11_come := by unfold z_Fit; simp only [xX1_lengthOf, xX11_come]; exact ⟨by decide, by decide⟩
noncomputable def kX11_come_29 : zK zR := (q_push (-1) q_iret)
noncomputable def kX11_come_0 : zK zR := (q_aload 0 (q_iload 1 (q_callV 11 fX11_isRow 1 (q_if_eq kX11_come_29 (q_aload 0 (q_iload 2 (q_callV 11 fX11_isColour 1 (q_if_eq kX11_come_29 (q_aload 0 (q_getR 11 4 (q_iload 1 (q_callV 1 fX1_lengthOf 1 (q_push 8 (q_icmp_lt (q_aload 0 (q_getR 11 9 (q_aload 0 (q_getR 11 4 (q_callV 3 fX3_remember 1 (q_aload 0 (q_getR 11 4 (q_iload 1 (q_iload 2 (q_callV 1 fX1_append 2 (q_aload 0 (q_getR 11 4 (q_iload 1 (q_callV 1 fX1_lengthOf 1 q_iret)))))))))))))) kX11_come_29))))))))))))))
set_option maxRecDepth 100000 in
theorem tX11_come_29 {l : Launch} {D : zD} {B sz0 : Nat} {post : Option Value → zS → Prop} : zSnd l D B xX11_come sz0 post 29 kX11_come_29 (z_Jr post) := (s_iconst dX11_come_29 (by decide) (s_iret dX11_come_30 rfl))
set_option maxRecDepth 100000 in
theorem tX11_come_0 {l : Launch} {D : zD} {B sz0 : Nat} {post : Option Value → zS → Prop} : zSnd l D B xX11_come sz0 post 0 kX11_come_0 (z_Jr post) := (s_aload_n dX11_come_0 rfl (s_iload_n dX11_come_1 rfl (s_callV (r := (RX11, TX11, 13)) dX11_come_2 mX11_isRow meX11_isRow wd655 wd656 rfl rfl reX11_isRow rmX11_come (fitX11_come_2) wd657 (s_if_eq (tgt := 29) dX11_come_5 (by decide) tX11_come_29 (s_aload_n dX11_come_8 rfl (s_iload_n dX11_come_9 rfl (s_callV (r := (RX11, TX11, 13)) dX11_come_10 mX11_isColour meX11_isColour wd631 wd632 rfl rfl reX11_isColour rmX11_come (fitX11_come_10) wd633 (s_if_eq (tgt := 29) dX11_come_13 (by decide) tX11_come_29 (s_aload_n dX11_come_16 rfl (s_getR (f := 4) dX11_come_17 clX11 (by decide) rfl wd576 (s_iload_n dX11_come_20 rfl (s_callV (r := (RX1, TX1, 5)) dX11_come_21 mX1_lengthOf meX1_lengthOf wd65 wd66 rfl rfl reX1_lengthOf rmX11_come (fitX11_come_21) wd661 (s_bipush dX11_come_24 (by decide) (s_icmp_lt (tgt := 31) dX11_come_26 (by decide) (s_aload_n dX11_come_31 rfl (s_getR (f := 9) dX11_come_32 clX11 (by decide) rfl wd589 (s_aload_n dX11_come_35 rfl (s_getR (f := 4) dX11_come_36 clX11 (by decide) rfl wd576 (s_callV (r := (RX3, TX3, 5)) dX11_come_39 mX3_remember meX3_remember wd695 wd696 rfl rfl reX3_remember rmX11_come (fitX11_come_39) wd697 (s_aload_n dX11_come_42 rfl (s_getR (f := 4) dX11_come_43 clX11 (by decide) rfl wd576 (s_iload_n dX11_come_46 rfl (s_iload_n dX11_come_47 rfl (s_callV (r := (RX1, TX1, 5)) dX11_come_48 mX1_append meX1_append wd471 wd472 rfl rfl reX1_append rmX11_come (fitX11_come_48) wd701 (s_aload_n dX11_come_51 rfl (s_getR (f := 4) dX11_come_52 clX11 (by decide) rfl wd576 (s_iload_n dX11_come_55 rfl (s_callV (r := (RX1, TX1, 5)) dX11_come_56 mX1_lengthOf meX1_lengthOf wd65 wd66 rfl rfl reX1_lengthOf rmX11_come (fitX11_come_56) wd661 (s_iret dX11_come_59 rfl))))))))))))))) tX11_come_29))))))))))))))
noncomputable def fX11_come : zF := z_fn 3 kX11_come_0
theorem mX11_come {l : Launch} {D : zD} {B : Nat} : z_MF l D B yX11_come xX11_come fX11_come := z_mf (by decide) rfl (fun h => by cases h) rfl (fun as σ r h => ⟨z_fn_len h, kX11_come_0, z_fn_run h, fun _ => tX11_come_0⟩)
/-! ===== RowChildren.go ===== -/
theorem dX11_go_0 : decode cX11_go 0 = .ok (.aload_n 0, 1) := by decide +kernel
theorem dX11_go_1 : decode cX11_go 1 = .ok (.iload_n 1, 1) := by decide +kernel
theorem dX11_go_2 : decode cX11_go 2 = .ok (.invokevirtual 134, 3) := by decide +kernel
theorem dX11_go_5 : decode cX11_go 5 = .ok (.ifCond .eq 15, 3) := by decide +kernel
theorem dX11_go_8 : decode cX11_go 8 = .ok (.aload_n 0, 1) := by decide +kernel
theorem dX11_go_9 : decode cX11_go 9 = .ok (.getfield 33, 3) := by decide +kernel
theorem dX11_go_12 : decode cX11_go 12 = .ok (.iload_n 1, 1) := by decide +kernel
theorem dX11_go_13 : decode cX11_go 13 = .ok (.invokevirtual 141, 3) := by decide +kernel
theorem dX11_go_16 : decode cX11_go 16 = .ok (.iconst 1, 1) := by decide +kernel
theorem dX11_go_17 : decode cX11_go 17 = .ok (.if_icmp .gt 5, 3) := by decide +kernel
theorem dX11_go_20 : decode cX11_go 20 = .ok (.iconst (-1), 1) := by decide +kernel
theorem dX11_go_21 : decode cX11_go 21 = .ok (.ireturn, 1) := by decide +kernel
theorem dX11_go_22 : decode cX11_go 22 = .ok (.aload_n 0, 1) := by decide +kernel
theorem dX11_go_23 : decode cX11_go 23 = .ok (.getfield 61, 3) := by decide +kernel
theorem dX11_go_26 : decode cX11_go 26 = .ok (.aload_n 0, 1) := by decide +kernel
theorem dX11_go_27 : decode cX11_go 27 = .ok (.getfield 33, 3) := by decide +kernel
theorem dX11_go_30 : decode cX11_go 30 = .ok (.invokevirtual 200, 3) := by decide +kernel
theorem dX11_go_33 : decode cX11_go 33 = .ok (.aload_n 0, 1) := by decide +kernel
theorem dX11_go_34 : decode cX11_go 34 = .ok (.getfield 33, 3) := by decide +kernel
theorem dX11_go_37 : decode cX11_go 37 = .ok (.iload_n 1, 1) := by decide +kernel
theorem dX11_go_38 : decode cX11_go 38 = .ok (.aload_n 0, 1) := by decide +kernel
theorem dX11_go_39 : decode cX11_go 39 = .ok (.getfield 33, 3) := by decide +kernel
theorem dX11_go_42 : decode cX11_go 42 = .ok (.iload_n 1, 1) := by decide +kernel
theorem dX11_go_43 : decode cX11_go 43 = .ok (.invokevirtual 141, 3) := by decide +kernel
theorem dX11_go_46 : decode cX11_go 46 = .ok (.iconst 1, 1) := by decide +kernel
theorem dX11_go_47 : decode cX11_go 47 = .ok (.isub, 1) := by decide +kernel
theorem dX11_go_48 : decode cX11_go 48 = .ok (.invokevirtual 213, 3) := by decide +kernel
theorem dX11_go_51 : decode cX11_go 51 = .ok (.aload_n 0, 1) := by decide +kernel
theorem dX11_go_52 : decode cX11_go 52 = .ok (.getfield 33, 3) := by decide +kernel
theorem dX11_go_55 : decode cX11_go 55 = .ok (.iload_n 1, 1) := by decide +kernel
theorem dX11_go_56 : decode cX11_go 56 = .ok (.invokevirtual 141, 3) := by decide +kernel
theorem dX11_go_59 : decode cX11_go 59 = .ok (.ireturn, 1) := by decide +kernel
def xX11_go : zX := (RX11, cX11_go, 2, (some .int), false, { frames := 3, cells := 0, slots := 0, locals := 132 }, 0, 0, 0, 0)
theorem rmX11_go : z_Rm xX11_go := by unfold z_Rm xX11_go; exact ⟨by decide, by decide⟩
theorem reX11_go : z_Re xX11_go := ⟨rfl, rfl⟩
theorem rlX11_go : 1 ≤ xX11_go.2.2.2.2.2.1.frames ∧ 21 ≤ xX11_go.2.2.2.2.2.1.locals := by unfold xX11_go; exact ⟨by decide, by decide⟩
theorem meX11_go : z_Me yX11_go xX11_go 1 := ⟨wd704, wd275, by decide, by decide, by decide +kernel⟩
theorem fitX11_go_2 : z_Fit xX11_isRow xX11_go := by unfold z_Fit; simp only [xX11_isRow, xX11_go]; exact ⟨by decide, by decide⟩
theorem fitX11_go_13 : z_Fit xX1_lengthOf xX11_go := by unfold z_Fit; simp only [xX1_lengthOf, xX11_go]; exact ⟨by decide, by decide⟩
theorem fitX11_go_30 : z_Fit xX3_remember xX11_go := by unfold z_Fit; simp only [xX3_remember, xX11_go]; exact ⟨by decide, by decide⟩
theorem fitX11_go_43 : z_Fit xX1_lengthOf xX11_go := by unfold z_Fit; simp only [xX1_lengthOf, xX11_go]; exact ⟨by decide, by decide⟩
theorem fitX11_go_48 : z_Fit xX1_setLength xX11_go := by unfold z_Fit; simp only [xX1_setLength, xX11_go]; exact ⟨by decide, by decide⟩
theorem fitX11_go_56 : z_Fit xX1_lengthOf xX11_go := by unfold z_Fit; simp only [xX1_lengthOf, xX11_go]; exact ⟨by decide, by decide⟩
noncomputable def kX11_go_20 : zK zR := (q_push (-1) q_iret)
noncomputable def kX11_go_0 : zK zR := (q_aload 0 (q_iload 1 (q_callV 11 fX11_isRow 1 (q_if_eq kX11_go_20 (q_aload 0 (q_getR 11 4 (q_iload 1 (q_callV 1 fX1_lengthOf 1 (q_push 1 (q_icmp_gt (q_aload 0 (q_getR 11 9 (q_aload 0 (q_getR 11 4 (q_callV 3 fX3_remember 1 (q_aload 0 (q_getR 11 4 (q_iload 1 (q_aload 0 (q_getR 11 4 (q_iload 1 (q_callV 1 fX1_lengthOf 1 (q_push 1 (q_isub (q_callV 1 fX1_setLength 2 (q_aload 0 (q_getR 11 4 (q_iload 1 (q_callV 1 fX1_lengthOf 1 q_iret))))))))))))))))))) kX11_go_20))))))))))
set_option maxRecDepth 100000 in
theorem tX11_go_20 {l : Launch} {D : zD} {B sz0 : Nat} {post : Option Value → zS → Prop} : zSnd l D B xX11_go sz0 post 20 kX11_go_20 (z_Jr post) := (s_iconst dX11_go_20 (by decide) (s_iret dX11_go_21 rfl))
set_option maxRecDepth 100000 in
theorem tX11_go_0 {l : Launch} {D : zD} {B sz0 : Nat} {post : Option Value → zS → Prop} : zSnd l D B xX11_go sz0 post 0 kX11_go_0 (z_Jr post) := (s_aload_n dX11_go_0 rfl (s_iload_n dX11_go_1 rfl (s_callV (r := (RX11, TX11, 13)) dX11_go_2 mX11_isRow meX11_isRow wd655 wd656 rfl rfl reX11_isRow rmX11_go (fitX11_go_2) wd657 (s_if_eq (tgt := 20) dX11_go_5 (by decide) tX11_go_20 (s_aload_n dX11_go_8 rfl (s_getR (f := 4) dX11_go_9 clX11 (by decide) rfl wd576 (s_iload_n dX11_go_12 rfl (s_callV (r := (RX1, TX1, 5)) dX11_go_13 mX1_lengthOf meX1_lengthOf wd65 wd66 rfl rfl reX1_lengthOf rmX11_go (fitX11_go_13) wd661 (s_iconst dX11_go_16 (by decide) (s_icmp_gt (tgt := 22) dX11_go_17 (by decide) (s_aload_n dX11_go_22 rfl (s_getR (f := 9) dX11_go_23 clX11 (by decide) rfl wd589 (s_aload_n dX11_go_26 rfl (s_getR (f := 4) dX11_go_27 clX11 (by decide) rfl wd576 (s_callV (r := (RX3, TX3, 5)) dX11_go_30 mX3_remember meX3_remember wd695 wd696 rfl rfl reX3_remember rmX11_go (fitX11_go_30) wd697 (s_aload_n dX11_go_33 rfl (s_getR (f := 4) dX11_go_34 clX11 (by decide) rfl wd576 (s_iload_n dX11_go_37 rfl (s_aload_n dX11_go_38 rfl (s_getR (f := 4) dX11_go_39 clX11 (by decide) rfl wd576 (s_iload_n dX11_go_42 rfl (s_callV (r := (RX1, TX1, 5)) dX11_go_43 mX1_lengthOf meX1_lengthOf wd65 wd66 rfl rfl reX1_lengthOf rmX11_go (fitX11_go_43) wd661 (s_iconst dX11_go_46 (by decide) (s_isub dX11_go_47 (s_callV (r := (RX1, TX1, 5)) dX11_go_48 mX1_setLength meX1_setLength wd71 wd72 rfl rfl reX1_setLength rmX11_go (fitX11_go_48) wd703 (s_aload_n dX11_go_51 rfl (s_getR (f := 4) dX11_go_52 clX11 (by decide) rfl wd576 (s_iload_n dX11_go_55 rfl (s_callV (r := (RX1, TX1, 5)) dX11_go_56 mX1_lengthOf meX1_lengthOf wd65 wd66 rfl rfl reX1_lengthOf rmX11_go (fitX11_go_56) wd661 (s_iret dX11_go_59 rfl)))))))))))))))))))) tX11_go_20))))))))))
noncomputable def fX11_go : zF := z_fn 2 kX11_go_0
theorem mX11_go {l : Launch} {D : zD} {B : Nat} : z_MF l D B yX11_go xX11_go fX11_go := z_mf (by decide) rfl (fun h => by cases h) rfl (fun as σ r h => ⟨z_fn_len h, kX11_go_0, z_fn_run h, fun _ => tX11_go_0⟩)
/-! ===== RowChildren.isGenerations ===== -/
theorem dX11_isGenerations_0 : decode cX11_isGenerations 0 = .ok (.iload_n 0, 1) := by decide +kernel
theorem dX11_isGenerations_1 : decode cX11_isGenerations 1 = .ok (.ifCond .lt 13, 3) := by decide +kernel
theorem dX11_isGenerations_4 : decode cX11_isGenerations 4 = .ok (.iload_n 0, 1) := by decide +kernel
theorem dX11_isGenerations_5 : decode cX11_isGenerations 5 = .ok (.bipush 20, 2) := by decide +kernel
theorem dX11_isGenerations_7 : decode cX11_isGenerations 7 = .ok (.if_icmp .gt 7, 3) := by decide +kernel
theorem dX11_isGenerations_10 : decode cX11_isGenerations 10 = .ok (.iconst 1, 1) := by decide +kernel
theorem dX11_isGenerations_11 : decode cX11_isGenerations 11 = .ok (.goto 4, 3) := by decide +kernel
theorem dX11_isGenerations_14 : decode cX11_isGenerations 14 = .ok (.iconst 0, 1) := by decide +kernel
theorem dX11_isGenerations_15 : decode cX11_isGenerations 15 = .ok (.ireturn, 1) := by decide +kernel
def xX11_isGenerations : zX := (RX11, cX11_isGenerations, 1, (some .boolean), false, { frames := 1, cells := 0, slots := 0, locals := 90 }, 0, 0, 0, 0)
theorem rmX11_isGenerations : z_Rm xX11_isGenerations := by unfold z_Rm xX11_isGenerations; exact ⟨by decide, by decide⟩
theorem reX11_isGenerations : z_Re xX11_isGenerations := ⟨rfl, rfl⟩
theorem rlX11_isGenerations : 1 ≤ xX11_isGenerations.2.2.2.2.2.1.frames ∧ 21 ≤ xX11_isGenerations.2.2.2.2.2.1.locals := by unfold xX11_isGenerations; exact ⟨by decide, by decide⟩
theorem meX11_isGenerations : z_Me yX11_isGenerations xX11_isGenerations 1 := ⟨wd705, wd275, by decide, by decide, by decide +kernel⟩
noncomputable def kX11_isGenerations_15 : zK zR := q_zret
noncomputable def kX11_isGenerations_14 : zK zR := (q_push 0 kX11_isGenerations_15)
noncomputable def kX11_isGenerations_0 : zK zR := (q_iload 0 (q_if_lt kX11_isGenerations_14 (q_iload 0 (q_push 20 (q_icmp_gt kX11_isGenerations_14 (q_push 1 kX11_isGenerations_15))))))
set_option maxRecDepth 100000 in
theorem tX11_isGenerations_15 {l : Launch} {D : zD} {B sz0 : Nat} {post : Option Value → zS → Prop} : zSnd l D B xX11_isGenerations sz0 post 15 kX11_isGenerations_15 (z_Jr post) := (s_zret dX11_isGenerations_15 rfl)
set_option maxRecDepth 100000 in
theorem tX11_isGenerations_14 {l : Launch} {D : zD} {B sz0 : Nat} {post : Option Value → zS → Prop} : zSnd l D B xX11_isGenerations sz0 post 14 kX11_isGenerations_14 (z_Jr post) := (s_iconst dX11_isGenerations_14 (by decide) tX11_isGenerations_15)
set_option maxRecDepth 100000 in
theorem tX11_isGenerations_0 {l : Launch} {D : zD} {B sz0 : Nat} {post : Option Value → zS → Prop} : zSnd l D B xX11_isGenerations sz0 post 0 kX11_isGenerations_0 (z_Jr post) := (s_iload_n dX11_isGenerations_0 rfl (s_if_lt (tgt := 14) dX11_isGenerations_1 (by decide) tX11_isGenerations_14 (s_iload_n dX11_isGenerations_4 rfl (s_bipush dX11_isGenerations_5 (by decide) (s_icmp_gt (tgt := 14) dX11_isGenerations_7 (by decide) tX11_isGenerations_14 (s_iconst dX11_isGenerations_10 (by decide) (s_goto (tgt := 15) dX11_isGenerations_11 (by decide) tX11_isGenerations_15)))))))
noncomputable def fX11_isGenerations : zF := z_fn 1 kX11_isGenerations_0
theorem mX11_isGenerations {l : Launch} {D : zD} {B : Nat} : z_MF l D B yX11_isGenerations xX11_isGenerations fX11_isGenerations := z_mf (by decide) rfl (fun h => by cases h) rfl (fun as σ r h => ⟨z_fn_len h, kX11_isGenerations_0, z_fn_run h, fun _ => tX11_isGenerations_0⟩)
/-! ===== RowChildren.mixed ===== -/
theorem dX11_mixed_0 : decode cX11_mixed 0 = .ok (.iload_n 0, 1) := by decide +kernel
theorem dX11_mixed_1 : decode cX11_mixed 1 = .ok (.iload_n 1, 1) := by decide +kernel
theorem dX11_mixed_2 : decode cX11_mixed 2 = .ok (.ixor, 1) := by decide +kernel
theorem dX11_mixed_3 : decode cX11_mixed 3 = .ok (.ldc_w 402, 3) := by decide +kernel
theorem dX11_mixed_6 : decode cX11_mixed 6 = .ok (.imul, 1) := by decide +kernel
theorem dX11_mixed_7 : decode cX11_mixed 7 = .ok (.sipush 12345, 3) := by decide +kernel
theorem dX11_mixed_10 : decode cX11_mixed 10 = .ok (.iadd, 1) := by decide +kernel
theorem dX11_mixed_11 : decode cX11_mixed 11 = .ok (.istore_n 2, 1) := by decide +kernel
theorem dX11_mixed_12 : decode cX11_mixed 12 = .ok (.iload_n 2, 1) := by decide +kernel
theorem dX11_mixed_13 : decode cX11_mixed 13 = .ok (.iload_n 2, 1) := by decide +kernel
theorem dX11_mixed_14 : decode cX11_mixed 14 = .ok (.bipush 15, 2) := by decide +kernel
theorem dX11_mixed_16 : decode cX11_mixed 16 = .ok (.iushr, 1) := by decide +kernel
theorem dX11_mixed_17 : decode cX11_mixed 17 = .ok (.ixor, 1) := by decide +kernel
theorem dX11_mixed_18 : decode cX11_mixed 18 = .ok (.ireturn, 1) := by decide +kernel
def xX11_mixed : zX := (RX11, cX11_mixed, 3, (some .int), false, { frames := 1, cells := 0, slots := 0, locals := 90 }, 0, 0, 0, 0)
theorem rmX11_mixed : z_Rm xX11_mixed := by unfold z_Rm xX11_mixed; exact ⟨by decide, by decide⟩
theorem reX11_mixed : z_Re xX11_mixed := ⟨rfl, rfl⟩
theorem rlX11_mixed : 1 ≤ xX11_mixed.2.2.2.2.2.1.frames ∧ 21 ≤ xX11_mixed.2.2.2.2.2.1.locals := by unfold xX11_mixed; exact ⟨by decide, by decide⟩
theorem meX11_mixed : z_Me yX11_mixed xX11_mixed 2 := ⟨wd707, wd275, by decide, by decide, by decide +kernel⟩
noncomputable def kX11_mixed_0 : zK zR := (q_iload 0 (q_iload 1 (q_ixor (q_push 1103515245 (q_imul (q_push 12345 (q_iadd (q_istore 2 (q_iload 2 (q_iload 2 (q_push 15 (q_iushr (q_ixor q_iret)))))))))))))
set_option maxRecDepth 100000 in
theorem tX11_mixed_0 {l : Launch} {D : zD} {B sz0 : Nat} {post : Option Value → zS → Prop} : zSnd l D B xX11_mixed sz0 post 0 kX11_mixed_0 (z_Jr post) := (s_iload_n dX11_mixed_0 rfl (s_iload_n dX11_mixed_1 rfl (s_ixor dX11_mixed_2 (s_ldcw dX11_mixed_3 wd706 (s_imul dX11_mixed_6 (s_sipush dX11_mixed_7 (by decide) (s_iadd dX11_mixed_10 (s_istore_n dX11_mixed_11 rfl (s_iload_n dX11_mixed_12 rfl (s_iload_n dX11_mixed_13 rfl (s_bipush dX11_mixed_14 (by decide) (s_iushr dX11_mixed_16 (s_ixor dX11_mixed_17 (s_iret dX11_mixed_18 rfl))))))))))))))
noncomputable def fX11_mixed : zF := z_fn 3 kX11_mixed_0
theorem mX11_mixed {l : Launch} {D : zD} {B : Nat} : z_MF l D B yX11_mixed xX11_mixed fX11_mixed := z_mf (by decide) rfl (fun h => by cases h) rfl (fun as σ r h => ⟨z_fn_len h, kX11_mixed_0, z_fn_run h, fun _ => tX11_mixed_0⟩)
/-! ===== RowChildren.lotOfHundred ===== -/
theorem dX11_lotOfHundred_0 : decode cX11_lotOfHundred 0 = .ok (.iload_n 0, 1) := by decide +kernel
theorem dX11_lotOfHundred_1 : decode cX11_lotOfHundred 1 = .ok (.sipush 213, 3) := by decide +kernel
theorem dX11_lotOfHundred_4 : decode cX11_lotOfHundred 4 = .ok (.invokestatic 399, 3) := by decide +kernel
theorem dX11_lotOfHundred_7 : decode cX11_lotOfHundred 7 = .ok (.iload_n 1, 1) := by decide +kernel
theorem dX11_lotOfHundred_8 : decode cX11_lotOfHundred 8 = .ok (.invokestatic 399, 3) := by decide +kernel
theorem dX11_lotOfHundred_11 : decode cX11_lotOfHundred 11 = .ok (.iconst 1, 1) := by decide +kernel
theorem dX11_lotOfHundred_12 : decode cX11_lotOfHundred 12 = .ok (.iushr, 1) := by decide +kernel
theorem dX11_lotOfHundred_13 : decode cX11_lotOfHundred 13 = .ok (.bipush 100, 2) := by decide +kernel
theorem dX11_lotOfHundred_15 : decode cX11_lotOfHundred 15 = .ok (.irem, 1) := by decide +kernel
theorem dX11_lotOfHundred_16 : decode cX11_lotOfHundred 16 = .ok (.ireturn, 1) := by decide +kernel
def xX11_lotOfHundred : zX := (RX11, cX11_lotOfHundred, 2, (some .int), false, { frames := 2, cells := 0, slots := 0, locals := 112 }, 0, 0, 0, 0)
theorem rmX11_lotOfHundred : z_Rm xX11_lotOfHundred := by unfold z_Rm xX11_lotOfHundred; exact ⟨by decide, by decide⟩
theorem reX11_lotOfHundred : z_Re xX11_lotOfHundred := ⟨rfl, rfl⟩
theorem rlX11_lotOfHundred : 1 ≤ xX11_lotOfHundred.2.2.2.2.2.1.frames ∧ 21 ≤ xX11_lotOfHundred.2.2.2.2.2.1.locals := by unfold xX11_lotOfHundred; exact ⟨by decide, by decide⟩
theorem meX11_lotOfHundred : z_Me yX11_lotOfHundred xX11_lotOfHundred 2 := ⟨wd710, wd275, by decide, by decide, by decide +kernel⟩
theorem fitX11_lotOfHundred_4 : z_Fit xX11_mixed xX11_lotOfHundred := by unfold z_Fit; simp only [xX11_mixed, xX11_lotOfHundred]; exact ⟨by decide, by decide⟩
theorem fitX11_lotOfHundred_8 : z_Fit xX11_mixed xX11_lotOfHundred := by unfold z_Fit; simp only [xX11_mixed, xX11_lotOfHundred]; exact ⟨by decide, by decide⟩
noncomputable def kX11_lotOfHundred_0 : zK zR := (q_iload 0 (q_push 213 (q_callS fX11_mixed 2 (q_iload 1 (q_callS fX11_mixed 2 (q_push 1 (q_iushr (q_push 100 (q_irem q_iret)))))))))
set_option maxRecDepth 100000 in
theorem tX11_lotOfHundred_0 {l : Launch} {D : zD} {B sz0 : Nat} {post : Option Value → zS → Prop} : zSnd l D B xX11_lotOfHundred sz0 post 0 kX11_lotOfHundred_0 (z_Jr post) := (s_iload_n dX11_lotOfHundred_0 rfl (s_sipush dX11_lotOfHundred_1 (by decide) (s_callS dX11_lotOfHundred_4 mX11_mixed meX11_mixed wd708 rfl reX11_mixed rmX11_lotOfHundred (fitX11_lotOfHundred_4) wd709 (s_iload_n dX11_lotOfHundred_7 rfl (s_callS dX11_lotOfHundred_8 mX11_mixed meX11_mixed wd708 rfl reX11_mixed rmX11_lotOfHundred (fitX11_lotOfHundred_8) wd709 (s_iconst dX11_lotOfHundred_11 (by decide) (s_iushr dX11_lotOfHundred_12 (s_bipush dX11_lotOfHundred_13 (by decide) (s_irem dX11_lotOfHundred_15 (s_iret dX11_lotOfHundred_16 rfl))))))))))
noncomputable def fX11_lotOfHundred : zF := z_fn 2 kX11_lotOfHundred_0
theorem mX11_lotOfHundred {l : Launch} {D : zD} {B : Nat} : z_MF l D B yX11_lotOfHundred xX11_lotOfHundred fX11_lotOfHundred := z_mf (by decide) rfl (fun h => by cases h) rfl (fun as σ r h => ⟨z_fn_len h, kX11_lotOfHundred_0, z_fn_run h, fun _ => tX11_lotOfHundred_0⟩)
/-! ===== RowChildren.bearChildren ===== -/
theorem dX11_bearChildren_0 : decode cX11_bearChildren 0 = .ok (.aload_n 1, 1) := by decide +kernel
theorem dX11_bearChildren_1 : decode cX11_bearChildren 1 = .ok (.iload_n 2, 1) := by decide +kernel
theorem dX11_bearChildren_2 : decode cX11_bearChildren 2 = .ok (.invokevirtual 141, 3) := by decide +kernel
theorem dX11_bearChildren_5 : decode cX11_bearChildren 5 = .ok (.iconst 1, 1) := by decide +kernel
theorem dX11_bearChildren_6 : decode cX11_bearChildren 6 = .ok (.isub, 1) := by decide +kernel
theorem dX11_bearChildren_7 : decode cX11_bearChildren 7 = .ok (.istore 4, 2) := by decide +kernel
theorem dX11_bearChildren_9 : decode cX11_bearChildren 9 = .ok (.iconst 0, 1) := by decide +kernel
theorem dX11_bearChildren_10 : decode cX11_bearChildren 10 = .ok (.istore 5, 2) := by decide +kernel
theorem dX11_bearChildren_12 : decode cX11_bearChildren 12 = .ok (.iload 5, 2) := by decide +kernel
theorem dX11_bearChildren_14 : decode cX11_bearChildren 14 = .ok (.iload 4, 2) := by decide +kernel
theorem dX11_bearChildren_16 : decode cX11_bearChildren 16 = .ok (.if_icmp .ge 153, 3) := by decide +kernel
theorem dX11_bearChildren_19 : decode cX11_bearChildren 19 = .ok (.aload_n 1, 1) := by decide +kernel
theorem dX11_bearChildren_20 : decode cX11_bearChildren 20 = .ok (.iload_n 2, 1) := by decide +kernel
theorem dX11_bearChildren_21 : decode cX11_bearChildren 21 = .ok (.iload 5, 2) := by decide +kernel
theorem dX11_bearChildren_23 : decode cX11_bearChildren 23 = .ok (.invokevirtual 318, 3) := by decide +kernel
theorem dX11_bearChildren_26 : decode cX11_bearChildren 26 = .ok (.istore 6, 2) := by decide +kernel
theorem dX11_bearChildren_28 : decode cX11_bearChildren 28 = .ok (.aload_n 1, 1) := by decide +kernel
theorem dX11_bearChildren_29 : decode cX11_bearChildren 29 = .ok (.iload_n 2, 1) := by decide +kernel
theorem dX11_bearChildren_30 : decode cX11_bearChildren 30 = .ok (.iload 5, 2) := by decide +kernel
theorem dX11_bearChildren_32 : decode cX11_bearChildren 32 = .ok (.iconst 1, 1) := by decide +kernel
theorem dX11_bearChildren_33 : decode cX11_bearChildren 33 = .ok (.iadd, 1) := by decide +kernel
theorem dX11_bearChildren_34 : decode cX11_bearChildren 34 = .ok (.invokevirtual 318, 3) := by decide +kernel
theorem dX11_bearChildren_37 : decode cX11_bearChildren 37 = .ok (.istore 7, 2) := by decide +kernel
theorem dX11_bearChildren_39 : decode cX11_bearChildren 39 = .ok (.aload_n 0, 1) := by decide +kernel
theorem dX11_bearChildren_40 : decode cX11_bearChildren 40 = .ok (.getfield 19, 3) := by decide +kernel
theorem dX11_bearChildren_43 : decode cX11_bearChildren 43 = .ok (.getfield 124, 3) := by decide +kernel
theorem dX11_bearChildren_46 : decode cX11_bearChildren 46 = .ok (.iload 6, 2) := by decide +kernel
theorem dX11_bearChildren_48 : decode cX11_bearChildren 48 = .ok (.iload 7, 2) := by decide +kernel
theorem dX11_bearChildren_50 : decode cX11_bearChildren 50 = .ok (.invokevirtual 128, 3) := by decide +kernel
theorem dX11_bearChildren_53 : decode cX11_bearChildren 53 = .ok (.istore 8, 2) := by decide +kernel
theorem dX11_bearChildren_55 : decode cX11_bearChildren 55 = .ok (.aload_n 0, 1) := by decide +kernel
theorem dX11_bearChildren_56 : decode cX11_bearChildren 56 = .ok (.getfield 47, 3) := by decide +kernel
theorem dX11_bearChildren_59 : decode cX11_bearChildren 59 = .ok (.aload_n 1, 1) := by decide +kernel
theorem dX11_bearChildren_60 : decode cX11_bearChildren 60 = .ok (.iload_n 2, 1) := by decide +kernel
theorem dX11_bearChildren_61 : decode cX11_bearChildren 61 = .ok (.iload 8, 2) := by decide +kernel
theorem dX11_bearChildren_63 : decode cX11_bearChildren 63 = .ok (.invokevirtual 377, 3) := by decide +kernel
theorem dX11_bearChildren_66 : decode cX11_bearChildren 66 = .ok (.aload_n 0, 1) := by decide +kernel
theorem dX11_bearChildren_67 : decode cX11_bearChildren 67 = .ok (.getfield 47, 3) := by decide +kernel
theorem dX11_bearChildren_70 : decode cX11_bearChildren 70 = .ok (.iconst 1, 1) := by decide +kernel
theorem dX11_bearChildren_71 : decode cX11_bearChildren 71 = .ok (.iload 5, 2) := by decide +kernel
theorem dX11_bearChildren_73 : decode cX11_bearChildren 73 = .ok (.invokevirtual 380, 3) := by decide +kernel
theorem dX11_bearChildren_76 : decode cX11_bearChildren 76 = .ok (.aload_n 0, 1) := by decide +kernel
theorem dX11_bearChildren_77 : decode cX11_bearChildren 77 = .ok (.getfield 47, 3) := by decide +kernel
theorem dX11_bearChildren_80 : decode cX11_bearChildren 80 = .ok (.iload 6, 2) := by decide +kernel
theorem dX11_bearChildren_82 : decode cX11_bearChildren 82 = .ok (.iload 7, 2) := by decide +kernel
theorem dX11_bearChildren_84 : decode cX11_bearChildren 84 = .ok (.invokevirtual 383, 3) := by decide +kernel
theorem dX11_bearChildren_87 : decode cX11_bearChildren 87 = .ok (.aload_n 0, 1) := by decide +kernel
theorem dX11_bearChildren_88 : decode cX11_bearChildren 88 = .ok (.getfield 47, 3) := by decide +kernel
theorem dX11_bearChildren_91 : decode cX11_bearChildren 91 = .ok (.aload_n 0, 1) := by decide +kernel
theorem dX11_bearChildren_92 : decode cX11_bearChildren 92 = .ok (.getfield 19, 3) := by decide +kernel
theorem dX11_bearChildren_95 : decode cX11_bearChildren 95 = .ok (.iconst 2, 1) := by decide +kernel
theorem dX11_bearChildren_96 : decode cX11_bearChildren 96 = .ok (.bipush 100, 2) := by decide +kernel
theorem dX11_bearChildren_98 : decode cX11_bearChildren 98 = .ok (.invokevirtual 386, 3) := by decide +kernel
theorem dX11_bearChildren_101 : decode cX11_bearChildren 101 = .ok (.istore 9, 2) := by decide +kernel
theorem dX11_bearChildren_103 : decode cX11_bearChildren 103 = .ok (.iload_n 3, 1) := by decide +kernel
theorem dX11_bearChildren_104 : decode cX11_bearChildren 104 = .ok (.bipush 64, 2) := by decide +kernel
theorem dX11_bearChildren_106 : decode cX11_bearChildren 106 = .ok (.aload_n 1, 1) := by decide +kernel
theorem dX11_bearChildren_107 : decode cX11_bearChildren 107 = .ok (.getfield 226, 3) := by decide +kernel
theorem dX11_bearChildren_110 : decode cX11_bearChildren 110 = .ok (.imul, 1) := by decide +kernel
theorem dX11_bearChildren_111 : decode cX11_bearChildren 111 = .ok (.bipush 16, 2) := by decide +kernel
theorem dX11_bearChildren_113 : decode cX11_bearChildren 113 = .ok (.iload_n 2, 1) := by decide +kernel
theorem dX11_bearChildren_114 : decode cX11_bearChildren 114 = .ok (.imul, 1) := by decide +kernel
theorem dX11_bearChildren_115 : decode cX11_bearChildren 115 = .ok (.iadd, 1) := by decide +kernel
theorem dX11_bearChildren_116 : decode cX11_bearChildren 116 = .ok (.iload 5, 2) := by decide +kernel
theorem dX11_bearChildren_118 : decode cX11_bearChildren 118 = .ok (.iadd, 1) := by decide +kernel
theorem dX11_bearChildren_119 : decode cX11_bearChildren 119 = .ok (.invokestatic 393, 3) := by decide +kernel
theorem dX11_bearChildren_122 : decode cX11_bearChildren 122 = .ok (.iload 9, 2) := by decide +kernel
theorem dX11_bearChildren_124 : decode cX11_bearChildren 124 = .ok (.if_icmp .ge 7, 3) := by decide +kernel
theorem dX11_bearChildren_127 : decode cX11_bearChildren 127 = .ok (.iconst 1, 1) := by decide +kernel
theorem dX11_bearChildren_128 : decode cX11_bearChildren 128 = .ok (.goto 4, 3) := by decide +kernel
theorem dX11_bearChildren_131 : decode cX11_bearChildren 131 = .ok (.iconst 0, 1) := by decide +kernel
theorem dX11_bearChildren_132 : decode cX11_bearChildren 132 = .ok (.istore 10, 2) := by decide +kernel
theorem dX11_bearChildren_134 : decode cX11_bearChildren 134 = .ok (.aload_n 0, 1) := by decide +kernel
theorem dX11_bearChildren_135 : decode cX11_bearChildren 135 = .ok (.getfield 40, 3) := by decide +kernel
theorem dX11_bearChildren_138 : decode cX11_bearChildren 138 = .ok (.iload 5, 2) := by decide +kernel
theorem dX11_bearChildren_140 : decode cX11_bearChildren 140 = .ok (.iload 10, 2) := by decide +kernel
theorem dX11_bearChildren_142 : decode cX11_bearChildren 142 = .ok (.ifCond .eq 18, 3) := by decide +kernel
theorem dX11_bearChildren_145 : decode cX11_bearChildren 145 = .ok (.aload_n 0, 1) := by decide +kernel
theorem dX11_bearChildren_146 : decode cX11_bearChildren 146 = .ok (.getfield 19, 3) := by decide +kernel
theorem dX11_bearChildren_149 : decode cX11_bearChildren 149 = .ok (.getfield 124, 3) := by decide +kernel
theorem dX11_bearChildren_152 : decode cX11_bearChildren 152 = .ok (.iload 8, 2) := by decide +kernel
theorem dX11_bearChildren_154 : decode cX11_bearChildren 154 = .ok (.invokevirtual 396, 3) := by decide +kernel
theorem dX11_bearChildren_157 : decode cX11_bearChildren 157 = .ok (.goto 5, 3) := by decide +kernel
theorem dX11_bearChildren_160 : decode cX11_bearChildren 160 = .ok (.iload 8, 2) := by decide +kernel
theorem dX11_bearChildren_162 : decode cX11_bearChildren 162 = .ok (.iastore, 1) := by decide +kernel
theorem dX11_bearChildren_163 : decode cX11_bearChildren 163 = .ok (.iinc 5 1, 3) := by decide +kernel
theorem dX11_bearChildren_166 : decode cX11_bearChildren 166 = .ok (.goto (-154), 3) := by decide +kernel
theorem dX11_bearChildren_169 : decode cX11_bearChildren 169 = .ok (.iconst 0, 1) := by decide +kernel
theorem dX11_bearChildren_170 : decode cX11_bearChildren 170 = .ok (.istore 5, 2) := by decide +kernel
theorem dX11_bearChildren_172 : decode cX11_bearChildren 172 = .ok (.iload 5, 2) := by decide +kernel
theorem dX11_bearChildren_174 : decode cX11_bearChildren 174 = .ok (.iload 4, 2) := by decide +kernel
theorem dX11_bearChildren_176 : decode cX11_bearChildren 176 = .ok (.if_icmp .ge 23, 3) := by decide +kernel
theorem dX11_bearChildren_179 : decode cX11_bearChildren 179 = .ok (.aload_n 1, 1) := by decide +kernel
theorem dX11_bearChildren_180 : decode cX11_bearChildren 180 = .ok (.iload_n 2, 1) := by decide +kernel
theorem dX11_bearChildren_181 : decode cX11_bearChildren 181 = .ok (.iload 5, 2) := by decide +kernel
theorem dX11_bearChildren_183 : decode cX11_bearChildren 183 = .ok (.aload_n 0, 1) := by decide +kernel
theorem dX11_bearChildren_184 : decode cX11_bearChildren 184 = .ok (.getfield 40, 3) := by decide +kernel
theorem dX11_bearChildren_187 : decode cX11_bearChildren 187 = .ok (.iload 5, 2) := by decide +kernel
theorem dX11_bearChildren_189 : decode cX11_bearChildren 189 = .ok (.iaload, 1) := by decide +kernel
theorem dX11_bearChildren_190 : decode cX11_bearChildren 190 = .ok (.invokevirtual 206, 3) := by decide +kernel
theorem dX11_bearChildren_193 : decode cX11_bearChildren 193 = .ok (.iinc 5 1, 3) := by decide +kernel
theorem dX11_bearChildren_196 : decode cX11_bearChildren 196 = .ok (.goto (-24), 3) := by decide +kernel
theorem dX11_bearChildren_199 : decode cX11_bearChildren 199 = .ok (.iload 4, 2) := by decide +kernel
theorem dX11_bearChildren_201 : decode cX11_bearChildren 201 = .ok (.iconst 1, 1) := by decide +kernel
theorem dX11_bearChildren_202 : decode cX11_bearChildren 202 = .ok (.if_icmp .lt 10, 3) := by decide +kernel
theorem dX11_bearChildren_205 : decode cX11_bearChildren 205 = .ok (.aload_n 1, 1) := by decide +kernel
theorem dX11_bearChildren_206 : decode cX11_bearChildren 206 = .ok (.iload_n 2, 1) := by decide +kernel
theorem dX11_bearChildren_207 : decode cX11_bearChildren 207 = .ok (.iload 4, 2) := by decide +kernel
theorem dX11_bearChildren_209 : decode cX11_bearChildren 209 = .ok (.invokevirtual 213, 3) := by decide +kernel
theorem dX11_bearChildren_212 : decode cX11_bearChildren 212 = .ok (.return_, 1) := by decide +kernel
def xX11_bearChildren : zX := (RX11, cX11_bearChildren, 11, none, false, { frames := 21, cells := 0, slots := 0, locals := 598 }, 0, 0, 0, 0)
theorem rmX11_bearChildren : z_Rm xX11_bearChildren := by unfold z_Rm xX11_bearChildren; exact ⟨by decide, by decide⟩
theorem reX11_bearChildren : z_Re xX11_bearChildren := ⟨rfl, rfl⟩
theorem rlX11_bearChildren : 1 ≤ xX11_bearChildren.2.2.2.2.2.1.frames ∧ 21 ≤ xX11_bearChildren.2.2.2.2.2.1.locals := by unfold xX11_bearChildren; exact ⟨by decide, by decide⟩
theorem meX11_bearChildren : z_Me yX11_bearChildren xX11_bearChildren 3 := ⟨wd717, wd275, by decide, by decide, by decide +kernel⟩
theorem fitX11_bearChildren_2 : z_Fit xX1_lengthOf xX11_bearChildren := by unfold z_Fit; simp only [xX1_lengthOf, xX11_bearChildren]; exact ⟨by decide, by decide⟩
theorem fitX11_bearChildren_209 : z_Fit xX1_setLength xX11_bearChildren := by unfold z_Fit; simp only [xX1_setLength, xX11_bearChildren]; exact ⟨by decide, by decide⟩
theorem fitX11_bearChildren_190 : z_Fit xX1_setColour xX11_bearChildren := by unfold z_Fit; simp only [xX1_setColour, xX11_bearChildren]; exact ⟨by decide, by decide⟩
theorem fitX11_bearChildren_23 : z_Fit xX1_colourAt xX11_bearChildren := by unfold z_Fit; simp only [xX1_colourAt, xX11_bearChildren]; exact ⟨by decide, by decide⟩
theorem fitX11_bearChildren_34 : z_Fit xX1_colourAt xX11_bearChildren := by unfold z_Fit; simp only [xX1_colourAt, xX11_bearChildren]; exact ⟨by decide, by decide⟩
theorem fitX11_bearChildren_50 : z_Fit xX5_childOf xX11_bearChildren := by unfold z_Fit; simp only [xX5_childOf, xX11_bearChildren]; exact ⟨by decide, by decide⟩
theorem fitX11_bearChildren_63 : z_Fit xX2_standOn xX11_bearChildren := by unfold z_Fit; simp only [xX2_standOn, xX11_bearChildren]; exact ⟨by decide, by decide⟩
theorem fitX11_bearChildren_73 : z_Fit xX2_standAt xX11_bearChildren := by unfold z_Fit; simp only [xX2_standAt, xX11_bearChildren]; exact ⟨by decide, by decide⟩
theorem fitX11_bearChildren_84 : z_Fit xX2_haveParents xX11_bearChildren := by unfold z_Fit; simp only [xX2_haveParents, xX11_bearChildren]; exact ⟨by decide, by decide⟩
theorem fitX11_bearChildren_98 : z_Fit xX2_held xX11_bearChildren := by unfold z_Fit; simp only [xX2_held, xX11_bearChildren]; exact ⟨by decide, by decide⟩
theorem fitX11_bearChildren_119 : z_Fit xX11_lotOfHundred xX11_bearChildren := by unfold z_Fit; simp only [xX11_lotOfHundred, xX11_bearChildren]; exact ⟨by decide, by decide⟩
theorem fitX11_bearChildren_154 : z_Fit xX5_nextColour xX11_bearChildren := by unfold z_Fit; simp only [xX5_nextColour, xX11_bearChildren]; exact ⟨by decide, by decide⟩
noncomputable def kX11_bearChildren_212 : zK zR := q_vret
noncomputable def kX11_bearChildren_199 : zK zR := (q_iload 4 (q_push 1 (q_icmp_lt kX11_bearChildren_212 (q_aload 1 (q_iload 2 (q_iload 4 (q_callV 1 fX1_setLength 2 kX11_bearChildren_212)))))))
noncomputable def bX11_bearChildren_172 : zK ((zL × zS) ⊕ zR) := (q_iload 5 (q_iload 4 (q_icmp_ge (q_dn kX11_bearChildren_199) (q_aload 1 (q_iload 2 (q_iload 5 (q_aload 0 (q_getR 11 6 (q_iload 5 (q_iald (q_callV 1 fX1_setColour 3 (q_iinc 5 1 q_ag))))))))))))
noncomputable def kX11_bearChildren_172 : zK zR := q_lp (bX11_bearChildren_172)
noncomputable def kX11_bearChildren_169 : zK zR := (q_push 0 (q_istore 5 kX11_bearChildren_172))
noncomputable def kX11_bearChildren_162 : zK ((zL × zS) ⊕ zR) := (q_iast (q_iinc 5 1 q_ag))
noncomputable def kX11_bearChildren_132 : zK ((zL × zS) ⊕ zR) := (q_istore 10 (q_aload 0 (q_getR 11 6 (q_iload 5 (q_iload 10 (q_if_eq (q_iload 8 kX11_bearChildren_162) (q_aload 0 (q_getR 11 1 (q_getR 7 1 (q_iload 8 (q_callV 5 fX5_nextColour 1 kX11_bearChildren_162)))))))))))
noncomputable def bX11_bearChildren_12 : zK ((zL × zS) ⊕ zR) := (q_iload 5 (q_iload 4 (q_icmp_ge (q_dn kX11_bearChildren_169) (q_aload 1 (q_iload 2 (q_iload 5 (q_callV 1 fX1_colourAt 2 (q_istore 6 (q_aload 1 (q_iload 2 (q_iload 5 (q_push 1 (q_iadd (q_callV 1 fX1_colourAt 2 (q_istore 7 (q_aload 0 (q_getR 11 1 (q_getR 7 1 (q_iload 6 (q_iload 7 (q_callV 5 fX5_childOf 2 (q_istore 8 (q_aload 0 (q_getR 11 7 (q_aload 1 (q_iload 2 (q_iload 8 (q_callV 2 fX2_standOn 3 (q_aload 0 (q_getR 11 7 (q_push 1 (q_iload 5 (q_callV 2 fX2_standAt 2 (q_aload 0 (q_getR 11 7 (q_iload 6 (q_iload 7 (q_callV 2 fX2_haveParents 2 (q_aload 0 (q_getR 11 7 (q_aload 0 (q_getR 11 1 (q_push 2 (q_push 100 (q_callV 2 fX2_held 3 (q_istore 9 (q_iload 3 (q_push 64 (q_aload 1 (q_getI 1 1 (q_imul (q_push 16 (q_iload 2 (q_imul (q_iadd (q_iload 5 (q_iadd (q_callS fX11_lotOfHundred 2 (q_iload 9 (q_icmp_ge (q_push 0 kX11_bearChildren_132) (q_push 1 kX11_bearChildren_132)))))))))))))))))))))))))))))))))))))))))))))))))))))))))))))
noncomputable def kX11_bearChildren_12 : zK zR := q_lp (bX11_bearChildren_12)
noncomputable def kX11_bearChildren_0 : zK zR := (q_aload 1 (q_iload 2 (q_callV 1 fX1_lengthOf 1 (q_push 1 (q_isub (q_istore 4 (q_push 0 (q_istore 5 kX11_bearChildren_12))))))))
set_option maxRecDepth 100000 in
theorem tX11_bearChildren_212 {l : Launch} {D : zD} {B sz0 : Nat} {post : Option Value → zS → Prop} : zSnd l D B xX11_bearChildren sz0 post 212 kX11_bearChildren_212 (z_Jr post) := (s_vret dX11_bearChildren_212 rfl)
set_option maxRecDepth 100000 in
theorem tX11_bearChildren_199 {l : Launch} {D : zD} {B sz0 : Nat} {post : Option Value → zS → Prop} : zSnd l D B xX11_bearChildren sz0 post 199 kX11_bearChildren_199 (z_Jr post) := (s_iload dX11_bearChildren_199 (s_iconst dX11_bearChildren_201 (by decide) (s_icmp_lt (tgt := 212) dX11_bearChildren_202 (by decide) tX11_bearChildren_212 (s_aload_n dX11_bearChildren_205 rfl (s_iload_n dX11_bearChildren_206 rfl (s_iload dX11_bearChildren_207 (s_callV (r := (RX1, TX1, 5)) dX11_bearChildren_209 mX1_setLength meX1_setLength wd71 wd72 rfl rfl reX1_setLength rmX11_bearChildren (fitX11_bearChildren_209) wd703 tX11_bearChildren_212)))))))
set_option maxRecDepth 100000 in
theorem tX11_bearChildren_172 {l : Launch} {D : zD} {B sz0 : Nat} {post : Option Value → zS → Prop} : zSnd l D B xX11_bearChildren sz0 post 172 kX11_bearChildren_172 (z_Jr post) := s_lp (body := bX11_bearChildren_172) (s_iload dX11_bearChildren_172 (s_iload dX11_bearChildren_174 (s_icmp_ge (tgt := 199) dX11_bearChildren_176 (by decide) (s_dn tX11_bearChildren_199) (s_aload_n dX11_bearChildren_179 rfl (s_iload_n dX11_bearChildren_180 rfl (s_iload dX11_bearChildren_181 (s_aload_n dX11_bearChildren_183 rfl (s_getR (f := 6) dX11_bearChildren_184 clX11 (by decide) rfl wd578 (s_iload dX11_bearChildren_187 (s_iald dX11_bearChildren_189 (s_callV (r := (RX1, TX1, 5)) dX11_bearChildren_190 mX1_setColour meX1_setColour wd68 wd69 rfl rfl reX1_setColour rmX11_bearChildren (fitX11_bearChildren_190) wd699 (s_iinc dX11_bearChildren_193 (by decide) (s_goto (tgt := 172) dX11_bearChildren_196 (by decide) s_ag)))))))))))))
set_option maxRecDepth 100000 in
theorem tX11_bearChildren_169 {l : Launch} {D : zD} {B sz0 : Nat} {post : Option Value → zS → Prop} : zSnd l D B xX11_bearChildren sz0 post 169 kX11_bearChildren_169 (z_Jr post) := (s_iconst dX11_bearChildren_169 (by decide) (s_istore dX11_bearChildren_170 tX11_bearChildren_172))
set_option maxRecDepth 100000 in
theorem tX11_bearChildren_162 {l : Launch} {D : zD} {B sz0 : Nat} {post : Option Value → zS → Prop} : zSnd l D B xX11_bearChildren sz0 post 162 kX11_bearChildren_162 (z_Jl l D B xX11_bearChildren sz0 post 12 (z_Jr post)) := (s_iast dX11_bearChildren_162 (s_iinc dX11_bearChildren_163 (by decide) (s_goto (tgt := 12) dX11_bearChildren_166 (by decide) s_ag)))
set_option maxRecDepth 100000 in
theorem tX11_bearChildren_132 {l : Launch} {D : zD} {B sz0 : Nat} {post : Option Value → zS → Prop} : zSnd l D B xX11_bearChildren sz0 post 132 kX11_bearChildren_132 (z_Jl l D B xX11_bearChildren sz0 post 12 (z_Jr post)) := (s_istore dX11_bearChildren_132 (s_aload_n dX11_bearChildren_134 rfl (s_getR (f := 6) dX11_bearChildren_135 clX11 (by decide) rfl wd578 (s_iload dX11_bearChildren_138 (s_iload dX11_bearChildren_140 (s_if_eq (tgt := 160) dX11_bearChildren_142 (by decide) (s_iload dX11_bearChildren_160 tX11_bearChildren_162) (s_aload_n dX11_bearChildren_145 rfl (s_getR (f := 1) dX11_bearChildren_146 clX11 (by decide) rfl wd572 (s_getR (f := 1) dX11_bearChildren_149 clX7 (by decide) rfl wd628 (s_iload dX11_bearChildren_152 (s_callV (r := (RX5, TX5, 7)) dX11_bearChildren_154 mX5_nextColour meX5_nextColour wd714 wd715 rfl rfl reX5_nextColour rmX11_bearChildren (fitX11_bearChildren_154) wd716 (s_goto (tgt := 162) dX11_bearChildren_157 (by decide) tX11_bearChildren_162))))))))))))
set_option maxRecDepth 100000 in
theorem tX11_bearChildren_12 {l : Launch} {D : zD} {B sz0 : Nat} {post : Option Value → zS → Prop} : zSnd l D B xX11_bearChildren sz0 post 12 kX11_bearChildren_12 (z_Jr post) := s_lp (body := bX11_bearChildren_12) (s_iload dX11_bearChildren_12 (s_iload dX11_bearChildren_14 (s_icmp_ge (tgt := 169) dX11_bearChildren_16 (by decide) (s_dn tX11_bearChildren_169) (s_aload_n dX11_bearChildren_19 rfl (s_iload_n dX11_bearChildren_20 rfl (s_iload dX11_bearChildren_21 (s_callV (r := (RX1, TX1, 5)) dX11_bearChildren_23 mX1_colourAt meX1_colourAt wd75 wd76 rfl rfl reX1_colourAt rmX11_bearChildren (fitX11_bearChildren_23) wd638 (s_istore dX11_bearChildren_26 (s_aload_n dX11_bearChildren_28 rfl (s_iload_n dX11_bearChildren_29 rfl (s_iload dX11_bearChildren_30 (s_iconst dX11_bearChildren_32 (by decide) (s_iadd dX11_bearChildren_33 (s_callV (r := (RX1, TX1, 5)) dX11_bearChildren_34 mX1_colourAt meX1_colourAt wd75 wd76 rfl rfl reX1_colourAt rmX11_bearChildren (fitX11_bearChildren_34) wd638 (s_istore dX11_bearChildren_37 (s_aload_n dX11_bearChildren_39 rfl (s_getR (f := 1) dX11_bearChildren_40 clX11 (by decide) rfl wd572 (s_getR (f := 1) dX11_bearChildren_43 clX7 (by decide) rfl wd628 (s_iload dX11_bearChildren_46 (s_iload dX11_bearChildren_48 (s_callV (r := (RX5, TX5, 7)) dX11_bearChildren_50 mX5_childOf meX5_childOf wd242 wd243 rfl rfl reX5_childOf rmX11_bearChildren (fitX11_bearChildren_50) wd634 (s_istore dX11_bearChildren_53 (s_aload_n dX11_bearChildren_55 rfl (s_getR (f := 7) dX11_bearChildren_56 clX11 (by decide) rfl wd582 (s_aload_n dX11_bearChildren_59 rfl (s_iload_n dX11_bearChildren_60 rfl (s_iload dX11_bearChildren_61 (s_callV (r := (RX2, TX2, 3)) dX11_bearChildren_63 mX2_standOn meX2_standOn wd639 wd640 rfl rfl reX2_standOn rmX11_bearChildren (fitX11_bearChildren_63) wd641 (s_aload_n dX11_bearChildren_66 rfl (s_getR (f := 7) dX11_bearChildren_67 clX11 (by decide) rfl wd582 (s_iconst dX11_bearChildren_70 (by decide) (s_iload dX11_bearChildren_71 (s_callV (r := (RX2, TX2, 3)) dX11_bearChildren_73 mX2_standAt meX2_standAt wd98 wd99 rfl rfl reX2_standAt rmX11_bearChildren (fitX11_bearChildren_73) wd647 (s_aload_n dX11_bearChildren_76 rfl (s_getR (f := 7) dX11_bearChildren_77 clX11 (by decide) rfl wd582 (s_iload dX11_bearChildren_80 (s_iload dX11_bearChildren_82 (s_callV (r := (RX2, TX2, 3)) dX11_bearChildren_84 mX2_haveParents meX2_haveParents wd101 wd102 rfl rfl reX2_haveParents rmX11_bearChildren (fitX11_bearChildren_84) wd648 (s_aload_n dX11_bearChildren_87 rfl (s_getR (f := 7) dX11_bearChildren_88 clX11 (by decide) rfl wd582 (s_aload_n dX11_bearChildren_91 rfl (s_getR (f := 1) dX11_bearChildren_92 clX11 (by decide) rfl wd572 (s_iconst dX11_bearChildren_95 (by decide) (s_bipush dX11_bearChildren_96 (by decide) (s_callV (r := (RX2, TX2, 3)) dX11_bearChildren_98 mX2_held meX2_held wd642 wd643 rfl rfl reX2_held rmX11_bearChildren (fitX11_bearChildren_98) wd644 (s_istore dX11_bearChildren_101 (s_iload_n dX11_bearChildren_103 rfl (s_bipush dX11_bearChildren_104 (by decide) (s_aload_n dX11_bearChildren_106 rfl (s_getI (f := 1) dX11_bearChildren_107 clX1 (by decide) rfl wd711 (s_imul dX11_bearChildren_110 (s_bipush dX11_bearChildren_111 (by decide) (s_iload_n dX11_bearChildren_113 rfl (s_imul dX11_bearChildren_114 (s_iadd dX11_bearChildren_115 (s_iload dX11_bearChildren_116 (s_iadd dX11_bearChildren_118 (s_callS dX11_bearChildren_119 mX11_lotOfHundred meX11_lotOfHundred wd712 rfl reX11_lotOfHundred rmX11_bearChildren (fitX11_bearChildren_119) wd713 (s_iload dX11_bearChildren_122 (s_icmp_ge (tgt := 131) dX11_bearChildren_124 (by decide) (s_iconst dX11_bearChildren_131 (by decide) tX11_bearChildren_132) (s_iconst dX11_bearChildren_127 (by decide) (s_goto (tgt := 132) dX11_bearChildren_128 (by decide) tX11_bearChildren_132))))))))))))))))))))))))))))))))))))))))))))))))))))))))))))))
set_option maxRecDepth 100000 in
theorem tX11_bearChildren_0 {l : Launch} {D : zD} {B sz0 : Nat} {post : Option Value → zS → Prop} : zSnd l D B xX11_bearChildren sz0 post 0 kX11_bearChildren_0 (z_Jr post) := (s_aload_n dX11_bearChildren_0 rfl (s_iload_n dX11_bearChildren_1 rfl (s_callV (r := (RX1, TX1, 5)) dX11_bearChildren_2 mX1_lengthOf meX1_lengthOf wd65 wd66 rfl rfl reX1_lengthOf rmX11_bearChildren (fitX11_bearChildren_2) wd661 (s_iconst dX11_bearChildren_5 (by decide) (s_isub dX11_bearChildren_6 (s_istore dX11_bearChildren_7 (s_iconst dX11_bearChildren_9 (by decide) (s_istore dX11_bearChildren_10 tX11_bearChildren_12))))))))
noncomputable def fX11_bearChildren : zF := z_fn 11 kX11_bearChildren_0
theorem mX11_bearChildren {l : Launch} {D : zD} {B : Nat} : z_MF l D B yX11_bearChildren xX11_bearChildren fX11_bearChildren := z_mf (by decide) rfl (fun h => by cases h) rfl (fun as σ r h => ⟨z_fn_len h, kX11_bearChildren_0, z_fn_run h, fun _ => tX11_bearChildren_0⟩)
/-! ===== RowChildren.passGenerations ===== -/
theorem dX11_passGenerations_0 : decode cX11_passGenerations 0 = .ok (.iconst 0, 1) := by decide +kernel
theorem dX11_passGenerations_1 : decode cX11_passGenerations 1 = .ok (.istore 4, 2) := by decide +kernel
theorem dX11_passGenerations_3 : decode cX11_passGenerations 3 = .ok (.iload 4, 2) := by decide +kernel
theorem dX11_passGenerations_5 : decode cX11_passGenerations 5 = .ok (.iload_n 2, 1) := by decide +kernel
theorem dX11_passGenerations_6 : decode cX11_passGenerations 6 = .ok (.if_icmp .ge 61, 3) := by decide +kernel
theorem dX11_passGenerations_9 : decode cX11_passGenerations 9 = .ok (.iconst 0, 1) := by decide +kernel
theorem dX11_passGenerations_10 : decode cX11_passGenerations 10 = .ok (.istore 5, 2) := by decide +kernel
theorem dX11_passGenerations_12 : decode cX11_passGenerations 12 = .ok (.iload 5, 2) := by decide +kernel
theorem dX11_passGenerations_14 : decode cX11_passGenerations 14 = .ok (.aload_n 1, 1) := by decide +kernel
theorem dX11_passGenerations_15 : decode cX11_passGenerations 15 = .ok (.getfield 349, 3) := by decide +kernel
theorem dX11_passGenerations_18 : decode cX11_passGenerations 18 = .ok (.if_icmp .ge 33, 3) := by decide +kernel
theorem dX11_passGenerations_21 : decode cX11_passGenerations 21 = .ok (.aload_n 1, 1) := by decide +kernel
theorem dX11_passGenerations_22 : decode cX11_passGenerations 22 = .ok (.dup, 1) := by decide +kernel
theorem dX11_passGenerations_23 : decode cX11_passGenerations 23 = .ok (.getfield 203, 3) := by decide +kernel
theorem dX11_passGenerations_26 : decode cX11_passGenerations 26 = .ok (.aload_n 0, 1) := by decide +kernel
theorem dX11_passGenerations_27 : decode cX11_passGenerations 27 = .ok (.aload_n 1, 1) := by decide +kernel
theorem dX11_passGenerations_28 : decode cX11_passGenerations 28 = .ok (.iload 5, 2) := by decide +kernel
theorem dX11_passGenerations_30 : decode cX11_passGenerations 30 = .ok (.invokevirtual 155, 3) := by decide +kernel
theorem dX11_passGenerations_33 : decode cX11_passGenerations 33 = .ok (.iadd, 1) := by decide +kernel
theorem dX11_passGenerations_34 : decode cX11_passGenerations 34 = .ok (.putfield 203, 3) := by decide +kernel
theorem dX11_passGenerations_37 : decode cX11_passGenerations 37 = .ok (.aload_n 0, 1) := by decide +kernel
theorem dX11_passGenerations_38 : decode cX11_passGenerations 38 = .ok (.aload_n 1, 1) := by decide +kernel
theorem dX11_passGenerations_39 : decode cX11_passGenerations 39 = .ok (.iload 5, 2) := by decide +kernel
theorem dX11_passGenerations_41 : decode cX11_passGenerations 41 = .ok (.iload_n 3, 1) := by decide +kernel
theorem dX11_passGenerations_42 : decode cX11_passGenerations 42 = .ok (.invokevirtual 390, 3) := by decide +kernel
theorem dX11_passGenerations_45 : decode cX11_passGenerations 45 = .ok (.iinc 5 1, 3) := by decide +kernel
theorem dX11_passGenerations_48 : decode cX11_passGenerations 48 = .ok (.goto (-36), 3) := by decide +kernel
theorem dX11_passGenerations_51 : decode cX11_passGenerations 51 = .ok (.aload_n 1, 1) := by decide +kernel
theorem dX11_passGenerations_52 : decode cX11_passGenerations 52 = .ok (.dup, 1) := by decide +kernel
theorem dX11_passGenerations_53 : decode cX11_passGenerations 53 = .ok (.getfield 226, 3) := by decide +kernel
theorem dX11_passGenerations_56 : decode cX11_passGenerations 56 = .ok (.iconst 1, 1) := by decide +kernel
theorem dX11_passGenerations_57 : decode cX11_passGenerations 57 = .ok (.iadd, 1) := by decide +kernel
theorem dX11_passGenerations_58 : decode cX11_passGenerations 58 = .ok (.putfield 226, 3) := by decide +kernel
theorem dX11_passGenerations_61 : decode cX11_passGenerations 61 = .ok (.iinc 4 1, 3) := by decide +kernel
theorem dX11_passGenerations_64 : decode cX11_passGenerations 64 = .ok (.goto (-61), 3) := by decide +kernel
theorem dX11_passGenerations_67 : decode cX11_passGenerations 67 = .ok (.return_, 1) := by decide +kernel
def xX11_passGenerations : zX := (RX11, cX11_passGenerations, 6, none, false, { frames := 22, cells := 0, slots := 0, locals := 628 }, 0, 0, 0, 0)
theorem rmX11_passGenerations : z_Rm xX11_passGenerations := by unfold z_Rm xX11_passGenerations; exact ⟨by decide, by decide⟩
theorem reX11_passGenerations : z_Re xX11_passGenerations := ⟨rfl, rfl⟩
theorem rlX11_passGenerations : 1 ≤ xX11_passGenerations.2.2.2.2.2.1.frames ∧ 21 ≤ xX11_passGenerations.2.2.2.2.2.1.locals := by unfold xX11_passGenerations; exact ⟨by decide, by decide⟩
theorem meX11_passGenerations : z_Me yX11_passGenerations xX11_passGenerations 3 := ⟨wd721, wd275, by decide, by decide, by decide +kernel⟩
theorem fitX11_passGenerations_30 : z_Fit xX11_paysOf xX11_passGenerations := by unfold z_Fit; simp only [xX11_paysOf, xX11_passGenerations]; exact ⟨by decide, by decide⟩
theorem fitX11_passGenerations_42 : z_Fit xX11_bearChildren xX11_passGenerations := by unfold z_Fit; simp only [xX11_bearChildren, xX11_passGenerations]; exact ⟨by decide, by decide⟩
noncomputable def kX11_passGenerations_67 : zK zR := q_vret
noncomputable def kX11_passGenerations_51 : zK ((zL × zS) ⊕ zR) := (q_aload 1 (q_dup (q_getI 1 1 (q_push 1 (q_iadd (q_putI 1 1 (q_iinc 4 1 q_ag)))))))
noncomputable def bX11_passGenerations_12 : zK ((zL × zS) ⊕ ((zL × zS) ⊕ zR)) := (q_iload 5 (q_aload 1 (q_getI 1 0 (q_icmp_ge (q_dn kX11_passGenerations_51) (q_aload 1 (q_dup (q_getI 1 2 (q_aload 0 (q_aload 1 (q_iload 5 (q_callV 11 fX11_paysOf 2 (q_iadd (q_putI 1 2 (q_aload 0 (q_aload 1 (q_iload 5 (q_iload 3 (q_callV 11 fX11_bearChildren 3 (q_iinc 5 1 q_ag)))))))))))))))))))
noncomputable def kX11_passGenerations_12 : zK ((zL × zS) ⊕ zR) := q_lp (bX11_passGenerations_12)
noncomputable def bX11_passGenerations_3 : zK ((zL × zS) ⊕ zR) := (q_iload 4 (q_iload 2 (q_icmp_ge (q_dn kX11_passGenerations_67) (q_push 0 (q_istore 5 kX11_passGenerations_12)))))
noncomputable def kX11_passGenerations_3 : zK zR := q_lp (bX11_passGenerations_3)
noncomputable def kX11_passGenerations_0 : zK zR := (q_push 0 (q_istore 4 kX11_passGenerations_3))
set_option maxRecDepth 100000 in
theorem tX11_passGenerations_67 {l : Launch} {D : zD} {B sz0 : Nat} {post : Option Value → zS → Prop} : zSnd l D B xX11_passGenerations sz0 post 67 kX11_passGenerations_67 (z_Jr post) := (s_vret dX11_passGenerations_67 rfl)
set_option maxRecDepth 100000 in
theorem tX11_passGenerations_51 {l : Launch} {D : zD} {B sz0 : Nat} {post : Option Value → zS → Prop} : zSnd l D B xX11_passGenerations sz0 post 51 kX11_passGenerations_51 (z_Jl l D B xX11_passGenerations sz0 post 3 (z_Jr post)) := (s_aload_n dX11_passGenerations_51 rfl (s_dup dX11_passGenerations_52 (s_getI (f := 1) dX11_passGenerations_53 clX1 (by decide) rfl wd711 (s_iconst dX11_passGenerations_56 (by decide) (s_iadd dX11_passGenerations_57 (s_putI (f := 1) dX11_passGenerations_58 clX1 (by decide) rfl rfl rfl wd711 (s_iinc dX11_passGenerations_61 (by decide) (s_goto (tgt := 3) dX11_passGenerations_64 (by decide) s_ag))))))))
set_option maxRecDepth 100000 in
theorem tX11_passGenerations_12 {l : Launch} {D : zD} {B sz0 : Nat} {post : Option Value → zS → Prop} : zSnd l D B xX11_passGenerations sz0 post 12 kX11_passGenerations_12 (z_Jl l D B xX11_passGenerations sz0 post 3 (z_Jr post)) := s_lp (body := bX11_passGenerations_12) (s_iload dX11_passGenerations_12 (s_aload_n dX11_passGenerations_14 rfl (s_getI (f := 0) dX11_passGenerations_15 clX1 (by decide) rfl wd636 (s_icmp_ge (tgt := 51) dX11_passGenerations_18 (by decide) (s_dn tX11_passGenerations_51) (s_aload_n dX11_passGenerations_21 rfl (s_dup dX11_passGenerations_22 (s_getI (f := 2) dX11_passGenerations_23 clX1 (by decide) rfl wd698 (s_aload_n dX11_passGenerations_26 rfl (s_aload_n dX11_passGenerations_27 rfl (s_iload dX11_passGenerations_28 (s_callV (r := (RX11, TX11, 13)) dX11_passGenerations_30 mX11_paysOf meX11_paysOf wd664 wd665 rfl rfl reX11_paysOf rmX11_passGenerations (fitX11_passGenerations_30) wd666 (s_iadd dX11_passGenerations_33 (s_putI (f := 2) dX11_passGenerations_34 clX1 (by decide) rfl rfl rfl wd698 (s_aload_n dX11_passGenerations_37 rfl (s_aload_n dX11_passGenerations_38 rfl (s_iload dX11_passGenerations_39 (s_iload_n dX11_passGenerations_41 rfl (s_callV (r := (RX11, TX11, 13)) dX11_passGenerations_42 mX11_bearChildren meX11_bearChildren wd718 wd719 rfl rfl reX11_bearChildren rmX11_passGenerations (fitX11_passGenerations_42) wd720 (s_iinc dX11_passGenerations_45 (by decide) (s_goto (tgt := 12) dX11_passGenerations_48 (by decide) s_ag))))))))))))))))))))
set_option maxRecDepth 100000 in
theorem tX11_passGenerations_3 {l : Launch} {D : zD} {B sz0 : Nat} {post : Option Value → zS → Prop} : zSnd l D B xX11_passGenerations sz0 post 3 kX11_passGenerations_3 (z_Jr post) := s_lp (body := bX11_passGenerations_3) (s_iload dX11_passGenerations_3 (s_iload_n dX11_passGenerations_5 rfl (s_icmp_ge (tgt := 67) dX11_passGenerations_6 (by decide) (s_dn tX11_passGenerations_67) (s_iconst dX11_passGenerations_9 (by decide) (s_istore dX11_passGenerations_10 tX11_passGenerations_12)))))
set_option maxRecDepth 100000 in
theorem tX11_passGenerations_0 {l : Launch} {D : zD} {B sz0 : Nat} {post : Option Value → zS → Prop} : zSnd l D B xX11_passGenerations sz0 post 0 kX11_passGenerations_0 (z_Jr post) := (s_iconst dX11_passGenerations_0 (by decide) (s_istore dX11_passGenerations_1 tX11_passGenerations_3))
noncomputable def fX11_passGenerations : zF := z_fn 6 kX11_passGenerations_0
theorem mX11_passGenerations {l : Launch} {D : zD} {B : Nat} : z_MF l D B yX11_passGenerations xX11_passGenerations fX11_passGenerations := z_mf (by decide) rfl (fun h => by cases h) rfl (fun as σ r h => ⟨z_fn_len h, kX11_passGenerations_0, z_fn_run h, fun _ => tX11_passGenerations_0⟩)
/-! ===== RowChildren.times ===== -/
theorem dX11_times_0 : decode cX11_times 0 = .ok (.iload_n 1, 1) := by decide +kernel
theorem dX11_times_1 : decode cX11_times 1 = .ok (.invokestatic 216, 3) := by decide +kernel
theorem dX11_times_4 : decode cX11_times 4 = .ok (.ifCond .ne 5, 3) := by decide +kernel
theorem dX11_times_7 : decode cX11_times 7 = .ok (.iconst (-1), 1) := by decide +kernel
theorem dX11_times_8 : decode cX11_times 8 = .ok (.ireturn, 1) := by decide +kernel
theorem dX11_times_9 : decode cX11_times 9 = .ok (.iload_n 1, 1) := by decide +kernel
theorem dX11_times_10 : decode cX11_times 10 = .ok (.ifCond .le 30, 3) := by decide +kernel
theorem dX11_times_13 : decode cX11_times 13 = .ok (.aload_n 0, 1) := by decide +kernel
theorem dX11_times_14 : decode cX11_times 14 = .ok (.getfield 61, 3) := by decide +kernel
theorem dX11_times_17 : decode cX11_times 17 = .ok (.aload_n 0, 1) := by decide +kernel
theorem dX11_times_18 : decode cX11_times 18 = .ok (.getfield 33, 3) := by decide +kernel
theorem dX11_times_21 : decode cX11_times 21 = .ok (.invokevirtual 200, 3) := by decide +kernel
theorem dX11_times_24 : decode cX11_times 24 = .ok (.aload_n 0, 1) := by decide +kernel
theorem dX11_times_25 : decode cX11_times 25 = .ok (.aload_n 0, 1) := by decide +kernel
theorem dX11_times_26 : decode cX11_times 26 = .ok (.getfield 33, 3) := by decide +kernel
theorem dX11_times_29 : decode cX11_times 29 = .ok (.iload_n 1, 1) := by decide +kernel
theorem dX11_times_30 : decode cX11_times 30 = .ok (.aload_n 0, 1) := by decide +kernel
theorem dX11_times_31 : decode cX11_times 31 = .ok (.getfield 19, 3) := by decide +kernel
theorem dX11_times_34 : decode cX11_times 34 = .ok (.getfield 219, 3) := by decide +kernel
theorem dX11_times_37 : decode cX11_times 37 = .ok (.invokevirtual 222, 3) := by decide +kernel
theorem dX11_times_40 : decode cX11_times 40 = .ok (.aload_n 0, 1) := by decide +kernel
theorem dX11_times_41 : decode cX11_times 41 = .ok (.getfield 33, 3) := by decide +kernel
theorem dX11_times_44 : decode cX11_times 44 = .ok (.getfield 226, 3) := by decide +kernel
theorem dX11_times_47 : decode cX11_times 47 = .ok (.ireturn, 1) := by decide +kernel
def xX11_times : zX := (RX11, cX11_times, 2, (some .int), false, { frames := 23, cells := 0, slots := 0, locals := 653 }, 0, 0, 0, 0)
theorem rmX11_times : z_Rm xX11_times := by unfold z_Rm xX11_times; exact ⟨by decide, by decide⟩
theorem reX11_times : z_Re xX11_times := ⟨rfl, rfl⟩
theorem rlX11_times : 1 ≤ xX11_times.2.2.2.2.2.1.frames ∧ 21 ≤ xX11_times.2.2.2.2.2.1.locals := by unfold xX11_times; exact ⟨by decide, by decide⟩
theorem meX11_times : z_Me yX11_times xX11_times 1 := ⟨wd728, wd275, by decide, by decide, by decide +kernel⟩
theorem fitX11_times_1 : z_Fit xX11_isGenerations xX11_times := by unfold z_Fit; simp only [xX11_isGenerations, xX11_times]; exact ⟨by decide, by decide⟩
theorem fitX11_times_21 : z_Fit xX3_remember xX11_times := by unfold z_Fit; simp only [xX3_remember, xX11_times]; exact ⟨by decide, by decide⟩
theorem fitX11_times_37 : z_Fit xX11_passGenerations xX11_times := by unfold z_Fit; simp only [xX11_passGenerations, xX11_times]; exact ⟨by decide, by decide⟩
noncomputable def kX11_times_40 : zK zR := (q_aload 0 (q_getR 11 4 (q_getI 1 1 q_iret)))
noncomputable def kX11_times_0 : zK zR := (q_iload 1 (q_callS fX11_isGenerations 1 (q_if_ne (q_iload 1 (q_if_le kX11_times_40 (q_aload 0 (q_getR 11 9 (q_aload 0 (q_getR 11 4 (q_callV 3 fX3_remember 1 (q_aload 0 (q_aload 0 (q_getR 11 4 (q_iload 1 (q_aload 0 (q_getR 11 1 (q_getI 7 5 (q_callV 11 fX11_passGenerations 3 kX11_times_40))))))))))))))) (q_push (-1) q_iret))))
set_option maxRecDepth 100000 in
theorem tX11_times_40 {l : Launch} {D : zD} {B sz0 : Nat} {post : Option Value → zS → Prop} : zSnd l D B xX11_times sz0 post 40 kX11_times_40 (z_Jr post) := (s_aload_n dX11_times_40 rfl (s_getR (f := 4) dX11_times_41 clX11 (by decide) rfl wd576 (s_getI (f := 1) dX11_times_44 clX1 (by decide) rfl wd711 (s_iret dX11_times_47 rfl))))
set_option maxRecDepth 100000 in
theorem tX11_times_0 {l : Launch} {D : zD} {B sz0 : Nat} {post : Option Value → zS → Prop} : zSnd l D B xX11_times sz0 post 0 kX11_times_0 (z_Jr post) := (s_iload_n dX11_times_0 rfl (s_callS dX11_times_1 mX11_isGenerations meX11_isGenerations wd722 rfl reX11_isGenerations rmX11_times (fitX11_times_1) wd723 (s_if_ne (tgt := 9) dX11_times_4 (by decide) (s_iload_n dX11_times_9 rfl (s_if_le (tgt := 40) dX11_times_10 (by decide) tX11_times_40 (s_aload_n dX11_times_13 rfl (s_getR (f := 9) dX11_times_14 clX11 (by decide) rfl wd589 (s_aload_n dX11_times_17 rfl (s_getR (f := 4) dX11_times_18 clX11 (by decide) rfl wd576 (s_callV (r := (RX3, TX3, 5)) dX11_times_21 mX3_remember meX3_remember wd695 wd696 rfl rfl reX3_remember rmX11_times (fitX11_times_21) wd697 (s_aload_n dX11_times_24 rfl (s_aload_n dX11_times_25 rfl (s_getR (f := 4) dX11_times_26 clX11 (by decide) rfl wd576 (s_iload_n dX11_times_29 rfl (s_aload_n dX11_times_30 rfl (s_getR (f := 1) dX11_times_31 clX11 (by decide) rfl wd572 (s_getI (f := 5) dX11_times_34 clX7 (by decide) rfl wd724 (s_callV (r := (RX11, TX11, 13)) dX11_times_37 mX11_passGenerations meX11_passGenerations wd725 wd726 rfl rfl reX11_passGenerations rmX11_times (fitX11_times_37) wd727 tX11_times_40))))))))))))))) (s_iconst dX11_times_7 (by decide) (s_iret dX11_times_8 rfl)))))
noncomputable def fX11_times : zF := z_fn 2 kX11_times_0
theorem mX11_times {l : Launch} {D : zD} {B : Nat} : z_MF l D B yX11_times xX11_times fX11_times := z_mf (by decide) rfl (fun h => by cases h) rfl (fun as σ r h => ⟨z_fn_len h, kX11_times_0, z_fn_run h, fun _ => tX11_times_0⟩)
/-! ===== RowChildren.undo ===== -/
theorem dX11_undo_0 : decode cX11_undo 0 = .ok (.aload_n 0, 1) := by decide +kernel
theorem dX11_undo_1 : decode cX11_undo 1 = .ok (.getfield 61, 3) := by decide +kernel
theorem dX11_undo_4 : decode cX11_undo 4 = .ok (.aload_n 0, 1) := by decide +kernel
theorem dX11_undo_5 : decode cX11_undo 5 = .ok (.getfield 33, 3) := by decide +kernel
theorem dX11_undo_8 : decode cX11_undo 8 = .ok (.invokevirtual 229, 3) := by decide +kernel
theorem dX11_undo_11 : decode cX11_undo 11 = .ok (.ireturn, 1) := by decide +kernel
def xX11_undo : zX := (RX11, cX11_undo, 1, (some .boolean), false, { frames := 3, cells := 0, slots := 0, locals := 132 }, 0, 0, 0, 0)
theorem rmX11_undo : z_Rm xX11_undo := by unfold z_Rm xX11_undo; exact ⟨by decide, by decide⟩
theorem reX11_undo : z_Re xX11_undo := ⟨rfl, rfl⟩
theorem rlX11_undo : 1 ≤ xX11_undo.2.2.2.2.2.1.frames ∧ 21 ≤ xX11_undo.2.2.2.2.2.1.locals := by unfold xX11_undo; exact ⟨by decide, by decide⟩
theorem meX11_undo : z_Me yX11_undo xX11_undo 0 := ⟨wd732, wd275, by decide, by decide, by decide +kernel⟩
theorem fitX11_undo_8 : z_Fit xX3_recall xX11_undo := by unfold z_Fit; simp only [xX3_recall, xX11_undo]; exact ⟨by decide, by decide⟩
noncomputable def kX11_undo_0 : zK zR := (q_aload 0 (q_getR 11 9 (q_aload 0 (q_getR 11 4 (q_callV 3 fX3_recall 1 q_zret)))))
set_option maxRecDepth 100000 in
theorem tX11_undo_0 {l : Launch} {D : zD} {B sz0 : Nat} {post : Option Value → zS → Prop} : zSnd l D B xX11_undo sz0 post 0 kX11_undo_0 (z_Jr post) := (s_aload_n dX11_undo_0 rfl (s_getR (f := 9) dX11_undo_1 clX11 (by decide) rfl wd589 (s_aload_n dX11_undo_4 rfl (s_getR (f := 4) dX11_undo_5 clX11 (by decide) rfl wd576 (s_callV (r := (RX3, TX3, 5)) dX11_undo_8 mX3_recall meX3_recall wd729 wd730 rfl rfl reX3_recall rmX11_undo (fitX11_undo_8) wd731 (s_zret dX11_undo_11 rfl))))))
noncomputable def fX11_undo : zF := z_fn 1 kX11_undo_0
theorem mX11_undo {l : Launch} {D : zD} {B : Nat} : z_MF l D B yX11_undo xX11_undo fX11_undo := z_mf (by decide) rfl (fun h => by cases h) rfl (fun as σ r h => ⟨z_fn_len h, kX11_undo_0, z_fn_run h, fun _ => tX11_undo_0⟩)
/-! ===== RowChildren.isRowLength ===== -/
theorem dX11_isRowLength_0 : decode cX11_isRowLength 0 = .ok (.iload_n 0, 1) := by decide +kernel
theorem dX11_isRowLength_1 : decode cX11_isRowLength 1 = .ok (.iconst 1, 1) := by decide +kernel
theorem dX11_isRowLength_2 : decode cX11_isRowLength 2 = .ok (.if_icmp .lt 13, 3) := by decide +kernel
theorem dX11_isRowLength_5 : decode cX11_isRowLength 5 = .ok (.iload_n 0, 1) := by decide +kernel
theorem dX11_isRowLength_6 : decode cX11_isRowLength 6 = .ok (.bipush 8, 2) := by decide +kernel
theorem dX11_isRowLength_8 : decode cX11_isRowLength 8 = .ok (.if_icmp .gt 7, 3) := by decide +kernel
theorem dX11_isRowLength_11 : decode cX11_isRowLength 11 = .ok (.iconst 1, 1) := by decide +kernel
theorem dX11_isRowLength_12 : decode cX11_isRowLength 12 = .ok (.goto 4, 3) := by decide +kernel
theorem dX11_isRowLength_15 : decode cX11_isRowLength 15 = .ok (.iconst 0, 1) := by decide +kernel
theorem dX11_isRowLength_16 : decode cX11_isRowLength 16 = .ok (.ireturn, 1) := by decide +kernel
def xX11_isRowLength : zX := (RX11, cX11_isRowLength, 1, (some .boolean), false, { frames := 1, cells := 0, slots := 0, locals := 90 }, 0, 0, 0, 0)
theorem rmX11_isRowLength : z_Rm xX11_isRowLength := by unfold z_Rm xX11_isRowLength; exact ⟨by decide, by decide⟩
theorem reX11_isRowLength : z_Re xX11_isRowLength := ⟨rfl, rfl⟩
theorem rlX11_isRowLength : 1 ≤ xX11_isRowLength.2.2.2.2.2.1.frames ∧ 21 ≤ xX11_isRowLength.2.2.2.2.2.1.locals := by unfold xX11_isRowLength; exact ⟨by decide, by decide⟩
theorem meX11_isRowLength : z_Me yX11_isRowLength xX11_isRowLength 1 := ⟨wd733, wd275, by decide, by decide, by decide +kernel⟩
noncomputable def kX11_isRowLength_16 : zK zR := q_zret
noncomputable def kX11_isRowLength_15 : zK zR := (q_push 0 kX11_isRowLength_16)
noncomputable def kX11_isRowLength_0 : zK zR := (q_iload 0 (q_push 1 (q_icmp_lt kX11_isRowLength_15 (q_iload 0 (q_push 8 (q_icmp_gt kX11_isRowLength_15 (q_push 1 kX11_isRowLength_16)))))))
set_option maxRecDepth 100000 in
theorem tX11_isRowLength_16 {l : Launch} {D : zD} {B sz0 : Nat} {post : Option Value → zS → Prop} : zSnd l D B xX11_isRowLength sz0 post 16 kX11_isRowLength_16 (z_Jr post) := (s_zret dX11_isRowLength_16 rfl)
set_option maxRecDepth 100000 in
theorem tX11_isRowLength_15 {l : Launch} {D : zD} {B sz0 : Nat} {post : Option Value → zS → Prop} : zSnd l D B xX11_isRowLength sz0 post 15 kX11_isRowLength_15 (z_Jr post) := (s_iconst dX11_isRowLength_15 (by decide) tX11_isRowLength_16)
set_option maxRecDepth 100000 in
theorem tX11_isRowLength_0 {l : Launch} {D : zD} {B sz0 : Nat} {post : Option Value → zS → Prop} : zSnd l D B xX11_isRowLength sz0 post 0 kX11_isRowLength_0 (z_Jr post) := (s_iload_n dX11_isRowLength_0 rfl (s_iconst dX11_isRowLength_1 (by decide) (s_icmp_lt (tgt := 15) dX11_isRowLength_2 (by decide) tX11_isRowLength_15 (s_iload_n dX11_isRowLength_5 rfl (s_bipush dX11_isRowLength_6 (by decide) (s_icmp_gt (tgt := 15) dX11_isRowLength_8 (by decide) tX11_isRowLength_15 (s_iconst dX11_isRowLength_11 (by decide) (s_goto (tgt := 16) dX11_isRowLength_12 (by decide) tX11_isRowLength_16))))))))
noncomputable def fX11_isRowLength : zF := z_fn 1 kX11_isRowLength_0
theorem mX11_isRowLength {l : Launch} {D : zD} {B : Nat} : z_MF l D B yX11_isRowLength xX11_isRowLength fX11_isRowLength := z_mf (by decide) rfl (fun h => by cases h) rfl (fun as σ r h => ⟨z_fn_len h, kX11_isRowLength_0, z_fn_run h, fun _ => tX11_isRowLength_0⟩)
/-! ===== RowChildren.makes ===== -/
theorem dX11_makes_0 : decode cX11_makes 0 = .ok (.aload_n 0, 1) := by decide +kernel
theorem dX11_makes_1 : decode cX11_makes 1 = .ok (.iload_n 1, 1) := by decide +kernel
theorem dX11_makes_2 : decode cX11_makes 2 = .ok (.invokevirtual 120, 3) := by decide +kernel
theorem dX11_makes_5 : decode cX11_makes 5 = .ok (.ifCond .eq 17, 3) := by decide +kernel
theorem dX11_makes_8 : decode cX11_makes 8 = .ok (.iload_n 2, 1) := by decide +kernel
theorem dX11_makes_9 : decode cX11_makes 9 = .ok (.invokestatic 233, 3) := by decide +kernel
theorem dX11_makes_12 : decode cX11_makes 12 = .ok (.ifCond .eq 10, 3) := by decide +kernel
theorem dX11_makes_15 : decode cX11_makes 15 = .ok (.iload_n 3, 1) := by decide +kernel
theorem dX11_makes_16 : decode cX11_makes 16 = .ok (.invokestatic 184, 3) := by decide +kernel
theorem dX11_makes_19 : decode cX11_makes 19 = .ok (.ifCond .ne 5, 3) := by decide +kernel
theorem dX11_makes_22 : decode cX11_makes 22 = .ok (.iconst (-1), 1) := by decide +kernel
theorem dX11_makes_23 : decode cX11_makes 23 = .ok (.ireturn, 1) := by decide +kernel
theorem dX11_makes_24 : decode cX11_makes 24 = .ok (.aload_n 0, 1) := by decide +kernel
theorem dX11_makes_25 : decode cX11_makes 25 = .ok (.getfield 68, 3) := by decide +kernel
theorem dX11_makes_28 : decode cX11_makes 28 = .ok (.aload_n 0, 1) := by decide +kernel
theorem dX11_makes_29 : decode cX11_makes 29 = .ok (.getfield 19, 3) := by decide +kernel
theorem dX11_makes_32 : decode cX11_makes 32 = .ok (.getfield 124, 3) := by decide +kernel
theorem dX11_makes_35 : decode cX11_makes 35 = .ok (.iload_n 2, 1) := by decide +kernel
theorem dX11_makes_36 : decode cX11_makes 36 = .ok (.invokevirtual 236, 3) := by decide +kernel
theorem dX11_makes_39 : decode cX11_makes 39 = .ok (.iload_n 3, 1) := by decide +kernel
theorem dX11_makes_40 : decode cX11_makes 40 = .ok (.ifCond .ne 15, 3) := by decide +kernel
theorem dX11_makes_43 : decode cX11_makes 43 = .ok (.aload_n 0, 1) := by decide +kernel
theorem dX11_makes_44 : decode cX11_makes 44 = .ok (.getfield 68, 3) := by decide +kernel
theorem dX11_makes_47 : decode cX11_makes 47 = .ok (.iload_n 2, 1) := by decide +kernel
theorem dX11_makes_48 : decode cX11_makes 48 = .ok (.iload_n 1, 1) := by decide +kernel
theorem dX11_makes_49 : decode cX11_makes 49 = .ok (.invokevirtual 239, 3) := by decide +kernel
theorem dX11_makes_52 : decode cX11_makes 52 = .ok (.goto 12, 3) := by decide +kernel
theorem dX11_makes_55 : decode cX11_makes 55 = .ok (.aload_n 0, 1) := by decide +kernel
theorem dX11_makes_56 : decode cX11_makes 56 = .ok (.getfield 68, 3) := by decide +kernel
theorem dX11_makes_59 : decode cX11_makes 59 = .ok (.iload_n 2, 1) := by decide +kernel
theorem dX11_makes_60 : decode cX11_makes 60 = .ok (.iload_n 1, 1) := by decide +kernel
theorem dX11_makes_61 : decode cX11_makes 61 = .ok (.invokevirtual 242, 3) := by decide +kernel
theorem dX11_makes_64 : decode cX11_makes 64 = .ok (.ireturn, 1) := by decide +kernel
def xX11_makes : zX := (RX11, cX11_makes, 4, (some .int), false, { frames := 16, cells := 0, slots := 0, locals := 487 }, 0, 0, 0, 0)
theorem rmX11_makes : z_Rm xX11_makes := by unfold z_Rm xX11_makes; exact ⟨by decide, by decide⟩
theorem reX11_makes : z_Re xX11_makes := ⟨rfl, rfl⟩
theorem rlX11_makes : 1 ≤ xX11_makes.2.2.2.2.2.1.frames ∧ 21 ≤ xX11_makes.2.2.2.2.2.1.locals := by unfold xX11_makes; exact ⟨by decide, by decide⟩
theorem meX11_makes : z_Me yX11_makes xX11_makes 3 := ⟨wd745, wd275, by decide, by decide, by decide +kernel⟩
theorem fitX11_makes_2 : z_Fit xX11_isColour xX11_makes := by unfold z_Fit; simp only [xX11_isColour, xX11_makes]; exact ⟨by decide, by decide⟩
theorem fitX11_makes_9 : z_Fit xX11_isRowLength xX11_makes := by unfold z_Fit; simp only [xX11_isRowLength, xX11_makes]; exact ⟨by decide, by decide⟩
theorem fitX11_makes_16 : z_Fit xX11_isOneOfTwo xX11_makes := by unfold z_Fit; simp only [xX11_isOneOfTwo, xX11_makes]; exact ⟨by decide, by decide⟩
theorem fitX11_makes_36 : z_Fit xX0_take xX11_makes := by unfold z_Fit; simp only [xX0_take, xX11_makes]; exact ⟨by decide, by decide⟩
theorem fitX11_makes_61 : z_Fit xX0_leastOf xX11_makes := by unfold z_Fit; simp only [xX0_leastOf, xX11_makes]; exact ⟨by decide, by decide⟩
theorem fitX11_makes_49 : z_Fit xX0_madeOf xX11_makes := by unfold z_Fit; simp only [xX0_madeOf, xX11_makes]; exact ⟨by decide, by decide⟩
noncomputable def kX11_makes_22 : zK zR := (q_push (-1) q_iret)
noncomputable def kX11_makes_64 : zK zR := q_iret
noncomputable def kX11_makes_0 : zK zR := (q_aload 0 (q_iload 1 (q_callV 11 fX11_isColour 1 (q_if_eq kX11_makes_22 (q_iload 2 (q_callS fX11_isRowLength 1 (q_if_eq kX11_makes_22 (q_iload 3 (q_callS fX11_isOneOfTwo 1 (q_if_ne (q_aload 0 (q_getR 11 10 (q_aload 0 (q_getR 11 1 (q_getR 7 1 (q_iload 2 (q_callV 0 fX0_take 2 (q_iload 3 (q_if_ne (q_aload 0 (q_getR 11 10 (q_iload 2 (q_iload 1 (q_callV 0 fX0_leastOf 2 kX11_makes_64))))) (q_aload 0 (q_getR 11 10 (q_iload 2 (q_iload 1 (q_callV 0 fX0_madeOf 2 kX11_makes_64)))))))))))))) kX11_makes_22))))))))))
set_option maxRecDepth 100000 in
theorem tX11_makes_22 {l : Launch} {D : zD} {B sz0 : Nat} {post : Option Value → zS → Prop} : zSnd l D B xX11_makes sz0 post 22 kX11_makes_22 (z_Jr post) := (s_iconst dX11_makes_22 (by decide) (s_iret dX11_makes_23 rfl))
set_option maxRecDepth 100000 in
theorem tX11_makes_64 {l : Launch} {D : zD} {B sz0 : Nat} {post : Option Value → zS → Prop} : zSnd l D B xX11_makes sz0 post 64 kX11_makes_64 (z_Jr post) := (s_iret dX11_makes_64 rfl)
set_option maxRecDepth 100000 in
theorem tX11_makes_0 {l : Launch} {D : zD} {B sz0 : Nat} {post : Option Value → zS → Prop} : zSnd l D B xX11_makes sz0 post 0 kX11_makes_0 (z_Jr post) := (s_aload_n dX11_makes_0 rfl (s_iload_n dX11_makes_1 rfl (s_callV (r := (RX11, TX11, 13)) dX11_makes_2 mX11_isColour meX11_isColour wd631 wd632 rfl rfl reX11_isColour rmX11_makes (fitX11_makes_2) wd633 (s_if_eq (tgt := 22) dX11_makes_5 (by decide) tX11_makes_22 (s_iload_n dX11_makes_8 rfl (s_callS dX11_makes_9 mX11_isRowLength meX11_isRowLength wd734 rfl reX11_isRowLength rmX11_makes (fitX11_makes_9) wd735 (s_if_eq (tgt := 22) dX11_makes_12 (by decide) tX11_makes_22 (s_iload_n dX11_makes_15 rfl (s_callS dX11_makes_16 mX11_isOneOfTwo meX11_isOneOfTwo wd681 rfl reX11_isOneOfTwo rmX11_makes (fitX11_makes_16) wd682 (s_if_ne (tgt := 24) dX11_makes_19 (by decide) (s_aload_n dX11_makes_24 rfl (s_getR (f := 10) dX11_makes_25 clX11 (by decide) rfl wd593 (s_aload_n dX11_makes_28 rfl (s_getR (f := 1) dX11_makes_29 clX11 (by decide) rfl wd572 (s_getR (f := 1) dX11_makes_32 clX7 (by decide) rfl wd628 (s_iload_n dX11_makes_35 rfl (s_callV (r := (RX0, TX0, 5)) dX11_makes_36 mX0_take meX0_take wd736 wd737 rfl rfl reX0_take rmX11_makes (fitX11_makes_36) wd738 (s_iload_n dX11_makes_39 rfl (s_if_ne (tgt := 55) dX11_makes_40 (by decide) (s_aload_n dX11_makes_55 rfl (s_getR (f := 10) dX11_makes_56 clX11 (by decide) rfl wd593 (s_iload_n dX11_makes_59 rfl (s_iload_n dX11_makes_60 rfl (s_callV (r := (RX0, TX0, 5)) dX11_makes_61 mX0_leastOf meX0_leastOf wd739 wd740 rfl rfl reX0_leastOf rmX11_makes (fitX11_makes_61) wd741 tX11_makes_64))))) (s_aload_n dX11_makes_43 rfl (s_getR (f := 10) dX11_makes_44 clX11 (by decide) rfl wd593 (s_iload_n dX11_makes_47 rfl (s_iload_n dX11_makes_48 rfl (s_callV (r := (RX0, TX0, 5)) dX11_makes_49 mX0_madeOf meX0_madeOf wd742 wd743 rfl rfl reX0_madeOf rmX11_makes (fitX11_makes_49) wd744 (s_goto (tgt := 64) dX11_makes_52 (by decide) tX11_makes_64))))))))))))))) tX11_makes_22))))))))))
noncomputable def fX11_makes : zF := z_fn 4 kX11_makes_0
theorem mX11_makes {l : Launch} {D : zD} {B : Nat} : z_MF l D B yX11_makes xX11_makes fX11_makes := z_mf (by decide) rfl (fun h => by cases h) rfl (fun as σ r h => ⟨z_fn_len h, kX11_makes_0, z_fn_run h, fun _ => tX11_makes_0⟩)
/-! ===== RowChildren.setPrices ===== -/
theorem dX11_setPrices_0 : decode cX11_setPrices 0 = .ok (.iconst 0, 1) := by decide +kernel
theorem dX11_setPrices_1 : decode cX11_setPrices 1 = .ok (.istore_n 3, 1) := by decide +kernel
theorem dX11_setPrices_2 : decode cX11_setPrices 2 = .ok (.iload_n 3, 1) := by decide +kernel
theorem dX11_setPrices_3 : decode cX11_setPrices 3 = .ok (.aload_n 0, 1) := by decide +kernel
theorem dX11_setPrices_4 : decode cX11_setPrices 4 = .ok (.getfield 33, 3) := by decide +kernel
theorem dX11_setPrices_7 : decode cX11_setPrices 7 = .ok (.iload_n 1, 1) := by decide +kernel
theorem dX11_setPrices_8 : decode cX11_setPrices 8 = .ok (.invokevirtual 141, 3) := by decide +kernel
theorem dX11_setPrices_11 : decode cX11_setPrices 11 = .ok (.if_icmp .ge 81, 3) := by decide +kernel
theorem dX11_setPrices_14 : decode cX11_setPrices 14 = .ok (.iconst 0, 1) := by decide +kernel
theorem dX11_setPrices_15 : decode cX11_setPrices 15 = .ok (.istore 4, 2) := by decide +kernel
theorem dX11_setPrices_17 : decode cX11_setPrices 17 = .ok (.iload 4, 2) := by decide +kernel
theorem dX11_setPrices_19 : decode cX11_setPrices 19 = .ok (.aload_n 0, 1) := by decide +kernel
theorem dX11_setPrices_20 : decode cX11_setPrices 20 = .ok (.getfield 19, 3) := by decide +kernel
theorem dX11_setPrices_23 : decode cX11_setPrices 23 = .ok (.getfield 124, 3) := by decide +kernel
theorem dX11_setPrices_26 : decode cX11_setPrices 26 = .ok (.getfield 145, 3) := by decide +kernel
theorem dX11_setPrices_29 : decode cX11_setPrices 29 = .ok (.if_icmp .ge 57, 3) := by decide +kernel
theorem dX11_setPrices_32 : decode cX11_setPrices 32 = .ok (.iload_n 2, 1) := by decide +kernel
theorem dX11_setPrices_33 : decode cX11_setPrices 33 = .ok (.ifCond .eq 14, 3) := by decide +kernel
theorem dX11_setPrices_36 : decode cX11_setPrices 36 = .ok (.aload_n 0, 1) := by decide +kernel
theorem dX11_setPrices_37 : decode cX11_setPrices 37 = .ok (.iload_n 1, 1) := by decide +kernel
theorem dX11_setPrices_38 : decode cX11_setPrices 38 = .ok (.iload_n 3, 1) := by decide +kernel
theorem dX11_setPrices_39 : decode cX11_setPrices 39 = .ok (.iload 4, 2) := by decide +kernel
theorem dX11_setPrices_41 : decode cX11_setPrices 41 = .ok (.invokevirtual 197, 3) := by decide +kernel
theorem dX11_setPrices_44 : decode cX11_setPrices 44 = .ok (.goto 4, 3) := by decide +kernel
theorem dX11_setPrices_47 : decode cX11_setPrices 47 = .ok (.iconst 1, 1) := by decide +kernel
theorem dX11_setPrices_48 : decode cX11_setPrices 48 = .ok (.istore 5, 2) := by decide +kernel
theorem dX11_setPrices_50 : decode cX11_setPrices 50 = .ok (.aload_n 0, 1) := by decide +kernel
theorem dX11_setPrices_51 : decode cX11_setPrices 51 = .ok (.getfield 75, 3) := by decide +kernel
theorem dX11_setPrices_54 : decode cX11_setPrices 54 = .ok (.iload_n 3, 1) := by decide +kernel
theorem dX11_setPrices_55 : decode cX11_setPrices 55 = .ok (.iload 4, 2) := by decide +kernel
theorem dX11_setPrices_57 : decode cX11_setPrices 57 = .ok (.aload_n 0, 1) := by decide +kernel
theorem dX11_setPrices_58 : decode cX11_setPrices 58 = .ok (.getfield 33, 3) := by decide +kernel
theorem dX11_setPrices_61 : decode cX11_setPrices 61 = .ok (.iload_n 1, 1) := by decide +kernel
theorem dX11_setPrices_62 : decode cX11_setPrices 62 = .ok (.iload_n 3, 1) := by decide +kernel
theorem dX11_setPrices_63 : decode cX11_setPrices 63 = .ok (.invokevirtual 318, 3) := by decide +kernel
theorem dX11_setPrices_66 : decode cX11_setPrices 66 = .ok (.iload 4, 2) := by decide +kernel
theorem dX11_setPrices_68 : decode cX11_setPrices 68 = .ok (.if_icmp .ne 7, 3) := by decide +kernel
theorem dX11_setPrices_71 : decode cX11_setPrices 71 = .ok (.iconst 0, 1) := by decide +kernel
theorem dX11_setPrices_72 : decode cX11_setPrices 72 = .ok (.goto 5, 3) := by decide +kernel
theorem dX11_setPrices_75 : decode cX11_setPrices 75 = .ok (.iload 5, 2) := by decide +kernel
theorem dX11_setPrices_77 : decode cX11_setPrices 77 = .ok (.invokevirtual 403, 3) := by decide +kernel
theorem dX11_setPrices_80 : decode cX11_setPrices 80 = .ok (.iinc 4 1, 3) := by decide +kernel
theorem dX11_setPrices_83 : decode cX11_setPrices 83 = .ok (.goto (-66), 3) := by decide +kernel
theorem dX11_setPrices_86 : decode cX11_setPrices 86 = .ok (.iinc 3 1, 3) := by decide +kernel
theorem dX11_setPrices_89 : decode cX11_setPrices 89 = .ok (.goto (-87), 3) := by decide +kernel
theorem dX11_setPrices_92 : decode cX11_setPrices 92 = .ok (.return_, 1) := by decide +kernel
def xX11_setPrices : zX := (RX11, cX11_setPrices, 6, none, false, { frames := 22, cells := 0, slots := 0, locals := 621 }, 0, 0, 0, 0)
theorem rmX11_setPrices : z_Rm xX11_setPrices := by unfold z_Rm xX11_setPrices; exact ⟨by decide, by decide⟩
theorem reX11_setPrices : z_Re xX11_setPrices := ⟨rfl, rfl⟩
theorem rlX11_setPrices : 1 ≤ xX11_setPrices.2.2.2.2.2.1.frames ∧ 21 ≤ xX11_setPrices.2.2.2.2.2.1.locals := by unfold xX11_setPrices; exact ⟨by decide, by decide⟩
theorem meX11_setPrices : z_Me yX11_setPrices xX11_setPrices 2 := ⟨wd749, wd275, by decide, by decide, by decide +kernel⟩
theorem fitX11_setPrices_8 : z_Fit xX1_lengthOf xX11_setPrices := by unfold z_Fit; simp only [xX1_lengthOf, xX11_setPrices]; exact ⟨by decide, by decide⟩
theorem fitX11_setPrices_63 : z_Fit xX1_colourAt xX11_setPrices := by unfold z_Fit; simp only [xX1_colourAt, xX11_setPrices]; exact ⟨by decide, by decide⟩
theorem fitX11_setPrices_77 : z_Fit xX4_setPrice xX11_setPrices := by unfold z_Fit; simp only [xX4_setPrice, xX11_setPrices]; exact ⟨by decide, by decide⟩
theorem fitX11_setPrices_41 : z_Fit xX11_costsOf xX11_setPrices := by unfold z_Fit; simp only [xX11_costsOf, xX11_setPrices]; exact ⟨by decide, by decide⟩
noncomputable def kX11_setPrices_92 : zK zR := q_vret
noncomputable def kX11_setPrices_86 : zK ((zL × zS) ⊕ zR) := (q_iinc 3 1 q_ag)
noncomputable def kX11_setPrices_77 : zK ((zL × zS) ⊕ ((zL × zS) ⊕ zR)) := (q_callV 4 fX4_setPrice 3 (q_iinc 4 1 q_ag))
noncomputable def kX11_setPrices_48 : zK ((zL × zS) ⊕ ((zL × zS) ⊕ zR)) := (q_istore 5 (q_aload 0 (q_getR 11 11 (q_iload 3 (q_iload 4 (q_aload 0 (q_getR 11 4 (q_iload 1 (q_iload 3 (q_callV 1 fX1_colourAt 2 (q_iload 4 (q_icmp_ne (q_iload 5 kX11_setPrices_77) (q_push 0 kX11_setPrices_77)))))))))))))
noncomputable def bX11_setPrices_17 : zK ((zL × zS) ⊕ ((zL × zS) ⊕ zR)) := (q_iload 4 (q_aload 0 (q_getR 11 1 (q_getR 7 1 (q_getI 5 0 (q_icmp_ge (q_dn kX11_setPrices_86) (q_iload 2 (q_if_eq (q_push 1 kX11_setPrices_48) (q_aload 0 (q_iload 1 (q_iload 3 (q_iload 4 (q_callV 11 fX11_costsOf 3 kX11_setPrices_48)))))))))))))
noncomputable def kX11_setPrices_17 : zK ((zL × zS) ⊕ zR) := q_lp (bX11_setPrices_17)
noncomputable def bX11_setPrices_2 : zK ((zL × zS) ⊕ zR) := (q_iload 3 (q_aload 0 (q_getR 11 4 (q_iload 1 (q_callV 1 fX1_lengthOf 1 (q_icmp_ge (q_dn kX11_setPrices_92) (q_push 0 (q_istore 4 kX11_setPrices_17))))))))
noncomputable def kX11_setPrices_2 : zK zR := q_lp (bX11_setPrices_2)
noncomputable def kX11_setPrices_0 : zK zR := (q_push 0 (q_istore 3 kX11_setPrices_2))
set_option maxRecDepth 100000 in
theorem tX11_setPrices_92 {l : Launch} {D : zD} {B sz0 : Nat} {post : Option Value → zS → Prop} : zSnd l D B xX11_setPrices sz0 post 92 kX11_setPrices_92 (z_Jr post) := (s_vret dX11_setPrices_92 rfl)
set_option maxRecDepth 100000 in
theorem tX11_setPrices_86 {l : Launch} {D : zD} {B sz0 : Nat} {post : Option Value → zS → Prop} : zSnd l D B xX11_setPrices sz0 post 86 kX11_setPrices_86 (z_Jl l D B xX11_setPrices sz0 post 2 (z_Jr post)) := (s_iinc dX11_setPrices_86 (by decide) (s_goto (tgt := 2) dX11_setPrices_89 (by decide) s_ag))
set_option maxRecDepth 100000 in
theorem tX11_setPrices_77 {l : Launch} {D : zD} {B sz0 : Nat} {post : Option Value → zS → Prop} : zSnd l D B xX11_setPrices sz0 post 77 kX11_setPrices_77 (z_Jl l D B xX11_setPrices sz0 post 17 (z_Jl l D B xX11_setPrices sz0 post 2 (z_Jr post))) := (s_callV (r := (RX4, TX4, 7)) dX11_setPrices_77 mX4_setPrice meX4_setPrice wd746 wd747 rfl rfl reX4_setPrice rmX11_setPrices (fitX11_setPrices_77) wd748 (s_iinc dX11_setPrices_80 (by decide) (s_goto (tgt := 17) dX11_setPrices_83 (by decide) s_ag)))
set_option maxRecDepth 100000 in
theorem tX11_setPrices_48 {l : Launch} {D : zD} {B sz0 : Nat} {post : Option Value → zS → Prop} : zSnd l D B xX11_setPrices sz0 post 48 kX11_setPrices_48 (z_Jl l D B xX11_setPrices sz0 post 17 (z_Jl l D B xX11_setPrices sz0 post 2 (z_Jr post))) := (s_istore dX11_setPrices_48 (s_aload_n dX11_setPrices_50 rfl (s_getR (f := 11) dX11_setPrices_51 clX11 (by decide) rfl wd597 (s_iload_n dX11_setPrices_54 rfl (s_iload dX11_setPrices_55 (s_aload_n dX11_setPrices_57 rfl (s_getR (f := 4) dX11_setPrices_58 clX11 (by decide) rfl wd576 (s_iload_n dX11_setPrices_61 rfl (s_iload_n dX11_setPrices_62 rfl (s_callV (r := (RX1, TX1, 5)) dX11_setPrices_63 mX1_colourAt meX1_colourAt wd75 wd76 rfl rfl reX1_colourAt rmX11_setPrices (fitX11_setPrices_63) wd638 (s_iload dX11_setPrices_66 (s_icmp_ne (tgt := 75) dX11_setPrices_68 (by decide) (s_iload dX11_setPrices_75 tX11_setPrices_77) (s_iconst dX11_setPrices_71 (by decide) (s_goto (tgt := 77) dX11_setPrices_72 (by decide) tX11_setPrices_77))))))))))))))
set_option maxRecDepth 100000 in
theorem tX11_setPrices_17 {l : Launch} {D : zD} {B sz0 : Nat} {post : Option Value → zS → Prop} : zSnd l D B xX11_setPrices sz0 post 17 kX11_setPrices_17 (z_Jl l D B xX11_setPrices sz0 post 2 (z_Jr post)) := s_lp (body := bX11_setPrices_17) (s_iload dX11_setPrices_17 (s_aload_n dX11_setPrices_19 rfl (s_getR (f := 1) dX11_setPrices_20 clX11 (by decide) rfl wd572 (s_getR (f := 1) dX11_setPrices_23 clX7 (by decide) rfl wd628 (s_getI (f := 0) dX11_setPrices_26 clX5 (by decide) rfl wd629 (s_icmp_ge (tgt := 86) dX11_setPrices_29 (by decide) (s_dn tX11_setPrices_86) (s_iload_n dX11_setPrices_32 rfl (s_if_eq (tgt := 47) dX11_setPrices_33 (by decide) (s_iconst dX11_setPrices_47 (by decide) tX11_setPrices_48) (s_aload_n dX11_setPrices_36 rfl (s_iload_n dX11_setPrices_37 rfl (s_iload_n dX11_setPrices_38 rfl (s_iload dX11_setPrices_39 (s_callV (r := (RX11, TX11, 13)) dX11_setPrices_41 mX11_costsOf meX11_costsOf wd691 wd692 rfl rfl reX11_costsOf rmX11_setPrices (fitX11_setPrices_41) wd693 (s_goto (tgt := 48) dX11_setPrices_44 (by decide) tX11_setPrices_48))))))))))))))
set_option maxRecDepth 100000 in
theorem tX11_setPrices_2 {l : Launch} {D : zD} {B sz0 : Nat} {post : Option Value → zS → Prop} : zSnd l D B xX11_setPrices sz0 post 2 kX11_setPrices_2 (z_Jr post) := s_lp (body := bX11_setPrices_2) (s_iload_n dX11_setPrices_2 rfl (s_aload_n dX11_setPrices_3 rfl (s_getR (f := 4) dX11_setPrices_4 clX11 (by decide) rfl wd576 (s_iload_n dX11_setPrices_7 rfl (s_callV (r := (RX1, TX1, 5)) dX11_setPrices_8 mX1_lengthOf meX1_lengthOf wd65 wd66 rfl rfl reX1_lengthOf rmX11_setPrices (fitX11_setPrices_8) wd661 (s_icmp_ge (tgt := 92) dX11_setPrices_11 (by decide) (s_dn tX11_setPrices_92) (s_iconst dX11_setPrices_14 (by decide) (s_istore dX11_setPrices_15 tX11_setPrices_17))))))))
set_option maxRecDepth 100000 in
theorem tX11_setPrices_0 {l : Launch} {D : zD} {B sz0 : Nat} {post : Option Value → zS → Prop} : zSnd l D B xX11_setPrices sz0 post 0 kX11_setPrices_0 (z_Jr post) := (s_iconst dX11_setPrices_0 (by decide) (s_istore_n dX11_setPrices_1 rfl tX11_setPrices_2))
noncomputable def fX11_setPrices : zF := z_fn 6 kX11_setPrices_0
theorem mX11_setPrices {l : Launch} {D : zD} {B : Nat} : z_MF l D B yX11_setPrices xX11_setPrices fX11_setPrices := z_mf (by decide) rfl (fun h => by cases h) rfl (fun as σ r h => ⟨z_fn_len h, kX11_setPrices_0, z_fn_run h, fun _ => tX11_setPrices_0⟩)
/-! ===== RowChildren.repaint ===== -/
theorem dX11_repaint_0 : decode cX11_repaint 0 = .ok (.aload_n 0, 1) := by decide +kernel
theorem dX11_repaint_1 : decode cX11_repaint 1 = .ok (.iload_n 1, 1) := by decide +kernel
theorem dX11_repaint_2 : decode cX11_repaint 2 = .ok (.invokevirtual 134, 3) := by decide +kernel
theorem dX11_repaint_5 : decode cX11_repaint 5 = .ok (.ifCond .eq 18, 3) := by decide +kernel
theorem dX11_repaint_8 : decode cX11_repaint 8 = .ok (.aload_n 0, 1) := by decide +kernel
theorem dX11_repaint_9 : decode cX11_repaint 9 = .ok (.iload_n 2, 1) := by decide +kernel
theorem dX11_repaint_10 : decode cX11_repaint 10 = .ok (.invokevirtual 120, 3) := by decide +kernel
theorem dX11_repaint_13 : decode cX11_repaint 13 = .ok (.ifCond .eq 10, 3) := by decide +kernel
theorem dX11_repaint_16 : decode cX11_repaint 16 = .ok (.iload_n 3, 1) := by decide +kernel
theorem dX11_repaint_17 : decode cX11_repaint 17 = .ok (.invokestatic 184, 3) := by decide +kernel
theorem dX11_repaint_20 : decode cX11_repaint 20 = .ok (.ifCond .ne 5, 3) := by decide +kernel
theorem dX11_repaint_23 : decode cX11_repaint 23 = .ok (.iconst (-1), 1) := by decide +kernel
theorem dX11_repaint_24 : decode cX11_repaint 24 = .ok (.ireturn, 1) := by decide +kernel
theorem dX11_repaint_25 : decode cX11_repaint 25 = .ok (.aload_n 0, 1) := by decide +kernel
theorem dX11_repaint_26 : decode cX11_repaint 26 = .ok (.iload_n 1, 1) := by decide +kernel
theorem dX11_repaint_27 : decode cX11_repaint 27 = .ok (.iconst 1, 1) := by decide +kernel
theorem dX11_repaint_28 : decode cX11_repaint 28 = .ok (.invokevirtual 245, 3) := by decide +kernel
theorem dX11_repaint_31 : decode cX11_repaint 31 = .ok (.aload_n 0, 1) := by decide +kernel
theorem dX11_repaint_32 : decode cX11_repaint 32 = .ok (.getfield 75, 3) := by decide +kernel
theorem dX11_repaint_35 : decode cX11_repaint 35 = .ok (.aload_n 0, 1) := by decide +kernel
theorem dX11_repaint_36 : decode cX11_repaint 36 = .ok (.getfield 19, 3) := by decide +kernel
theorem dX11_repaint_39 : decode cX11_repaint 39 = .ok (.getfield 124, 3) := by decide +kernel
theorem dX11_repaint_42 : decode cX11_repaint 42 = .ok (.aload_n 0, 1) := by decide +kernel
theorem dX11_repaint_43 : decode cX11_repaint 43 = .ok (.getfield 33, 3) := by decide +kernel
theorem dX11_repaint_46 : decode cX11_repaint 46 = .ok (.iload_n 1, 1) := by decide +kernel
theorem dX11_repaint_47 : decode cX11_repaint 47 = .ok (.invokevirtual 141, 3) := by decide +kernel
theorem dX11_repaint_50 : decode cX11_repaint 50 = .ok (.iload_n 2, 1) := by decide +kernel
theorem dX11_repaint_51 : decode cX11_repaint 51 = .ok (.invokevirtual 249, 3) := by decide +kernel
theorem dX11_repaint_54 : decode cX11_repaint 54 = .ok (.aload_n 0, 1) := by decide +kernel
theorem dX11_repaint_55 : decode cX11_repaint 55 = .ok (.getfield 75, 3) := by decide +kernel
theorem dX11_repaint_58 : decode cX11_repaint 58 = .ok (.iload_n 3, 1) := by decide +kernel
theorem dX11_repaint_59 : decode cX11_repaint 59 = .ok (.invokevirtual 253, 3) := by decide +kernel
theorem dX11_repaint_62 : decode cX11_repaint 62 = .ok (.ireturn, 1) := by decide +kernel
def xX11_repaint : zX := (RX11, cX11_repaint, 4, (some .int), false, { frames := 23, cells := 0, slots := 0, locals := 646 }, 0, 0, 0, 0)
theorem rmX11_repaint : z_Rm xX11_repaint := by unfold z_Rm xX11_repaint; exact ⟨by decide, by decide⟩
theorem reX11_repaint : z_Re xX11_repaint := ⟨rfl, rfl⟩
theorem rlX11_repaint : 1 ≤ xX11_repaint.2.2.2.2.2.1.frames ∧ 21 ≤ xX11_repaint.2.2.2.2.2.1.locals := by unfold xX11_repaint; exact ⟨by decide, by decide⟩
theorem meX11_repaint : z_Me yX11_repaint xX11_repaint 3 := ⟨wd759, wd275, by decide, by decide, by decide +kernel⟩
theorem fitX11_repaint_2 : z_Fit xX11_isRow xX11_repaint := by unfold z_Fit; simp only [xX11_isRow, xX11_repaint]; exact ⟨by decide, by decide⟩
theorem fitX11_repaint_10 : z_Fit xX11_isColour xX11_repaint := by unfold z_Fit; simp only [xX11_isColour, xX11_repaint]; exact ⟨by decide, by decide⟩
theorem fitX11_repaint_17 : z_Fit xX11_isOneOfTwo xX11_repaint := by unfold z_Fit; simp only [xX11_isOneOfTwo, xX11_repaint]; exact ⟨by decide, by decide⟩
theorem fitX11_repaint_28 : z_Fit xX11_setPrices xX11_repaint := by unfold z_Fit; simp only [xX11_setPrices, xX11_repaint]; exact ⟨by decide, by decide⟩
theorem fitX11_repaint_47 : z_Fit xX1_lengthOf xX11_repaint := by unfold z_Fit; simp only [xX1_lengthOf, xX11_repaint]; exact ⟨by decide, by decide⟩
theorem fitX11_repaint_51 : z_Fit xX4_towardsLast xX11_repaint := by unfold z_Fit; simp only [xX4_towardsLast, xX11_repaint]; exact ⟨by decide, by decide⟩
theorem fitX11_repaint_59 : z_Fit xX4_answer xX11_repaint := by unfold z_Fit; simp only [xX4_answer, xX11_repaint]; exact ⟨by decide, by decide⟩
noncomputable def kX11_repaint_23 : zK zR := (q_push (-1) q_iret)
noncomputable def kX11_repaint_0 : zK zR := (q_aload 0 (q_iload 1 (q_callV 11 fX11_isRow 1 (q_if_eq kX11_repaint_23 (q_aload 0 (q_iload 2 (q_callV 11 fX11_isColour 1 (q_if_eq kX11_repaint_23 (q_iload 3 (q_callS fX11_isOneOfTwo 1 (q_if_ne (q_aload 0 (q_iload 1 (q_push 1 (q_callV 11 fX11_setPrices 2 (q_aload 0 (q_getR 11 11 (q_aload 0 (q_getR 11 1 (q_getR 7 1 (q_aload 0 (q_getR 11 4 (q_iload 1 (q_callV 1 fX1_lengthOf 1 (q_iload 2 (q_callV 4 fX4_towardsLast 3 (q_aload 0 (q_getR 11 11 (q_iload 3 (q_callV 4 fX4_answer 1 q_iret))))))))))))))))))) kX11_repaint_23)))))))))))
set_option maxRecDepth 100000 in
theorem tX11_repaint_23 {l : Launch} {D : zD} {B sz0 : Nat} {post : Option Value → zS → Prop} : zSnd l D B xX11_repaint sz0 post 23 kX11_repaint_23 (z_Jr post) := (s_iconst dX11_repaint_23 (by decide) (s_iret dX11_repaint_24 rfl))
set_option maxRecDepth 100000 in
theorem tX11_repaint_0 {l : Launch} {D : zD} {B sz0 : Nat} {post : Option Value → zS → Prop} : zSnd l D B xX11_repaint sz0 post 0 kX11_repaint_0 (z_Jr post) := (s_aload_n dX11_repaint_0 rfl (s_iload_n dX11_repaint_1 rfl (s_callV (r := (RX11, TX11, 13)) dX11_repaint_2 mX11_isRow meX11_isRow wd655 wd656 rfl rfl reX11_isRow rmX11_repaint (fitX11_repaint_2) wd657 (s_if_eq (tgt := 23) dX11_repaint_5 (by decide) tX11_repaint_23 (s_aload_n dX11_repaint_8 rfl (s_iload_n dX11_repaint_9 rfl (s_callV (r := (RX11, TX11, 13)) dX11_repaint_10 mX11_isColour meX11_isColour wd631 wd632 rfl rfl reX11_isColour rmX11_repaint (fitX11_repaint_10) wd633 (s_if_eq (tgt := 23) dX11_repaint_13 (by decide) tX11_repaint_23 (s_iload_n dX11_repaint_16 rfl (s_callS dX11_repaint_17 mX11_isOneOfTwo meX11_isOneOfTwo wd681 rfl reX11_isOneOfTwo rmX11_repaint (fitX11_repaint_17) wd682 (s_if_ne (tgt := 25) dX11_repaint_20 (by decide) (s_aload_n dX11_repaint_25 rfl (s_iload_n dX11_repaint_26 rfl (s_iconst dX11_repaint_27 (by decide) (s_callV (r := (RX11, TX11, 13)) dX11_repaint_28 mX11_setPrices meX11_setPrices wd750 wd751 rfl rfl reX11_setPrices rmX11_repaint (fitX11_repaint_28) wd752 (s_aload_n dX11_repaint_31 rfl (s_getR (f := 11) dX11_repaint_32 clX11 (by decide) rfl wd597 (s_aload_n dX11_repaint_35 rfl (s_getR (f := 1) dX11_repaint_36 clX11 (by decide) rfl wd572 (s_getR (f := 1) dX11_repaint_39 clX7 (by decide) rfl wd628 (s_aload_n dX11_repaint_42 rfl (s_getR (f := 4) dX11_repaint_43 clX11 (by decide) rfl wd576 (s_iload_n dX11_repaint_46 rfl (s_callV (r := (RX1, TX1, 5)) dX11_repaint_47 mX1_lengthOf meX1_lengthOf wd65 wd66 rfl rfl reX1_lengthOf rmX11_repaint (fitX11_repaint_47) wd661 (s_iload_n dX11_repaint_50 rfl (s_callV (r := (RX4, TX4, 7)) dX11_repaint_51 mX4_towardsLast meX4_towardsLast wd753 wd754 rfl rfl reX4_towardsLast rmX11_repaint (fitX11_repaint_51) wd755 (s_aload_n dX11_repaint_54 rfl (s_getR (f := 11) dX11_repaint_55 clX11 (by decide) rfl wd597 (s_iload_n dX11_repaint_58 rfl (s_callV (r := (RX4, TX4, 7)) dX11_repaint_59 mX4_answer meX4_answer wd756 wd757 rfl rfl reX4_answer rmX11_repaint (fitX11_repaint_59) wd758 (s_iret dX11_repaint_62 rfl)))))))))))))))))))) tX11_repaint_23)))))))))))
noncomputable def fX11_repaint : zF := z_fn 4 kX11_repaint_0
theorem mX11_repaint {l : Launch} {D : zD} {B : Nat} : z_MF l D B yX11_repaint xX11_repaint fX11_repaint := z_mf (by decide) rfl (fun h => by cases h) rfl (fun as σ r h => ⟨z_fn_len h, kX11_repaint_0, z_fn_run h, fun _ => tX11_repaint_0⟩)
/-! ===== RowChildren.fairly ===== -/
theorem dX11_fairly_0 : decode cX11_fairly 0 = .ok (.aload_n 0, 1) := by decide +kernel
theorem dX11_fairly_1 : decode cX11_fairly 1 = .ok (.iload_n 1, 1) := by decide +kernel
theorem dX11_fairly_2 : decode cX11_fairly 2 = .ok (.invokevirtual 134, 3) := by decide +kernel
theorem dX11_fairly_5 : decode cX11_fairly 5 = .ok (.ifCond .eq 10, 3) := by decide +kernel
theorem dX11_fairly_8 : decode cX11_fairly 8 = .ok (.iload_n 2, 1) := by decide +kernel
theorem dX11_fairly_9 : decode cX11_fairly 9 = .ok (.invokestatic 184, 3) := by decide +kernel
theorem dX11_fairly_12 : decode cX11_fairly 12 = .ok (.ifCond .ne 5, 3) := by decide +kernel
theorem dX11_fairly_15 : decode cX11_fairly 15 = .ok (.iconst (-1), 1) := by decide +kernel
theorem dX11_fairly_16 : decode cX11_fairly 16 = .ok (.ireturn, 1) := by decide +kernel
theorem dX11_fairly_17 : decode cX11_fairly 17 = .ok (.aload_n 0, 1) := by decide +kernel
theorem dX11_fairly_18 : decode cX11_fairly 18 = .ok (.iload_n 1, 1) := by decide +kernel
theorem dX11_fairly_19 : decode cX11_fairly 19 = .ok (.iconst 0, 1) := by decide +kernel
theorem dX11_fairly_20 : decode cX11_fairly 20 = .ok (.invokevirtual 245, 3) := by decide +kernel
theorem dX11_fairly_23 : decode cX11_fairly 23 = .ok (.aload_n 0, 1) := by decide +kernel
theorem dX11_fairly_24 : decode cX11_fairly 24 = .ok (.getfield 75, 3) := by decide +kernel
theorem dX11_fairly_27 : decode cX11_fairly 27 = .ok (.aload_n 0, 1) := by decide +kernel
theorem dX11_fairly_28 : decode cX11_fairly 28 = .ok (.getfield 19, 3) := by decide +kernel
theorem dX11_fairly_31 : decode cX11_fairly 31 = .ok (.getfield 124, 3) := by decide +kernel
theorem dX11_fairly_34 : decode cX11_fairly 34 = .ok (.aload_n 0, 1) := by decide +kernel
theorem dX11_fairly_35 : decode cX11_fairly 35 = .ok (.getfield 33, 3) := by decide +kernel
theorem dX11_fairly_38 : decode cX11_fairly 38 = .ok (.iload_n 1, 1) := by decide +kernel
theorem dX11_fairly_39 : decode cX11_fairly 39 = .ok (.invokevirtual 141, 3) := by decide +kernel
theorem dX11_fairly_42 : decode cX11_fairly 42 = .ok (.invokevirtual 256, 3) := by decide +kernel
theorem dX11_fairly_45 : decode cX11_fairly 45 = .ok (.aload_n 0, 1) := by decide +kernel
theorem dX11_fairly_46 : decode cX11_fairly 46 = .ok (.getfield 75, 3) := by decide +kernel
theorem dX11_fairly_49 : decode cX11_fairly 49 = .ok (.iload_n 2, 1) := by decide +kernel
theorem dX11_fairly_50 : decode cX11_fairly 50 = .ok (.invokevirtual 253, 3) := by decide +kernel
theorem dX11_fairly_53 : decode cX11_fairly 53 = .ok (.ireturn, 1) := by decide +kernel
def xX11_fairly : zX := (RX11, cX11_fairly, 3, (some .int), false, { frames := 23, cells := 0, slots := 0, locals := 646 }, 0, 0, 0, 0)
theorem rmX11_fairly : z_Rm xX11_fairly := by unfold z_Rm xX11_fairly; exact ⟨by decide, by decide⟩
theorem reX11_fairly : z_Re xX11_fairly := ⟨rfl, rfl⟩
theorem rlX11_fairly : 1 ≤ xX11_fairly.2.2.2.2.2.1.frames ∧ 21 ≤ xX11_fairly.2.2.2.2.2.1.locals := by unfold xX11_fairly; exact ⟨by decide, by decide⟩
theorem meX11_fairly : z_Me yX11_fairly xX11_fairly 2 := ⟨wd763, wd275, by decide, by decide, by decide +kernel⟩
theorem fitX11_fairly_2 : z_Fit xX11_isRow xX11_fairly := by unfold z_Fit; simp only [xX11_isRow, xX11_fairly]; exact ⟨by decide, by decide⟩
theorem fitX11_fairly_9 : z_Fit xX11_isOneOfTwo xX11_fairly := by unfold z_Fit; simp only [xX11_isOneOfTwo, xX11_fairly]; exact ⟨by decide, by decide⟩
theorem fitX11_fairly_20 : z_Fit xX11_setPrices xX11_fairly := by unfold z_Fit; simp only [xX11_setPrices, xX11_fairly]; exact ⟨by decide, by decide⟩
theorem fitX11_fairly_39 : z_Fit xX1_lengthOf xX11_fairly := by unfold z_Fit; simp only [xX1_lengthOf, xX11_fairly]; exact ⟨by decide, by decide⟩
theorem fitX11_fairly_42 : z_Fit xX4_towardsFair xX11_fairly := by unfold z_Fit; simp only [xX4_towardsFair, xX11_fairly]; exact ⟨by decide, by decide⟩
theorem fitX11_fairly_50 : z_Fit xX4_answer xX11_fairly := by unfold z_Fit; simp only [xX4_answer, xX11_fairly]; exact ⟨by decide, by decide⟩
noncomputable def kX11_fairly_15 : zK zR := (q_push (-1) q_iret)
noncomputable def kX11_fairly_0 : zK zR := (q_aload 0 (q_iload 1 (q_callV 11 fX11_isRow 1 (q_if_eq kX11_fairly_15 (q_iload 2 (q_callS fX11_isOneOfTwo 1 (q_if_ne (q_aload 0 (q_iload 1 (q_push 0 (q_callV 11 fX11_setPrices 2 (q_aload 0 (q_getR 11 11 (q_aload 0 (q_getR 11 1 (q_getR 7 1 (q_aload 0 (q_getR 11 4 (q_iload 1 (q_callV 1 fX1_lengthOf 1 (q_callV 4 fX4_towardsFair 2 (q_aload 0 (q_getR 11 11 (q_iload 2 (q_callV 4 fX4_answer 1 q_iret)))))))))))))))))) kX11_fairly_15)))))))
set_option maxRecDepth 100000 in
theorem tX11_fairly_15 {l : Launch} {D : zD} {B sz0 : Nat} {post : Option Value → zS → Prop} : zSnd l D B xX11_fairly sz0 post 15 kX11_fairly_15 (z_Jr post) := (s_iconst dX11_fairly_15 (by decide) (s_iret dX11_fairly_16 rfl))
set_option maxRecDepth 100000 in
theorem tX11_fairly_0 {l : Launch} {D : zD} {B sz0 : Nat} {post : Option Value → zS → Prop} : zSnd l D B xX11_fairly sz0 post 0 kX11_fairly_0 (z_Jr post) := (s_aload_n dX11_fairly_0 rfl (s_iload_n dX11_fairly_1 rfl (s_callV (r := (RX11, TX11, 13)) dX11_fairly_2 mX11_isRow meX11_isRow wd655 wd656 rfl rfl reX11_isRow rmX11_fairly (fitX11_fairly_2) wd657 (s_if_eq (tgt := 15) dX11_fairly_5 (by decide) tX11_fairly_15 (s_iload_n dX11_fairly_8 rfl (s_callS dX11_fairly_9 mX11_isOneOfTwo meX11_isOneOfTwo wd681 rfl reX11_isOneOfTwo rmX11_fairly (fitX11_fairly_9) wd682 (s_if_ne (tgt := 17) dX11_fairly_12 (by decide) (s_aload_n dX11_fairly_17 rfl (s_iload_n dX11_fairly_18 rfl (s_iconst dX11_fairly_19 (by decide) (s_callV (r := (RX11, TX11, 13)) dX11_fairly_20 mX11_setPrices meX11_setPrices wd750 wd751 rfl rfl reX11_setPrices rmX11_fairly (fitX11_fairly_20) wd752 (s_aload_n dX11_fairly_23 rfl (s_getR (f := 11) dX11_fairly_24 clX11 (by decide) rfl wd597 (s_aload_n dX11_fairly_27 rfl (s_getR (f := 1) dX11_fairly_28 clX11 (by decide) rfl wd572 (s_getR (f := 1) dX11_fairly_31 clX7 (by decide) rfl wd628 (s_aload_n dX11_fairly_34 rfl (s_getR (f := 4) dX11_fairly_35 clX11 (by decide) rfl wd576 (s_iload_n dX11_fairly_38 rfl (s_callV (r := (RX1, TX1, 5)) dX11_fairly_39 mX1_lengthOf meX1_lengthOf wd65 wd66 rfl rfl reX1_lengthOf rmX11_fairly (fitX11_fairly_39) wd661 (s_callV (r := (RX4, TX4, 7)) dX11_fairly_42 mX4_towardsFair meX4_towardsFair wd760 wd761 rfl rfl reX4_towardsFair rmX11_fairly (fitX11_fairly_42) wd762 (s_aload_n dX11_fairly_45 rfl (s_getR (f := 11) dX11_fairly_46 clX11 (by decide) rfl wd597 (s_iload_n dX11_fairly_49 rfl (s_callV (r := (RX4, TX4, 7)) dX11_fairly_50 mX4_answer meX4_answer wd756 wd757 rfl rfl reX4_answer rmX11_fairly (fitX11_fairly_50) wd758 (s_iret dX11_fairly_53 rfl))))))))))))))))))) tX11_fairly_15)))))))
noncomputable def fX11_fairly : zF := z_fn 3 kX11_fairly_0
theorem mX11_fairly {l : Launch} {D : zD} {B : Nat} : z_MF l D B yX11_fairly xX11_fairly fX11_fairly := z_mf (by decide) rfl (fun h => by cases h) rfl (fun as σ r h => ⟨z_fn_len h, kX11_fairly_0, z_fn_run h, fun _ => tX11_fairly_0⟩)
/-! ===== RowChildren.otherLastBy ===== -/
theorem dX11_otherLastBy_0 : decode cX11_otherLastBy 0 = .ok (.aload_n 0, 1) := by decide +kernel
theorem dX11_otherLastBy_1 : decode cX11_otherLastBy 1 = .ok (.getfield 33, 3) := by decide +kernel
theorem dX11_otherLastBy_4 : decode cX11_otherLastBy 4 = .ok (.iload_n 1, 1) := by decide +kernel
theorem dX11_otherLastBy_5 : decode cX11_otherLastBy 5 = .ok (.invokevirtual 141, 3) := by decide +kernel
theorem dX11_otherLastBy_8 : decode cX11_otherLastBy 8 = .ok (.istore 4, 2) := by decide +kernel
theorem dX11_otherLastBy_10 : decode cX11_otherLastBy 10 = .ok (.iconst 0, 1) := by decide +kernel
theorem dX11_otherLastBy_11 : decode cX11_otherLastBy 11 = .ok (.istore 5, 2) := by decide +kernel
theorem dX11_otherLastBy_13 : decode cX11_otherLastBy 13 = .ok (.iload 5, 2) := by decide +kernel
theorem dX11_otherLastBy_15 : decode cX11_otherLastBy 15 = .ok (.aload_n 0, 1) := by decide +kernel
theorem dX11_otherLastBy_16 : decode cX11_otherLastBy 16 = .ok (.getfield 19, 3) := by decide +kernel
theorem dX11_otherLastBy_19 : decode cX11_otherLastBy 19 = .ok (.getfield 124, 3) := by decide +kernel
theorem dX11_otherLastBy_22 : decode cX11_otherLastBy 22 = .ok (.getfield 145, 3) := by decide +kernel
theorem dX11_otherLastBy_25 : decode cX11_otherLastBy 25 = .ok (.if_icmp .ge 75, 3) := by decide +kernel
theorem dX11_otherLastBy_28 : decode cX11_otherLastBy 28 = .ok (.iconst 0, 1) := by decide +kernel
theorem dX11_otherLastBy_29 : decode cX11_otherLastBy 29 = .ok (.istore 6, 2) := by decide +kernel
theorem dX11_otherLastBy_31 : decode cX11_otherLastBy 31 = .ok (.iload 6, 2) := by decide +kernel
theorem dX11_otherLastBy_33 : decode cX11_otherLastBy 33 = .ok (.iload 4, 2) := by decide +kernel
theorem dX11_otherLastBy_35 : decode cX11_otherLastBy 35 = .ok (.if_icmp .ge 46, 3) := by decide +kernel
theorem dX11_otherLastBy_38 : decode cX11_otherLastBy 38 = .ok (.aload_n 0, 1) := by decide +kernel
theorem dX11_otherLastBy_39 : decode cX11_otherLastBy 39 = .ok (.getfield 54, 3) := by decide +kernel
theorem dX11_otherLastBy_42 : decode cX11_otherLastBy 42 = .ok (.aload_n 0, 1) := by decide +kernel
theorem dX11_otherLastBy_43 : decode cX11_otherLastBy 43 = .ok (.getfield 19, 3) := by decide +kernel
theorem dX11_otherLastBy_46 : decode cX11_otherLastBy 46 = .ok (.getfield 124, 3) := by decide +kernel
theorem dX11_otherLastBy_49 : decode cX11_otherLastBy 49 = .ok (.iload 6, 2) := by decide +kernel
theorem dX11_otherLastBy_51 : decode cX11_otherLastBy 51 = .ok (.iload 6, 2) := by decide +kernel
theorem dX11_otherLastBy_53 : decode cX11_otherLastBy 53 = .ok (.iload_n 2, 1) := by decide +kernel
theorem dX11_otherLastBy_54 : decode cX11_otherLastBy 54 = .ok (.if_icmp .ne 8, 3) := by decide +kernel
theorem dX11_otherLastBy_57 : decode cX11_otherLastBy 57 = .ok (.iload 5, 2) := by decide +kernel
theorem dX11_otherLastBy_59 : decode cX11_otherLastBy 59 = .ok (.goto 13, 3) := by decide +kernel
theorem dX11_otherLastBy_62 : decode cX11_otherLastBy 62 = .ok (.aload_n 0, 1) := by decide +kernel
theorem dX11_otherLastBy_63 : decode cX11_otherLastBy 63 = .ok (.getfield 33, 3) := by decide +kernel
theorem dX11_otherLastBy_66 : decode cX11_otherLastBy 66 = .ok (.iload_n 1, 1) := by decide +kernel
theorem dX11_otherLastBy_67 : decode cX11_otherLastBy 67 = .ok (.iload 6, 2) := by decide +kernel
theorem dX11_otherLastBy_69 : decode cX11_otherLastBy 69 = .ok (.invokevirtual 318, 3) := by decide +kernel
theorem dX11_otherLastBy_72 : decode cX11_otherLastBy 72 = .ok (.invokevirtual 406, 3) := by decide +kernel
theorem dX11_otherLastBy_75 : decode cX11_otherLastBy 75 = .ok (.iinc 6 1, 3) := by decide +kernel
theorem dX11_otherLastBy_78 : decode cX11_otherLastBy 78 = .ok (.goto (-47), 3) := by decide +kernel
theorem dX11_otherLastBy_81 : decode cX11_otherLastBy 81 = .ok (.aload_n 0, 1) := by decide +kernel
theorem dX11_otherLastBy_82 : decode cX11_otherLastBy 82 = .ok (.getfield 54, 3) := by decide +kernel
theorem dX11_otherLastBy_85 : decode cX11_otherLastBy 85 = .ok (.invokevirtual 151, 3) := by decide +kernel
theorem dX11_otherLastBy_88 : decode cX11_otherLastBy 88 = .ok (.iload_n 3, 1) := by decide +kernel
theorem dX11_otherLastBy_89 : decode cX11_otherLastBy 89 = .ok (.if_icmp .eq 5, 3) := by decide +kernel
theorem dX11_otherLastBy_92 : decode cX11_otherLastBy 92 = .ok (.iconst 1, 1) := by decide +kernel
theorem dX11_otherLastBy_93 : decode cX11_otherLastBy 93 = .ok (.ireturn, 1) := by decide +kernel
theorem dX11_otherLastBy_94 : decode cX11_otherLastBy 94 = .ok (.iinc 5 1, 3) := by decide +kernel
theorem dX11_otherLastBy_97 : decode cX11_otherLastBy 97 = .ok (.goto (-84), 3) := by decide +kernel
theorem dX11_otherLastBy_100 : decode cX11_otherLastBy 100 = .ok (.iconst 0, 1) := by decide +kernel
theorem dX11_otherLastBy_101 : decode cX11_otherLastBy 101 = .ok (.ireturn, 1) := by decide +kernel
def xX11_otherLastBy : zX := (RX11, cX11_otherLastBy, 7, (some .boolean), false, { frames := 3, cells := 0, slots := 0, locals := 132 }, 0, 0, 0, 0)
theorem rmX11_otherLastBy : z_Rm xX11_otherLastBy := by unfold z_Rm xX11_otherLastBy; exact ⟨by decide, by decide⟩
theorem reX11_otherLastBy : z_Re xX11_otherLastBy := ⟨rfl, rfl⟩
theorem rlX11_otherLastBy : 1 ≤ xX11_otherLastBy.2.2.2.2.2.1.frames ∧ 21 ≤ xX11_otherLastBy.2.2.2.2.2.1.locals := by unfold xX11_otherLastBy; exact ⟨by decide, by decide⟩
theorem meX11_otherLastBy : z_Me yX11_otherLastBy xX11_otherLastBy 3 := ⟨wd765, wd275, by decide, by decide, by decide +kernel⟩
theorem fitX11_otherLastBy_5 : z_Fit xX1_lengthOf xX11_otherLastBy := by unfold z_Fit; simp only [xX1_lengthOf, xX11_otherLastBy]; exact ⟨by decide, by decide⟩
theorem fitX11_otherLastBy_85 : z_Fit xX10_lastChild xX11_otherLastBy := by unfold z_Fit; simp only [xX10_lastChild, xX11_otherLastBy]; exact ⟨by decide, by decide⟩
theorem fitX11_otherLastBy_69 : z_Fit xX1_colourAt xX11_otherLastBy := by unfold z_Fit; simp only [xX1_colourAt, xX11_otherLastBy]; exact ⟨by decide, by decide⟩
theorem fitX11_otherLastBy_72 : z_Fit xX10_put xX11_otherLastBy := by unfold z_Fit; simp only [xX10_put, xX11_otherLastBy]; exact ⟨by decide, by decide⟩
noncomputable def kX11_otherLastBy_100 : zK zR := (q_push 0 q_zret)
noncomputable def kX11_otherLastBy_92 : zK zR := (q_push 1 q_zret)
noncomputable def kX11_otherLastBy_81 : zK ((zL × zS) ⊕ zR) := (q_aload 0 (q_getR 11 8 (q_callV 10 fX10_lastChild 0 (q_iload 3 (q_icmp_eq (q_iinc 5 1 q_ag) (q_dn kX11_otherLastBy_92))))))
noncomputable def kX11_otherLastBy_72 : zK ((zL × zS) ⊕ ((zL × zS) ⊕ zR)) := (q_callV 10 fX10_put 3 (q_iinc 6 1 q_ag))
noncomputable def bX11_otherLastBy_31 : zK ((zL × zS) ⊕ ((zL × zS) ⊕ zR)) := (q_iload 6 (q_iload 4 (q_icmp_ge (q_dn kX11_otherLastBy_81) (q_aload 0 (q_getR 11 8 (q_aload 0 (q_getR 11 1 (q_getR 7 1 (q_iload 6 (q_iload 6 (q_iload 2 (q_icmp_ne (q_aload 0 (q_getR 11 4 (q_iload 1 (q_iload 6 (q_callV 1 fX1_colourAt 2 kX11_otherLastBy_72))))) (q_iload 5 kX11_otherLastBy_72)))))))))))))
noncomputable def kX11_otherLastBy_31 : zK ((zL × zS) ⊕ zR) := q_lp (bX11_otherLastBy_31)
noncomputable def bX11_otherLastBy_13 : zK ((zL × zS) ⊕ zR) := (q_iload 5 (q_aload 0 (q_getR 11 1 (q_getR 7 1 (q_getI 5 0 (q_icmp_ge (q_dn kX11_otherLastBy_100) (q_push 0 (q_istore 6 kX11_otherLastBy_31))))))))
noncomputable def kX11_otherLastBy_13 : zK zR := q_lp (bX11_otherLastBy_13)
noncomputable def kX11_otherLastBy_0 : zK zR := (q_aload 0 (q_getR 11 4 (q_iload 1 (q_callV 1 fX1_lengthOf 1 (q_istore 4 (q_push 0 (q_istore 5 kX11_otherLastBy_13)))))))
set_option maxRecDepth 100000 in
theorem tX11_otherLastBy_100 {l : Launch} {D : zD} {B sz0 : Nat} {post : Option Value → zS → Prop} : zSnd l D B xX11_otherLastBy sz0 post 100 kX11_otherLastBy_100 (z_Jr post) := (s_iconst dX11_otherLastBy_100 (by decide) (s_zret dX11_otherLastBy_101 rfl))
set_option maxRecDepth 100000 in
theorem tX11_otherLastBy_92 {l : Launch} {D : zD} {B sz0 : Nat} {post : Option Value → zS → Prop} : zSnd l D B xX11_otherLastBy sz0 post 92 kX11_otherLastBy_92 (z_Jr post) := (s_iconst dX11_otherLastBy_92 (by decide) (s_zret dX11_otherLastBy_93 rfl))
set_option maxRecDepth 100000 in
theorem tX11_otherLastBy_81 {l : Launch} {D : zD} {B sz0 : Nat} {post : Option Value → zS → Prop} : zSnd l D B xX11_otherLastBy sz0 post 81 kX11_otherLastBy_81 (z_Jl l D B xX11_otherLastBy sz0 post 13 (z_Jr post)) := (s_aload_n dX11_otherLastBy_81 rfl (s_getR (f := 8) dX11_otherLastBy_82 clX11 (by decide) rfl wd584 (s_callV (r := (RX10, TX10, 3)) dX11_otherLastBy_85 mX10_lastChild meX10_lastChild wd27 wd28 rfl rfl reX10_lastChild rmX11_otherLastBy (fitX11_otherLastBy_85) wd663 (s_iload_n dX11_otherLastBy_88 rfl (s_icmp_eq (tgt := 94) dX11_otherLastBy_89 (by decide) (s_iinc dX11_otherLastBy_94 (by decide) (s_goto (tgt := 13) dX11_otherLastBy_97 (by decide) s_ag)) (s_dn tX11_otherLastBy_92))))))
set_option maxRecDepth 100000 in
theorem tX11_otherLastBy_72 {l : Launch} {D : zD} {B sz0 : Nat} {post : Option Value → zS → Prop} : zSnd l D B xX11_otherLastBy sz0 post 72 kX11_otherLastBy_72 (z_Jl l D B xX11_otherLastBy sz0 post 31 (z_Jl l D B xX11_otherLastBy sz0 post 13 (z_Jr post))) := (s_callV (r := (RX10, TX10, 3)) dX11_otherLastBy_72 mX10_put meX10_put wd34 wd35 rfl rfl reX10_put rmX11_otherLastBy (fitX11_otherLastBy_72) wd764 (s_iinc dX11_otherLastBy_75 (by decide) (s_goto (tgt := 31) dX11_otherLastBy_78 (by decide) s_ag)))
set_option maxRecDepth 100000 in
theorem tX11_otherLastBy_31 {l : Launch} {D : zD} {B sz0 : Nat} {post : Option Value → zS → Prop} : zSnd l D B xX11_otherLastBy sz0 post 31 kX11_otherLastBy_31 (z_Jl l D B xX11_otherLastBy sz0 post 13 (z_Jr post)) := s_lp (body := bX11_otherLastBy_31) (s_iload dX11_otherLastBy_31 (s_iload dX11_otherLastBy_33 (s_icmp_ge (tgt := 81) dX11_otherLastBy_35 (by decide) (s_dn tX11_otherLastBy_81) (s_aload_n dX11_otherLastBy_38 rfl (s_getR (f := 8) dX11_otherLastBy_39 clX11 (by decide) rfl wd584 (s_aload_n dX11_otherLastBy_42 rfl (s_getR (f := 1) dX11_otherLastBy_43 clX11 (by decide) rfl wd572 (s_getR (f := 1) dX11_otherLastBy_46 clX7 (by decide) rfl wd628 (s_iload dX11_otherLastBy_49 (s_iload dX11_otherLastBy_51 (s_iload_n dX11_otherLastBy_53 rfl (s_icmp_ne (tgt := 62) dX11_otherLastBy_54 (by decide) (s_aload_n dX11_otherLastBy_62 rfl (s_getR (f := 4) dX11_otherLastBy_63 clX11 (by decide) rfl wd576 (s_iload_n dX11_otherLastBy_66 rfl (s_iload dX11_otherLastBy_67 (s_callV (r := (RX1, TX1, 5)) dX11_otherLastBy_69 mX1_colourAt meX1_colourAt wd75 wd76 rfl rfl reX1_colourAt rmX11_otherLastBy (fitX11_otherLastBy_69) wd638 tX11_otherLastBy_72))))) (s_iload dX11_otherLastBy_57 (s_goto (tgt := 72) dX11_otherLastBy_59 (by decide) tX11_otherLastBy_72))))))))))))))
set_option maxRecDepth 100000 in
theorem tX11_otherLastBy_13 {l : Launch} {D : zD} {B sz0 : Nat} {post : Option Value → zS → Prop} : zSnd l D B xX11_otherLastBy sz0 post 13 kX11_otherLastBy_13 (z_Jr post) := s_lp (body := bX11_otherLastBy_13) (s_iload dX11_otherLastBy_13 (s_aload_n dX11_otherLastBy_15 rfl (s_getR (f := 1) dX11_otherLastBy_16 clX11 (by decide) rfl wd572 (s_getR (f := 1) dX11_otherLastBy_19 clX7 (by decide) rfl wd628 (s_getI (f := 0) dX11_otherLastBy_22 clX5 (by decide) rfl wd629 (s_icmp_ge (tgt := 100) dX11_otherLastBy_25 (by decide) (s_dn tX11_otherLastBy_100) (s_iconst dX11_otherLastBy_28 (by decide) (s_istore dX11_otherLastBy_29 tX11_otherLastBy_31))))))))
set_option maxRecDepth 100000 in
theorem tX11_otherLastBy_0 {l : Launch} {D : zD} {B sz0 : Nat} {post : Option Value → zS → Prop} : zSnd l D B xX11_otherLastBy sz0 post 0 kX11_otherLastBy_0 (z_Jr post) := (s_aload_n dX11_otherLastBy_0 rfl (s_getR (f := 4) dX11_otherLastBy_1 clX11 (by decide) rfl wd576 (s_iload_n dX11_otherLastBy_4 rfl (s_callV (r := (RX1, TX1, 5)) dX11_otherLastBy_5 mX1_lengthOf meX1_lengthOf wd65 wd66 rfl rfl reX1_lengthOf rmX11_otherLastBy (fitX11_otherLastBy_5) wd661 (s_istore dX11_otherLastBy_8 (s_iconst dX11_otherLastBy_10 (by decide) (s_istore dX11_otherLastBy_11 tX11_otherLastBy_13)))))))
noncomputable def fX11_otherLastBy : zF := z_fn 7 kX11_otherLastBy_0
theorem mX11_otherLastBy {l : Launch} {D : zD} {B : Nat} : z_MF l D B yX11_otherLastBy xX11_otherLastBy fX11_otherLastBy := z_mf (by decide) rfl (fun h => by cases h) rfl (fun as σ r h => ⟨z_fn_len h, kX11_otherLastBy_0, z_fn_run h, fun _ => tX11_otherLastBy_0⟩)
/-! ===== RowChildren.matters ===== -/
theorem dX11_matters_0 : decode cX11_matters 0 = .ok (.aload_n 0, 1) := by decide +kernel
theorem dX11_matters_1 : decode cX11_matters 1 = .ok (.iload_n 1, 1) := by decide +kernel
theorem dX11_matters_2 : decode cX11_matters 2 = .ok (.invokevirtual 134, 3) := by decide +kernel
theorem dX11_matters_5 : decode cX11_matters 5 = .ok (.ifCond .ne 5, 3) := by decide +kernel
theorem dX11_matters_8 : decode cX11_matters 8 = .ok (.iconst (-1), 1) := by decide +kernel
theorem dX11_matters_9 : decode cX11_matters 9 = .ok (.ireturn, 1) := by decide +kernel
theorem dX11_matters_10 : decode cX11_matters 10 = .ok (.aload_n 0, 1) := by decide +kernel
theorem dX11_matters_11 : decode cX11_matters 11 = .ok (.getfield 54, 3) := by decide +kernel
theorem dX11_matters_14 : decode cX11_matters 14 = .ok (.aload_n 0, 1) := by decide +kernel
theorem dX11_matters_15 : decode cX11_matters 15 = .ok (.getfield 19, 3) := by decide +kernel
theorem dX11_matters_18 : decode cX11_matters 18 = .ok (.getfield 124, 3) := by decide +kernel
theorem dX11_matters_21 : decode cX11_matters 21 = .ok (.aload_n 0, 1) := by decide +kernel
theorem dX11_matters_22 : decode cX11_matters 22 = .ok (.getfield 33, 3) := by decide +kernel
theorem dX11_matters_25 : decode cX11_matters 25 = .ok (.iload_n 1, 1) := by decide +kernel
theorem dX11_matters_26 : decode cX11_matters 26 = .ok (.invokevirtual 137, 3) := by decide +kernel
theorem dX11_matters_29 : decode cX11_matters 29 = .ok (.aload_n 0, 1) := by decide +kernel
theorem dX11_matters_30 : decode cX11_matters 30 = .ok (.getfield 54, 3) := by decide +kernel
theorem dX11_matters_33 : decode cX11_matters 33 = .ok (.invokevirtual 151, 3) := by decide +kernel
theorem dX11_matters_36 : decode cX11_matters 36 = .ok (.istore_n 2, 1) := by decide +kernel
theorem dX11_matters_37 : decode cX11_matters 37 = .ok (.iconst 0, 1) := by decide +kernel
theorem dX11_matters_38 : decode cX11_matters 38 = .ok (.istore_n 3, 1) := by decide +kernel
theorem dX11_matters_39 : decode cX11_matters 39 = .ok (.iconst 0, 1) := by decide +kernel
theorem dX11_matters_40 : decode cX11_matters 40 = .ok (.istore 4, 2) := by decide +kernel
theorem dX11_matters_42 : decode cX11_matters 42 = .ok (.iload 4, 2) := by decide +kernel
theorem dX11_matters_44 : decode cX11_matters 44 = .ok (.aload_n 0, 1) := by decide +kernel
theorem dX11_matters_45 : decode cX11_matters 45 = .ok (.getfield 33, 3) := by decide +kernel
theorem dX11_matters_48 : decode cX11_matters 48 = .ok (.iload_n 1, 1) := by decide +kernel
theorem dX11_matters_49 : decode cX11_matters 49 = .ok (.invokevirtual 141, 3) := by decide +kernel
theorem dX11_matters_52 : decode cX11_matters 52 = .ok (.if_icmp .ge 27, 3) := by decide +kernel
theorem dX11_matters_55 : decode cX11_matters 55 = .ok (.aload_n 0, 1) := by decide +kernel
theorem dX11_matters_56 : decode cX11_matters 56 = .ok (.iload_n 1, 1) := by decide +kernel
theorem dX11_matters_57 : decode cX11_matters 57 = .ok (.iload 4, 2) := by decide +kernel
theorem dX11_matters_59 : decode cX11_matters 59 = .ok (.iload_n 2, 1) := by decide +kernel
theorem dX11_matters_60 : decode cX11_matters 60 = .ok (.invokevirtual 259, 3) := by decide +kernel
theorem dX11_matters_63 : decode cX11_matters 63 = .ok (.ifCond .eq 10, 3) := by decide +kernel
theorem dX11_matters_66 : decode cX11_matters 66 = .ok (.iload_n 3, 1) := by decide +kernel
theorem dX11_matters_67 : decode cX11_matters 67 = .ok (.iconst 1, 1) := by decide +kernel
theorem dX11_matters_68 : decode cX11_matters 68 = .ok (.iload 4, 2) := by decide +kernel
theorem dX11_matters_70 : decode cX11_matters 70 = .ok (.ishl, 1) := by decide +kernel
theorem dX11_matters_71 : decode cX11_matters 71 = .ok (.ior, 1) := by decide +kernel
theorem dX11_matters_72 : decode cX11_matters 72 = .ok (.istore_n 3, 1) := by decide +kernel
theorem dX11_matters_73 : decode cX11_matters 73 = .ok (.iinc 4 1, 3) := by decide +kernel
theorem dX11_matters_76 : decode cX11_matters 76 = .ok (.goto (-34), 3) := by decide +kernel
theorem dX11_matters_79 : decode cX11_matters 79 = .ok (.iload_n 3, 1) := by decide +kernel
theorem dX11_matters_80 : decode cX11_matters 80 = .ok (.ireturn, 1) := by decide +kernel
def xX11_matters : zX := (RX11, cX11_matters, 5, (some .int), false, { frames := 4, cells := 0, slots := 0, locals := 159 }, 0, 0, 0, 0)
theorem rmX11_matters : z_Rm xX11_matters := by unfold z_Rm xX11_matters; exact ⟨by decide, by decide⟩
theorem reX11_matters : z_Re xX11_matters := ⟨rfl, rfl⟩
theorem rlX11_matters : 1 ≤ xX11_matters.2.2.2.2.2.1.frames ∧ 21 ≤ xX11_matters.2.2.2.2.2.1.locals := by unfold xX11_matters; exact ⟨by decide, by decide⟩
theorem meX11_matters : z_Me yX11_matters xX11_matters 1 := ⟨wd769, wd275, by decide, by decide, by decide +kernel⟩
theorem fitX11_matters_2 : z_Fit xX11_isRow xX11_matters := by unfold z_Fit; simp only [xX11_isRow, xX11_matters]; exact ⟨by decide, by decide⟩
theorem fitX11_matters_26 : z_Fit xX10_fill xX11_matters := by unfold z_Fit; simp only [xX10_fill, xX11_matters]; exact ⟨by decide, by decide⟩
theorem fitX11_matters_33 : z_Fit xX10_lastChild xX11_matters := by unfold z_Fit; simp only [xX10_lastChild, xX11_matters]; exact ⟨by decide, by decide⟩
theorem fitX11_matters_49 : z_Fit xX1_lengthOf xX11_matters := by unfold z_Fit; simp only [xX1_lengthOf, xX11_matters]; exact ⟨by decide, by decide⟩
theorem fitX11_matters_60 : z_Fit xX11_otherLastBy xX11_matters := by unfold z_Fit; simp only [xX11_otherLastBy, xX11_matters]; exact ⟨by decide, by decide⟩
noncomputable def kX11_matters_79 : zK zR := (q_iload 3 q_iret)
noncomputable def kX11_matters_73 : zK ((zL × zS) ⊕ zR) := (q_iinc 4 1 q_ag)
noncomputable def bX11_matters_42 : zK ((zL × zS) ⊕ zR) := (q_iload 4 (q_aload 0 (q_getR 11 4 (q_iload 1 (q_callV 1 fX1_lengthOf 1 (q_icmp_ge (q_dn kX11_matters_79) (q_aload 0 (q_iload 1 (q_iload 4 (q_iload 2 (q_callV 11 fX11_otherLastBy 3 (q_if_eq kX11_matters_73 (q_iload 3 (q_push 1 (q_iload 4 (q_ishl (q_ior (q_istore 3 kX11_matters_73))))))))))))))))))
noncomputable def kX11_matters_42 : zK zR := q_lp (bX11_matters_42)
noncomputable def kX11_matters_0 : zK zR := (q_aload 0 (q_iload 1 (q_callV 11 fX11_isRow 1 (q_if_ne (q_aload 0 (q_getR 11 8 (q_aload 0 (q_getR 11 1 (q_getR 7 1 (q_aload 0 (q_getR 11 4 (q_iload 1 (q_callV 10 fX10_fill 3 (q_aload 0 (q_getR 11 8 (q_callV 10 fX10_lastChild 0 (q_istore 2 (q_push 0 (q_istore 3 (q_push 0 (q_istore 4 kX11_matters_42))))))))))))))))) (q_push (-1) q_iret)))))
set_option maxRecDepth 100000 in
theorem tX11_matters_79 {l : Launch} {D : zD} {B sz0 : Nat} {post : Option Value → zS → Prop} : zSnd l D B xX11_matters sz0 post 79 kX11_matters_79 (z_Jr post) := (s_iload_n dX11_matters_79 rfl (s_iret dX11_matters_80 rfl))
set_option maxRecDepth 100000 in
theorem tX11_matters_73 {l : Launch} {D : zD} {B sz0 : Nat} {post : Option Value → zS → Prop} : zSnd l D B xX11_matters sz0 post 73 kX11_matters_73 (z_Jl l D B xX11_matters sz0 post 42 (z_Jr post)) := (s_iinc dX11_matters_73 (by decide) (s_goto (tgt := 42) dX11_matters_76 (by decide) s_ag))
set_option maxRecDepth 100000 in
theorem tX11_matters_42 {l : Launch} {D : zD} {B sz0 : Nat} {post : Option Value → zS → Prop} : zSnd l D B xX11_matters sz0 post 42 kX11_matters_42 (z_Jr post) := s_lp (body := bX11_matters_42) (s_iload dX11_matters_42 (s_aload_n dX11_matters_44 rfl (s_getR (f := 4) dX11_matters_45 clX11 (by decide) rfl wd576 (s_iload_n dX11_matters_48 rfl (s_callV (r := (RX1, TX1, 5)) dX11_matters_49 mX1_lengthOf meX1_lengthOf wd65 wd66 rfl rfl reX1_lengthOf rmX11_matters (fitX11_matters_49) wd661 (s_icmp_ge (tgt := 79) dX11_matters_52 (by decide) (s_dn tX11_matters_79) (s_aload_n dX11_matters_55 rfl (s_iload_n dX11_matters_56 rfl (s_iload dX11_matters_57 (s_iload_n dX11_matters_59 rfl (s_callV (r := (RX11, TX11, 13)) dX11_matters_60 mX11_otherLastBy meX11_otherLastBy wd766 wd767 rfl rfl reX11_otherLastBy rmX11_matters (fitX11_matters_60) wd768 (s_if_eq (tgt := 73) dX11_matters_63 (by decide) tX11_matters_73 (s_iload_n dX11_matters_66 rfl (s_iconst dX11_matters_67 (by decide) (s_iload dX11_matters_68 (s_ishl dX11_matters_70 (s_ior dX11_matters_71 (s_istore_n dX11_matters_72 rfl tX11_matters_73))))))))))))))))))
set_option maxRecDepth 100000 in
theorem tX11_matters_0 {l : Launch} {D : zD} {B sz0 : Nat} {post : Option Value → zS → Prop} : zSnd l D B xX11_matters sz0 post 0 kX11_matters_0 (z_Jr post) := (s_aload_n dX11_matters_0 rfl (s_iload_n dX11_matters_1 rfl (s_callV (r := (RX11, TX11, 13)) dX11_matters_2 mX11_isRow meX11_isRow wd655 wd656 rfl rfl reX11_isRow rmX11_matters (fitX11_matters_2) wd657 (s_if_ne (tgt := 10) dX11_matters_5 (by decide) (s_aload_n dX11_matters_10 rfl (s_getR (f := 8) dX11_matters_11 clX11 (by decide) rfl wd584 (s_aload_n dX11_matters_14 rfl (s_getR (f := 1) dX11_matters_15 clX11 (by decide) rfl wd572 (s_getR (f := 1) dX11_matters_18 clX7 (by decide) rfl wd628 (s_aload_n dX11_matters_21 rfl (s_getR (f := 4) dX11_matters_22 clX11 (by decide) rfl wd576 (s_iload_n dX11_matters_25 rfl (s_callV (r := (RX10, TX10, 3)) dX11_matters_26 mX10_fill meX10_fill wd658 wd659 rfl rfl reX10_fill rmX11_matters (fitX11_matters_26) wd660 (s_aload_n dX11_matters_29 rfl (s_getR (f := 8) dX11_matters_30 clX11 (by decide) rfl wd584 (s_callV (r := (RX10, TX10, 3)) dX11_matters_33 mX10_lastChild meX10_lastChild wd27 wd28 rfl rfl reX10_lastChild rmX11_matters (fitX11_matters_33) wd663 (s_istore_n dX11_matters_36 rfl (s_iconst dX11_matters_37 (by decide) (s_istore_n dX11_matters_38 rfl (s_iconst dX11_matters_39 (by decide) (s_istore dX11_matters_40 tX11_matters_42))))))))))))))))) (s_iconst dX11_matters_8 (by decide) (s_iret dX11_matters_9 rfl))))))
noncomputable def fX11_matters : zF := z_fn 5 kX11_matters_0
theorem mX11_matters {l : Launch} {D : zD} {B : Nat} : z_MF l D B yX11_matters xX11_matters fX11_matters := z_mf (by decide) rfl (fun h => by cases h) rfl (fun as σ r h => ⟨z_fn_len h, kX11_matters_0, z_fn_run h, fun _ => tX11_matters_0⟩)
/-! ===== RowChildren.parents ===== -/
theorem dX11_parents_0 : decode cX11_parents 0 = .ok (.aload_n 0, 1) := by decide +kernel
theorem dX11_parents_1 : decode cX11_parents 1 = .ok (.iload_n 1, 1) := by decide +kernel
theorem dX11_parents_2 : decode cX11_parents 2 = .ok (.invokevirtual 134, 3) := by decide +kernel
theorem dX11_parents_5 : decode cX11_parents 5 = .ok (.ifCond .eq 10, 3) := by decide +kernel
theorem dX11_parents_8 : decode cX11_parents 8 = .ok (.iload_n 2, 1) := by decide +kernel
theorem dX11_parents_9 : decode cX11_parents 9 = .ok (.invokestatic 184, 3) := by decide +kernel
theorem dX11_parents_12 : decode cX11_parents 12 = .ok (.ifCond .ne 5, 3) := by decide +kernel
theorem dX11_parents_15 : decode cX11_parents 15 = .ok (.iconst (-1), 1) := by decide +kernel
theorem dX11_parents_16 : decode cX11_parents 16 = .ok (.ireturn, 1) := by decide +kernel
theorem dX11_parents_17 : decode cX11_parents 17 = .ok (.aload_n 0, 1) := by decide +kernel
theorem dX11_parents_18 : decode cX11_parents 18 = .ok (.getfield 19, 3) := by decide +kernel
theorem dX11_parents_21 : decode cX11_parents 21 = .ok (.getfield 124, 3) := by decide +kernel
theorem dX11_parents_24 : decode cX11_parents 24 = .ok (.aload_n 0, 1) := by decide +kernel
theorem dX11_parents_25 : decode cX11_parents 25 = .ok (.getfield 33, 3) := by decide +kernel
theorem dX11_parents_28 : decode cX11_parents 28 = .ok (.iload_n 1, 1) := by decide +kernel
theorem dX11_parents_29 : decode cX11_parents 29 = .ok (.invokevirtual 262, 3) := by decide +kernel
theorem dX11_parents_32 : decode cX11_parents 32 = .ok (.istore_n 3, 1) := by decide +kernel
theorem dX11_parents_33 : decode cX11_parents 33 = .ok (.iload_n 2, 1) := by decide +kernel
theorem dX11_parents_34 : decode cX11_parents 34 = .ok (.ifCond .ne 5, 3) := by decide +kernel
theorem dX11_parents_37 : decode cX11_parents 37 = .ok (.iload_n 3, 1) := by decide +kernel
theorem dX11_parents_38 : decode cX11_parents 38 = .ok (.ireturn, 1) := by decide +kernel
theorem dX11_parents_39 : decode cX11_parents 39 = .ok (.iload_n 3, 1) := by decide +kernel
theorem dX11_parents_40 : decode cX11_parents 40 = .ok (.ifCond .ne 8, 3) := by decide +kernel
theorem dX11_parents_43 : decode cX11_parents 43 = .ok (.bipush (-2), 2) := by decide +kernel
theorem dX11_parents_45 : decode cX11_parents 45 = .ok (.goto 18, 3) := by decide +kernel
theorem dX11_parents_48 : decode cX11_parents 48 = .ok (.aload_n 0, 1) := by decide +kernel
theorem dX11_parents_49 : decode cX11_parents 49 = .ok (.getfield 19, 3) := by decide +kernel
theorem dX11_parents_52 : decode cX11_parents 52 = .ok (.getfield 124, 3) := by decide +kernel
theorem dX11_parents_55 : decode cX11_parents 55 = .ok (.aload_n 0, 1) := by decide +kernel
theorem dX11_parents_56 : decode cX11_parents 56 = .ok (.getfield 33, 3) := by decide +kernel
theorem dX11_parents_59 : decode cX11_parents 59 = .ok (.iload_n 1, 1) := by decide +kernel
theorem dX11_parents_60 : decode cX11_parents 60 = .ok (.invokevirtual 265, 3) := by decide +kernel
theorem dX11_parents_63 : decode cX11_parents 63 = .ok (.ireturn, 1) := by decide +kernel
def xX11_parents : zX := (RX11, cX11_parents, 4, (some .int), false, { frames := 3, cells := 0, slots := 0, locals := 140 }, 0, 0, 0, 0)
theorem rmX11_parents : z_Rm xX11_parents := by unfold z_Rm xX11_parents; exact ⟨by decide, by decide⟩
theorem reX11_parents : z_Re xX11_parents := ⟨rfl, rfl⟩
theorem rlX11_parents : 1 ≤ xX11_parents.2.2.2.2.2.1.frames ∧ 21 ≤ xX11_parents.2.2.2.2.2.1.locals := by unfold xX11_parents; exact ⟨by decide, by decide⟩
theorem meX11_parents : z_Me yX11_parents xX11_parents 2 := ⟨wd776, wd275, by decide, by decide, by decide +kernel⟩
theorem fitX11_parents_2 : z_Fit xX11_isRow xX11_parents := by unfold z_Fit; simp only [xX11_isRow, xX11_parents]; exact ⟨by decide, by decide⟩
theorem fitX11_parents_9 : z_Fit xX11_isOneOfTwo xX11_parents := by unfold z_Fit; simp only [xX11_isOneOfTwo, xX11_parents]; exact ⟨by decide, by decide⟩
theorem fitX11_parents_29 : z_Fit xX5_countParents xX11_parents := by unfold z_Fit; simp only [xX5_countParents, xX11_parents]; exact ⟨by decide, by decide⟩
theorem fitX11_parents_60 : z_Fit xX5_leastParents xX11_parents := by unfold z_Fit; simp only [xX5_leastParents, xX11_parents]; exact ⟨by decide, by decide⟩
noncomputable def kX11_parents_15 : zK zR := (q_push (-1) q_iret)
noncomputable def kX11_parents_63 : zK zR := q_iret
noncomputable def kX11_parents_0 : zK zR := (q_aload 0 (q_iload 1 (q_callV 11 fX11_isRow 1 (q_if_eq kX11_parents_15 (q_iload 2 (q_callS fX11_isOneOfTwo 1 (q_if_ne (q_aload 0 (q_getR 11 1 (q_getR 7 1 (q_aload 0 (q_getR 11 4 (q_iload 1 (q_callV 5 fX5_countParents 2 (q_istore 3 (q_iload 2 (q_if_ne (q_iload 3 (q_if_ne (q_aload 0 (q_getR 11 1 (q_getR 7 1 (q_aload 0 (q_getR 11 4 (q_iload 1 (q_callV 5 fX5_leastParents 2 kX11_parents_63))))))) (q_push (-2) kX11_parents_63))) (q_iload 3 q_iret))))))))))) kX11_parents_15)))))))
set_option maxRecDepth 100000 in
theorem tX11_parents_15 {l : Launch} {D : zD} {B sz0 : Nat} {post : Option Value → zS → Prop} : zSnd l D B xX11_parents sz0 post 15 kX11_parents_15 (z_Jr post) := (s_iconst dX11_parents_15 (by decide) (s_iret dX11_parents_16 rfl))
set_option maxRecDepth 100000 in
theorem tX11_parents_63 {l : Launch} {D : zD} {B sz0 : Nat} {post : Option Value → zS → Prop} : zSnd l D B xX11_parents sz0 post 63 kX11_parents_63 (z_Jr post) := (s_iret dX11_parents_63 rfl)
set_option maxRecDepth 100000 in
theorem tX11_parents_0 {l : Launch} {D : zD} {B sz0 : Nat} {post : Option Value → zS → Prop} : zSnd l D B xX11_parents sz0 post 0 kX11_parents_0 (z_Jr post) := (s_aload_n dX11_parents_0 rfl (s_iload_n dX11_parents_1 rfl (s_callV (r := (RX11, TX11, 13)) dX11_parents_2 mX11_isRow meX11_isRow wd655 wd656 rfl rfl reX11_isRow rmX11_parents (fitX11_parents_2) wd657 (s_if_eq (tgt := 15) dX11_parents_5 (by decide) tX11_parents_15 (s_iload_n dX11_parents_8 rfl (s_callS dX11_parents_9 mX11_isOneOfTwo meX11_isOneOfTwo wd681 rfl reX11_isOneOfTwo rmX11_parents (fitX11_parents_9) wd682 (s_if_ne (tgt := 17) dX11_parents_12 (by decide) (s_aload_n dX11_parents_17 rfl (s_getR (f := 1) dX11_parents_18 clX11 (by decide) rfl wd572 (s_getR (f := 1) dX11_parents_21 clX7 (by decide) rfl wd628 (s_aload_n dX11_parents_24 rfl (s_getR (f := 4) dX11_parents_25 clX11 (by decide) rfl wd576 (s_iload_n dX11_parents_28 rfl (s_callV (r := (RX5, TX5, 7)) dX11_parents_29 mX5_countParents meX5_countParents wd770 wd771 rfl rfl reX5_countParents rmX11_parents (fitX11_parents_29) wd772 (s_istore_n dX11_parents_32 rfl (s_iload_n dX11_parents_33 rfl (s_if_ne (tgt := 39) dX11_parents_34 (by decide) (s_iload_n dX11_parents_39 rfl (s_if_ne (tgt := 48) dX11_parents_40 (by decide) (s_aload_n dX11_parents_48 rfl (s_getR (f := 1) dX11_parents_49 clX11 (by decide) rfl wd572 (s_getR (f := 1) dX11_parents_52 clX7 (by decide) rfl wd628 (s_aload_n dX11_parents_55 rfl (s_getR (f := 4) dX11_parents_56 clX11 (by decide) rfl wd576 (s_iload_n dX11_parents_59 rfl (s_callV (r := (RX5, TX5, 7)) dX11_parents_60 mX5_leastParents meX5_leastParents wd773 wd774 rfl rfl reX5_leastParents rmX11_parents (fitX11_parents_60) wd775 tX11_parents_63))))))) (s_bipush dX11_parents_43 (by decide) (s_goto (tgt := 63) dX11_parents_45 (by decide) tX11_parents_63)))) (s_iload_n dX11_parents_37 rfl (s_iret dX11_parents_38 rfl)))))))))))) tX11_parents_15)))))))
noncomputable def fX11_parents : zF := z_fn 4 kX11_parents_0
theorem mX11_parents {l : Launch} {D : zD} {B : Nat} : z_MF l D B yX11_parents xX11_parents fX11_parents := z_mf (by decide) rfl (fun h => by cases h) rfl (fun as σ r h => ⟨z_fn_len h, kX11_parents_0, z_fn_run h, fun _ => tX11_parents_0⟩)
/-! ===== RowChildren.orphans ===== -/
theorem dX11_orphans_0 : decode cX11_orphans 0 = .ok (.iload_n 1, 1) := by decide +kernel
theorem dX11_orphans_1 : decode cX11_orphans 1 = .ok (.invokestatic 233, 3) := by decide +kernel
theorem dX11_orphans_4 : decode cX11_orphans 4 = .ok (.ifCond .eq 17, 3) := by decide +kernel
theorem dX11_orphans_7 : decode cX11_orphans 7 = .ok (.aload_n 0, 1) := by decide +kernel
theorem dX11_orphans_8 : decode cX11_orphans 8 = .ok (.getfield 19, 3) := by decide +kernel
theorem dX11_orphans_11 : decode cX11_orphans 11 = .ok (.getfield 124, 3) := by decide +kernel
theorem dX11_orphans_14 : decode cX11_orphans 14 = .ok (.iload_n 1, 1) := by decide +kernel
theorem dX11_orphans_15 : decode cX11_orphans 15 = .ok (.invokevirtual 268, 3) := by decide +kernel
theorem dX11_orphans_18 : decode cX11_orphans 18 = .ok (.goto 4, 3) := by decide +kernel
theorem dX11_orphans_21 : decode cX11_orphans 21 = .ok (.iconst (-1), 1) := by decide +kernel
theorem dX11_orphans_22 : decode cX11_orphans 22 = .ok (.ireturn, 1) := by decide +kernel
def xX11_orphans : zX := (RX11, cX11_orphans, 2, (some .int), false, { frames := 4, cells := 0, slots := 0, locals := 162 }, 0, 0, 0, 0)
theorem rmX11_orphans : z_Rm xX11_orphans := by unfold z_Rm xX11_orphans; exact ⟨by decide, by decide⟩
theorem reX11_orphans : z_Re xX11_orphans := ⟨rfl, rfl⟩
theorem rlX11_orphans : 1 ≤ xX11_orphans.2.2.2.2.2.1.frames ∧ 21 ≤ xX11_orphans.2.2.2.2.2.1.locals := by unfold xX11_orphans; exact ⟨by decide, by decide⟩
theorem meX11_orphans : z_Me yX11_orphans xX11_orphans 1 := ⟨wd780, wd275, by decide, by decide, by decide +kernel⟩
theorem fitX11_orphans_1 : z_Fit xX11_isRowLength xX11_orphans := by unfold z_Fit; simp only [xX11_isRowLength, xX11_orphans]; exact ⟨by decide, by decide⟩
theorem fitX11_orphans_15 : z_Fit xX5_countOrphans xX11_orphans := by unfold z_Fit; simp only [xX5_countOrphans, xX11_orphans]; exact ⟨by decide, by decide⟩
noncomputable def kX11_orphans_22 : zK zR := q_iret
noncomputable def kX11_orphans_0 : zK zR := (q_iload 1 (q_callS fX11_isRowLength 1 (q_if_eq (q_push (-1) kX11_orphans_22) (q_aload 0 (q_getR 11 1 (q_getR 7 1 (q_iload 1 (q_callV 5 fX5_countOrphans 1 kX11_orphans_22))))))))
set_option maxRecDepth 100000 in
theorem tX11_orphans_22 {l : Launch} {D : zD} {B sz0 : Nat} {post : Option Value → zS → Prop} : zSnd l D B xX11_orphans sz0 post 22 kX11_orphans_22 (z_Jr post) := (s_iret dX11_orphans_22 rfl)
set_option maxRecDepth 100000 in
theorem tX11_orphans_0 {l : Launch} {D : zD} {B sz0 : Nat} {post : Option Value → zS → Prop} : zSnd l D B xX11_orphans sz0 post 0 kX11_orphans_0 (z_Jr post) := (s_iload_n dX11_orphans_0 rfl (s_callS dX11_orphans_1 mX11_isRowLength meX11_isRowLength wd734 rfl reX11_isRowLength rmX11_orphans (fitX11_orphans_1) wd735 (s_if_eq (tgt := 21) dX11_orphans_4 (by decide) (s_iconst dX11_orphans_21 (by decide) tX11_orphans_22) (s_aload_n dX11_orphans_7 rfl (s_getR (f := 1) dX11_orphans_8 clX11 (by decide) rfl wd572 (s_getR (f := 1) dX11_orphans_11 clX7 (by decide) rfl wd628 (s_iload_n dX11_orphans_14 rfl (s_callV (r := (RX5, TX5, 7)) dX11_orphans_15 mX5_countOrphans meX5_countOrphans wd777 wd778 rfl rfl reX5_countOrphans rmX11_orphans (fitX11_orphans_15) wd779 (s_goto (tgt := 22) dX11_orphans_18 (by decide) tX11_orphans_22)))))))))
noncomputable def fX11_orphans : zF := z_fn 2 kX11_orphans_0
theorem mX11_orphans {l : Launch} {D : zD} {B : Nat} : z_MF l D B yX11_orphans xX11_orphans fX11_orphans := z_mf (by decide) rfl (fun h => by cases h) rfl (fun as σ r h => ⟨z_fn_len h, kX11_orphans_0, z_fn_run h, fun _ => tX11_orphans_0⟩)
