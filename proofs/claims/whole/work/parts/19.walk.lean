/-! ===== RowChildren.come ===== -/
theorem dX11_come_0 : decode cX11_come 0 = .ok (.aload_n 0, 1) := by decide +kernel
theorem dX11_come_1 : decode cX11_come 1 = .ok (.iload_n 1, 1) := by decide +kernel
theorem dX11_come_2 : decode cX11_come 2 = .ok (.invokevirtual 134, 3) := by decide +kernel
theorem dX11_come_5 : decode cX11_come 5 = .ok (.ifCond .eq 24, 3) := by decide +kernel
theorem dX11_come_8 : decode cX11_come 8 = .ok (.aload_n 0, 1) := by decide +kernel
theorem dX11_come_9 : decode cX11_come 9 = .ok (.iload_n 2, 1) := by decide +kernel
theorem dX11_come_10 : decode cX11_come 10 = .ok (.invokevirtual 120, 3) := by decide +kernel
theorem dX11_come_13 : decode cX11_come 13 = .ok (.ifCond .eq 16, 3) := by decide +kernel
theorem dX11_come_16 : decode cX11_come 16 = .ok (.aload_n 0, 1) := by decide +kernel
theorem dX11_come_17 : decode cX11_come 17 = .ok (.getfield 33, 3) := by decide +kernel
theorem dX11_come_20 : decode cX11_come 20 = .ok (.iload_n 1, 1) := by decide +kernel
theorem dX11_come_21 : decode cX11_come 21 = .ok (.invokevirtual 141, 3) := by decide +kernel
theorem dX11_come_24 : decode cX11_come 24 = .ok (.bipush 8, 2) := by decide +kernel
theorem dX11_come_26 : decode cX11_come 26 = .ok (.if_icmp .lt 5, 3) := by decide +kernel
theorem dX11_come_29 : decode cX11_come 29 = .ok (.iconst (-1), 1) := by decide +kernel
theorem dX11_come_30 : decode cX11_come 30 = .ok (.ireturn, 1) := by decide +kernel
theorem dX11_come_31 : decode cX11_come 31 = .ok (.aload_n 0, 1) := by decide +kernel
theorem dX11_come_32 : decode cX11_come 32 = .ok (.getfield 61, 3) := by decide +kernel
theorem dX11_come_35 : decode cX11_come 35 = .ok (.aload_n 0, 1) := by decide +kernel
theorem dX11_come_36 : decode cX11_come 36 = .ok (.getfield 33, 3) := by decide +kernel
theorem dX11_come_39 : decode cX11_come 39 = .ok (.invokevirtual 200, 3) := by decide +kernel
theorem dX11_come_42 : decode cX11_come 42 = .ok (.aload_n 0, 1) := by decide +kernel
theorem dX11_come_43 : decode cX11_come 43 = .ok (.getfield 33, 3) := by decide +kernel
theorem dX11_come_46 : decode cX11_come 46 = .ok (.iload_n 1, 1) := by decide +kernel
theorem dX11_come_47 : decode cX11_come 47 = .ok (.iload_n 2, 1) := by decide +kernel
theorem dX11_come_48 : decode cX11_come 48 = .ok (.invokevirtual 210, 3) := by decide +kernel
theorem dX11_come_51 : decode cX11_come 51 = .ok (.aload_n 0, 1) := by decide +kernel
theorem dX11_come_52 : decode cX11_come 52 = .ok (.getfield 33, 3) := by decide +kernel
theorem dX11_come_55 : decode cX11_come 55 = .ok (.iload_n 1, 1) := by decide +kernel
theorem dX11_come_56 : decode cX11_come 56 = .ok (.invokevirtual 141, 3) := by decide +kernel
theorem dX11_come_59 : decode cX11_come 59 = .ok (.ireturn, 1) := by decide +kernel
def xX11_come : zX := (RX11, cX11_come, 3, (some .int), false, { frames := 3, cells := 0, slots := 0, locals := 135 }, 0, 0, 0, 0)
theorem rmX11_come : z_Rm xX11_come := by unfold z_Rm xX11_come; exact ⟨by decide, by decide⟩
theorem reX11_come : z_Re xX11_come := ⟨rfl, rfl⟩
theorem rlX11_come : 1 ≤ xX11_come.2.2.2.2.2.1.frames ∧ 21 ≤ xX11_come.2.2.2.2.2.1.locals := by unfold xX11_come; exact ⟨by decide, by decide⟩
theorem meX11_come : z_Me yX11_come xX11_come 2 := ⟨wd657, wd275, by decide, by decide, by decide +kernel⟩
theorem fitX11_come_2 : z_Fit xX11_isRow xX11_come := by unfold z_Fit; simp only [xX11_isRow, xX11_come]; exact ⟨by decide, by decide⟩
theorem fitX11_come_10 : z_Fit xX11_isColour xX11_come := by unfold z_Fit; simp only [xX11_isColour, xX11_come]; exact ⟨by decide, by decide⟩
theorem fitX11_come_21 : z_Fit xX1_lengthOf xX11_come := by unfold z_Fit; simp only [xX1_lengthOf, xX11_come]; exact ⟨by decide, by decide⟩
theorem fitX11_come_39 : z_Fit xX3_remember xX11_come := by unfold z_Fit; simp only [xX3_remember, xX11_come]; exact ⟨by decide, by decide⟩
theorem fitX11_come_48 : z_Fit xX1_append xX11_come := by unfold z_Fit; simp only [xX1_append, xX11_come]; exact ⟨by decide, by decide⟩
theorem fitX11_come_56 : z_Fit xX1_lengthOf xX11_come := by unfold z_Fit; simp only [xX1_lengthOf, xX11_come]; exact ⟨by decide, by decide⟩
noncomputable def kX11_come_29 : zK zR := (q_push (-1) q_iret)
noncomputable def kX11_come_0 : zK zR := (q_aload 0 (q_iload 1 (q_callV 11 fX11_isRow 1 (q_if_eq kX11_come_29 (q_aload 0 (q_iload 2 (q_callV 11 fX11_isColour 1 (q_if_eq kX11_come_29 (q_aload 0 (q_getR 11 4 (q_iload 1 (q_callV 1 fX1_lengthOf 1 (q_push 8 (q_icmp_lt (q_aload 0 (q_getR 11 9 (q_aload 0 (q_getR 11 4 (q_callV 3 fX3_remember 1 (q_aload 0 (q_getR 11 4 (q_iload 1 (q_iload 2 (q_callV 1 fX1_append 2 (q_aload 0 (q_getR 11 4 (q_iload 1 (q_callV 1 fX1_lengthOf 1 q_iret)))))))))))))) kX11_come_29))))))))))))))
set_option maxRecDepth 100000 in
theorem tX11_come_29 {l : Launch} {D : zD} {B sz0 : Nat} {post : Option Value → zS → Prop} : zSnd l D B xX11_come sz0 post 29 kX11_come_29 (z_Jr post) := (s_iconst dX11_come_29 (by decide) (s_iret dX11_come_30 rfl))
set_option maxRecDepth 100000 in
theorem tX11_come_0 {l : Launch} {D : zD} {B sz0 : Nat} {post : Option Value → zS → Prop} : zSnd l D B xX11_come sz0 post 0 kX11_come_0 (z_Jr post) := (s_aload_n dX11_come_0 rfl (s_iload_n dX11_come_1 rfl (s_callV (r := (RX11, TX11, 13)) dX11_come_2 mX11_isRow meX11_isRow wd610 wd611 rfl rfl reX11_isRow rmX11_come (fitX11_come_2) wd612 (s_if_eq (tgt := 29) dX11_come_5 (by decide) tX11_come_29 (s_aload_n dX11_come_8 rfl (s_iload_n dX11_come_9 rfl (s_callV (r := (RX11, TX11, 13)) dX11_come_10 mX11_isColour meX11_isColour wd586 wd587 rfl rfl reX11_isColour rmX11_come (fitX11_come_10) wd588 (s_if_eq (tgt := 29) dX11_come_13 (by decide) tX11_come_29 (s_aload_n dX11_come_16 rfl (s_getR (f := 4) dX11_come_17 clX11 (by decide) rfl wd531 (s_iload_n dX11_come_20 rfl (s_callV (r := (RX1, TX1, 5)) dX11_come_21 mX1_lengthOf meX1_lengthOf wd65 wd66 rfl rfl reX1_lengthOf rmX11_come (fitX11_come_21) wd616 (s_bipush dX11_come_24 (by decide) (s_icmp_lt (tgt := 31) dX11_come_26 (by decide) (s_aload_n dX11_come_31 rfl (s_getR (f := 9) dX11_come_32 clX11 (by decide) rfl wd544 (s_aload_n dX11_come_35 rfl (s_getR (f := 4) dX11_come_36 clX11 (by decide) rfl wd531 (s_callV (r := (RX3, TX3, 5)) dX11_come_39 mX3_remember meX3_remember wd650 wd651 rfl rfl reX3_remember rmX11_come (fitX11_come_39) wd652 (s_aload_n dX11_come_42 rfl (s_getR (f := 4) dX11_come_43 clX11 (by decide) rfl wd531 (s_iload_n dX11_come_46 rfl (s_iload_n dX11_come_47 rfl (s_callV (r := (RX1, TX1, 5)) dX11_come_48 mX1_append meX1_append wd426 wd427 rfl rfl reX1_append rmX11_come (fitX11_come_48) wd656 (s_aload_n dX11_come_51 rfl (s_getR (f := 4) dX11_come_52 clX11 (by decide) rfl wd531 (s_iload_n dX11_come_55 rfl (s_callV (r := (RX1, TX1, 5)) dX11_come_56 mX1_lengthOf meX1_lengthOf wd65 wd66 rfl rfl reX1_lengthOf rmX11_come (fitX11_come_56) wd616 (s_iret dX11_come_59 rfl))))))))))))))) tX11_come_29))))))))))))))
noncomputable def fX11_come : zF := z_fn 3 kX11_come_0
theorem mX11_come {l : Launch} {D : zD} {B : Nat} : z_MF l D B yX11_come xX11_come fX11_come := z_mf (by decide) rfl (fun h => by cases h) rfl (fun as σ r h => ⟨z_fn_len h, kX11_come_0, z_fn_run h, fun _ => tX11_come_0⟩)
/-! ===== RowChildren.go ===== -/
theorem dX11_go_0 : decode cX11_go 0 = .ok (.aload_n 0, 1) := by decide +kernel
theorem dX11_go_1 : decode cX11_go 1 = .ok (.iload_n 1, 1) := by decide +kernel
theorem dX11_go_2 : decode cX11_go 2 = .ok (.invokevirtual 134, 3) := by decide +kernel
theorem dX11_go_5 : decode cX11_go 5 = .ok (.ifCond .eq 15, 3) := by decide +kernel
theorem dX11_go_8 : decode cX11_go 8 = .ok (.aload_n 0, 1) := by decide +kernel
theorem dX11_go_9 : decode cX11_go 9 = .ok (.getfield 33, 3) := by decide +kernel
theorem dX11_go_12 : decode cX11_go 12 = .ok (.iload_n 1, 1) := by decide +kernel
theorem dX11_go_13 : decode cX11_go 13 = .ok (.invokevirtual 141, 3) := by decide +kernel
theorem dX11_go_16 : decode cX11_go 16 = .ok (.iconst 1, 1) := by decide +kernel
theorem dX11_go_17 : decode cX11_go 17 = .ok (.if_icmp .gt 5, 3) := by decide +kernel
theorem dX11_go_20 : decode cX11_go 20 = .ok (.iconst (-1), 1) := by decide +kernel
theorem dX11_go_21 : decode cX11_go 21 = .ok (.ireturn, 1) := by decide +kernel
theorem dX11_go_22 : decode cX11_go 22 = .ok (.aload_n 0, 1) := by decide +kernel
theorem dX11_go_23 : decode cX11_go 23 = .ok (.getfield 61, 3) := by decide +kernel
theorem dX11_go_26 : decode cX11_go 26 = .ok (.aload_n 0, 1) := by decide +kernel
theorem dX11_go_27 : decode cX11_go 27 = .ok (.getfield 33, 3) := by decide +kernel
theorem dX11_go_30 : decode cX11_go 30 = .ok (.invokevirtual 200, 3) := by decide +kernel
theorem dX11_go_33 : decode cX11_go 33 = .ok (.aload_n 0, 1) := by decide +kernel
theorem dX11_go_34 : decode cX11_go 34 = .ok (.getfield 33, 3) := by decide +kernel
theorem dX11_go_37 : decode cX11_go 37 = .ok (.iload_n 1, 1) := by decide +kernel
theorem dX11_go_38 : decode cX11_go 38 = .ok (.aload_n 0, 1) := by decide +kernel
theorem dX11_go_39 : decode cX11_go 39 = .ok (.getfield 33, 3) := by decide +kernel
theorem dX11_go_42 : decode cX11_go 42 = .ok (.iload_n 1, 1) := by decide +kernel
theorem dX11_go_43 : decode cX11_go 43 = .ok (.invokevirtual 141, 3) := by decide +kernel
theorem dX11_go_46 : decode cX11_go 46 = .ok (.iconst 1, 1) := by decide +kernel
theorem dX11_go_47 : decode cX11_go 47 = .ok (.isub, 1) := by decide +kernel
theorem dX11_go_48 : decode cX11_go 48 = .ok (.invokevirtual 213, 3) := by decide +kernel
theorem dX11_go_51 : decode cX11_go 51 = .ok (.aload_n 0, 1) := by decide +kernel
theorem dX11_go_52 : decode cX11_go 52 = .ok (.getfield 33, 3) := by decide +kernel
theorem dX11_go_55 : decode cX11_go 55 = .ok (.iload_n 1, 1) := by decide +kernel
theorem dX11_go_56 : decode cX11_go 56 = .ok (.invokevirtual 141, 3) := by decide +kernel
theorem dX11_go_59 : decode cX11_go 59 = .ok (.ireturn, 1) := by decide +kernel
def xX11_go : zX := (RX11, cX11_go, 2, (some .int), false, { frames := 3, cells := 0, slots := 0, locals := 132 }, 0, 0, 0, 0)
theorem rmX11_go : z_Rm xX11_go := by unfold z_Rm xX11_go; exact ⟨by decide, by decide⟩
theorem reX11_go : z_Re xX11_go := ⟨rfl, rfl⟩
theorem rlX11_go : 1 ≤ xX11_go.2.2.2.2.2.1.frames ∧ 21 ≤ xX11_go.2.2.2.2.2.1.locals := by unfold xX11_go; exact ⟨by decide, by decide⟩
theorem meX11_go : z_Me yX11_go xX11_go 1 := ⟨wd659, wd275, by decide, by decide, by decide +kernel⟩
theorem fitX11_go_2 : z_Fit xX11_isRow xX11_go := by unfold z_Fit; simp only [xX11_isRow, xX11_go]; exact ⟨by decide, by decide⟩
theorem fitX11_go_13 : z_Fit xX1_lengthOf xX11_go := by unfold z_Fit; simp only [xX1_lengthOf, xX11_go]; exact ⟨by decide, by decide⟩
theorem fitX11_go_30 : z_Fit xX3_remember xX11_go := by unfold z_Fit; simp only [xX3_remember, xX11_go]; exact ⟨by decide, by decide⟩
theorem fitX11_go_43 : z_Fit xX1_lengthOf xX11_go := by unfold z_Fit; simp only [xX1_lengthOf, xX11_go]; exact ⟨by decide, by decide⟩
theorem fitX11_go_48 : z_Fit xX1_setLength xX11_go := by unfold z_Fit; simp only [xX1_setLength, xX11_go]; exact ⟨by decide, by decide⟩
theorem fitX11_go_56 : z_Fit xX1_lengthOf xX11_go := by unfold z_Fit; simp only [xX1_lengthOf, xX11_go]; exact ⟨by decide, by decide⟩
noncomputable def kX11_go_20 : zK zR := (q_push (-1) q_iret)
noncomputable def kX11_go_0 : zK zR := (q_aload 0 (q_iload 1 (q_callV 11 fX11_isRow 1 (q_if_eq kX11_go_20 (q_aload 0 (q_getR 11 4 (q_iload 1 (q_callV 1 fX1_lengthOf 1 (q_push 1 (q_icmp_gt (q_aload 0 (q_getR 11 9 (q_aload 0 (q_getR 11 4 (q_callV 3 fX3_remember 1 (q_aload 0 (q_getR 11 4 (q_iload 1 (q_aload 0 (q_getR 11 4 (q_iload 1 (q_callV 1 fX1_lengthOf 1 (q_push 1 (q_isub (q_callV 1 fX1_setLength 2 (q_aload 0 (q_getR 11 4 (q_iload 1 (q_callV 1 fX1_lengthOf 1 q_iret))))))))))))))))))) kX11_go_20))))))))))
set_option maxRecDepth 100000 in
theorem tX11_go_20 {l : Launch} {D : zD} {B sz0 : Nat} {post : Option Value → zS → Prop} : zSnd l D B xX11_go sz0 post 20 kX11_go_20 (z_Jr post) := (s_iconst dX11_go_20 (by decide) (s_iret dX11_go_21 rfl))
set_option maxRecDepth 100000 in
theorem tX11_go_0 {l : Launch} {D : zD} {B sz0 : Nat} {post : Option Value → zS → Prop} : zSnd l D B xX11_go sz0 post 0 kX11_go_0 (z_Jr post) := (s_aload_n dX11_go_0 rfl (s_iload_n dX11_go_1 rfl (s_callV (r := (RX11, TX11, 13)) dX11_go_2 mX11_isRow meX11_isRow wd610 wd611 rfl rfl reX11_isRow rmX11_go (fitX11_go_2) wd612 (s_if_eq (tgt := 20) dX11_go_5 (by decide) tX11_go_20 (s_aload_n dX11_go_8 rfl (s_getR (f := 4) dX11_go_9 clX11 (by decide) rfl wd531 (s_iload_n dX11_go_12 rfl (s_callV (r := (RX1, TX1, 5)) dX11_go_13 mX1_lengthOf meX1_lengthOf wd65 wd66 rfl rfl reX1_lengthOf rmX11_go (fitX11_go_13) wd616 (s_iconst dX11_go_16 (by decide) (s_icmp_gt (tgt := 22) dX11_go_17 (by decide) (s_aload_n dX11_go_22 rfl (s_getR (f := 9) dX11_go_23 clX11 (by decide) rfl wd544 (s_aload_n dX11_go_26 rfl (s_getR (f := 4) dX11_go_27 clX11 (by decide) rfl wd531 (s_callV (r := (RX3, TX3, 5)) dX11_go_30 mX3_remember meX3_remember wd650 wd651 rfl rfl reX3_remember rmX11_go (fitX11_go_30) wd652 (s_aload_n dX11_go_33 rfl (s_getR (f := 4) dX11_go_34 clX11 (by decide) rfl wd531 (s_iload_n dX11_go_37 rfl (s_aload_n dX11_go_38 rfl (s_getR (f := 4) dX11_go_39 clX11 (by decide) rfl wd531 (s_iload_n dX11_go_42 rfl (s_callV (r := (RX1, TX1, 5)) dX11_go_43 mX1_lengthOf meX1_lengthOf wd65 wd66 rfl rfl reX1_lengthOf rmX11_go (fitX11_go_43) wd616 (s_iconst dX11_go_46 (by decide) (s_isub dX11_go_47 (s_callV (r := (RX1, TX1, 5)) dX11_go_48 mX1_setLength meX1_setLength wd71 wd72 rfl rfl reX1_setLength rmX11_go (fitX11_go_48) wd658 (s_aload_n dX11_go_51 rfl (s_getR (f := 4) dX11_go_52 clX11 (by decide) rfl wd531 (s_iload_n dX11_go_55 rfl (s_callV (r := (RX1, TX1, 5)) dX11_go_56 mX1_lengthOf meX1_lengthOf wd65 wd66 rfl rfl reX1_lengthOf rmX11_go (fitX11_go_56) wd616 (s_iret dX11_go_59 rfl)))))))))))))))))))) tX11_go_20))))))))))
noncomputable def fX11_go : zF := z_fn 2 kX11_go_0
theorem mX11_go {l : Launch} {D : zD} {B : Nat} : z_MF l D B yX11_go xX11_go fX11_go := z_mf (by decide) rfl (fun h => by cases h) rfl (fun as σ r h => ⟨z_fn_len h, kX11_go_0, z_fn_run h, fun _ => tX11_go_0⟩)
/-! ===== RowChildren.isGenerations ===== -/
theorem dX11_isGenerations_0 : decode cX11_isGenerations 0 = .ok (.iload_n 0, 1) := by decide +kernel
theorem dX11_isGenerations_1 : decode cX11_isGenerations 1 = .ok (.ifCond .lt 13, 3) := by decide +kernel
theorem dX11_isGenerations_4 : decode cX11_isGenerations 4 = .ok (.iload_n 0, 1) := by decide +kernel
theorem dX11_isGenerations_5 : decode cX11_isGenerations 5 = .ok (.bipush 20, 2) := by decide +kernel
theorem dX11_isGenerations_7 : decode cX11_isGenerations 7 = .ok (.if_icmp .gt 7, 3) := by decide +kernel
theorem dX11_isGenerations_10 : decode cX11_isGenerations 10 = .ok (.iconst 1, 1) := by decide +kernel
theorem dX11_isGenerations_11 : decode cX11_isGenerations 11 = .ok (.goto 4, 3) := by decide +kernel
theorem dX11_isGenerations_14 : decode cX11_isGenerations 14 = .ok (.iconst 0, 1) := by decide +kernel
theorem dX11_isGenerations_15 : decode cX11_isGenerations 15 = .ok (.ireturn, 1) := by decide +kernel
def xX11_isGenerations : zX := (RX11, cX11_isGenerations, 1, (some .boolean), false, { frames := 1, cells := 0, slots := 0, locals := 90 }, 0, 0, 0, 0)
theorem rmX11_isGenerations : z_Rm xX11_isGenerations := by unfold z_Rm xX11_isGenerations; exact ⟨by decide, by decide⟩
theorem reX11_isGenerations : z_Re xX11_isGenerations := ⟨rfl, rfl⟩
theorem rlX11_isGenerations : 1 ≤ xX11_isGenerations.2.2.2.2.2.1.frames ∧ 21 ≤ xX11_isGenerations.2.2.2.2.2.1.locals := by unfold xX11_isGenerations; exact ⟨by decide, by decide⟩
theorem meX11_isGenerations : z_Me yX11_isGenerations xX11_isGenerations 1 := ⟨wd660, wd275, by decide, by decide, by decide +kernel⟩
noncomputable def kX11_isGenerations_15 : zK zR := q_zret
noncomputable def kX11_isGenerations_14 : zK zR := (q_push 0 kX11_isGenerations_15)
noncomputable def kX11_isGenerations_0 : zK zR := (q_iload 0 (q_if_lt kX11_isGenerations_14 (q_iload 0 (q_push 20 (q_icmp_gt kX11_isGenerations_14 (q_push 1 kX11_isGenerations_15))))))
set_option maxRecDepth 100000 in
theorem tX11_isGenerations_15 {l : Launch} {D : zD} {B sz0 : Nat} {post : Option Value → zS → Prop} : zSnd l D B xX11_isGenerations sz0 post 15 kX11_isGenerations_15 (z_Jr post) := (s_zret dX11_isGenerations_15 rfl)
set_option maxRecDepth 100000 in
theorem tX11_isGenerations_14 {l : Launch} {D : zD} {B sz0 : Nat} {post : Option Value → zS → Prop} : zSnd l D B xX11_isGenerations sz0 post 14 kX11_isGenerations_14 (z_Jr post) := (s_iconst dX11_isGenerations_14 (by decide) tX11_isGenerations_15)
set_option maxRecDepth 100000 in
theorem tX11_isGenerations_0 {l : Launch} {D : zD} {B sz0 : Nat} {post : Option Value → zS → Prop} : zSnd l D B xX11_isGenerations sz0 post 0 kX11_isGenerations_0 (z_Jr post) := (s_iload_n dX11_isGenerations_0 rfl (s_if_lt (tgt := 14) dX11_isGenerations_1 (by decide) tX11_isGenerations_14 (s_iload_n dX11_isGenerations_4 rfl (s_bipush dX11_isGenerations_5 (by decide) (s_icmp_gt (tgt := 14) dX11_isGenerations_7 (by decide) tX11_isGenerations_14 (s_iconst dX11_isGenerations_10 (by decide) (s_goto (tgt := 15) dX11_isGenerations_11 (by decide) tX11_isGenerations_15)))))))
noncomputable def fX11_isGenerations : zF := z_fn 1 kX11_isGenerations_0
theorem mX11_isGenerations {l : Launch} {D : zD} {B : Nat} : z_MF l D B yX11_isGenerations xX11_isGenerations fX11_isGenerations := z_mf (by decide) rfl (fun h => by cases h) rfl (fun as σ r h => ⟨z_fn_len h, kX11_isGenerations_0, z_fn_run h, fun _ => tX11_isGenerations_0⟩)
/-! ===== RowChildren.mixed ===== -/
theorem dX11_mixed_0 : decode cX11_mixed 0 = .ok (.iload_n 0, 1) := by decide +kernel
theorem dX11_mixed_1 : decode cX11_mixed 1 = .ok (.iload_n 1, 1) := by decide +kernel
theorem dX11_mixed_2 : decode cX11_mixed 2 = .ok (.ixor, 1) := by decide +kernel
theorem dX11_mixed_3 : decode cX11_mixed 3 = .ok (.ldc_w 402, 3) := by decide +kernel
theorem dX11_mixed_6 : decode cX11_mixed 6 = .ok (.imul, 1) := by decide +kernel
theorem dX11_mixed_7 : decode cX11_mixed 7 = .ok (.sipush 12345, 3) := by decide +kernel
theorem dX11_mixed_10 : decode cX11_mixed 10 = .ok (.iadd, 1) := by decide +kernel
theorem dX11_mixed_11 : decode cX11_mixed 11 = .ok (.istore_n 2, 1) := by decide +kernel
theorem dX11_mixed_12 : decode cX11_mixed 12 = .ok (.iload_n 2, 1) := by decide +kernel
theorem dX11_mixed_13 : decode cX11_mixed 13 = .ok (.iload_n 2, 1) := by decide +kernel
theorem dX11_mixed_14 : decode cX11_mixed 14 = .ok (.bipush 15, 2) := by decide +kernel
theorem dX11_mixed_16 : decode cX11_mixed 16 = .ok (.iushr, 1) := by decide +kernel
theorem dX11_mixed_17 : decode cX11_mixed 17 = .ok (.ixor, 1) := by decide +kernel
theorem dX11_mixed_18 : decode cX11_mixed 18 = .ok (.ireturn, 1) := by decide +kernel
def xX11_mixed : zX := (RX11, cX11_mixed, 3, (some .int), false, { frames := 1, cells := 0, slots := 0, locals := 90 }, 0, 0, 0, 0)
theorem rmX11_mixed : z_Rm xX11_mixed := by unfold z_Rm xX11_mixed; exact ⟨by decide, by decide⟩
theorem reX11_mixed : z_Re xX11_mixed := ⟨rfl, rfl⟩
theorem rlX11_mixed : 1 ≤ xX11_mixed.2.2.2.2.2.1.frames ∧ 21 ≤ xX11_mixed.2.2.2.2.2.1.locals := by unfold xX11_mixed; exact ⟨by decide, by decide⟩
theorem meX11_mixed : z_Me yX11_mixed xX11_mixed 2 := ⟨wd662, wd275, by decide, by decide, by decide +kernel⟩
noncomputable def kX11_mixed_0 : zK zR := (q_iload 0 (q_iload 1 (q_ixor (q_push 1103515245 (q_imul (q_push 12345 (q_iadd (q_istore 2 (q_iload 2 (q_iload 2 (q_push 15 (q_iushr (q_ixor q_iret)))))))))))))
set_option maxRecDepth 100000 in
theorem tX11_mixed_0 {l : Launch} {D : zD} {B sz0 : Nat} {post : Option Value → zS → Prop} : zSnd l D B xX11_mixed sz0 post 0 kX11_mixed_0 (z_Jr post) := (s_iload_n dX11_mixed_0 rfl (s_iload_n dX11_mixed_1 rfl (s_ixor dX11_mixed_2 (s_ldcw dX11_mixed_3 wd661 (s_imul dX11_mixed_6 (s_sipush dX11_mixed_7 (by decide) (s_iadd dX11_mixed_10 (s_istore_n dX11_mixed_11 rfl (s_iload_n dX11_mixed_12 rfl (s_iload_n dX11_mixed_13 rfl (s_bipush dX11_mixed_14 (by decide) (s_iushr dX11_mixed_16 (s_ixor dX11_mixed_17 (s_iret dX11_mixed_18 rfl))))))))))))))
noncomputable def fX11_mixed : zF := z_fn 3 kX11_mixed_0
theorem mX11_mixed {l : Launch} {D : zD} {B : Nat} : z_MF l D B yX11_mixed xX11_mixed fX11_mixed := z_mf (by decide) rfl (fun h => by cases h) rfl (fun as σ r h => ⟨z_fn_len h, kX11_mixed_0, z_fn_run h, fun _ => tX11_mixed_0⟩)
/-! ===== RowChildren.lotOfHundred ===== -/
theorem dX11_lotOfHundred_0 : decode cX11_lotOfHundred 0 = .ok (.iload_n 0, 1) := by decide +kernel
theorem dX11_lotOfHundred_1 : decode cX11_lotOfHundred 1 = .ok (.sipush 213, 3) := by decide +kernel
theorem dX11_lotOfHundred_4 : decode cX11_lotOfHundred 4 = .ok (.invokestatic 399, 3) := by decide +kernel
theorem dX11_lotOfHundred_7 : decode cX11_lotOfHundred 7 = .ok (.iload_n 1, 1) := by decide +kernel
theorem dX11_lotOfHundred_8 : decode cX11_lotOfHundred 8 = .ok (.invokestatic 399, 3) := by decide +kernel
theorem dX11_lotOfHundred_11 : decode cX11_lotOfHundred 11 = .ok (.iconst 1, 1) := by decide +kernel
theorem dX11_lotOfHundred_12 : decode cX11_lotOfHundred 12 = .ok (.iushr, 1) := by decide +kernel
theorem dX11_lotOfHundred_13 : decode cX11_lotOfHundred 13 = .ok (.bipush 100, 2) := by decide +kernel
theorem dX11_lotOfHundred_15 : decode cX11_lotOfHundred 15 = .ok (.irem, 1) := by decide +kernel
theorem dX11_lotOfHundred_16 : decode cX11_lotOfHundred 16 = .ok (.ireturn, 1) := by decide +kernel
def xX11_lotOfHundred : zX := (RX11, cX11_lotOfHundred, 2, (some .int), false, { frames := 2, cells := 0, slots := 0, locals := 112 }, 0, 0, 0, 0)
theorem rmX11_lotOfHundred : z_Rm xX11_lotOfHundred := by unfold z_Rm xX11_lotOfHundred; exact ⟨by decide, by decide⟩
theorem reX11_lotOfHundred : z_Re xX11_lotOfHundred := ⟨rfl, rfl⟩
theorem rlX11_lotOfHundred : 1 ≤ xX11_lotOfHundred.2.2.2.2.2.1.frames ∧ 21 ≤ xX11_lotOfHundred.2.2.2.2.2.1.locals := by unfold xX11_lotOfHundred; exact ⟨by decide, by decide⟩
theorem meX11_lotOfHundred : z_Me yX11_lotOfHundred xX11_lotOfHundred 2 := ⟨wd665, wd275, by decide, by decide, by decide +kernel⟩
theorem fitX11_lotOfHundred_4 : z_Fit xX11_mixed xX11_lotOfHundred := by unfold z_Fit; simp only [xX11_mixed, xX11_lotOfHundred]; exact ⟨by decide, by decide⟩
theorem fitX11_lotOfHundred_8 : z_Fit xX11_mixed xX11_lotOfHundred := by unfold z_Fit; simp only [xX11_mixed, xX11_lotOfHundred]; exact ⟨by decide, by decide⟩
noncomputable def kX11_lotOfHundred_0 : zK zR := (q_iload 0 (q_push 213 (q_callS fX11_mixed 2 (q_iload 1 (q_callS fX11_mixed 2 (q_push 1 (q_iushr (q_push 100 (q_irem q_iret)))))))))
set_option maxRecDepth 100000 in
theorem tX11_lotOfHundred_0 {l : Launch} {D : zD} {B sz0 : Nat} {post : Option Value → zS → Prop} : zSnd l D B xX11_lotOfHundred sz0 post 0 kX11_lotOfHundred_0 (z_Jr post) := (s_iload_n dX11_lotOfHundred_0 rfl (s_sipush dX11_lotOfHundred_1 (by decide) (s_callS dX11_lotOfHundred_4 mX11_mixed meX11_mixed wd663 rfl reX11_mixed rmX11_lotOfHundred (fitX11_lotOfHundred_4) wd664 (s_iload_n dX11_lotOfHundred_7 rfl (s_callS dX11_lotOfHundred_8 mX11_mixed meX11_mixed wd663 rfl reX11_mixed rmX11_lotOfHundred (fitX11_lotOfHundred_8) wd664 (s_iconst dX11_lotOfHundred_11 (by decide) (s_iushr dX11_lotOfHundred_12 (s_bipush dX11_lotOfHundred_13 (by decide) (s_irem dX11_lotOfHundred_15 (s_iret dX11_lotOfHundred_16 rfl))))))))))
noncomputable def fX11_lotOfHundred : zF := z_fn 2 kX11_lotOfHundred_0
theorem mX11_lotOfHundred {l : Launch} {D : zD} {B : Nat} : z_MF l D B yX11_lotOfHundred xX11_lotOfHundred fX11_lotOfHundred := z_mf (by decide) rfl (fun h => by cases h) rfl (fun as σ r h => ⟨z_fn_len h, kX11_lotOfHundred_0, z_fn_run h, fun _ => tX11_lotOfHundred_0⟩)
/-! ===== RowChildren.bearChildren ===== -/
theorem dX11_bearChildren_0 : decode cX11_bearChildren 0 = .ok (.aload_n 1, 1) := by decide +kernel
theorem dX11_bearChildren_1 : decode cX11_bearChildren 1 = .ok (.iload_n 2, 1) := by decide +kernel
theorem dX11_bearChildren_2 : decode cX11_bearChildren 2 = .ok (.invokevirtual 141, 3) := by decide +kernel
theorem dX11_bearChildren_5 : decode cX11_bearChildren 5 = .ok (.iconst 1, 1) := by decide +kernel
theorem dX11_bearChildren_6 : decode cX11_bearChildren 6 = .ok (.isub, 1) := by decide +kernel
theorem dX11_bearChildren_7 : decode cX11_bearChildren 7 = .ok (.istore 4, 2) := by decide +kernel
theorem dX11_bearChildren_9 : decode cX11_bearChildren 9 = .ok (.iconst 0, 1) := by decide +kernel
theorem dX11_bearChildren_10 : decode cX11_bearChildren 10 = .ok (.istore 5, 2) := by decide +kernel
theorem dX11_bearChildren_12 : decode cX11_bearChildren 12 = .ok (.iload 5, 2) := by decide +kernel
theorem dX11_bearChildren_14 : decode cX11_bearChildren 14 = .ok (.iload 4, 2) := by decide +kernel
theorem dX11_bearChildren_16 : decode cX11_bearChildren 16 = .ok (.if_icmp .ge 153, 3) := by decide +kernel
theorem dX11_bearChildren_19 : decode cX11_bearChildren 19 = .ok (.aload_n 1, 1) := by decide +kernel
theorem dX11_bearChildren_20 : decode cX11_bearChildren 20 = .ok (.iload_n 2, 1) := by decide +kernel
theorem dX11_bearChildren_21 : decode cX11_bearChildren 21 = .ok (.iload 5, 2) := by decide +kernel
theorem dX11_bearChildren_23 : decode cX11_bearChildren 23 = .ok (.invokevirtual 318, 3) := by decide +kernel
theorem dX11_bearChildren_26 : decode cX11_bearChildren 26 = .ok (.istore 6, 2) := by decide +kernel
theorem dX11_bearChildren_28 : decode cX11_bearChildren 28 = .ok (.aload_n 1, 1) := by decide +kernel
theorem dX11_bearChildren_29 : decode cX11_bearChildren 29 = .ok (.iload_n 2, 1) := by decide +kernel
theorem dX11_bearChildren_30 : decode cX11_bearChildren 30 = .ok (.iload 5, 2) := by decide +kernel
theorem dX11_bearChildren_32 : decode cX11_bearChildren 32 = .ok (.iconst 1, 1) := by decide +kernel
theorem dX11_bearChildren_33 : decode cX11_bearChildren 33 = .ok (.iadd, 1) := by decide +kernel
theorem dX11_bearChildren_34 : decode cX11_bearChildren 34 = .ok (.invokevirtual 318, 3) := by decide +kernel
theorem dX11_bearChildren_37 : decode cX11_bearChildren 37 = .ok (.istore 7, 2) := by decide +kernel
theorem dX11_bearChildren_39 : decode cX11_bearChildren 39 = .ok (.aload_n 0, 1) := by decide +kernel
theorem dX11_bearChildren_40 : decode cX11_bearChildren 40 = .ok (.getfield 19, 3) := by decide +kernel
theorem dX11_bearChildren_43 : decode cX11_bearChildren 43 = .ok (.getfield 124, 3) := by decide +kernel
theorem dX11_bearChildren_46 : decode cX11_bearChildren 46 = .ok (.iload 6, 2) := by decide +kernel
theorem dX11_bearChildren_48 : decode cX11_bearChildren 48 = .ok (.iload 7, 2) := by decide +kernel
theorem dX11_bearChildren_50 : decode cX11_bearChildren 50 = .ok (.invokevirtual 128, 3) := by decide +kernel
theorem dX11_bearChildren_53 : decode cX11_bearChildren 53 = .ok (.istore 8, 2) := by decide +kernel
theorem dX11_bearChildren_55 : decode cX11_bearChildren 55 = .ok (.aload_n 0, 1) := by decide +kernel
theorem dX11_bearChildren_56 : decode cX11_bearChildren 56 = .ok (.getfield 47, 3) := by decide +kernel
theorem dX11_bearChildren_59 : decode cX11_bearChildren 59 = .ok (.aload_n 1, 1) := by decide +kernel
theorem dX11_bearChildren_60 : decode cX11_bearChildren 60 = .ok (.iload_n 2, 1) := by decide +kernel
theorem dX11_bearChildren_61 : decode cX11_bearChildren 61 = .ok (.iload 8, 2) := by decide +kernel
theorem dX11_bearChildren_63 : decode cX11_bearChildren 63 = .ok (.invokevirtual 377, 3) := by decide +kernel
theorem dX11_bearChildren_66 : decode cX11_bearChildren 66 = .ok (.aload_n 0, 1) := by decide +kernel
theorem dX11_bearChildren_67 : decode cX11_bearChildren 67 = .ok (.getfield 47, 3) := by decide +kernel
theorem dX11_bearChildren_70 : decode cX11_bearChildren 70 = .ok (.iconst 1, 1) := by decide +kernel
theorem dX11_bearChildren_71 : decode cX11_bearChildren 71 = .ok (.iload 5, 2) := by decide +kernel
theorem dX11_bearChildren_73 : decode cX11_bearChildren 73 = .ok (.invokevirtual 380, 3) := by decide +kernel
theorem dX11_bearChildren_76 : decode cX11_bearChildren 76 = .ok (.aload_n 0, 1) := by decide +kernel
theorem dX11_bearChildren_77 : decode cX11_bearChildren 77 = .ok (.getfield 47, 3) := by decide +kernel
theorem dX11_bearChildren_80 : decode cX11_bearChildren 80 = .ok (.iload 6, 2) := by decide +kernel
theorem dX11_bearChildren_82 : decode cX11_bearChildren 82 = .ok (.iload 7, 2) := by decide +kernel
theorem dX11_bearChildren_84 : decode cX11_bearChildren 84 = .ok (.invokevirtual 383, 3) := by decide +kernel
theorem dX11_bearChildren_87 : decode cX11_bearChildren 87 = .ok (.aload_n 0, 1) := by decide +kernel
theorem dX11_bearChildren_88 : decode cX11_bearChildren 88 = .ok (.getfield 47, 3) := by decide +kernel
theorem dX11_bearChildren_91 : decode cX11_bearChildren 91 = .ok (.aload_n 0, 1) := by decide +kernel
theorem dX11_bearChildren_92 : decode cX11_bearChildren 92 = .ok (.getfield 19, 3) := by decide +kernel
theorem dX11_bearChildren_95 : decode cX11_bearChildren 95 = .ok (.iconst 2, 1) := by decide +kernel
theorem dX11_bearChildren_96 : decode cX11_bearChildren 96 = .ok (.bipush 100, 2) := by decide +kernel
theorem dX11_bearChildren_98 : decode cX11_bearChildren 98 = .ok (.invokevirtual 386, 3) := by decide +kernel
theorem dX11_bearChildren_101 : decode cX11_bearChildren 101 = .ok (.istore 9, 2) := by decide +kernel
theorem dX11_bearChildren_103 : decode cX11_bearChildren 103 = .ok (.iload_n 3, 1) := by decide +kernel
theorem dX11_bearChildren_104 : decode cX11_bearChildren 104 = .ok (.bipush 64, 2) := by decide +kernel
theorem dX11_bearChildren_106 : decode cX11_bearChildren 106 = .ok (.aload_n 1, 1) := by decide +kernel
theorem dX11_bearChildren_107 : decode cX11_bearChildren 107 = .ok (.getfield 226, 3) := by decide +kernel
theorem dX11_bearChildren_110 : decode cX11_bearChildren 110 = .ok (.imul, 1) := by decide +kernel
theorem dX11_bearChildren_111 : decode cX11_bearChildren 111 = .ok (.bipush 16, 2) := by decide +kernel
theorem dX11_bearChildren_113 : decode cX11_bearChildren 113 = .ok (.iload_n 2, 1) := by decide +kernel
theorem dX11_bearChildren_114 : decode cX11_bearChildren 114 = .ok (.imul, 1) := by decide +kernel
theorem dX11_bearChildren_115 : decode cX11_bearChildren 115 = .ok (.iadd, 1) := by decide +kernel
theorem dX11_bearChildren_116 : decode cX11_bearChildren 116 = .ok (.iload 5, 2) := by decide +kernel
theorem dX11_bearChildren_118 : decode cX11_bearChildren 118 = .ok (.iadd, 1) := by decide +kernel
theorem dX11_bearChildren_119 : decode cX11_bearChildren 119 = .ok (.invokestatic 393, 3) := by decide +kernel
theorem dX11_bearChildren_122 : decode cX11_bearChildren 122 = .ok (.iload 9, 2) := by decide +kernel
theorem dX11_bearChildren_124 : decode cX11_bearChildren 124 = .ok (.if_icmp .ge 7, 3) := by decide +kernel
theorem dX11_bearChildren_127 : decode cX11_bearChildren 127 = .ok (.iconst 1, 1) := by decide +kernel
theorem dX11_bearChildren_128 : decode cX11_bearChildren 128 = .ok (.goto 4, 3) := by decide +kernel
theorem dX11_bearChildren_131 : decode cX11_bearChildren 131 = .ok (.iconst 0, 1) := by decide +kernel
theorem dX11_bearChildren_132 : decode cX11_bearChildren 132 = .ok (.istore 10, 2) := by decide +kernel
theorem dX11_bearChildren_134 : decode cX11_bearChildren 134 = .ok (.aload_n 0, 1) := by decide +kernel
theorem dX11_bearChildren_135 : decode cX11_bearChildren 135 = .ok (.getfield 40, 3) := by decide +kernel
theorem dX11_bearChildren_138 : decode cX11_bearChildren 138 = .ok (.iload 5, 2) := by decide +kernel
theorem dX11_bearChildren_140 : decode cX11_bearChildren 140 = .ok (.iload 10, 2) := by decide +kernel
theorem dX11_bearChildren_142 : decode cX11_bearChildren 142 = .ok (.ifCond .eq 18, 3) := by decide +kernel
theorem dX11_bearChildren_145 : decode cX11_bearChildren 145 = .ok (.aload_n 0, 1) := by decide +kernel
theorem dX11_bearChildren_146 : decode cX11_bearChildren 146 = .ok (.getfield 19, 3) := by decide +kernel
theorem dX11_bearChildren_149 : decode cX11_bearChildren 149 = .ok (.getfield 124, 3) := by decide +kernel
theorem dX11_bearChildren_152 : decode cX11_bearChildren 152 = .ok (.iload 8, 2) := by decide +kernel
theorem dX11_bearChildren_154 : decode cX11_bearChildren 154 = .ok (.invokevirtual 396, 3) := by decide +kernel
theorem dX11_bearChildren_157 : decode cX11_bearChildren 157 = .ok (.goto 5, 3) := by decide +kernel
theorem dX11_bearChildren_160 : decode cX11_bearChildren 160 = .ok (.iload 8, 2) := by decide +kernel
theorem dX11_bearChildren_162 : decode cX11_bearChildren 162 = .ok (.iastore, 1) := by decide +kernel
theorem dX11_bearChildren_163 : decode cX11_bearChildren 163 = .ok (.iinc 5 1, 3) := by decide +kernel
theorem dX11_bearChildren_166 : decode cX11_bearChildren 166 = .ok (.goto (-154), 3) := by decide +kernel
theorem dX11_bearChildren_169 : decode cX11_bearChildren 169 = .ok (.iconst 0, 1) := by decide +kernel
theorem dX11_bearChildren_170 : decode cX11_bearChildren 170 = .ok (.istore 5, 2) := by decide +kernel
theorem dX11_bearChildren_172 : decode cX11_bearChildren 172 = .ok (.iload 5, 2) := by decide +kernel
theorem dX11_bearChildren_174 : decode cX11_bearChildren 174 = .ok (.iload 4, 2) := by decide +kernel
theorem dX11_bearChildren_176 : decode cX11_bearChildren 176 = .ok (.if_icmp .ge 23, 3) := by decide +kernel
theorem dX11_bearChildren_179 : decode cX11_bearChildren 179 = .ok (.aload_n 1, 1) := by decide +kernel
theorem dX11_bearChildren_180 : decode cX11_bearChildren 180 = .ok (.iload_n 2, 1) := by decide +kernel
theorem dX11_bearChildren_181 : decode cX11_bearChildren 181 = .ok (.iload 5, 2) := by decide +kernel
theorem dX11_bearChildren_183 : decode cX11_bearChildren 183 = .ok (.aload_n 0, 1) := by decide +kernel
theorem dX11_bearChildren_184 : decode cX11_bearChildren 184 = .ok (.getfield 40, 3) := by decide +kernel
theorem dX11_bearChildren_187 : decode cX11_bearChildren 187 = .ok (.iload 5, 2) := by decide +kernel
theorem dX11_bearChildren_189 : decode cX11_bearChildren 189 = .ok (.iaload, 1) := by decide +kernel
theorem dX11_bearChildren_190 : decode cX11_bearChildren 190 = .ok (.invokevirtual 206, 3) := by decide +kernel
theorem dX11_bearChildren_193 : decode cX11_bearChildren 193 = .ok (.iinc 5 1, 3) := by decide +kernel
theorem dX11_bearChildren_196 : decode cX11_bearChildren 196 = .ok (.goto (-24), 3) := by decide +kernel
theorem dX11_bearChildren_199 : decode cX11_bearChildren 199 = .ok (.iload 4, 2) := by decide +kernel
theorem dX11_bearChildren_201 : decode cX11_bearChildren 201 = .ok (.iconst 1, 1) := by decide +kernel
theorem dX11_bearChildren_202 : decode cX11_bearChildren 202 = .ok (.if_icmp .lt 10, 3) := by decide +kernel
theorem dX11_bearChildren_205 : decode cX11_bearChildren 205 = .ok (.aload_n 1, 1) := by decide +kernel
theorem dX11_bearChildren_206 : decode cX11_bearChildren 206 = .ok (.iload_n 2, 1) := by decide +kernel
theorem dX11_bearChildren_207 : decode cX11_bearChildren 207 = .ok (.iload 4, 2) := by decide +kernel
theorem dX11_bearChildren_209 : decode cX11_bearChildren 209 = .ok (.invokevirtual 213, 3) := by decide +kernel
theorem dX11_bearChildren_212 : decode cX11_bearChildren 212 = .ok (.return_, 1) := by decide +kernel
def xX11_bearChildren : zX := (RX11, cX11_bearChildren, 11, none, false, { frames := 21, cells := 0, slots := 0, locals := 598 }, 0, 0, 0, 0)
theorem rmX11_bearChildren : z_Rm xX11_bearChildren := by unfold z_Rm xX11_bearChildren; exact ⟨by decide, by decide⟩
theorem reX11_bearChildren : z_Re xX11_bearChildren := ⟨rfl, rfl⟩
theorem rlX11_bearChildren : 1 ≤ xX11_bearChildren.2.2.2.2.2.1.frames ∧ 21 ≤ xX11_bearChildren.2.2.2.2.2.1.locals := by unfold xX11_bearChildren; exact ⟨by decide, by decide⟩
theorem meX11_bearChildren : z_Me yX11_bearChildren xX11_bearChildren 3 := ⟨wd672, wd275, by decide, by decide, by decide +kernel⟩
theorem fitX11_bearChildren_2 : z_Fit xX1_lengthOf xX11_bearChildren := by unfold z_Fit; simp only [xX1_lengthOf, xX11_bearChildren]; exact ⟨by decide, by decide⟩
theorem fitX11_bearChildren_209 : z_Fit xX1_setLength xX11_bearChildren := by unfold z_Fit; simp only [xX1_setLength, xX11_bearChildren]; exact ⟨by decide, by decide⟩
theorem fitX11_bearChildren_190 : z_Fit xX1_setColour xX11_bearChildren := by unfold z_Fit; simp only [xX1_setColour, xX11_bearChildren]; exact ⟨by decide, by decide⟩
theorem fitX11_bearChildren_23 : z_Fit xX1_colourAt xX11_bearChildren := by unfold z_Fit; simp only [xX1_colourAt, xX11_bearChildren]; exact ⟨by decide, by decide⟩
theorem fitX11_bearChildren_34 : z_Fit xX1_colourAt xX11_bearChildren := by unfold z_Fit; simp only [xX1_colourAt, xX11_bearChildren]; exact ⟨by decide, by decide⟩
theorem fitX11_bearChildren_50 : z_Fit xX5_childOf xX11_bearChildren := by unfold z_Fit; simp only [xX5_childOf, xX11_bearChildren]; exact ⟨by decide, by decide⟩
theorem fitX11_bearChildren_63 : z_Fit xX2_standOn xX11_bearChildren := by unfold z_Fit; simp only [xX2_standOn, xX11_bearChildren]; exact ⟨by decide, by decide⟩
theorem fitX11_bearChildren_73 : z_Fit xX2_standAt xX11_bearChildren := by unfold z_Fit; simp only [xX2_standAt, xX11_bearChildren]; exact ⟨by decide, by decide⟩
theorem fitX11_bearChildren_84 : z_Fit xX2_haveParents xX11_bearChildren := by unfold z_Fit; simp only [xX2_haveParents, xX11_bearChildren]; exact ⟨by decide, by decide⟩
theorem fitX11_bearChildren_98 : z_Fit xX2_held xX11_bearChildren := by unfold z_Fit; simp only [xX2_held, xX11_bearChildren]; exact ⟨by decide, by decide⟩
theorem fitX11_bearChildren_119 : z_Fit xX11_lotOfHundred xX11_bearChildren := by unfold z_Fit; simp only [xX11_lotOfHundred, xX11_bearChildren]; exact ⟨by decide, by decide⟩
theorem fitX11_bearChildren_154 : z_Fit xX5_nextColour xX11_bearChildren := by unfold z_Fit; simp only [xX5_nextColour, xX11_bearChildren]; exact ⟨by decide, by decide⟩
noncomputable def kX11_bearChildren_212 : zK zR := q_vret
noncomputable def kX11_bearChildren_199 : zK zR := (q_iload 4 (q_push 1 (q_icmp_lt kX11_bearChildren_212 (q_aload 1 (q_iload 2 (q_iload 4 (q_callV 1 fX1_setLength 2 kX11_bearChildren_212)))))))
noncomputable def bX11_bearChildren_172 : zK ((zL × zS) ⊕ zR) := (q_iload 5 (q_iload 4 (q_icmp_ge (q_dn kX11_bearChildren_199) (q_aload 1 (q_iload 2 (q_iload 5 (q_aload 0 (q_getR 11 6 (q_iload 5 (q_iald (q_callV 1 fX1_setColour 3 (q_iinc 5 1 q_ag))))))))))))
noncomputable def kX11_bearChildren_172 : zK zR := q_lp (bX11_bearChildren_172)
noncomputable def kX11_bearChildren_169 : zK zR := (q_push 0 (q_istore 5 kX11_bearChildren_172))
noncomputable def kX11_bearChildren_162 : zK ((zL × zS) ⊕ zR) := (q_iast (q_iinc 5 1 q_ag))
noncomputable def kX11_bearChildren_132 : zK ((zL × zS) ⊕ zR) := (q_istore 10 (q_aload 0 (q_getR 11 6 (q_iload 5 (q_iload 10 (q_if_eq (q_iload 8 kX11_bearChildren_162) (q_aload 0 (q_getR 11 1 (q_getR 7 1 (q_iload 8 (q_callV 5 fX5_nextColour 1 kX11_bearChildren_162)))))))))))
noncomputable def bX11_bearChildren_12 : zK ((zL × zS) ⊕ zR) := (q_iload 5 (q_iload 4 (q_icmp_ge (q_dn kX11_bearChildren_169) (q_aload 1 (q_iload 2 (q_iload 5 (q_callV 1 fX1_colourAt 2 (q_istore 6 (q_aload 1 (q_iload 2 (q_iload 5 (q_push 1 (q_iadd (q_callV 1 fX1_colourAt 2 (q_istore 7 (q_aload 0 (q_getR 11 1 (q_getR 7 1 (q_iload 6 (q_iload 7 (q_callV 5 fX5_childOf 2 (q_istore 8 (q_aload 0 (q_getR 11 7 (q_aload 1 (q_iload 2 (q_iload 8 (q_callV 2 fX2_standOn 3 (q_aload 0 (q_getR 11 7 (q_push 1 (q_iload 5 (q_callV 2 fX2_standAt 2 (q_aload 0 (q_getR 11 7 (q_iload 6 (q_iload 7 (q_callV 2 fX2_haveParents 2 (q_aload 0 (q_getR 11 7 (q_aload 0 (q_getR 11 1 (q_push 2 (q_push 100 (q_callV 2 fX2_held 3 (q_istore 9 (q_iload 3 (q_push 64 (q_aload 1 (q_getI 1 1 (q_imul (q_push 16 (q_iload 2 (q_imul (q_iadd (q_iload 5 (q_iadd (q_callS fX11_lotOfHundred 2 (q_iload 9 (q_icmp_ge (q_push 0 kX11_bearChildren_132) (q_push 1 kX11_bearChildren_132)))))))))))))))))))))))))))))))))))))))))))))))))))))))))))))
noncomputable def kX11_bearChildren_12 : zK zR := q_lp (bX11_bearChildren_12)
noncomputable def kX11_bearChildren_0 : zK zR := (q_aload 1 (q_iload 2 (q_callV 1 fX1_lengthOf 1 (q_push 1 (q_isub (q_istore 4 (q_push 0 (q_istore 5 kX11_bearChildren_12))))))))
set_option maxRecDepth 100000 in
theorem tX11_bearChildren_212 {l : Launch} {D : zD} {B sz0 : Nat} {post : Option Value → zS → Prop} : zSnd l D B xX11_bearChildren sz0 post 212 kX11_bearChildren_212 (z_Jr post) := (s_vret dX11_bearChildren_212 rfl)
set_option maxRecDepth 100000 in
theorem tX11_bearChildren_199 {l : Launch} {D : zD} {B sz0 : Nat} {post : Option Value → zS → Prop} : zSnd l D B xX11_bearChildren sz0 post 199 kX11_bearChildren_199 (z_Jr post) := (s_iload dX11_bearChildren_199 (s_iconst dX11_bearChildren_201 (by decide) (s_icmp_lt (tgt := 212) dX11_bearChildren_202 (by decide) tX11_bearChildren_212 (s_aload_n dX11_bearChildren_205 rfl (s_iload_n dX11_bearChildren_206 rfl (s_iload dX11_bearChildren_207 (s_callV (r := (RX1, TX1, 5)) dX11_bearChildren_209 mX1_setLength meX1_setLength wd71 wd72 rfl rfl reX1_setLength rmX11_bearChildren (fitX11_bearChildren_209) wd658 tX11_bearChildren_212)))))))
set_option maxRecDepth 100000 in
theorem tX11_bearChildren_172 {l : Launch} {D : zD} {B sz0 : Nat} {post : Option Value → zS → Prop} : zSnd l D B xX11_bearChildren sz0 post 172 kX11_bearChildren_172 (z_Jr post) := s_lp (body := bX11_bearChildren_172) (s_iload dX11_bearChildren_172 (s_iload dX11_bearChildren_174 (s_icmp_ge (tgt := 199) dX11_bearChildren_176 (by decide) (s_dn tX11_bearChildren_199) (s_aload_n dX11_bearChildren_179 rfl (s_iload_n dX11_bearChildren_180 rfl (s_iload dX11_bearChildren_181 (s_aload_n dX11_bearChildren_183 rfl (s_getR (f := 6) dX11_bearChildren_184 clX11 (by decide) rfl wd533 (s_iload dX11_bearChildren_187 (s_iald dX11_bearChildren_189 (s_callV (r := (RX1, TX1, 5)) dX11_bearChildren_190 mX1_setColour meX1_setColour wd68 wd69 rfl rfl reX1_setColour rmX11_bearChildren (fitX11_bearChildren_190) wd654 (s_iinc dX11_bearChildren_193 (by decide) (s_goto (tgt := 172) dX11_bearChildren_196 (by decide) s_ag)))))))))))))
set_option maxRecDepth 100000 in
theorem tX11_bearChildren_169 {l : Launch} {D : zD} {B sz0 : Nat} {post : Option Value → zS → Prop} : zSnd l D B xX11_bearChildren sz0 post 169 kX11_bearChildren_169 (z_Jr post) := (s_iconst dX11_bearChildren_169 (by decide) (s_istore dX11_bearChildren_170 tX11_bearChildren_172))
set_option maxRecDepth 100000 in
theorem tX11_bearChildren_162 {l : Launch} {D : zD} {B sz0 : Nat} {post : Option Value → zS → Prop} : zSnd l D B xX11_bearChildren sz0 post 162 kX11_bearChildren_162 (z_Jl l D B xX11_bearChildren sz0 post 12 (z_Jr post)) := (s_iast dX11_bearChildren_162 (s_iinc dX11_bearChildren_163 (by decide) (s_goto (tgt := 12) dX11_bearChildren_166 (by decide) s_ag)))
set_option maxRecDepth 100000 in
theorem tX11_bearChildren_132 {l : Launch} {D : zD} {B sz0 : Nat} {post : Option Value → zS → Prop} : zSnd l D B xX11_bearChildren sz0 post 132 kX11_bearChildren_132 (z_Jl l D B xX11_bearChildren sz0 post 12 (z_Jr post)) := (s_istore dX11_bearChildren_132 (s_aload_n dX11_bearChildren_134 rfl (s_getR (f := 6) dX11_bearChildren_135 clX11 (by decide) rfl wd533 (s_iload dX11_bearChildren_138 (s_iload dX11_bearChildren_140 (s_if_eq (tgt := 160) dX11_bearChildren_142 (by decide) (s_iload dX11_bearChildren_160 tX11_bearChildren_162) (s_aload_n dX11_bearChildren_145 rfl (s_getR (f := 1) dX11_bearChildren_146 clX11 (by decide) rfl wd527 (s_getR (f := 1) dX11_bearChildren_149 clX7 (by decide) rfl wd583 (s_iload dX11_bearChildren_152 (s_callV (r := (RX5, TX5, 7)) dX11_bearChildren_154 mX5_nextColour meX5_nextColour wd669 wd670 rfl rfl reX5_nextColour rmX11_bearChildren (fitX11_bearChildren_154) wd671 (s_goto (tgt := 162) dX11_bearChildren_157 (by decide) tX11_bearChildren_162))))))))))))
set_option maxRecDepth 100000 in
theorem tX11_bearChildren_12 {l : Launch} {D : zD} {B sz0 : Nat} {post : Option Value → zS → Prop} : zSnd l D B xX11_bearChildren sz0 post 12 kX11_bearChildren_12 (z_Jr post) := s_lp (body := bX11_bearChildren_12) (s_iload dX11_bearChildren_12 (s_iload dX11_bearChildren_14 (s_icmp_ge (tgt := 169) dX11_bearChildren_16 (by decide) (s_dn tX11_bearChildren_169) (s_aload_n dX11_bearChildren_19 rfl (s_iload_n dX11_bearChildren_20 rfl (s_iload dX11_bearChildren_21 (s_callV (r := (RX1, TX1, 5)) dX11_bearChildren_23 mX1_colourAt meX1_colourAt wd75 wd76 rfl rfl reX1_colourAt rmX11_bearChildren (fitX11_bearChildren_23) wd593 (s_istore dX11_bearChildren_26 (s_aload_n dX11_bearChildren_28 rfl (s_iload_n dX11_bearChildren_29 rfl (s_iload dX11_bearChildren_30 (s_iconst dX11_bearChildren_32 (by decide) (s_iadd dX11_bearChildren_33 (s_callV (r := (RX1, TX1, 5)) dX11_bearChildren_34 mX1_colourAt meX1_colourAt wd75 wd76 rfl rfl reX1_colourAt rmX11_bearChildren (fitX11_bearChildren_34) wd593 (s_istore dX11_bearChildren_37 (s_aload_n dX11_bearChildren_39 rfl (s_getR (f := 1) dX11_bearChildren_40 clX11 (by decide) rfl wd527 (s_getR (f := 1) dX11_bearChildren_43 clX7 (by decide) rfl wd583 (s_iload dX11_bearChildren_46 (s_iload dX11_bearChildren_48 (s_callV (r := (RX5, TX5, 7)) dX11_bearChildren_50 mX5_childOf meX5_childOf wd242 wd243 rfl rfl reX5_childOf rmX11_bearChildren (fitX11_bearChildren_50) wd589 (s_istore dX11_bearChildren_53 (s_aload_n dX11_bearChildren_55 rfl (s_getR (f := 7) dX11_bearChildren_56 clX11 (by decide) rfl wd537 (s_aload_n dX11_bearChildren_59 rfl (s_iload_n dX11_bearChildren_60 rfl (s_iload dX11_bearChildren_61 (s_callV (r := (RX2, TX2, 3)) dX11_bearChildren_63 mX2_standOn meX2_standOn wd594 wd595 rfl rfl reX2_standOn rmX11_bearChildren (fitX11_bearChildren_63) wd596 (s_aload_n dX11_bearChildren_66 rfl (s_getR (f := 7) dX11_bearChildren_67 clX11 (by decide) rfl wd537 (s_iconst dX11_bearChildren_70 (by decide) (s_iload dX11_bearChildren_71 (s_callV (r := (RX2, TX2, 3)) dX11_bearChildren_73 mX2_standAt meX2_standAt wd98 wd99 rfl rfl reX2_standAt rmX11_bearChildren (fitX11_bearChildren_73) wd602 (s_aload_n dX11_bearChildren_76 rfl (s_getR (f := 7) dX11_bearChildren_77 clX11 (by decide) rfl wd537 (s_iload dX11_bearChildren_80 (s_iload dX11_bearChildren_82 (s_callV (r := (RX2, TX2, 3)) dX11_bearChildren_84 mX2_haveParents meX2_haveParents wd101 wd102 rfl rfl reX2_haveParents rmX11_bearChildren (fitX11_bearChildren_84) wd603 (s_aload_n dX11_bearChildren_87 rfl (s_getR (f := 7) dX11_bearChildren_88 clX11 (by decide) rfl wd537 (s_aload_n dX11_bearChildren_91 rfl (s_getR (f := 1) dX11_bearChildren_92 clX11 (by decide) rfl wd527 (s_iconst dX11_bearChildren_95 (by decide) (s_bipush dX11_bearChildren_96 (by decide) (s_callV (r := (RX2, TX2, 3)) dX11_bearChildren_98 mX2_held meX2_held wd597 wd598 rfl rfl reX2_held rmX11_bearChildren (fitX11_bearChildren_98) wd599 (s_istore dX11_bearChildren_101 (s_iload_n dX11_bearChildren_103 rfl (s_bipush dX11_bearChildren_104 (by decide) (s_aload_n dX11_bearChildren_106 rfl (s_getI (f := 1) dX11_bearChildren_107 clX1 (by decide) rfl wd666 (s_imul dX11_bearChildren_110 (s_bipush dX11_bearChildren_111 (by decide) (s_iload_n dX11_bearChildren_113 rfl (s_imul dX11_bearChildren_114 (s_iadd dX11_bearChildren_115 (s_iload dX11_bearChildren_116 (s_iadd dX11_bearChildren_118 (s_callS dX11_bearChildren_119 mX11_lotOfHundred meX11_lotOfHundred wd667 rfl reX11_lotOfHundred rmX11_bearChildren (fitX11_bearChildren_119) wd668 (s_iload dX11_bearChildren_122 (s_icmp_ge (tgt := 131) dX11_bearChildren_124 (by decide) (s_iconst dX11_bearChildren_131 (by decide) tX11_bearChildren_132) (s_iconst dX11_bearChildren_127 (by decide) (s_goto (tgt := 132) dX11_bearChildren_128 (by decide) tX11_bearChildren_132))))))))))))))))))))))))))))))))))))))))))))))))))))))))))))))
set_option maxRecDepth 100000 in
theorem tX11_bearChildren_0 {l : Launch} {D : zD} {B sz0 : Nat} {post : Option Value → zS → Prop} : zSnd l D B xX11_bearChildren sz0 post 0 kX11_bearChildren_0 (z_Jr post) := (s_aload_n dX11_bearChildren_0 rfl (s_iload_n dX11_bearChildren_1 rfl (s_callV (r := (RX1, TX1, 5)) dX11_bearChildren_2 mX1_lengthOf meX1_lengthOf wd65 wd66 rfl rfl reX1_lengthOf rmX11_bearChildren (fitX11_bearChildren_2) wd616 (s_iconst dX11_bearChildren_5 (by decide) (s_isub dX11_bearChildren_6 (s_istore dX11_bearChildren_7 (s_iconst dX11_bearChildren_9 (by decide) (s_istore dX11_bearChildren_10 tX11_bearChildren_12))))))))
noncomputable def fX11_bearChildren : zF := z_fn 11 kX11_bearChildren_0
theorem mX11_bearChildren {l : Launch} {D : zD} {B : Nat} : z_MF l D B yX11_bearChildren xX11_bearChildren fX11_bearChildren := z_mf (by decide) rfl (fun h => by cases h) rfl (fun as σ r h => ⟨z_fn_len h, kX11_bearChildren_0, z_fn_run h, fun _ => tX11_bearChildren_0⟩)
/-! ===== RowChildren.passGenerations ===== -/
theorem dX11_passGenerations_0 : decode cX11_passGenerations 0 = .ok (.iconst 0, 1) := by decide +kernel
theorem dX11_passGenerations_1 : decode cX11_passGenerations 1 = .ok (.istore 4, 2) := by decide +kernel
theorem dX11_passGenerations_3 : decode cX11_passGenerations 3 = .ok (.iload 4, 2) := by decide +kernel
theorem dX11_passGenerations_5 : decode cX11_passGenerations 5 = .ok (.iload_n 2, 1) := by decide +kernel
theorem dX11_passGenerations_6 : decode cX11_passGenerations 6 = .ok (.if_icmp .ge 61, 3) := by decide +kernel
theorem dX11_passGenerations_9 : decode cX11_passGenerations 9 = .ok (.iconst 0, 1) := by decide +kernel
theorem dX11_passGenerations_10 : decode cX11_passGenerations 10 = .ok (.istore 5, 2) := by decide +kernel
theorem dX11_passGenerations_12 : decode cX11_passGenerations 12 = .ok (.iload 5, 2) := by decide +kernel
theorem dX11_passGenerations_14 : decode cX11_passGenerations 14 = .ok (.aload_n 1, 1) := by decide +kernel
theorem dX11_passGenerations_15 : decode cX11_passGenerations 15 = .ok (.getfield 349, 3) := by decide +kernel
theorem dX11_passGenerations_18 : decode cX11_passGenerations 18 = .ok (.if_icmp .ge 33, 3) := by decide +kernel
theorem dX11_passGenerations_21 : decode cX11_passGenerations 21 = .ok (.aload_n 1, 1) := by decide +kernel
theorem dX11_passGenerations_22 : decode cX11_passGenerations 22 = .ok (.dup, 1) := by decide +kernel
theorem dX11_passGenerations_23 : decode cX11_passGenerations 23 = .ok (.getfield 203, 3) := by decide +kernel
theorem dX11_passGenerations_26 : decode cX11_passGenerations 26 = .ok (.aload_n 0, 1) := by decide +kernel
theorem dX11_passGenerations_27 : decode cX11_passGenerations 27 = .ok (.aload_n 1, 1) := by decide +kernel
theorem dX11_passGenerations_28 : decode cX11_passGenerations 28 = .ok (.iload 5, 2) := by decide +kernel
theorem dX11_passGenerations_30 : decode cX11_passGenerations 30 = .ok (.invokevirtual 155, 3) := by decide +kernel
theorem dX11_passGenerations_33 : decode cX11_passGenerations 33 = .ok (.iadd, 1) := by decide +kernel
theorem dX11_passGenerations_34 : decode cX11_passGenerations 34 = .ok (.putfield 203, 3) := by decide +kernel
theorem dX11_passGenerations_37 : decode cX11_passGenerations 37 = .ok (.aload_n 0, 1) := by decide +kernel
theorem dX11_passGenerations_38 : decode cX11_passGenerations 38 = .ok (.aload_n 1, 1) := by decide +kernel
theorem dX11_passGenerations_39 : decode cX11_passGenerations 39 = .ok (.iload 5, 2) := by decide +kernel
theorem dX11_passGenerations_41 : decode cX11_passGenerations 41 = .ok (.iload_n 3, 1) := by decide +kernel
theorem dX11_passGenerations_42 : decode cX11_passGenerations 42 = .ok (.invokevirtual 390, 3) := by decide +kernel
theorem dX11_passGenerations_45 : decode cX11_passGenerations 45 = .ok (.iinc 5 1, 3) := by decide +kernel
theorem dX11_passGenerations_48 : decode cX11_passGenerations 48 = .ok (.goto (-36), 3) := by decide +kernel
theorem dX11_passGenerations_51 : decode cX11_passGenerations 51 = .ok (.aload_n 1, 1) := by decide +kernel
theorem dX11_passGenerations_52 : decode cX11_passGenerations 52 = .ok (.dup, 1) := by decide +kernel
theorem dX11_passGenerations_53 : decode cX11_passGenerations 53 = .ok (.getfield 226, 3) := by decide +kernel
theorem dX11_passGenerations_56 : decode cX11_passGenerations 56 = .ok (.iconst 1, 1) := by decide +kernel
theorem dX11_passGenerations_57 : decode cX11_passGenerations 57 = .ok (.iadd, 1) := by decide +kernel
theorem dX11_passGenerations_58 : decode cX11_passGenerations 58 = .ok (.putfield 226, 3) := by decide +kernel
theorem dX11_passGenerations_61 : decode cX11_passGenerations 61 = .ok (.iinc 4 1, 3) := by decide +kernel
theorem dX11_passGenerations_64 : decode cX11_passGenerations 64 = .ok (.goto (-61), 3) := by decide +kernel
theorem dX11_passGenerations_67 : decode cX11_passGenerations 67 = .ok (.return_, 1) := by decide +kernel
def xX11_passGenerations : zX := (RX11, cX11_passGenerations, 6, none, false, { frames := 22, cells := 0, slots := 0, locals := 628 }, 0, 0, 0, 0)
theorem rmX11_passGenerations : z_Rm xX11_passGenerations := by unfold z_Rm xX11_passGenerations; exact ⟨by decide, by decide⟩
theorem reX11_passGenerations : z_Re xX11_passGenerations := ⟨rfl, rfl⟩
theorem rlX11_passGenerations : 1 ≤ xX11_passGenerations.2.2.2.2.2.1.frames ∧ 21 ≤ xX11_passGenerations.2.2.2.2.2.1.locals := by unfold xX11_passGenerations; exact ⟨by decide, by decide⟩
theorem meX11_passGenerations : z_Me yX11_passGenerations xX11_passGenerations 3 := ⟨wd676, wd275, by decide, by decide, by decide +kernel⟩
theorem fitX11_passGenerations_30 : z_Fit xX11_paysOf xX11_passGenerations := by unfold z_Fit; simp only [xX11_paysOf, xX11_passGenerations]; exact ⟨by decide, by decide⟩
theorem fitX11_passGenerations_42 : z_Fit xX11_bearChildren xX11_passGenerations := by unfold z_Fit; simp only [xX11_bearChildren, xX11_passGenerations]; exact ⟨by decide, by decide⟩
noncomputable def kX11_passGenerations_67 : zK zR := q_vret
noncomputable def kX11_passGenerations_51 : zK ((zL × zS) ⊕ zR) := (q_aload 1 (q_dup (q_getI 1 1 (q_push 1 (q_iadd (q_putI 1 1 (q_iinc 4 1 q_ag)))))))
noncomputable def bX11_passGenerations_12 : zK ((zL × zS) ⊕ ((zL × zS) ⊕ zR)) := (q_iload 5 (q_aload 1 (q_getI 1 0 (q_icmp_ge (q_dn kX11_passGenerations_51) (q_aload 1 (q_dup (q_getI 1 2 (q_aload 0 (q_aload 1 (q_iload 5 (q_callV 11 fX11_paysOf 2 (q_iadd (q_putI 1 2 (q_aload 0 (q_aload 1 (q_iload 5 (q_iload 3 (q_callV 11 fX11_bearChildren 3 (q_iinc 5 1 q_ag)))))))))))))))))))
noncomputable def kX11_passGenerations_12 : zK ((zL × zS) ⊕ zR) := q_lp (bX11_passGenerations_12)
noncomputable def bX11_passGenerations_3 : zK ((zL × zS) ⊕ zR) := (q_iload 4 (q_iload 2 (q_icmp_ge (q_dn kX11_passGenerations_67) (q_push 0 (q_istore 5 kX11_passGenerations_12)))))
noncomputable def kX11_passGenerations_3 : zK zR := q_lp (bX11_passGenerations_3)
noncomputable def kX11_passGenerations_0 : zK zR := (q_push 0 (q_istore 4 kX11_passGenerations_3))
set_option maxRecDepth 100000 in
theorem tX11_passGenerations_67 {l : Launch} {D : zD} {B sz0 : Nat} {post : Option Value → zS → Prop} : zSnd l D B xX11_passGenerations sz0 post 67 kX11_passGenerations_67 (z_Jr post) := (s_vret dX11_passGenerations_67 rfl)
set_option maxRecDepth 100000 in
theorem tX11_passGenerations_51 {l : Launch} {D : zD} {B sz0 : Nat} {post : Option Value → zS → Prop} : zSnd l D B xX11_passGenerations sz0 post 51 kX11_passGenerations_51 (z_Jl l D B xX11_passGenerations sz0 post 3 (z_Jr post)) := (s_aload_n dX11_passGenerations_51 rfl (s_dup dX11_passGenerations_52 (s_getI (f := 1) dX11_passGenerations_53 clX1 (by decide) rfl wd666 (s_iconst dX11_passGenerations_56 (by decide) (s_iadd dX11_passGenerations_57 (s_putI (f := 1) dX11_passGenerations_58 clX1 (by decide) rfl rfl rfl wd666 (s_iinc dX11_passGenerations_61 (by decide) (s_goto (tgt := 3) dX11_passGenerations_64 (by decide) s_ag))))))))
set_option maxRecDepth 100000 in
theorem tX11_passGenerations_12 {l : Launch} {D : zD} {B sz0 : Nat} {post : Option Value → zS → Prop} : zSnd l D B xX11_passGenerations sz0 post 12 kX11_passGenerations_12 (z_Jl l D B xX11_passGenerations sz0 post 3 (z_Jr post)) := s_lp (body := bX11_passGenerations_12) (s_iload dX11_passGenerations_12 (s_aload_n dX11_passGenerations_14 rfl (s_getI (f := 0) dX11_passGenerations_15 clX1 (by decide) rfl wd591 (s_icmp_ge (tgt := 51) dX11_passGenerations_18 (by decide) (s_dn tX11_passGenerations_51) (s_aload_n dX11_passGenerations_21 rfl (s_dup dX11_passGenerations_22 (s_getI (f := 2) dX11_passGenerations_23 clX1 (by decide) rfl wd653 (s_aload_n dX11_passGenerations_26 rfl (s_aload_n dX11_passGenerations_27 rfl (s_iload dX11_passGenerations_28 (s_callV (r := (RX11, TX11, 13)) dX11_passGenerations_30 mX11_paysOf meX11_paysOf wd619 wd620 rfl rfl reX11_paysOf rmX11_passGenerations (fitX11_passGenerations_30) wd621 (s_iadd dX11_passGenerations_33 (s_putI (f := 2) dX11_passGenerations_34 clX1 (by decide) rfl rfl rfl wd653 (s_aload_n dX11_passGenerations_37 rfl (s_aload_n dX11_passGenerations_38 rfl (s_iload dX11_passGenerations_39 (s_iload_n dX11_passGenerations_41 rfl (s_callV (r := (RX11, TX11, 13)) dX11_passGenerations_42 mX11_bearChildren meX11_bearChildren wd673 wd674 rfl rfl reX11_bearChildren rmX11_passGenerations (fitX11_passGenerations_42) wd675 (s_iinc dX11_passGenerations_45 (by decide) (s_goto (tgt := 12) dX11_passGenerations_48 (by decide) s_ag))))))))))))))))))))
set_option maxRecDepth 100000 in
theorem tX11_passGenerations_3 {l : Launch} {D : zD} {B sz0 : Nat} {post : Option Value → zS → Prop} : zSnd l D B xX11_passGenerations sz0 post 3 kX11_passGenerations_3 (z_Jr post) := s_lp (body := bX11_passGenerations_3) (s_iload dX11_passGenerations_3 (s_iload_n dX11_passGenerations_5 rfl (s_icmp_ge (tgt := 67) dX11_passGenerations_6 (by decide) (s_dn tX11_passGenerations_67) (s_iconst dX11_passGenerations_9 (by decide) (s_istore dX11_passGenerations_10 tX11_passGenerations_12)))))
set_option maxRecDepth 100000 in
theorem tX11_passGenerations_0 {l : Launch} {D : zD} {B sz0 : Nat} {post : Option Value → zS → Prop} : zSnd l D B xX11_passGenerations sz0 post 0 kX11_passGenerations_0 (z_Jr post) := (s_iconst dX11_passGenerations_0 (by decide) (s_istore dX11_passGenerations_1 tX11_passGenerations_3))
noncomputable def fX11_passGenerations : zF := z_fn 6 kX11_passGenerations_0
theorem mX11_passGenerations {l : Launch} {D : zD} {B : Nat} : z_MF l D B yX11_passGenerations xX11_passGenerations fX11_passGenerations := z_mf (by decide) rfl (fun h => by cases h) rfl (fun as σ r h => ⟨z_fn_len h, kX11_passGenerations_0, z_fn_run h, fun _ => tX11_passGenerations_0⟩)
/-! ===== RowChildren.times ===== -/
theorem dX11_times_0 : decode cX11_times 0 = .ok (.iload_n 1, 1) := by decide +kernel
theorem dX11_times_1 : decode cX11_times 1 = .ok (.invokestatic 216, 3) := by decide +kernel
theorem dX11_times_4 : decode cX11_times 4 = .ok (.ifCond .ne 5, 3) := by decide +kernel
theorem dX11_times_7 : decode cX11_times 7 = .ok (.iconst (-1), 1) := by decide +kernel
theorem dX11_times_8 : decode cX11_times 8 = .ok (.ireturn, 1) := by decide +kernel
theorem dX11_times_9 : decode cX11_times 9 = .ok (.iload_n 1, 1) := by decide +kernel
theorem dX11_times_10 : decode cX11_times 10 = .ok (.ifCond .le 30, 3) := by decide +kernel
theorem dX11_times_13 : decode cX11_times 13 = .ok (.aload_n 0, 1) := by decide +kernel
theorem dX11_times_14 : decode cX11_times 14 = .ok (.getfield 61, 3) := by decide +kernel
theorem dX11_times_17 : decode cX11_times 17 = .ok (.aload_n 0, 1) := by decide +kernel
theorem dX11_times_18 : decode cX11_times 18 = .ok (.getfield 33, 3) := by decide +kernel
theorem dX11_times_21 : decode cX11_times 21 = .ok (.invokevirtual 200, 3) := by decide +kernel
theorem dX11_times_24 : decode cX11_times 24 = .ok (.aload_n 0, 1) := by decide +kernel
theorem dX11_times_25 : decode cX11_times 25 = .ok (.aload_n 0, 1) := by decide +kernel
theorem dX11_times_26 : decode cX11_times 26 = .ok (.getfield 33, 3) := by decide +kernel
theorem dX11_times_29 : decode cX11_times 29 = .ok (.iload_n 1, 1) := by decide +kernel
theorem dX11_times_30 : decode cX11_times 30 = .ok (.aload_n 0, 1) := by decide +kernel
theorem dX11_times_31 : decode cX11_times 31 = .ok (.getfield 19, 3) := by decide +kernel
theorem dX11_times_34 : decode cX11_times 34 = .ok (.getfield 219, 3) := by decide +kernel
theorem dX11_times_37 : decode cX11_times 37 = .ok (.invokevirtual 222, 3) := by decide +kernel
theorem dX11_times_40 : decode cX11_times 40 = .ok (.aload_n 0, 1) := by decide +kernel
theorem dX11_times_41 : decode cX11_times 41 = .ok (.getfield 33, 3) := by decide +kernel
theorem dX11_times_44 : decode cX11_times 44 = .ok (.getfield 226, 3) := by decide +kernel
theorem dX11_times_47 : decode cX11_times 47 = .ok (.ireturn, 1) := by decide +kernel
def xX11_times : zX := (RX11, cX11_times, 2, (some .int), false, { frames := 23, cells := 0, slots := 0, locals := 653 }, 0, 0, 0, 0)
theorem rmX11_times : z_Rm xX11_times := by unfold z_Rm xX11_times; exact ⟨by decide, by decide⟩
theorem reX11_times : z_Re xX11_times := ⟨rfl, rfl⟩
theorem rlX11_times : 1 ≤ xX11_times.2.2.2.2.2.1.frames ∧ 21 ≤ xX11_times.2.2.2.2.2.1.locals := by unfold xX11_times; exact ⟨by decide, by decide⟩
theorem meX11_times : z_Me yX11_times xX11_times 1 := ⟨wd683, wd275, by decide, by decide, by decide +kernel⟩
theorem fitX11_times_1 : z_Fit xX11_isGenerations xX11_times := by unfold z_Fit; simp only [xX11_isGenerations, xX11_times]; exact ⟨by decide, by decide⟩
theorem fitX11_times_21 : z_Fit xX3_remember xX11_times := by unfold z_Fit; simp only [xX3_remember, xX11_times]; exact ⟨by decide, by decide⟩
theorem fitX11_times_37 : z_Fit xX11_passGenerations xX11_times := by unfold z_Fit; simp only [xX11_passGenerations, xX11_times]; exact ⟨by decide, by decide⟩
noncomputable def kX11_times_40 : zK zR := (q_aload 0 (q_getR 11 4 (q_getI 1 1 q_iret)))
noncomputable def kX11_times_0 : zK zR := (q_iload 1 (q_callS fX11_isGenerations 1 (q_if_ne (q_iload 1 (q_if_le kX11_times_40 (q_aload 0 (q_getR 11 9 (q_aload 0 (q_getR 11 4 (q_callV 3 fX3_remember 1 (q_aload 0 (q_aload 0 (q_getR 11 4 (q_iload 1 (q_aload 0 (q_getR 11 1 (q_getI 7 5 (q_callV 11 fX11_passGenerations 3 kX11_times_40))))))))))))))) (q_push (-1) q_iret))))
set_option maxRecDepth 100000 in
theorem tX11_times_40 {l : Launch} {D : zD} {B sz0 : Nat} {post : Option Value → zS → Prop} : zSnd l D B xX11_times sz0 post 40 kX11_times_40 (z_Jr post) := (s_aload_n dX11_times_40 rfl (s_getR (f := 4) dX11_times_41 clX11 (by decide) rfl wd531 (s_getI (f := 1) dX11_times_44 clX1 (by decide) rfl wd666 (s_iret dX11_times_47 rfl))))
set_option maxRecDepth 100000 in
theorem tX11_times_0 {l : Launch} {D : zD} {B sz0 : Nat} {post : Option Value → zS → Prop} : zSnd l D B xX11_times sz0 post 0 kX11_times_0 (z_Jr post) := (s_iload_n dX11_times_0 rfl (s_callS dX11_times_1 mX11_isGenerations meX11_isGenerations wd677 rfl reX11_isGenerations rmX11_times (fitX11_times_1) wd678 (s_if_ne (tgt := 9) dX11_times_4 (by decide) (s_iload_n dX11_times_9 rfl (s_if_le (tgt := 40) dX11_times_10 (by decide) tX11_times_40 (s_aload_n dX11_times_13 rfl (s_getR (f := 9) dX11_times_14 clX11 (by decide) rfl wd544 (s_aload_n dX11_times_17 rfl (s_getR (f := 4) dX11_times_18 clX11 (by decide) rfl wd531 (s_callV (r := (RX3, TX3, 5)) dX11_times_21 mX3_remember meX3_remember wd650 wd651 rfl rfl reX3_remember rmX11_times (fitX11_times_21) wd652 (s_aload_n dX11_times_24 rfl (s_aload_n dX11_times_25 rfl (s_getR (f := 4) dX11_times_26 clX11 (by decide) rfl wd531 (s_iload_n dX11_times_29 rfl (s_aload_n dX11_times_30 rfl (s_getR (f := 1) dX11_times_31 clX11 (by decide) rfl wd527 (s_getI (f := 5) dX11_times_34 clX7 (by decide) rfl wd679 (s_callV (r := (RX11, TX11, 13)) dX11_times_37 mX11_passGenerations meX11_passGenerations wd680 wd681 rfl rfl reX11_passGenerations rmX11_times (fitX11_times_37) wd682 tX11_times_40))))))))))))))) (s_iconst dX11_times_7 (by decide) (s_iret dX11_times_8 rfl)))))
noncomputable def fX11_times : zF := z_fn 2 kX11_times_0
theorem mX11_times {l : Launch} {D : zD} {B : Nat} : z_MF l D B yX11_times xX11_times fX11_times := z_mf (by decide) rfl (fun h => by cases h) rfl (fun as σ r h => ⟨z_fn_len h, kX11_times_0, z_fn_run h, fun _ => tX11_times_0⟩)
/-! ===== RowChildren.undo ===== -/
theorem dX11_undo_0 : decode cX11_undo 0 = .ok (.aload_n 0, 1) := by decide +kernel
theorem dX11_undo_1 : decode cX11_undo 1 = .ok (.getfield 61, 3) := by decide +kernel
theorem dX11_undo_4 : decode cX11_undo 4 = .ok (.aload_n 0, 1) := by decide +kernel
theorem dX11_undo_5 : decode cX11_undo 5 = .ok (.getfield 33, 3) := by decide +kernel
theorem dX11_undo_8 : decode cX11_undo 8 = .ok (.invokevirtual 229, 3) := by decide +kernel
theorem dX11_undo_11 : decode cX11_undo 11 = .ok (.ireturn, 1) := by decide +kernel
def xX11_undo : zX := (RX11, cX11_undo, 1, (some .boolean), false, { frames := 3, cells := 0, slots := 0, locals := 132 }, 0, 0, 0, 0)
theorem rmX11_undo : z_Rm xX11_undo := by unfold z_Rm xX11_undo; exact ⟨by decide, by decide⟩
theorem reX11_undo : z_Re xX11_undo := ⟨rfl, rfl⟩
theorem rlX11_undo : 1 ≤ xX11_undo.2.2.2.2.2.1.frames ∧ 21 ≤ xX11_undo.2.2.2.2.2.1.locals := by unfold xX11_undo; exact ⟨by decide, by decide⟩
theorem meX11_undo : z_Me yX11_undo xX11_undo 0 := ⟨wd687, wd275, by decide, by decide, by decide +kernel⟩
theorem fitX11_undo_8 : z_Fit xX3_recall xX11_undo := by unfold z_Fit; simp only [xX3_recall, xX11_undo]; exact ⟨by decide, by decide⟩
noncomputable def kX11_undo_0 : zK zR := (q_aload 0 (q_getR 11 9 (q_aload 0 (q_getR 11 4 (q_callV 3 fX3_recall 1 q_zret)))))
set_option maxRecDepth 100000 in
theorem tX11_undo_0 {l : Launch} {D : zD} {B sz0 : Nat} {post : Option Value → zS → Prop} : zSnd l D B xX11_undo sz0 post 0 kX11_undo_0 (z_Jr post) := (s_aload_n dX11_undo_0 rfl (s_getR (f := 9) dX11_undo_1 clX11 (by decide) rfl wd544 (s_aload_n dX11_undo_4 rfl (s_getR (f := 4) dX11_undo_5 clX11 (by decide) rfl wd531 (s_callV (r := (RX3, TX3, 5)) dX11_undo_8 mX3_recall meX3_recall wd684 wd685 rfl rfl reX3_recall rmX11_undo (fitX11_undo_8) wd686 (s_zret dX11_undo_11 rfl))))))
noncomputable def fX11_undo : zF := z_fn 1 kX11_undo_0
theorem mX11_undo {l : Launch} {D : zD} {B : Nat} : z_MF l D B yX11_undo xX11_undo fX11_undo := z_mf (by decide) rfl (fun h => by cases h) rfl (fun as σ r h => ⟨z_fn_len h, kX11_undo_0, z_fn_run h, fun _ => tX11_undo_0⟩)
/-! ===== RowChildren.isRowLength ===== -/
theorem dX11_isRowLength_0 : decode cX11_isRowLength 0 = .ok (.iload_n 0, 1) := by decide +kernel
theorem dX11_isRowLength_1 : decode cX11_isRowLength 1 = .ok (.iconst 1, 1) := by decide +kernel
theorem dX11_isRowLength_2 : decode cX11_isRowLength 2 = .ok (.if_icmp .lt 13, 3) := by decide +kernel
theorem dX11_isRowLength_5 : decode cX11_isRowLength 5 = .ok (.iload_n 0, 1) := by decide +kernel
theorem dX11_isRowLength_6 : decode cX11_isRowLength 6 = .ok (.bipush 8, 2) := by decide +kernel
theorem dX11_isRowLength_8 : decode cX11_isRowLength 8 = .ok (.if_icmp .gt 7, 3) := by decide +kernel
theorem dX11_isRowLength_11 : decode cX11_isRowLength 11 = .ok (.iconst 1, 1) := by decide +kernel
theorem dX11_isRowLength_12 : decode cX11_isRowLength 12 = .ok (.goto 4, 3) := by decide +kernel
theorem dX11_isRowLength_15 : decode cX11_isRowLength 15 = .ok (.iconst 0, 1) := by decide +kernel
theorem dX11_isRowLength_16 : decode cX11_isRowLength 16 = .ok (.ireturn, 1) := by decide +kernel
def xX11_isRowLength : zX := (RX11, cX11_isRowLength, 1, (some .boolean), false, { frames := 1, cells := 0, slots := 0, locals := 90 }, 0, 0, 0, 0)
theorem rmX11_isRowLength : z_Rm xX11_isRowLength := by unfold z_Rm xX11_isRowLength; exact ⟨by decide, by decide⟩
theorem reX11_isRowLength : z_Re xX11_isRowLength := ⟨rfl, rfl⟩
theorem rlX11_isRowLength : 1 ≤ xX11_isRowLength.2.2.2.2.2.1.frames ∧ 21 ≤ xX11_isRowLength.2.2.2.2.2.1.locals := by unfold xX11_isRowLength; exact ⟨by decide, by decide⟩
theorem meX11_isRowLength : z_Me yX11_isRowLength xX11_isRowLength 1 := ⟨wd688, wd275, by decide, by decide, by decide +kernel⟩
noncomputable def kX11_isRowLength_16 : zK zR := q_zret
noncomputable def kX11_isRowLength_15 : zK zR := (q_push 0 kX11_isRowLength_16)
noncomputable def kX11_isRowLength_0 : zK zR := (q_iload 0 (q_push 1 (q_icmp_lt kX11_isRowLength_15 (q_iload 0 (q_push 8 (q_icmp_gt kX11_isRowLength_15 (q_push 1 kX11_isRowLength_16)))))))
set_option maxRecDepth 100000 in
theorem tX11_isRowLength_16 {l : Launch} {D : zD} {B sz0 : Nat} {post : Option Value → zS → Prop} : zSnd l D B xX11_isRowLength sz0 post 16 kX11_isRowLength_16 (z_Jr post) := (s_zret dX11_isRowLength_16 rfl)
set_option maxRecDepth 100000 in
theorem tX11_isRowLength_15 {l : Launch} {D : zD} {B sz0 : Nat} {post : Option Value → zS → Prop} : zSnd l D B xX11_isRowLength sz0 post 15 kX11_isRowLength_15 (z_Jr post) := (s_iconst dX11_isRowLength_15 (by decide) tX11_isRowLength_16)
set_option maxRecDepth 100000 in
theorem tX11_isRowLength_0 {l : Launch} {D : zD} {B sz0 : Nat} {post : Option Value → zS → Prop} : zSnd l D B xX11_isRowLength sz0 post 0 kX11_isRowLength_0 (z_Jr post) := (s_iload_n dX11_isRowLength_0 rfl (s_iconst dX11_isRowLength_1 (by decide) (s_icmp_lt (tgt := 15) dX11_isRowLength_2 (by decide) tX11_isRowLength_15 (s_iload_n dX11_isRowLength_5 rfl (s_bipush dX11_isRowLength_6 (by decide) (s_icmp_gt (tgt := 15) dX11_isRowLength_8 (by decide) tX11_isRowLength_15 (s_iconst dX11_isRowLength_11 (by decide) (s_goto (tgt := 16) dX11_isRowLength_12 (by decide) tX11_isRowLength_16))))))))
noncomputable def fX11_isRowLength : zF := z_fn 1 kX11_isRowLength_0
theorem mX11_isRowLength {l : Launch} {D : zD} {B : Nat} : z_MF l D B yX11_isRowLength xX11_isRowLength fX11_isRowLength := z_mf (by decide) rfl (fun h => by cases h) rfl (fun as σ r h => ⟨z_fn_len h, kX11_isRowLength_0, z_fn_run h, fun _ => tX11_isRowLength_0⟩)
/-! ===== RowChildren.makes ===== -/
theorem dX11_makes_0 : decode cX11_makes 0 = .ok (.aload_n 0, 1) := by decide +kernel
theorem dX11_makes_1 : decode cX11_makes 1 = .ok (.iload_n 1, 1) := by decide +kernel
theorem dX11_makes_2 : decode cX11_makes 2 = .ok (.invokevirtual 120, 3) := by decide +kernel
theorem dX11_makes_5 : decode cX11_makes 5 = .ok (.ifCond .eq 17, 3) := by decide +kernel
theorem dX11_makes_8 : decode cX11_makes 8 = .ok (.iload_n 2, 1) := by decide +kernel
theorem dX11_makes_9 : decode cX11_makes 9 = .ok (.invokestatic 233, 3) := by decide +kernel
theorem dX11_makes_12 : decode cX11_makes 12 = .ok (.ifCond .eq 10, 3) := by decide +kernel
theorem dX11_makes_15 : decode cX11_makes 15 = .ok (.iload_n 3, 1) := by decide +kernel
theorem dX11_makes_16 : decode cX11_makes 16 = .ok (.invokestatic 184, 3) := by decide +kernel
theorem dX11_makes_19 : decode cX11_makes 19 = .ok (.ifCond .ne 5, 3) := by decide +kernel
theorem dX11_makes_22 : decode cX11_makes 22 = .ok (.iconst (-1), 1) := by decide +kernel
theorem dX11_makes_23 : decode cX11_makes 23 = .ok (.ireturn, 1) := by decide +kernel
theorem dX11_makes_24 : decode cX11_makes 24 = .ok (.aload_n 0, 1) := by decide +kernel
theorem dX11_makes_25 : decode cX11_makes 25 = .ok (.getfield 68, 3) := by decide +kernel
theorem dX11_makes_28 : decode cX11_makes 28 = .ok (.aload_n 0, 1) := by decide +kernel
theorem dX11_makes_29 : decode cX11_makes 29 = .ok (.getfield 19, 3) := by decide +kernel
theorem dX11_makes_32 : decode cX11_makes 32 = .ok (.getfield 124, 3) := by decide +kernel
theorem dX11_makes_35 : decode cX11_makes 35 = .ok (.iload_n 2, 1) := by decide +kernel
theorem dX11_makes_36 : decode cX11_makes 36 = .ok (.invokevirtual 236, 3) := by decide +kernel
theorem dX11_makes_39 : decode cX11_makes 39 = .ok (.iload_n 3, 1) := by decide +kernel
theorem dX11_makes_40 : decode cX11_makes 40 = .ok (.ifCond .ne 15, 3) := by decide +kernel
theorem dX11_makes_43 : decode cX11_makes 43 = .ok (.aload_n 0, 1) := by decide +kernel
theorem dX11_makes_44 : decode cX11_makes 44 = .ok (.getfield 68, 3) := by decide +kernel
theorem dX11_makes_47 : decode cX11_makes 47 = .ok (.iload_n 2, 1) := by decide +kernel
theorem dX11_makes_48 : decode cX11_makes 48 = .ok (.iload_n 1, 1) := by decide +kernel
theorem dX11_makes_49 : decode cX11_makes 49 = .ok (.invokevirtual 239, 3) := by decide +kernel
theorem dX11_makes_52 : decode cX11_makes 52 = .ok (.goto 12, 3) := by decide +kernel
theorem dX11_makes_55 : decode cX11_makes 55 = .ok (.aload_n 0, 1) := by decide +kernel
theorem dX11_makes_56 : decode cX11_makes 56 = .ok (.getfield 68, 3) := by decide +kernel
theorem dX11_makes_59 : decode cX11_makes 59 = .ok (.iload_n 2, 1) := by decide +kernel
theorem dX11_makes_60 : decode cX11_makes 60 = .ok (.iload_n 1, 1) := by decide +kernel
theorem dX11_makes_61 : decode cX11_makes 61 = .ok (.invokevirtual 242, 3) := by decide +kernel
theorem dX11_makes_64 : decode cX11_makes 64 = .ok (.ireturn, 1) := by decide +kernel
def xX11_makes : zX := (RX11, cX11_makes, 4, (some .int), false, { frames := 16, cells := 0, slots := 0, locals := 487 }, 0, 0, 0, 0)
theorem rmX11_makes : z_Rm xX11_makes := by unfold z_Rm xX11_makes; exact ⟨by decide, by decide⟩
theorem reX11_makes : z_Re xX11_makes := ⟨rfl, rfl⟩
theorem rlX11_makes : 1 ≤ xX11_makes.2.2.2.2.2.1.frames ∧ 21 ≤ xX11_makes.2.2.2.2.2.1.locals := by unfold xX11_makes; exact ⟨by decide, by decide⟩
theorem meX11_makes : z_Me yX11_makes xX11_makes 3 := ⟨wd700, wd275, by decide, by decide, by decide +kernel⟩
theorem fitX11_makes_2 : z_Fit xX11_isColour xX11_makes := by unfold z_Fit; simp only [xX11_isColour, xX11_makes]; exact ⟨by decide, by decide⟩
theorem fitX11_makes_9 : z_Fit xX11_isRowLength xX11_makes := by unfold z_Fit; simp only [xX11_isRowLength, xX11_makes]; exact ⟨by decide, by decide⟩
theorem fitX11_makes_16 : z_Fit xX11_isOneOfTwo xX11_makes := by unfold z_Fit; simp only [xX11_isOneOfTwo, xX11_makes]; exact ⟨by decide, by decide⟩
theorem fitX11_makes_36 : z_Fit xX0_take xX11_makes := by unfold z_Fit; simp only [xX0_take, xX11_makes]; exact ⟨by decide, by decide⟩
theorem fitX11_makes_61 : z_Fit xX0_leastOf xX11_makes := by unfold z_Fit; simp only [xX0_leastOf, xX11_makes]; exact ⟨by decide, by decide⟩
theorem fitX11_makes_49 : z_Fit xX0_madeOf xX11_makes := by unfold z_Fit; simp only [xX0_madeOf, xX11_makes]; exact ⟨by decide, by decide⟩
noncomputable def kX11_makes_22 : zK zR := (q_push (-1) q_iret)
noncomputable def kX11_makes_64 : zK zR := q_iret
noncomputable def kX11_makes_0 : zK zR := (q_aload 0 (q_iload 1 (q_callV 11 fX11_isColour 1 (q_if_eq kX11_makes_22 (q_iload 2 (q_callS fX11_isRowLength 1 (q_if_eq kX11_makes_22 (q_iload 3 (q_callS fX11_isOneOfTwo 1 (q_if_ne (q_aload 0 (q_getR 11 10 (q_aload 0 (q_getR 11 1 (q_getR 7 1 (q_iload 2 (q_callV 0 fX0_take 2 (q_iload 3 (q_if_ne (q_aload 0 (q_getR 11 10 (q_iload 2 (q_iload 1 (q_callV 0 fX0_leastOf 2 kX11_makes_64))))) (q_aload 0 (q_getR 11 10 (q_iload 2 (q_iload 1 (q_callV 0 fX0_madeOf 2 kX11_makes_64)))))))))))))) kX11_makes_22))))))))))
set_option maxRecDepth 100000 in
theorem tX11_makes_22 {l : Launch} {D : zD} {B sz0 : Nat} {post : Option Value → zS → Prop} : zSnd l D B xX11_makes sz0 post 22 kX11_makes_22 (z_Jr post) := (s_iconst dX11_makes_22 (by decide) (s_iret dX11_makes_23 rfl))
set_option maxRecDepth 100000 in
theorem tX11_makes_64 {l : Launch} {D : zD} {B sz0 : Nat} {post : Option Value → zS → Prop} : zSnd l D B xX11_makes sz0 post 64 kX11_makes_64 (z_Jr post) := (s_iret dX11_makes_64 rfl)
set_option maxRecDepth 100000 in
theorem tX11_makes_0 {l : Launch} {D : zD} {B sz0 : Nat} {post : Option Value → zS → Prop} : zSnd l D B xX11_makes sz0 post 0 kX11_makes_0 (z_Jr post) := (s_aload_n dX11_makes_0 rfl (s_iload_n dX11_makes_1 rfl (s_callV (r := (RX11, TX11, 13)) dX11_makes_2 mX11_isColour meX11_isColour wd586 wd587 rfl rfl reX11_isColour rmX11_makes (fitX11_makes_2) wd588 (s_if_eq (tgt := 22) dX11_makes_5 (by decide) tX11_makes_22 (s_iload_n dX11_makes_8 rfl (s_callS dX11_makes_9 mX11_isRowLength meX11_isRowLength wd689 rfl reX11_isRowLength rmX11_makes (fitX11_makes_9) wd690 (s_if_eq (tgt := 22) dX11_makes_12 (by decide) tX11_makes_22 (s_iload_n dX11_makes_15 rfl (s_callS dX11_makes_16 mX11_isOneOfTwo meX11_isOneOfTwo wd636 rfl reX11_isOneOfTwo rmX11_makes (fitX11_makes_16) wd637 (s_if_ne (tgt := 24) dX11_makes_19 (by decide) (s_aload_n dX11_makes_24 rfl (s_getR (f := 10) dX11_makes_25 clX11 (by decide) rfl wd548 (s_aload_n dX11_makes_28 rfl (s_getR (f := 1) dX11_makes_29 clX11 (by decide) rfl wd527 (s_getR (f := 1) dX11_makes_32 clX7 (by decide) rfl wd583 (s_iload_n dX11_makes_35 rfl (s_callV (r := (RX0, TX0, 5)) dX11_makes_36 mX0_take meX0_take wd691 wd692 rfl rfl reX0_take rmX11_makes (fitX11_makes_36) wd693 (s_iload_n dX11_makes_39 rfl (s_if_ne (tgt := 55) dX11_makes_40 (by decide) (s_aload_n dX11_makes_55 rfl (s_getR (f := 10) dX11_makes_56 clX11 (by decide) rfl wd548 (s_iload_n dX11_makes_59 rfl (s_iload_n dX11_makes_60 rfl (s_callV (r := (RX0, TX0, 5)) dX11_makes_61 mX0_leastOf meX0_leastOf wd694 wd695 rfl rfl reX0_leastOf rmX11_makes (fitX11_makes_61) wd696 tX11_makes_64))))) (s_aload_n dX11_makes_43 rfl (s_getR (f := 10) dX11_makes_44 clX11 (by decide) rfl wd548 (s_iload_n dX11_makes_47 rfl (s_iload_n dX11_makes_48 rfl (s_callV (r := (RX0, TX0, 5)) dX11_makes_49 mX0_madeOf meX0_madeOf wd697 wd698 rfl rfl reX0_madeOf rmX11_makes (fitX11_makes_49) wd699 (s_goto (tgt := 64) dX11_makes_52 (by decide) tX11_makes_64))))))))))))))) tX11_makes_22))))))))))
noncomputable def fX11_makes : zF := z_fn 4 kX11_makes_0
theorem mX11_makes {l : Launch} {D : zD} {B : Nat} : z_MF l D B yX11_makes xX11_makes fX11_makes := z_mf (by decide) rfl (fun h => by cases h) rfl (fun as σ r h => ⟨z_fn_len h, kX11_makes_0, z_fn_run h, fun _ => tX11_makes_0⟩)
/-! ===== RowChildren.setPrices ===== -/
theorem dX11_setPrices_0 : decode cX11_setPrices 0 = .ok (.iconst 0, 1) := by decide +kernel
theorem dX11_setPrices_1 : decode cX11_setPrices 1 = .ok (.istore_n 3, 1) := by decide +kernel
theorem dX11_setPrices_2 : decode cX11_setPrices 2 = .ok (.iload_n 3, 1) := by decide +kernel
theorem dX11_setPrices_3 : decode cX11_setPrices 3 = .ok (.aload_n 0, 1) := by decide +kernel
theorem dX11_setPrices_4 : decode cX11_setPrices 4 = .ok (.getfield 33, 3) := by decide +kernel
theorem dX11_setPrices_7 : decode cX11_setPrices 7 = .ok (.iload_n 1, 1) := by decide +kernel
theorem dX11_setPrices_8 : decode cX11_setPrices 8 = .ok (.invokevirtual 141, 3) := by decide +kernel
theorem dX11_setPrices_11 : decode cX11_setPrices 11 = .ok (.if_icmp .ge 81, 3) := by decide +kernel
theorem dX11_setPrices_14 : decode cX11_setPrices 14 = .ok (.iconst 0, 1) := by decide +kernel
theorem dX11_setPrices_15 : decode cX11_setPrices 15 = .ok (.istore 4, 2) := by decide +kernel
theorem dX11_setPrices_17 : decode cX11_setPrices 17 = .ok (.iload 4, 2) := by decide +kernel
theorem dX11_setPrices_19 : decode cX11_setPrices 19 = .ok (.aload_n 0, 1) := by decide +kernel
theorem dX11_setPrices_20 : decode cX11_setPrices 20 = .ok (.getfield 19, 3) := by decide +kernel
theorem dX11_setPrices_23 : decode cX11_setPrices 23 = .ok (.getfield 124, 3) := by decide +kernel
theorem dX11_setPrices_26 : decode cX11_setPrices 26 = .ok (.getfield 145, 3) := by decide +kernel
theorem dX11_setPrices_29 : decode cX11_setPrices 29 = .ok (.if_icmp .ge 57, 3) := by decide +kernel
theorem dX11_setPrices_32 : decode cX11_setPrices 32 = .ok (.iload_n 2, 1) := by decide +kernel
theorem dX11_setPrices_33 : decode cX11_setPrices 33 = .ok (.ifCond .eq 14, 3) := by decide +kernel
theorem dX11_setPrices_36 : decode cX11_setPrices 36 = .ok (.aload_n 0, 1) := by decide +kernel
theorem dX11_setPrices_37 : decode cX11_setPrices 37 = .ok (.iload_n 1, 1) := by decide +kernel
theorem dX11_setPrices_38 : decode cX11_setPrices 38 = .ok (.iload_n 3, 1) := by decide +kernel
theorem dX11_setPrices_39 : decode cX11_setPrices 39 = .ok (.iload 4, 2) := by decide +kernel
theorem dX11_setPrices_41 : decode cX11_setPrices 41 = .ok (.invokevirtual 197, 3) := by decide +kernel
theorem dX11_setPrices_44 : decode cX11_setPrices 44 = .ok (.goto 4, 3) := by decide +kernel
theorem dX11_setPrices_47 : decode cX11_setPrices 47 = .ok (.iconst 1, 1) := by decide +kernel
theorem dX11_setPrices_48 : decode cX11_setPrices 48 = .ok (.istore 5, 2) := by decide +kernel
theorem dX11_setPrices_50 : decode cX11_setPrices 50 = .ok (.aload_n 0, 1) := by decide +kernel
theorem dX11_setPrices_51 : decode cX11_setPrices 51 = .ok (.getfield 75, 3) := by decide +kernel
theorem dX11_setPrices_54 : decode cX11_setPrices 54 = .ok (.iload_n 3, 1) := by decide +kernel
theorem dX11_setPrices_55 : decode cX11_setPrices 55 = .ok (.iload 4, 2) := by decide +kernel
theorem dX11_setPrices_57 : decode cX11_setPrices 57 = .ok (.aload_n 0, 1) := by decide +kernel
theorem dX11_setPrices_58 : decode cX11_setPrices 58 = .ok (.getfield 33, 3) := by decide +kernel
theorem dX11_setPrices_61 : decode cX11_setPrices 61 = .ok (.iload_n 1, 1) := by decide +kernel
theorem dX11_setPrices_62 : decode cX11_setPrices 62 = .ok (.iload_n 3, 1) := by decide +kernel
theorem dX11_setPrices_63 : decode cX11_setPrices 63 = .ok (.invokevirtual 318, 3) := by decide +kernel
theorem dX11_setPrices_66 : decode cX11_setPrices 66 = .ok (.iload 4, 2) := by decide +kernel
theorem dX11_setPrices_68 : decode cX11_setPrices 68 = .ok (.if_icmp .ne 7, 3) := by decide +kernel
theorem dX11_setPrices_71 : decode cX11_setPrices 71 = .ok (.iconst 0, 1) := by decide +kernel
theorem dX11_setPrices_72 : decode cX11_setPrices 72 = .ok (.goto 5, 3) := by decide +kernel
theorem dX11_setPrices_75 : decode cX11_setPrices 75 = .ok (.iload 5, 2) := by decide +kernel
theorem dX11_setPrices_77 : decode cX11_setPrices 77 = .ok (.invokevirtual 403, 3) := by decide +kernel
theorem dX11_setPrices_80 : decode cX11_setPrices 80 = .ok (.iinc 4 1, 3) := by decide +kernel
theorem dX11_setPrices_83 : decode cX11_setPrices 83 = .ok (.goto (-66), 3) := by decide +kernel
theorem dX11_setPrices_86 : decode cX11_setPrices 86 = .ok (.iinc 3 1, 3) := by decide +kernel
theorem dX11_setPrices_89 : decode cX11_setPrices 89 = .ok (.goto (-87), 3) := by decide +kernel
theorem dX11_setPrices_92 : decode cX11_setPrices 92 = .ok (.return_, 1) := by decide +kernel
def xX11_setPrices : zX := (RX11, cX11_setPrices, 6, none, false, { frames := 22, cells := 0, slots := 0, locals := 621 }, 0, 0, 0, 0)
theorem rmX11_setPrices : z_Rm xX11_setPrices := by unfold z_Rm xX11_setPrices; exact ⟨by decide, by decide⟩
theorem reX11_setPrices : z_Re xX11_setPrices := ⟨rfl, rfl⟩
theorem rlX11_setPrices : 1 ≤ xX11_setPrices.2.2.2.2.2.1.frames ∧ 21 ≤ xX11_setPrices.2.2.2.2.2.1.locals := by unfold xX11_setPrices; exact ⟨by decide, by decide⟩
theorem meX11_setPrices : z_Me yX11_setPrices xX11_setPrices 2 := ⟨wd704, wd275, by decide, by decide, by decide +kernel⟩
theorem fitX11_setPrices_8 : z_Fit xX1_lengthOf xX11_setPrices := by unfold z_Fit; simp only [xX1_lengthOf, xX11_setPrices]; exact ⟨by decide, by decide⟩
theorem fitX11_setPrices_63 : z_Fit xX1_colourAt xX11_setPrices := by unfold z_Fit; simp only [xX1_colourAt, xX11_setPrices]; exact ⟨by decide, by decide⟩
theorem fitX11_setPrices_77 : z_Fit xX4_setPrice xX11_setPrices := by unfold z_Fit; simp only [xX4_setPrice, xX11_setPrices]; exact ⟨by decide, by decide⟩
theorem fitX11_setPrices_41 : z_Fit xX11_costsOf xX11_setPrices := by unfold z_Fit; simp only [xX11_costsOf, xX11_setPrices]; exact ⟨by decide, by decide⟩
noncomputable def kX11_setPrices_92 : zK zR := q_vret
noncomputable def kX11_setPrices_86 : zK ((zL × zS) ⊕ zR) := (q_iinc 3 1 q_ag)
noncomputable def kX11_setPrices_77 : zK ((zL × zS) ⊕ ((zL × zS) ⊕ zR)) := (q_callV 4 fX4_setPrice 3 (q_iinc 4 1 q_ag))
noncomputable def kX11_setPrices_48 : zK ((zL × zS) ⊕ ((zL × zS) ⊕ zR)) := (q_istore 5 (q_aload 0 (q_getR 11 11 (q_iload 3 (q_iload 4 (q_aload 0 (q_getR 11 4 (q_iload 1 (q_iload 3 (q_callV 1 fX1_colourAt 2 (q_iload 4 (q_icmp_ne (q_iload 5 kX11_setPrices_77) (q_push 0 kX11_setPrices_77)))))))))))))
noncomputable def bX11_setPrices_17 : zK ((zL × zS) ⊕ ((zL × zS) ⊕ zR)) := (q_iload 4 (q_aload 0 (q_getR 11 1 (q_getR 7 1 (q_getI 5 0 (q_icmp_ge (q_dn kX11_setPrices_86) (q_iload 2 (q_if_eq (q_push 1 kX11_setPrices_48) (q_aload 0 (q_iload 1 (q_iload 3 (q_iload 4 (q_callV 11 fX11_costsOf 3 kX11_setPrices_48)))))))))))))
noncomputable def kX11_setPrices_17 : zK ((zL × zS) ⊕ zR) := q_lp (bX11_setPrices_17)
noncomputable def bX11_setPrices_2 : zK ((zL × zS) ⊕ zR) := (q_iload 3 (q_aload 0 (q_getR 11 4 (q_iload 1 (q_callV 1 fX1_lengthOf 1 (q_icmp_ge (q_dn kX11_setPrices_92) (q_push 0 (q_istore 4 kX11_setPrices_17))))))))
noncomputable def kX11_setPrices_2 : zK zR := q_lp (bX11_setPrices_2)
noncomputable def kX11_setPrices_0 : zK zR := (q_push 0 (q_istore 3 kX11_setPrices_2))
set_option maxRecDepth 100000 in
theorem tX11_setPrices_92 {l : Launch} {D : zD} {B sz0 : Nat} {post : Option Value → zS → Prop} : zSnd l D B xX11_setPrices sz0 post 92 kX11_setPrices_92 (z_Jr post) := (s_vret dX11_setPrices_92 rfl)
set_option maxRecDepth 100000 in
theorem tX11_setPrices_86 {l : Launch} {D : zD} {B sz0 : Nat} {post : Option Value → zS → Prop} : zSnd l D B xX11_setPrices sz0 post 86 kX11_setPrices_86 (z_Jl l D B xX11_setPrices sz0 post 2 (z_Jr post)) := (s_iinc dX11_setPrices_86 (by decide) (s_goto (tgt := 2) dX11_setPrices_89 (by decide) s_ag))
set_option maxRecDepth 100000 in
theorem tX11_setPrices_77 {l : Launch} {D : zD} {B sz0 : Nat} {post : Option Value → zS → Prop} : zSnd l D B xX11_setPrices sz0 post 77 kX11_setPrices_77 (z_Jl l D B xX11_setPrices sz0 post 17 (z_Jl l D B xX11_setPrices sz0 post 2 (z_Jr post))) := (s_callV (r := (RX4, TX4, 7)) dX11_setPrices_77 mX4_setPrice meX4_setPrice wd701 wd702 rfl rfl reX4_setPrice rmX11_setPrices (fitX11_setPrices_77) wd703 (s_iinc dX11_setPrices_80 (by decide) (s_goto (tgt := 17) dX11_setPrices_83 (by decide) s_ag)))
set_option maxRecDepth 100000 in
theorem tX11_setPrices_48 {l : Launch} {D : zD} {B sz0 : Nat} {post : Option Value → zS → Prop} : zSnd l D B xX11_setPrices sz0 post 48 kX11_setPrices_48 (z_Jl l D B xX11_setPrices sz0 post 17 (z_Jl l D B xX11_setPrices sz0 post 2 (z_Jr post))) := (s_istore dX11_setPrices_48 (s_aload_n dX11_setPrices_50 rfl (s_getR (f := 11) dX11_setPrices_51 clX11 (by decide) rfl wd552 (s_iload_n dX11_setPrices_54 rfl (s_iload dX11_setPrices_55 (s_aload_n dX11_setPrices_57 rfl (s_getR (f := 4) dX11_setPrices_58 clX11 (by decide) rfl wd531 (s_iload_n dX11_setPrices_61 rfl (s_iload_n dX11_setPrices_62 rfl (s_callV (r := (RX1, TX1, 5)) dX11_setPrices_63 mX1_colourAt meX1_colourAt wd75 wd76 rfl rfl reX1_colourAt rmX11_setPrices (fitX11_setPrices_63) wd593 (s_iload dX11_setPrices_66 (s_icmp_ne (tgt := 75) dX11_setPrices_68 (by decide) (s_iload dX11_setPrices_75 tX11_setPrices_77) (s_iconst dX11_setPrices_71 (by decide) (s_goto (tgt := 77) dX11_setPrices_72 (by decide) tX11_setPrices_77))))))))))))))
set_option maxRecDepth 100000 in
theorem tX11_setPrices_17 {l : Launch} {D : zD} {B sz0 : Nat} {post : Option Value → zS → Prop} : zSnd l D B xX11_setPrices sz0 post 17 kX11_setPrices_17 (z_Jl l D B xX11_setPrices sz0 post 2 (z_Jr post)) := s_lp (body := bX11_setPrices_17) (s_iload dX11_setPrices_17 (s_aload_n dX11_setPrices_19 rfl (s_getR (f := 1) dX11_setPrices_20 clX11 (by decide) rfl wd527 (s_getR (f := 1) dX11_setPrices_23 clX7 (by decide) rfl wd583 (s_getI (f := 0) dX11_setPrices_26 clX5 (by decide) rfl wd584 (s_icmp_ge (tgt := 86) dX11_setPrices_29 (by decide) (s_dn tX11_setPrices_86) (s_iload_n dX11_setPrices_32 rfl (s_if_eq (tgt := 47) dX11_setPrices_33 (by decide) (s_iconst dX11_setPrices_47 (by decide) tX11_setPrices_48) (s_aload_n dX11_setPrices_36 rfl (s_iload_n dX11_setPrices_37 rfl (s_iload_n dX11_setPrices_38 rfl (s_iload dX11_setPrices_39 (s_callV (r := (RX11, TX11, 13)) dX11_setPrices_41 mX11_costsOf meX11_costsOf wd646 wd647 rfl rfl reX11_costsOf rmX11_setPrices (fitX11_setPrices_41) wd648 (s_goto (tgt := 48) dX11_setPrices_44 (by decide) tX11_setPrices_48))))))))))))))
set_option maxRecDepth 100000 in
theorem tX11_setPrices_2 {l : Launch} {D : zD} {B sz0 : Nat} {post : Option Value → zS → Prop} : zSnd l D B xX11_setPrices sz0 post 2 kX11_setPrices_2 (z_Jr post) := s_lp (body := bX11_setPrices_2) (s_iload_n dX11_setPrices_2 rfl (s_aload_n dX11_setPrices_3 rfl (s_getR (f := 4) dX11_setPrices_4 clX11 (by decide) rfl wd531 (s_iload_n dX11_setPrices_7 rfl (s_callV (r := (RX1, TX1, 5)) dX11_setPrices_8 mX1_lengthOf meX1_lengthOf wd65 wd66 rfl rfl reX1_lengthOf rmX11_setPrices (fitX11_setPrices_8) wd616 (s_icmp_ge (tgt := 92) dX11_setPrices_11 (by decide) (s_dn tX11_setPrices_92) (s_iconst dX11_setPrices_14 (by decide) (s_istore dX11_setPrices_15 tX11_setPrices_17))))))))
set_option maxRecDepth 100000 in
theorem tX11_setPrices_0 {l : Launch} {D : zD} {B sz0 : Nat} {post : Option Value → zS → Prop} : zSnd l D B xX11_setPrices sz0 post 0 kX11_setPrices_0 (z_Jr post) := (s_iconst dX11_setPrices_0 (by decide) (s_istore_n dX11_setPrices_1 rfl tX11_setPrices_2))
noncomputable def fX11_setPrices : zF := z_fn 6 kX11_setPrices_0
theorem mX11_setPrices {l : Launch} {D : zD} {B : Nat} : z_MF l D B yX11_setPrices xX11_setPrices fX11_setPrices := z_mf (by decide) rfl (fun h => by cases h) rfl (fun as σ r h => ⟨z_fn_len h, kX11_setPrices_0, z_fn_run h, fun _ => tX11_setPrices_0⟩)
/-! ===== RowChildren.repaint ===== -/
theorem dX11_repaint_0 : decode cX11_repaint 0 = .ok (.aload_n 0, 1) := by decide +kernel
theorem dX11_repaint_1 : decode cX11_repaint 1 = .ok (.iload_n 1, 1) := by decide +kernel
theorem dX11_repaint_2 : decode cX11_repaint 2 = .ok (.invokevirtual 134, 3) := by decide +kernel
theorem dX11_repaint_5 : decode cX11_repaint 5 = .ok (.ifCond .eq 18, 3) := by decide +kernel
theorem dX11_repaint_8 : decode cX11_repaint 8 = .ok (.aload_n 0, 1) := by decide +kernel
theorem dX11_repaint_9 : decode cX11_repaint 9 = .ok (.iload_n 2, 1) := by decide +kernel
theorem dX11_repaint_10 : decode cX11_repaint 10 = .ok (.invokevirtual 120, 3) := by decide +kernel
theorem dX11_repaint_13 : decode cX11_repaint 13 = .ok (.ifCond .eq 10, 3) := by decide +kernel
theorem dX11_repaint_16 : decode cX11_repaint 16 = .ok (.iload_n 3, 1) := by decide +kernel
theorem dX11_repaint_17 : decode cX11_repaint 17 = .ok (.invokestatic 184, 3) := by decide +kernel
theorem dX11_repaint_20 : decode cX11_repaint 20 = .ok (.ifCond .ne 5, 3) := by decide +kernel
theorem dX11_repaint_23 : decode cX11_repaint 23 = .ok (.iconst (-1), 1) := by decide +kernel
theorem dX11_repaint_24 : decode cX11_repaint 24 = .ok (.ireturn, 1) := by decide +kernel
theorem dX11_repaint_25 : decode cX11_repaint 25 = .ok (.aload_n 0, 1) := by decide +kernel
theorem dX11_repaint_26 : decode cX11_repaint 26 = .ok (.iload_n 1, 1) := by decide +kernel
theorem dX11_repaint_27 : decode cX11_repaint 27 = .ok (.iconst 1, 1) := by decide +kernel
theorem dX11_repaint_28 : decode cX11_repaint 28 = .ok (.invokevirtual 245, 3) := by decide +kernel
theorem dX11_repaint_31 : decode cX11_repaint 31 = .ok (.aload_n 0, 1) := by decide +kernel
theorem dX11_repaint_32 : decode cX11_repaint 32 = .ok (.getfield 75, 3) := by decide +kernel
theorem dX11_repaint_35 : decode cX11_repaint 35 = .ok (.aload_n 0, 1) := by decide +kernel
theorem dX11_repaint_36 : decode cX11_repaint 36 = .ok (.getfield 19, 3) := by decide +kernel
theorem dX11_repaint_39 : decode cX11_repaint 39 = .ok (.getfield 124, 3) := by decide +kernel
theorem dX11_repaint_42 : decode cX11_repaint 42 = .ok (.aload_n 0, 1) := by decide +kernel
theorem dX11_repaint_43 : decode cX11_repaint 43 = .ok (.getfield 33, 3) := by decide +kernel
theorem dX11_repaint_46 : decode cX11_repaint 46 = .ok (.iload_n 1, 1) := by decide +kernel
theorem dX11_repaint_47 : decode cX11_repaint 47 = .ok (.invokevirtual 141, 3) := by decide +kernel
theorem dX11_repaint_50 : decode cX11_repaint 50 = .ok (.iload_n 2, 1) := by decide +kernel
theorem dX11_repaint_51 : decode cX11_repaint 51 = .ok (.invokevirtual 249, 3) := by decide +kernel
theorem dX11_repaint_54 : decode cX11_repaint 54 = .ok (.aload_n 0, 1) := by decide +kernel
theorem dX11_repaint_55 : decode cX11_repaint 55 = .ok (.getfield 75, 3) := by decide +kernel
theorem dX11_repaint_58 : decode cX11_repaint 58 = .ok (.iload_n 3, 1) := by decide +kernel
theorem dX11_repaint_59 : decode cX11_repaint 59 = .ok (.invokevirtual 253, 3) := by decide +kernel
theorem dX11_repaint_62 : decode cX11_repaint 62 = .ok (.ireturn, 1) := by decide +kernel
def xX11_repaint : zX := (RX11, cX11_repaint, 4, (some .int), false, { frames := 23, cells := 0, slots := 0, locals := 646 }, 0, 0, 0, 0)
theorem rmX11_repaint : z_Rm xX11_repaint := by unfold z_Rm xX11_repaint; exact ⟨by decide, by decide⟩
theorem reX11_repaint : z_Re xX11_repaint := ⟨rfl, rfl⟩
theorem rlX11_repaint : 1 ≤ xX11_repaint.2.2.2.2.2.1.frames ∧ 21 ≤ xX11_repaint.2.2.2.2.2.1.locals := by unfold xX11_repaint; exact ⟨by decide, by decide⟩
theorem meX11_repaint : z_Me yX11_repaint xX11_repaint 3 := ⟨wd714, wd275, by decide, by decide, by decide +kernel⟩
theorem fitX11_repaint_2 : z_Fit xX11_isRow xX11_repaint := by unfold z_Fit; simp only [xX11_isRow, xX11_repaint]; exact ⟨by decide, by decide⟩
theorem fitX11_repaint_10 : z_Fit xX11_isColour xX11_repaint := by unfold z_Fit; simp only [xX11_isColour, xX11_repaint]; exact ⟨by decide, by decide⟩
theorem fitX11_repaint_17 : z_Fit xX11_isOneOfTwo xX11_repaint := by unfold z_Fit; simp only [xX11_isOneOfTwo, xX11_repaint]; exact ⟨by decide, by decide⟩
theorem fitX11_repaint_28 : z_Fit xX11_setPrices xX11_repaint := by unfold z_Fit; simp only [xX11_setPrices, xX11_repaint]; exact ⟨by decide, by decide⟩
theorem fitX11_repaint_47 : z_Fit xX1_lengthOf xX11_repaint := by unfold z_Fit; simp only [xX1_lengthOf, xX11_repaint]; exact ⟨by decide, by decide⟩
theorem fitX11_repaint_51 : z_Fit xX4_towardsLast xX11_repaint := by unfold z_Fit; simp only [xX4_towardsLast, xX11_repaint]; exact ⟨by decide, by decide⟩
theorem fitX11_repaint_59 : z_Fit xX4_answer xX11_repaint := by unfold z_Fit; simp only [xX4_answer, xX11_repaint]; exact ⟨by decide, by decide⟩
noncomputable def kX11_repaint_23 : zK zR := (q_push (-1) q_iret)
noncomputable def kX11_repaint_0 : zK zR := (q_aload 0 (q_iload 1 (q_callV 11 fX11_isRow 1 (q_if_eq kX11_repaint_23 (q_aload 0 (q_iload 2 (q_callV 11 fX11_isColour 1 (q_if_eq kX11_repaint_23 (q_iload 3 (q_callS fX11_isOneOfTwo 1 (q_if_ne (q_aload 0 (q_iload 1 (q_push 1 (q_callV 11 fX11_setPrices 2 (q_aload 0 (q_getR 11 11 (q_aload 0 (q_getR 11 1 (q_getR 7 1 (q_aload 0 (q_getR 11 4 (q_iload 1 (q_callV 1 fX1_lengthOf 1 (q_iload 2 (q_callV 4 fX4_towardsLast 3 (q_aload 0 (q_getR 11 11 (q_iload 3 (q_callV 4 fX4_answer 1 q_iret))))))))))))))))))) kX11_repaint_23)))))))))))
set_option maxRecDepth 100000 in
theorem tX11_repaint_23 {l : Launch} {D : zD} {B sz0 : Nat} {post : Option Value → zS → Prop} : zSnd l D B xX11_repaint sz0 post 23 kX11_repaint_23 (z_Jr post) := (s_iconst dX11_repaint_23 (by decide) (s_iret dX11_repaint_24 rfl))
set_option maxRecDepth 100000 in
theorem tX11_repaint_0 {l : Launch} {D : zD} {B sz0 : Nat} {post : Option Value → zS → Prop} : zSnd l D B xX11_repaint sz0 post 0 kX11_repaint_0 (z_Jr post) := (s_aload_n dX11_repaint_0 rfl (s_iload_n dX11_repaint_1 rfl (s_callV (r := (RX11, TX11, 13)) dX11_repaint_2 mX11_isRow meX11_isRow wd610 wd611 rfl rfl reX11_isRow rmX11_repaint (fitX11_repaint_2) wd612 (s_if_eq (tgt := 23) dX11_repaint_5 (by decide) tX11_repaint_23 (s_aload_n dX11_repaint_8 rfl (s_iload_n dX11_repaint_9 rfl (s_callV (r := (RX11, TX11, 13)) dX11_repaint_10 mX11_isColour meX11_isColour wd586 wd587 rfl rfl reX11_isColour rmX11_repaint (fitX11_repaint_10) wd588 (s_if_eq (tgt := 23) dX11_repaint_13 (by decide) tX11_repaint_23 (s_iload_n dX11_repaint_16 rfl (s_callS dX11_repaint_17 mX11_isOneOfTwo meX11_isOneOfTwo wd636 rfl reX11_isOneOfTwo rmX11_repaint (fitX11_repaint_17) wd637 (s_if_ne (tgt := 25) dX11_repaint_20 (by decide) (s_aload_n dX11_repaint_25 rfl (s_iload_n dX11_repaint_26 rfl (s_iconst dX11_repaint_27 (by decide) (s_callV (r := (RX11, TX11, 13)) dX11_repaint_28 mX11_setPrices meX11_setPrices wd705 wd706 rfl rfl reX11_setPrices rmX11_repaint (fitX11_repaint_28) wd707 (s_aload_n dX11_repaint_31 rfl (s_getR (f := 11) dX11_repaint_32 clX11 (by decide) rfl wd552 (s_aload_n dX11_repaint_35 rfl (s_getR (f := 1) dX11_repaint_36 clX11 (by decide) rfl wd527 (s_getR (f := 1) dX11_repaint_39 clX7 (by decide) rfl wd583 (s_aload_n dX11_repaint_42 rfl (s_getR (f := 4) dX11_repaint_43 clX11 (by decide) rfl wd531 (s_iload_n dX11_repaint_46 rfl (s_callV (r := (RX1, TX1, 5)) dX11_repaint_47 mX1_lengthOf meX1_lengthOf wd65 wd66 rfl rfl reX1_lengthOf rmX11_repaint (fitX11_repaint_47) wd616 (s_iload_n dX11_repaint_50 rfl (s_callV (r := (RX4, TX4, 7)) dX11_repaint_51 mX4_towardsLast meX4_towardsLast wd708 wd709 rfl rfl reX4_towardsLast rmX11_repaint (fitX11_repaint_51) wd710 (s_aload_n dX11_repaint_54 rfl (s_getR (f := 11) dX11_repaint_55 clX11 (by decide) rfl wd552 (s_iload_n dX11_repaint_58 rfl (s_callV (r := (RX4, TX4, 7)) dX11_repaint_59 mX4_answer meX4_answer wd711 wd712 rfl rfl reX4_answer rmX11_repaint (fitX11_repaint_59) wd713 (s_iret dX11_repaint_62 rfl)))))))))))))))))))) tX11_repaint_23)))))))))))
noncomputable def fX11_repaint : zF := z_fn 4 kX11_repaint_0
theorem mX11_repaint {l : Launch} {D : zD} {B : Nat} : z_MF l D B yX11_repaint xX11_repaint fX11_repaint := z_mf (by decide) rfl (fun h => by cases h) rfl (fun as σ r h => ⟨z_fn_len h, kX11_repaint_0, z_fn_run h, fun _ => tX11_repaint_0⟩)
/-! ===== RowChildren.fairly ===== -/
theorem dX11_fairly_0 : decode cX11_fairly 0 = .ok (.aload_n 0, 1) := by decide +kernel
theorem dX11_fairly_1 : decode cX11_fairly 1 = .ok (.iload_n 1, 1) := by decide +kernel
theorem dX11_fairly_2 : decode cX11_fairly 2 = .ok (.invokevirtual 134, 3) := by decide +kernel
theorem dX11_fairly_5 : decode cX11_fairly 5 = .ok (.ifCond .eq 10, 3) := by decide +kernel
theorem dX11_fairly_8 : decode cX11_fairly 8 = .ok (.iload_n 2, 1) := by decide +kernel
theorem dX11_fairly_9 : decode cX11_fairly 9 = .ok (.invokestatic 184, 3) := by decide +kernel
theorem dX11_fairly_12 : decode cX11_fairly 12 = .ok (.ifCond .ne 5, 3) := by decide +kernel
theorem dX11_fairly_15 : decode cX11_fairly 15 = .ok (.iconst (-1), 1) := by decide +kernel
theorem dX11_fairly_16 : decode cX11_fairly 16 = .ok (.ireturn, 1) := by decide +kernel
theorem dX11_fairly_17 : decode cX11_fairly 17 = .ok (.aload_n 0, 1) := by decide +kernel
theorem dX11_fairly_18 : decode cX11_fairly 18 = .ok (.iload_n 1, 1) := by decide +kernel
theorem dX11_fairly_19 : decode cX11_fairly 19 = .ok (.iconst 0, 1) := by decide +kernel
theorem dX11_fairly_20 : decode cX11_fairly 20 = .ok (.invokevirtual 245, 3) := by decide +kernel
theorem dX11_fairly_23 : decode cX11_fairly 23 = .ok (.aload_n 0, 1) := by decide +kernel
theorem dX11_fairly_24 : decode cX11_fairly 24 = .ok (.getfield 75, 3) := by decide +kernel
theorem dX11_fairly_27 : decode cX11_fairly 27 = .ok (.aload_n 0, 1) := by decide +kernel
theorem dX11_fairly_28 : decode cX11_fairly 28 = .ok (.getfield 19, 3) := by decide +kernel
theorem dX11_fairly_31 : decode cX11_fairly 31 = .ok (.getfield 124, 3) := by decide +kernel
theorem dX11_fairly_34 : decode cX11_fairly 34 = .ok (.aload_n 0, 1) := by decide +kernel
theorem dX11_fairly_35 : decode cX11_fairly 35 = .ok (.getfield 33, 3) := by decide +kernel
theorem dX11_fairly_38 : decode cX11_fairly 38 = .ok (.iload_n 1, 1) := by decide +kernel
theorem dX11_fairly_39 : decode cX11_fairly 39 = .ok (.invokevirtual 141, 3) := by decide +kernel
theorem dX11_fairly_42 : decode cX11_fairly 42 = .ok (.invokevirtual 256, 3) := by decide +kernel
theorem dX11_fairly_45 : decode cX11_fairly 45 = .ok (.aload_n 0, 1) := by decide +kernel
theorem dX11_fairly_46 : decode cX11_fairly 46 = .ok (.getfield 75, 3) := by decide +kernel
theorem dX11_fairly_49 : decode cX11_fairly 49 = .ok (.iload_n 2, 1) := by decide +kernel
theorem dX11_fairly_50 : decode cX11_fairly 50 = .ok (.invokevirtual 253, 3) := by decide +kernel
theorem dX11_fairly_53 : decode cX11_fairly 53 = .ok (.ireturn, 1) := by decide +kernel
def xX11_fairly : zX := (RX11, cX11_fairly, 3, (some .int), false, { frames := 23, cells := 0, slots := 0, locals := 646 }, 0, 0, 0, 0)
theorem rmX11_fairly : z_Rm xX11_fairly := by unfold z_Rm xX11_fairly; exact ⟨by decide, by decide⟩
theorem reX11_fairly : z_Re xX11_fairly := ⟨rfl, rfl⟩
theorem rlX11_fairly : 1 ≤ xX11_fairly.2.2.2.2.2.1.frames ∧ 21 ≤ xX11_fairly.2.2.2.2.2.1.locals := by unfold xX11_fairly; exact ⟨by decide, by decide⟩
theorem meX11_fairly : z_Me yX11_fairly xX11_fairly 2 := ⟨wd718, wd275, by decide, by decide, by decide +kernel⟩
theorem fitX11_fairly_2 : z_Fit xX11_isRow xX11_fairly := by unfold z_Fit; simp only [xX11_isRow, xX11_fairly]; exact ⟨by decide, by decide⟩
theorem fitX11_fairly_9 : z_Fit xX11_isOneOfTwo xX11_fairly := by unfold z_Fit; simp only [xX11_isOneOfTwo, xX11_fairly]; exact ⟨by decide, by decide⟩
theorem fitX11_fairly_20 : z_Fit xX11_setPrices xX11_fairly := by unfold z_Fit; simp only [xX11_setPrices, xX11_fairly]; exact ⟨by decide, by decide⟩
theorem fitX11_fairly_39 : z_Fit xX1_lengthOf xX11_fairly := by unfold z_Fit; simp only [xX1_lengthOf, xX11_fairly]; exact ⟨by decide, by decide⟩
theorem fitX11_fairly_42 : z_Fit xX4_towardsFair xX11_fairly := by unfold z_Fit; simp only [xX4_towardsFair, xX11_fairly]; exact ⟨by decide, by decide⟩
theorem fitX11_fairly_50 : z_Fit xX4_answer xX11_fairly := by unfold z_Fit; simp only [xX4_answer, xX11_fairly]; exact ⟨by decide, by decide⟩
noncomputable def kX11_fairly_15 : zK zR := (q_push (-1) q_iret)
noncomputable def kX11_fairly_0 : zK zR := (q_aload 0 (q_iload 1 (q_callV 11 fX11_isRow 1 (q_if_eq kX11_fairly_15 (q_iload 2 (q_callS fX11_isOneOfTwo 1 (q_if_ne (q_aload 0 (q_iload 1 (q_push 0 (q_callV 11 fX11_setPrices 2 (q_aload 0 (q_getR 11 11 (q_aload 0 (q_getR 11 1 (q_getR 7 1 (q_aload 0 (q_getR 11 4 (q_iload 1 (q_callV 1 fX1_lengthOf 1 (q_callV 4 fX4_towardsFair 2 (q_aload 0 (q_getR 11 11 (q_iload 2 (q_callV 4 fX4_answer 1 q_iret)))))))))))))))))) kX11_fairly_15)))))))
set_option maxRecDepth 100000 in
theorem tX11_fairly_15 {l : Launch} {D : zD} {B sz0 : Nat} {post : Option Value → zS → Prop} : zSnd l D B xX11_fairly sz0 post 15 kX11_fairly_15 (z_Jr post) := (s_iconst dX11_fairly_15 (by decide) (s_iret dX11_fairly_16 rfl))
set_option maxRecDepth 100000 in
theorem tX11_fairly_0 {l : Launch} {D : zD} {B sz0 : Nat} {post : Option Value → zS → Prop} : zSnd l D B xX11_fairly sz0 post 0 kX11_fairly_0 (z_Jr post) := (s_aload_n dX11_fairly_0 rfl (s_iload_n dX11_fairly_1 rfl (s_callV (r := (RX11, TX11, 13)) dX11_fairly_2 mX11_isRow meX11_isRow wd610 wd611 rfl rfl reX11_isRow rmX11_fairly (fitX11_fairly_2) wd612 (s_if_eq (tgt := 15) dX11_fairly_5 (by decide) tX11_fairly_15 (s_iload_n dX11_fairly_8 rfl (s_callS dX11_fairly_9 mX11_isOneOfTwo meX11_isOneOfTwo wd636 rfl reX11_isOneOfTwo rmX11_fairly (fitX11_fairly_9) wd637 (s_if_ne (tgt := 17) dX11_fairly_12 (by decide) (s_aload_n dX11_fairly_17 rfl (s_iload_n dX11_fairly_18 rfl (s_iconst dX11_fairly_19 (by decide) (s_callV (r := (RX11, TX11, 13)) dX11_fairly_20 mX11_setPrices meX11_setPrices wd705 wd706 rfl rfl reX11_setPrices rmX11_fairly (fitX11_fairly_20) wd707 (s_aload_n dX11_fairly_23 rfl (s_getR (f := 11) dX11_fairly_24 clX11 (by decide) rfl wd552 (s_aload_n dX11_fairly_27 rfl (s_getR (f := 1) dX11_fairly_28 clX11 (by decide) rfl wd527 (s_getR (f := 1) dX11_fairly_31 clX7 (by decide) rfl wd583 (s_aload_n dX11_fairly_34 rfl (s_getR (f := 4) dX11_fairly_35 clX11 (by decide) rfl wd531 (s_iload_n dX11_fairly_38 rfl (s_callV (r := (RX1, TX1, 5)) dX11_fairly_39 mX1_lengthOf meX1_lengthOf wd65 wd66 rfl rfl reX1_lengthOf rmX11_fairly (fitX11_fairly_39) wd616 (s_callV (r := (RX4, TX4, 7)) dX11_fairly_42 mX4_towardsFair meX4_towardsFair wd715 wd716 rfl rfl reX4_towardsFair rmX11_fairly (fitX11_fairly_42) wd717 (s_aload_n dX11_fairly_45 rfl (s_getR (f := 11) dX11_fairly_46 clX11 (by decide) rfl wd552 (s_iload_n dX11_fairly_49 rfl (s_callV (r := (RX4, TX4, 7)) dX11_fairly_50 mX4_answer meX4_answer wd711 wd712 rfl rfl reX4_answer rmX11_fairly (fitX11_fairly_50) wd713 (s_iret dX11_fairly_53 rfl))))))))))))))))))) tX11_fairly_15)))))))
noncomputable def fX11_fairly : zF := z_fn 3 kX11_fairly_0
theorem mX11_fairly {l : Launch} {D : zD} {B : Nat} : z_MF l D B yX11_fairly xX11_fairly fX11_fairly := z_mf (by decide) rfl (fun h => by cases h) rfl (fun as σ r h => ⟨z_fn_len h, kX11_fairly_0, z_fn_run h, fun _ => tX11_fairly_0⟩)
/-! ===== RowChildren.otherLastBy ===== -/
theorem dX11_otherLastBy_0 : decode cX11_otherLastBy 0 = .ok (.aload_n 0, 1) := by decide +kernel
theorem dX11_otherLastBy_1 : decode cX11_otherLastBy 1 = .ok (.getfield 33, 3) := by decide +kernel
theorem dX11_otherLastBy_4 : decode cX11_otherLastBy 4 = .ok (.iload_n 1, 1) := by decide +kernel
theorem dX11_otherLastBy_5 : decode cX11_otherLastBy 5 = .ok (.invokevirtual 141, 3) := by decide +kernel
theorem dX11_otherLastBy_8 : decode cX11_otherLastBy 8 = .ok (.istore 4, 2) := by decide +kernel
theorem dX11_otherLastBy_10 : decode cX11_otherLastBy 10 = .ok (.iconst 0, 1) := by decide +kernel
theorem dX11_otherLastBy_11 : decode cX11_otherLastBy 11 = .ok (.istore 5, 2) := by decide +kernel
theorem dX11_otherLastBy_13 : decode cX11_otherLastBy 13 = .ok (.iload 5, 2) := by decide +kernel
theorem dX11_otherLastBy_15 : decode cX11_otherLastBy 15 = .ok (.aload_n 0, 1) := by decide +kernel
theorem dX11_otherLastBy_16 : decode cX11_otherLastBy 16 = .ok (.getfield 19, 3) := by decide +kernel
theorem dX11_otherLastBy_19 : decode cX11_otherLastBy 19 = .ok (.getfield 124, 3) := by decide +kernel
theorem dX11_otherLastBy_22 : decode cX11_otherLastBy 22 = .ok (.getfield 145, 3) := by decide +kernel
theorem dX11_otherLastBy_25 : decode cX11_otherLastBy 25 = .ok (.if_icmp .ge 75, 3) := by decide +kernel
theorem dX11_otherLastBy_28 : decode cX11_otherLastBy 28 = .ok (.iconst 0, 1) := by decide +kernel
theorem dX11_otherLastBy_29 : decode cX11_otherLastBy 29 = .ok (.istore 6, 2) := by decide +kernel
theorem dX11_otherLastBy_31 : decode cX11_otherLastBy 31 = .ok (.iload 6, 2) := by decide +kernel
theorem dX11_otherLastBy_33 : decode cX11_otherLastBy 33 = .ok (.iload 4, 2) := by decide +kernel
theorem dX11_otherLastBy_35 : decode cX11_otherLastBy 35 = .ok (.if_icmp .ge 46, 3) := by decide +kernel
theorem dX11_otherLastBy_38 : decode cX11_otherLastBy 38 = .ok (.aload_n 0, 1) := by decide +kernel
theorem dX11_otherLastBy_39 : decode cX11_otherLastBy 39 = .ok (.getfield 54, 3) := by decide +kernel
theorem dX11_otherLastBy_42 : decode cX11_otherLastBy 42 = .ok (.aload_n 0, 1) := by decide +kernel
theorem dX11_otherLastBy_43 : decode cX11_otherLastBy 43 = .ok (.getfield 19, 3) := by decide +kernel
theorem dX11_otherLastBy_46 : decode cX11_otherLastBy 46 = .ok (.getfield 124, 3) := by decide +kernel
theorem dX11_otherLastBy_49 : decode cX11_otherLastBy 49 = .ok (.iload 6, 2) := by decide +kernel
theorem dX11_otherLastBy_51 : decode cX11_otherLastBy 51 = .ok (.iload 6, 2) := by decide +kernel
theorem dX11_otherLastBy_53 : decode cX11_otherLastBy 53 = .ok (.iload_n 2, 1) := by decide +kernel
theorem dX11_otherLastBy_54 : decode cX11_otherLastBy 54 = .ok (.if_icmp .ne 8, 3) := by decide +kernel
theorem dX11_otherLastBy_57 : decode cX11_otherLastBy 57 = .ok (.iload 5, 2) := by decide +kernel
theorem dX11_otherLastBy_59 : decode cX11_otherLastBy 59 = .ok (.goto 13, 3) := by decide +kernel
theorem dX11_otherLastBy_62 : decode cX11_otherLastBy 62 = .ok (.aload_n 0, 1) := by decide +kernel
theorem dX11_otherLastBy_63 : decode cX11_otherLastBy 63 = .ok (.getfield 33, 3) := by decide +kernel
theorem dX11_otherLastBy_66 : decode cX11_otherLastBy 66 = .ok (.iload_n 1, 1) := by decide +kernel
theorem dX11_otherLastBy_67 : decode cX11_otherLastBy 67 = .ok (.iload 6, 2) := by decide +kernel
theorem dX11_otherLastBy_69 : decode cX11_otherLastBy 69 = .ok (.invokevirtual 318, 3) := by decide +kernel
theorem dX11_otherLastBy_72 : decode cX11_otherLastBy 72 = .ok (.invokevirtual 406, 3) := by decide +kernel
theorem dX11_otherLastBy_75 : decode cX11_otherLastBy 75 = .ok (.iinc 6 1, 3) := by decide +kernel
theorem dX11_otherLastBy_78 : decode cX11_otherLastBy 78 = .ok (.goto (-47), 3) := by decide +kernel
theorem dX11_otherLastBy_81 : decode cX11_otherLastBy 81 = .ok (.aload_n 0, 1) := by decide +kernel
theorem dX11_otherLastBy_82 : decode cX11_otherLastBy 82 = .ok (.getfield 54, 3) := by decide +kernel
theorem dX11_otherLastBy_85 : decode cX11_otherLastBy 85 = .ok (.invokevirtual 151, 3) := by decide +kernel
theorem dX11_otherLastBy_88 : decode cX11_otherLastBy 88 = .ok (.iload_n 3, 1) := by decide +kernel
theorem dX11_otherLastBy_89 : decode cX11_otherLastBy 89 = .ok (.if_icmp .eq 5, 3) := by decide +kernel
theorem dX11_otherLastBy_92 : decode cX11_otherLastBy 92 = .ok (.iconst 1, 1) := by decide +kernel
theorem dX11_otherLastBy_93 : decode cX11_otherLastBy 93 = .ok (.ireturn, 1) := by decide +kernel
theorem dX11_otherLastBy_94 : decode cX11_otherLastBy 94 = .ok (.iinc 5 1, 3) := by decide +kernel
theorem dX11_otherLastBy_97 : decode cX11_otherLastBy 97 = .ok (.goto (-84), 3) := by decide +kernel
theorem dX11_otherLastBy_100 : decode cX11_otherLastBy 100 = .ok (.iconst 0, 1) := by decide +kernel
theorem dX11_otherLastBy_101 : decode cX11_otherLastBy 101 = .ok (.ireturn, 1) := by decide +kernel
def xX11_otherLastBy : zX := (RX11, cX11_otherLastBy, 7, (some .boolean), false, { frames := 3, cells := 0, slots := 0, locals := 132 }, 0, 0, 0, 0)
theorem rmX11_otherLastBy : z_Rm xX11_otherLastBy := by unfold z_Rm xX11_otherLastBy; exact ⟨by decide, by decide⟩
theorem reX11_otherLastBy : z_Re xX11_otherLastBy := ⟨rfl, rfl⟩
theorem rlX11_otherLastBy : 1 ≤ xX11_otherLastBy.2.2.2.2.2.1.frames ∧ 21 ≤ xX11_otherLastBy.2.2.2.2.2.1.locals := by unfold xX11_otherLastBy; exact ⟨by decide, by decide⟩
theorem meX11_otherLastBy : z_Me yX11_otherLastBy xX11_otherLastBy 3 := ⟨wd720, wd275, by decide, by decide, by decide +kernel⟩
theorem fitX11_otherLastBy_5 : z_Fit xX1_lengthOf xX11_otherLastBy := by unfold z_Fit; simp only [xX1_lengthOf, xX11_otherLastBy]; exact ⟨by decide, by decide⟩
theorem fitX11_otherLastBy_85 : z_Fit xX10_lastChild xX11_otherLastBy := by unfold z_Fit; simp only [xX10_lastChild, xX11_otherLastBy]; exact ⟨by decide, by decide⟩
theorem fitX11_otherLastBy_69 : z_Fit xX1_colourAt xX11_otherLastBy := by unfold z_Fit; simp only [xX1_colourAt, xX11_otherLastBy]; exact ⟨by decide, by decide⟩
theorem fitX11_otherLastBy_72 : z_Fit xX10_put xX11_otherLastBy := by unfold z_Fit; simp only [xX10_put, xX11_otherLastBy]; exact ⟨by decide, by decide⟩
noncomputable def kX11_otherLastBy_100 : zK zR := (q_push 0 q_zret)
noncomputable def kX11_otherLastBy_92 : zK zR := (q_push 1 q_zret)
noncomputable def kX11_otherLastBy_81 : zK ((zL × zS) ⊕ zR) := (q_aload 0 (q_getR 11 8 (q_callV 10 fX10_lastChild 0 (q_iload 3 (q_icmp_eq (q_iinc 5 1 q_ag) (q_dn kX11_otherLastBy_92))))))
noncomputable def kX11_otherLastBy_72 : zK ((zL × zS) ⊕ ((zL × zS) ⊕ zR)) := (q_callV 10 fX10_put 3 (q_iinc 6 1 q_ag))
noncomputable def bX11_otherLastBy_31 : zK ((zL × zS) ⊕ ((zL × zS) ⊕ zR)) := (q_iload 6 (q_iload 4 (q_icmp_ge (q_dn kX11_otherLastBy_81) (q_aload 0 (q_getR 11 8 (q_aload 0 (q_getR 11 1 (q_getR 7 1 (q_iload 6 (q_iload 6 (q_iload 2 (q_icmp_ne (q_aload 0 (q_getR 11 4 (q_iload 1 (q_iload 6 (q_callV 1 fX1_colourAt 2 kX11_otherLastBy_72))))) (q_iload 5 kX11_otherLastBy_72)))))))))))))
noncomputable def kX11_otherLastBy_31 : zK ((zL × zS) ⊕ zR) := q_lp (bX11_otherLastBy_31)
noncomputable def bX11_otherLastBy_13 : zK ((zL × zS) ⊕ zR) := (q_iload 5 (q_aload 0 (q_getR 11 1 (q_getR 7 1 (q_getI 5 0 (q_icmp_ge (q_dn kX11_otherLastBy_100) (q_push 0 (q_istore 6 kX11_otherLastBy_31))))))))
noncomputable def kX11_otherLastBy_13 : zK zR := q_lp (bX11_otherLastBy_13)
noncomputable def kX11_otherLastBy_0 : zK zR := (q_aload 0 (q_getR 11 4 (q_iload 1 (q_callV 1 fX1_lengthOf 1 (q_istore 4 (q_push 0 (q_istore 5 kX11_otherLastBy_13)))))))
set_option maxRecDepth 100000 in
theorem tX11_otherLastBy_100 {l : Launch} {D : zD} {B sz0 : Nat} {post : Option Value → zS → Prop} : zSnd l D B xX11_otherLastBy sz0 post 100 kX11_otherLastBy_100 (z_Jr post) := (s_iconst dX11_otherLastBy_100 (by decide) (s_zret dX11_otherLastBy_101 rfl))
set_option maxRecDepth 100000 in
theorem tX11_otherLastBy_92 {l : Launch} {D : zD} {B sz0 : Nat} {post : Option Value → zS → Prop} : zSnd l D B xX11_otherLastBy sz0 post 92 kX11_otherLastBy_92 (z_Jr post) := (s_iconst dX11_otherLastBy_92 (by decide) (s_zret dX11_otherLastBy_93 rfl))
set_option maxRecDepth 100000 in
theorem tX11_otherLastBy_81 {l : Launch} {D : zD} {B sz0 : Nat} {post : Option Value → zS → Prop} : zSnd l D B xX11_otherLastBy sz0 post 81 kX11_otherLastBy_81 (z_Jl l D B xX11_otherLastBy sz0 post 13 (z_Jr post)) := (s_aload_n dX11_otherLastBy_81 rfl (s_getR (f := 8) dX11_otherLastBy_82 clX11 (by decide) rfl wd539 (s_callV (r := (RX10, TX10, 3)) dX11_otherLastBy_85 mX10_lastChild meX10_lastChild wd27 wd28 rfl rfl reX10_lastChild rmX11_otherLastBy (fitX11_otherLastBy_85) wd618 (s_iload_n dX11_otherLastBy_88 rfl (s_icmp_eq (tgt := 94) dX11_otherLastBy_89 (by decide) (s_iinc dX11_otherLastBy_94 (by decide) (s_goto (tgt := 13) dX11_otherLastBy_97 (by decide) s_ag)) (s_dn tX11_otherLastBy_92))))))
set_option maxRecDepth 100000 in
theorem tX11_otherLastBy_72 {l : Launch} {D : zD} {B sz0 : Nat} {post : Option Value → zS → Prop} : zSnd l D B xX11_otherLastBy sz0 post 72 kX11_otherLastBy_72 (z_Jl l D B xX11_otherLastBy sz0 post 31 (z_Jl l D B xX11_otherLastBy sz0 post 13 (z_Jr post))) := (s_callV (r := (RX10, TX10, 3)) dX11_otherLastBy_72 mX10_put meX10_put wd34 wd35 rfl rfl reX10_put rmX11_otherLastBy (fitX11_otherLastBy_72) wd719 (s_iinc dX11_otherLastBy_75 (by decide) (s_goto (tgt := 31) dX11_otherLastBy_78 (by decide) s_ag)))
set_option maxRecDepth 100000 in
theorem tX11_otherLastBy_31 {l : Launch} {D : zD} {B sz0 : Nat} {post : Option Value → zS → Prop} : zSnd l D B xX11_otherLastBy sz0 post 31 kX11_otherLastBy_31 (z_Jl l D B xX11_otherLastBy sz0 post 13 (z_Jr post)) := s_lp (body := bX11_otherLastBy_31) (s_iload dX11_otherLastBy_31 (s_iload dX11_otherLastBy_33 (s_icmp_ge (tgt := 81) dX11_otherLastBy_35 (by decide) (s_dn tX11_otherLastBy_81) (s_aload_n dX11_otherLastBy_38 rfl (s_getR (f := 8) dX11_otherLastBy_39 clX11 (by decide) rfl wd539 (s_aload_n dX11_otherLastBy_42 rfl (s_getR (f := 1) dX11_otherLastBy_43 clX11 (by decide) rfl wd527 (s_getR (f := 1) dX11_otherLastBy_46 clX7 (by decide) rfl wd583 (s_iload dX11_otherLastBy_49 (s_iload dX11_otherLastBy_51 (s_iload_n dX11_otherLastBy_53 rfl (s_icmp_ne (tgt := 62) dX11_otherLastBy_54 (by decide) (s_aload_n dX11_otherLastBy_62 rfl (s_getR (f := 4) dX11_otherLastBy_63 clX11 (by decide) rfl wd531 (s_iload_n dX11_otherLastBy_66 rfl (s_iload dX11_otherLastBy_67 (s_callV (r := (RX1, TX1, 5)) dX11_otherLastBy_69 mX1_colourAt meX1_colourAt wd75 wd76 rfl rfl reX1_colourAt rmX11_otherLastBy (fitX11_otherLastBy_69) wd593 tX11_otherLastBy_72))))) (s_iload dX11_otherLastBy_57 (s_goto (tgt := 72) dX11_otherLastBy_59 (by decide) tX11_otherLastBy_72))))))))))))))
set_option maxRecDepth 100000 in
theorem tX11_otherLastBy_13 {l : Launch} {D : zD} {B sz0 : Nat} {post : Option Value → zS → Prop} : zSnd l D B xX11_otherLastBy sz0 post 13 kX11_otherLastBy_13 (z_Jr post) := s_lp (body := bX11_otherLastBy_13) (s_iload dX11_otherLastBy_13 (s_aload_n dX11_otherLastBy_15 rfl (s_getR (f := 1) dX11_otherLastBy_16 clX11 (by decide) rfl wd527 (s_getR (f := 1) dX11_otherLastBy_19 clX7 (by decide) rfl wd583 (s_getI (f := 0) dX11_otherLastBy_22 clX5 (by decide) rfl wd584 (s_icmp_ge (tgt := 100) dX11_otherLastBy_25 (by decide) (s_dn tX11_otherLastBy_100) (s_iconst dX11_otherLastBy_28 (by decide) (s_istore dX11_otherLastBy_29 tX11_otherLastBy_31))))))))
set_option maxRecDepth 100000 in
theorem tX11_otherLastBy_0 {l : Launch} {D : zD} {B sz0 : Nat} {post : Option Value → zS → Prop} : zSnd l D B xX11_otherLastBy sz0 post 0 kX11_otherLastBy_0 (z_Jr post) := (s_aload_n dX11_otherLastBy_0 rfl (s_getR (f := 4) dX11_otherLastBy_1 clX11 (by decide) rfl wd531 (s_iload_n dX11_otherLastBy_4 rfl (s_callV (r := (RX1, TX1, 5)) dX11_otherLastBy_5 mX1_lengthOf meX1_lengthOf wd65 wd66 rfl rfl reX1_lengthOf rmX11_otherLastBy (fitX11_otherLastBy_5) wd616 (s_istore dX11_otherLastBy_8 (s_iconst dX11_otherLastBy_10 (by decide) (s_istore dX11_otherLastBy_11 tX11_otherLastBy_13)))))))
noncomputable def fX11_otherLastBy : zF := z_fn 7 kX11_otherLastBy_0
theorem mX11_otherLastBy {l : Launch} {D : zD} {B : Nat} : z_MF l D B yX11_otherLastBy xX11_otherLastBy fX11_otherLastBy := z_mf (by decide) rfl (fun h => by cases h) rfl (fun as σ r h => ⟨z_fn_len h, kX11_otherLastBy_0, z_fn_run h, fun _ => tX11_otherLastBy_0⟩)
/-! ===== RowChildren.matters ===== -/
theorem dX11_matters_0 : decode cX11_matters 0 = .ok (.aload_n 0, 1) := by decide +kernel
theorem dX11_matters_1 : decode cX11_matters 1 = .ok (.iload_n 1, 1) := by decide +kernel
theorem dX11_matters_2 : decode cX11_matters 2 = .ok (.invokevirtual 134, 3) := by decide +kernel
theorem dX11_matters_5 : decode cX11_matters 5 = .ok (.ifCond .ne 5, 3) := by decide +kernel
theorem dX11_matters_8 : decode cX11_matters 8 = .ok (.iconst (-1), 1) := by decide +kernel
theorem dX11_matters_9 : decode cX11_matters 9 = .ok (.ireturn, 1) := by decide +kernel
theorem dX11_matters_10 : decode cX11_matters 10 = .ok (.aload_n 0, 1) := by decide +kernel
theorem dX11_matters_11 : decode cX11_matters 11 = .ok (.getfield 54, 3) := by decide +kernel
theorem dX11_matters_14 : decode cX11_matters 14 = .ok (.aload_n 0, 1) := by decide +kernel
theorem dX11_matters_15 : decode cX11_matters 15 = .ok (.getfield 19, 3) := by decide +kernel
theorem dX11_matters_18 : decode cX11_matters 18 = .ok (.getfield 124, 3) := by decide +kernel
theorem dX11_matters_21 : decode cX11_matters 21 = .ok (.aload_n 0, 1) := by decide +kernel
theorem dX11_matters_22 : decode cX11_matters 22 = .ok (.getfield 33, 3) := by decide +kernel
theorem dX11_matters_25 : decode cX11_matters 25 = .ok (.iload_n 1, 1) := by decide +kernel
theorem dX11_matters_26 : decode cX11_matters 26 = .ok (.invokevirtual 137, 3) := by decide +kernel
theorem dX11_matters_29 : decode cX11_matters 29 = .ok (.aload_n 0, 1) := by decide +kernel
theorem dX11_matters_30 : decode cX11_matters 30 = .ok (.getfield 54, 3) := by decide +kernel
theorem dX11_matters_33 : decode cX11_matters 33 = .ok (.invokevirtual 151, 3) := by decide +kernel
theorem dX11_matters_36 : decode cX11_matters 36 = .ok (.istore_n 2, 1) := by decide +kernel
theorem dX11_matters_37 : decode cX11_matters 37 = .ok (.iconst 0, 1) := by decide +kernel
theorem dX11_matters_38 : decode cX11_matters 38 = .ok (.istore_n 3, 1) := by decide +kernel
theorem dX11_matters_39 : decode cX11_matters 39 = .ok (.iconst 0, 1) := by decide +kernel
theorem dX11_matters_40 : decode cX11_matters 40 = .ok (.istore 4, 2) := by decide +kernel
theorem dX11_matters_42 : decode cX11_matters 42 = .ok (.iload 4, 2) := by decide +kernel
theorem dX11_matters_44 : decode cX11_matters 44 = .ok (.aload_n 0, 1) := by decide +kernel
theorem dX11_matters_45 : decode cX11_matters 45 = .ok (.getfield 33, 3) := by decide +kernel
theorem dX11_matters_48 : decode cX11_matters 48 = .ok (.iload_n 1, 1) := by decide +kernel
theorem dX11_matters_49 : decode cX11_matters 49 = .ok (.invokevirtual 141, 3) := by decide +kernel
theorem dX11_matters_52 : decode cX11_matters 52 = .ok (.if_icmp .ge 27, 3) := by decide +kernel
theorem dX11_matters_55 : decode cX11_matters 55 = .ok (.aload_n 0, 1) := by decide +kernel
theorem dX11_matters_56 : decode cX11_matters 56 = .ok (.iload_n 1, 1) := by decide +kernel
theorem dX11_matters_57 : decode cX11_matters 57 = .ok (.iload 4, 2) := by decide +kernel
theorem dX11_matters_59 : decode cX11_matters 59 = .ok (.iload_n 2, 1) := by decide +kernel
theorem dX11_matters_60 : decode cX11_matters 60 = .ok (.invokevirtual 259, 3) := by decide +kernel
theorem dX11_matters_63 : decode cX11_matters 63 = .ok (.ifCond .eq 10, 3) := by decide +kernel
theorem dX11_matters_66 : decode cX11_matters 66 = .ok (.iload_n 3, 1) := by decide +kernel
theorem dX11_matters_67 : decode cX11_matters 67 = .ok (.iconst 1, 1) := by decide +kernel
theorem dX11_matters_68 : decode cX11_matters 68 = .ok (.iload 4, 2) := by decide +kernel
theorem dX11_matters_70 : decode cX11_matters 70 = .ok (.ishl, 1) := by decide +kernel
theorem dX11_matters_71 : decode cX11_matters 71 = .ok (.ior, 1) := by decide +kernel
theorem dX11_matters_72 : decode cX11_matters 72 = .ok (.istore_n 3, 1) := by decide +kernel
theorem dX11_matters_73 : decode cX11_matters 73 = .ok (.iinc 4 1, 3) := by decide +kernel
theorem dX11_matters_76 : decode cX11_matters 76 = .ok (.goto (-34), 3) := by decide +kernel
theorem dX11_matters_79 : decode cX11_matters 79 = .ok (.iload_n 3, 1) := by decide +kernel
theorem dX11_matters_80 : decode cX11_matters 80 = .ok (.ireturn, 1) := by decide +kernel
def xX11_matters : zX := (RX11, cX11_matters, 5, (some .int), false, { frames := 4, cells := 0, slots := 0, locals := 159 }, 0, 0, 0, 0)
theorem rmX11_matters : z_Rm xX11_matters := by unfold z_Rm xX11_matters; exact ⟨by decide, by decide⟩
theorem reX11_matters : z_Re xX11_matters := ⟨rfl, rfl⟩
theorem rlX11_matters : 1 ≤ xX11_matters.2.2.2.2.2.1.frames ∧ 21 ≤ xX11_matters.2.2.2.2.2.1.locals := by unfold xX11_matters; exact ⟨by decide, by decide⟩
theorem meX11_matters : z_Me yX11_matters xX11_matters 1 := ⟨wd724, wd275, by decide, by decide, by decide +kernel⟩
theorem fitX11_matters_2 : z_Fit xX11_isRow xX11_matters := by unfold z_Fit; simp only [xX11_isRow, xX11_matters]; exact ⟨by decide, by decide⟩
theorem fitX11_matters_26 : z_Fit xX10_fill xX11_matters := by unfold z_Fit; simp only [xX10_fill, xX11_matters]; exact ⟨by decide, by decide⟩
theorem fitX11_matters_33 : z_Fit xX10_lastChild xX11_matters := by unfold z_Fit; simp only [xX10_lastChild, xX11_matters]; exact ⟨by decide, by decide⟩
theorem fitX11_matters_49 : z_Fit xX1_lengthOf xX11_matters := by unfold z_Fit; simp only [xX1_lengthOf, xX11_matters]; exact ⟨by decide, by decide⟩
theorem fitX11_matters_60 : z_Fit xX11_otherLastBy xX11_matters := by unfold z_Fit; simp only [xX11_otherLastBy, xX11_matters]; exact ⟨by decide, by decide⟩
noncomputable def kX11_matters_79 : zK zR := (q_iload 3 q_iret)
noncomputable def kX11_matters_73 : zK ((zL × zS) ⊕ zR) := (q_iinc 4 1 q_ag)
noncomputable def bX11_matters_42 : zK ((zL × zS) ⊕ zR) := (q_iload 4 (q_aload 0 (q_getR 11 4 (q_iload 1 (q_callV 1 fX1_lengthOf 1 (q_icmp_ge (q_dn kX11_matters_79) (q_aload 0 (q_iload 1 (q_iload 4 (q_iload 2 (q_callV 11 fX11_otherLastBy 3 (q_if_eq kX11_matters_73 (q_iload 3 (q_push 1 (q_iload 4 (q_ishl (q_ior (q_istore 3 kX11_matters_73))))))))))))))))))
noncomputable def kX11_matters_42 : zK zR := q_lp (bX11_matters_42)
noncomputable def kX11_matters_0 : zK zR := (q_aload 0 (q_iload 1 (q_callV 11 fX11_isRow 1 (q_if_ne (q_aload 0 (q_getR 11 8 (q_aload 0 (q_getR 11 1 (q_getR 7 1 (q_aload 0 (q_getR 11 4 (q_iload 1 (q_callV 10 fX10_fill 3 (q_aload 0 (q_getR 11 8 (q_callV 10 fX10_lastChild 0 (q_istore 2 (q_push 0 (q_istore 3 (q_push 0 (q_istore 4 kX11_matters_42))))))))))))))))) (q_push (-1) q_iret)))))
set_option maxRecDepth 100000 in
theorem tX11_matters_79 {l : Launch} {D : zD} {B sz0 : Nat} {post : Option Value → zS → Prop} : zSnd l D B xX11_matters sz0 post 79 kX11_matters_79 (z_Jr post) := (s_iload_n dX11_matters_79 rfl (s_iret dX11_matters_80 rfl))
set_option maxRecDepth 100000 in
theorem tX11_matters_73 {l : Launch} {D : zD} {B sz0 : Nat} {post : Option Value → zS → Prop} : zSnd l D B xX11_matters sz0 post 73 kX11_matters_73 (z_Jl l D B xX11_matters sz0 post 42 (z_Jr post)) := (s_iinc dX11_matters_73 (by decide) (s_goto (tgt := 42) dX11_matters_76 (by decide) s_ag))
set_option maxRecDepth 100000 in
theorem tX11_matters_42 {l : Launch} {D : zD} {B sz0 : Nat} {post : Option Value → zS → Prop} : zSnd l D B xX11_matters sz0 post 42 kX11_matters_42 (z_Jr post) := s_lp (body := bX11_matters_42) (s_iload dX11_matters_42 (s_aload_n dX11_matters_44 rfl (s_getR (f := 4) dX11_matters_45 clX11 (by decide) rfl wd531 (s_iload_n dX11_matters_48 rfl (s_callV (r := (RX1, TX1, 5)) dX11_matters_49 mX1_lengthOf meX1_lengthOf wd65 wd66 rfl rfl reX1_lengthOf rmX11_matters (fitX11_matters_49) wd616 (s_icmp_ge (tgt := 79) dX11_matters_52 (by decide) (s_dn tX11_matters_79) (s_aload_n dX11_matters_55 rfl (s_iload_n dX11_matters_56 rfl (s_iload dX11_matters_57 (s_iload_n dX11_matters_59 rfl (s_callV (r := (RX11, TX11, 13)) dX11_matters_60 mX11_otherLastBy meX11_otherLastBy wd721 wd722 rfl rfl reX11_otherLastBy rmX11_matters (fitX11_matters_60) wd723 (s_if_eq (tgt := 73) dX11_matters_63 (by decide) tX11_matters_73 (s_iload_n dX11_matters_66 rfl (s_iconst dX11_matters_67 (by decide) (s_iload dX11_matters_68 (s_ishl dX11_matters_70 (s_ior dX11_matters_71 (s_istore_n dX11_matters_72 rfl tX11_matters_73))))))))))))))))))
set_option maxRecDepth 100000 in
theorem tX11_matters_0 {l : Launch} {D : zD} {B sz0 : Nat} {post : Option Value → zS → Prop} : zSnd l D B xX11_matters sz0 post 0 kX11_matters_0 (z_Jr post) := (s_aload_n dX11_matters_0 rfl (s_iload_n dX11_matters_1 rfl (s_callV (r := (RX11, TX11, 13)) dX11_matters_2 mX11_isRow meX11_isRow wd610 wd611 rfl rfl reX11_isRow rmX11_matters (fitX11_matters_2) wd612 (s_if_ne (tgt := 10) dX11_matters_5 (by decide) (s_aload_n dX11_matters_10 rfl (s_getR (f := 8) dX11_matters_11 clX11 (by decide) rfl wd539 (s_aload_n dX11_matters_14 rfl (s_getR (f := 1) dX11_matters_15 clX11 (by decide) rfl wd527 (s_getR (f := 1) dX11_matters_18 clX7 (by decide) rfl wd583 (s_aload_n dX11_matters_21 rfl (s_getR (f := 4) dX11_matters_22 clX11 (by decide) rfl wd531 (s_iload_n dX11_matters_25 rfl (s_callV (r := (RX10, TX10, 3)) dX11_matters_26 mX10_fill meX10_fill wd613 wd614 rfl rfl reX10_fill rmX11_matters (fitX11_matters_26) wd615 (s_aload_n dX11_matters_29 rfl (s_getR (f := 8) dX11_matters_30 clX11 (by decide) rfl wd539 (s_callV (r := (RX10, TX10, 3)) dX11_matters_33 mX10_lastChild meX10_lastChild wd27 wd28 rfl rfl reX10_lastChild rmX11_matters (fitX11_matters_33) wd618 (s_istore_n dX11_matters_36 rfl (s_iconst dX11_matters_37 (by decide) (s_istore_n dX11_matters_38 rfl (s_iconst dX11_matters_39 (by decide) (s_istore dX11_matters_40 tX11_matters_42))))))))))))))))) (s_iconst dX11_matters_8 (by decide) (s_iret dX11_matters_9 rfl))))))
noncomputable def fX11_matters : zF := z_fn 5 kX11_matters_0
theorem mX11_matters {l : Launch} {D : zD} {B : Nat} : z_MF l D B yX11_matters xX11_matters fX11_matters := z_mf (by decide) rfl (fun h => by cases h) rfl (fun as σ r h => ⟨z_fn_len h, kX11_matters_0, z_fn_run h, fun _ => tX11_matters_0⟩)
/-! ===== RowChildren.parents ===== -/
theorem dX11_parents_0 : decode cX11_parents 0 = .ok (.aload_n 0, 1) := by decide +kernel
theorem dX11_parents_1 : decode cX11_parents 1 = .ok (.iload_n 1, 1) := by decide +kernel
theorem dX11_parents_2 : decode cX11_parents 2 = .ok (.invokevirtual 134, 3) := by decide +kernel
theorem dX11_parents_5 : decode cX11_parents 5 = .ok (.ifCond .eq 10, 3) := by decide +kernel
theorem dX11_parents_8 : decode cX11_parents 8 = .ok (.iload_n 2, 1) := by decide +kernel
theorem dX11_parents_9 : decode cX11_parents 9 = .ok (.invokestatic 184, 3) := by decide +kernel
theorem dX11_parents_12 : decode cX11_parents 12 = .ok (.ifCond .ne 5, 3) := by decide +kernel
theorem dX11_parents_15 : decode cX11_parents 15 = .ok (.iconst (-1), 1) := by decide +kernel
theorem dX11_parents_16 : decode cX11_parents 16 = .ok (.ireturn, 1) := by decide +kernel
theorem dX11_parents_17 : decode cX11_parents 17 = .ok (.aload_n 0, 1) := by decide +kernel
theorem dX11_parents_18 : decode cX11_parents 18 = .ok (.getfield 19, 3) := by decide +kernel
theorem dX11_parents_21 : decode cX11_parents 21 = .ok (.getfield 124, 3) := by decide +kernel
theorem dX11_parents_24 : decode cX11_parents 24 = .ok (.aload_n 0, 1) := by decide +kernel
theorem dX11_parents_25 : decode cX11_parents 25 = .ok (.getfield 33, 3) := by decide +kernel
theorem dX11_parents_28 : decode cX11_parents 28 = .ok (.iload_n 1, 1) := by decide +kernel
theorem dX11_parents_29 : decode cX11_parents 29 = .ok (.invokevirtual 262, 3) := by decide +kernel
theorem dX11_parents_32 : decode cX11_parents 32 = .ok (.istore_n 3, 1) := by decide +kernel
theorem dX11_parents_33 : decode cX11_parents 33 = .ok (.iload_n 2, 1) := by decide +kernel
theorem dX11_parents_34 : decode cX11_parents 34 = .ok (.ifCond .ne 5, 3) := by decide +kernel
theorem dX11_parents_37 : decode cX11_parents 37 = .ok (.iload_n 3, 1) := by decide +kernel
theorem dX11_parents_38 : decode cX11_parents 38 = .ok (.ireturn, 1) := by decide +kernel
theorem dX11_parents_39 : decode cX11_parents 39 = .ok (.iload_n 3, 1) := by decide +kernel
theorem dX11_parents_40 : decode cX11_parents 40 = .ok (.ifCond .ne 8, 3) := by decide +kernel
theorem dX11_parents_43 : decode cX11_parents 43 = .ok (.bipush (-2), 2) := by decide +kernel
theorem dX11_parents_45 : decode cX11_parents 45 = .ok (.goto 18, 3) := by decide +kernel
theorem dX11_parents_48 : decode cX11_parents 48 = .ok (.aload_n 0, 1) := by decide +kernel
theorem dX11_parents_49 : decode cX11_parents 49 = .ok (.getfield 19, 3) := by decide +kernel
theorem dX11_parents_52 : decode cX11_parents 52 = .ok (.getfield 124, 3) := by decide +kernel
theorem dX11_parents_55 : decode cX11_parents 55 = .ok (.aload_n 0, 1) := by decide +kernel
theorem dX11_parents_56 : decode cX11_parents 56 = .ok (.getfield 33, 3) := by decide +kernel
theorem dX11_parents_59 : decode cX11_parents 59 = .ok (.iload_n 1, 1) := by decide +kernel
theorem dX11_parents_60 : decode cX11_parents 60 = .ok (.invokevirtual 265, 3) := by decide +kernel
theorem dX11_parents_63 : decode cX11_parents 63 = .ok (.ireturn, 1) := by decide +kernel
def xX11_parents : zX := (RX11, cX11_parents, 4, (some .int), false, { frames := 3, cells := 0, slots := 0, locals := 140 }, 0, 0, 0, 0)
theorem rmX11_parents : z_Rm xX11_parents := by unfold z_Rm xX11_parents; exact ⟨by decide, by decide⟩
theorem reX11_parents : z_Re xX11_parents := ⟨rfl, rfl⟩
theorem rlX11_parents : 1 ≤ xX11_parents.2.2.2.2.2.1.frames ∧ 21 ≤ xX11_parents.2.2.2.2.2.1.locals := by unfold xX11_parents; exact ⟨by decide, by decide⟩
theorem meX11_parents : z_Me yX11_parents xX11_parents 2 := ⟨wd731, wd275, by decide, by decide, by decide +kernel⟩
theorem fitX11_parents_2 : z_Fit xX11_isRow xX11_parents := by unfold z_Fit; simp only [xX11_isRow, xX11_parents]; exact ⟨by decide, by decide⟩
theorem fitX11_parents_9 : z_Fit xX11_isOneOfTwo xX11_parents := by unfold z_Fit; simp only [xX11_isOneOfTwo, xX11_parents]; exact ⟨by decide, by decide⟩
theorem fitX11_parents_29 : z_Fit xX5_countParents xX11_parents := by unfold z_Fit; simp only [xX5_countParents, xX11_parents]; exact ⟨by decide, by decide⟩
theorem fitX11_parents_60 : z_Fit xX5_leastParents xX11_parents := by unfold z_Fit; simp only [xX5_leastParents, xX11_parents]; exact ⟨by decide, by decide⟩
noncomputable def kX11_parents_15 : zK zR := (q_push (-1) q_iret)
noncomputable def kX11_parents_63 : zK zR := q_iret
noncomputable def kX11_parents_0 : zK zR := (q_aload 0 (q_iload 1 (q_callV 11 fX11_isRow 1 (q_if_eq kX11_parents_15 (q_iload 2 (q_callS fX11_isOneOfTwo 1 (q_if_ne (q_aload 0 (q_getR 11 1 (q_getR 7 1 (q_aload 0 (q_getR 11 4 (q_iload 1 (q_callV 5 fX5_countParents 2 (q_istore 3 (q_iload 2 (q_if_ne (q_iload 3 (q_if_ne (q_aload 0 (q_getR 11 1 (q_getR 7 1 (q_aload 0 (q_getR 11 4 (q_iload 1 (q_callV 5 fX5_leastParents 2 kX11_parents_63))))))) (q_push (-2) kX11_parents_63))) (q_iload 3 q_iret))))))))))) kX11_parents_15)))))))
set_option maxRecDepth 100000 in
theorem tX11_parents_15 {l : Launch} {D : zD} {B sz0 : Nat} {post : Option Value → zS → Prop} : zSnd l D B xX11_parents sz0 post 15 kX11_parents_15 (z_Jr post) := (s_iconst dX11_parents_15 (by decide) (s_iret dX11_parents_16 rfl))
set_option maxRecDepth 100000 in
theorem tX11_parents_63 {l : Launch} {D : zD} {B sz0 : Nat} {post : Option Value → zS → Prop} : zSnd l D B xX11_parents sz0 post 63 kX11_parents_63 (z_Jr post) := (s_iret dX11_parents_63 rfl)
set_option maxRecDepth 100000 in
theorem tX11_parents_0 {l : Launch} {D : zD} {B sz0 : Nat} {post : Option Value → zS → Prop} : zSnd l D B xX11_parents sz0 post 0 kX11_parents_0 (z_Jr post) := (s_aload_n dX11_parents_0 rfl (s_iload_n dX11_parents_1 rfl (s_callV (r := (RX11, TX11, 13)) dX11_parents_2 mX11_isRow meX11_isRow wd610 wd611 rfl rfl reX11_isRow rmX11_parents (fitX11_parents_2) wd612 (s_if_eq (tgt := 15) dX11_parents_5 (by decide) tX11_parents_15 (s_iload_n dX11_parents_8 rfl (s_callS dX11_parents_9 mX11_isOneOfTwo meX11_isOneOfTwo wd636 rfl reX11_isOneOfTwo rmX11_parents (fitX11_parents_9) wd637 (s_if_ne (tgt := 17) dX11_parents_12 (by decide) (s_aload_n dX11_parents_17 rfl (s_getR (f := 1) dX11_parents_18 clX11 (by decide) rfl wd527 (s_getR (f := 1) dX11_parents_21 clX7 (by decide) rfl wd583 (s_aload_n dX11_parents_24 rfl (s_getR (f := 4) dX11_parents_25 clX11 (by decide) rfl wd531 (s_iload_n dX11_parents_28 rfl (s_callV (r := (RX5, TX5, 7)) dX11_parents_29 mX5_countParents meX5_countParents wd725 wd726 rfl rfl reX5_countParents rmX11_parents (fitX11_parents_29) wd727 (s_istore_n dX11_parents_32 rfl (s_iload_n dX11_parents_33 rfl (s_if_ne (tgt := 39) dX11_parents_34 (by decide) (s_iload_n dX11_parents_39 rfl (s_if_ne (tgt := 48) dX11_parents_40 (by decide) (s_aload_n dX11_parents_48 rfl (s_getR (f := 1) dX11_parents_49 clX11 (by decide) rfl wd527 (s_getR (f := 1) dX11_parents_52 clX7 (by decide) rfl wd583 (s_aload_n dX11_parents_55 rfl (s_getR (f := 4) dX11_parents_56 clX11 (by decide) rfl wd531 (s_iload_n dX11_parents_59 rfl (s_callV (r := (RX5, TX5, 7)) dX11_parents_60 mX5_leastParents meX5_leastParents wd728 wd729 rfl rfl reX5_leastParents rmX11_parents (fitX11_parents_60) wd730 tX11_parents_63))))))) (s_bipush dX11_parents_43 (by decide) (s_goto (tgt := 63) dX11_parents_45 (by decide) tX11_parents_63)))) (s_iload_n dX11_parents_37 rfl (s_iret dX11_parents_38 rfl)))))))))))) tX11_parents_15)))))))
noncomputable def fX11_parents : zF := z_fn 4 kX11_parents_0
theorem mX11_parents {l : Launch} {D : zD} {B : Nat} : z_MF l D B yX11_parents xX11_parents fX11_parents := z_mf (by decide) rfl (fun h => by cases h) rfl (fun as σ r h => ⟨z_fn_len h, kX11_parents_0, z_fn_run h, fun _ => tX11_parents_0⟩)
/-! ===== RowChildren.orphans ===== -/
theorem dX11_orphans_0 : decode cX11_orphans 0 = .ok (.iload_n 1, 1) := by decide +kernel
theorem dX11_orphans_1 : decode cX11_orphans 1 = .ok (.invokestatic 233, 3) := by decide +kernel
theorem dX11_orphans_4 : decode cX11_orphans 4 = .ok (.ifCond .eq 17, 3) := by decide +kernel
theorem dX11_orphans_7 : decode cX11_orphans 7 = .ok (.aload_n 0, 1) := by decide +kernel
theorem dX11_orphans_8 : decode cX11_orphans 8 = .ok (.getfield 19, 3) := by decide +kernel
theorem dX11_orphans_11 : decode cX11_orphans 11 = .ok (.getfield 124, 3) := by decide +kernel
theorem dX11_orphans_14 : decode cX11_orphans 14 = .ok (.iload_n 1, 1) := by decide +kernel
theorem dX11_orphans_15 : decode cX11_orphans 15 = .ok (.invokevirtual 268, 3) := by decide +kernel
theorem dX11_orphans_18 : decode cX11_orphans 18 = .ok (.goto 4, 3) := by decide +kernel
theorem dX11_orphans_21 : decode cX11_orphans 21 = .ok (.iconst (-1), 1) := by decide +kernel
theorem dX11_orphans_22 : decode cX11_orphans 22 = .ok (.ireturn, 1) := by decide +kernel
def xX11_orphans : zX := (RX11, cX11_orphans, 2, (some .int), false, { frames := 4, cells := 0, slots := 0, locals := 162 }, 0, 0, 0, 0)
theorem rmX11_orphans : z_Rm xX11_orphans := by unfold z_Rm xX11_orphans; exact ⟨by decide, by decide⟩
theorem reX11_orphans : z_Re xX11_orphans := ⟨rfl, rfl⟩
theorem rlX11_orphans : 1 ≤ xX11_orphans.2.2.2.2.2.1.frames ∧ 21 ≤ xX11_orphans.2.2.2.2.2.1.locals := by unfold xX11_orphans; exact ⟨by decide, by decide⟩
theorem meX11_orphans : z_Me yX11_orphans xX11_orphans 1 := ⟨wd735, wd275, by decide, by decide, by decide +kernel⟩
theorem fitX11_orphans_1 : z_Fit xX11_isRowLength xX11_orphans := by unfold z_Fit; simp only [xX11_isRowLength, xX11_orphans]; exact ⟨by decide, by decide⟩
theorem fitX11_orphans_15 : z_Fit xX5_countOrphans xX11_orphans := by unfold z_Fit; simp only [xX5_countOrphans, xX11_orphans]; exact ⟨by decide, by decide⟩
noncomputable def kX11_orphans_22 : zK zR := q_iret
noncomputable def kX11_orphans_0 : zK zR := (q_iload 1 (q_callS fX11_isRowLength 1 (q_if_eq (q_push (-1) kX11_orphans_22) (q_aload 0 (q_getR 11 1 (q_getR 7 1 (q_iload 1 (q_callV 5 fX5_countOrphans 1 kX11_orphans_22))))))))
set_option maxRecDepth 100000 in
theorem tX11_orphans_22 {l : Launch} {D : zD} {B sz0 : Nat} {post : Option Value → zS → Prop} : zSnd l D B xX11_orphans sz0 post 22 kX11_orphans_22 (z_Jr post) := (s_iret dX11_orphans_22 rfl)
set_option maxRecDepth 100000 in
theorem tX11_orphans_0 {l : Launch} {D : zD} {B sz0 : Nat} {post : Option Value → zS → Prop} : zSnd l D B xX11_orphans sz0 post 0 kX11_orphans_0 (z_Jr post) := (s_iload_n dX11_orphans_0 rfl (s_callS dX11_orphans_1 mX11_isRowLength meX11_isRowLength wd689 rfl reX11_isRowLength rmX11_orphans (fitX11_orphans_1) wd690 (s_if_eq (tgt := 21) dX11_orphans_4 (by decide) (s_iconst dX11_orphans_21 (by decide) tX11_orphans_22) (s_aload_n dX11_orphans_7 rfl (s_getR (f := 1) dX11_orphans_8 clX11 (by decide) rfl wd527 (s_getR (f := 1) dX11_orphans_11 clX7 (by decide) rfl wd583 (s_iload_n dX11_orphans_14 rfl (s_callV (r := (RX5, TX5, 7)) dX11_orphans_15 mX5_countOrphans meX5_countOrphans wd732 wd733 rfl rfl reX5_countOrphans rmX11_orphans (fitX11_orphans_15) wd734 (s_goto (tgt := 22) dX11_orphans_18 (by decide) tX11_orphans_22)))))))))
noncomputable def fX11_orphans : zF := z_fn 2 kX11_orphans_0
theorem mX11_orphans {l : Launch} {D : zD} {B : Nat} : z_MF l D B yX11_orphans xX11_orphans fX11_orphans := z_mf (by decide) rfl (fun h => by cases h) rfl (fun as σ r h => ⟨z_fn_len h, kX11_orphans_0, z_fn_run h, fun _ => tX11_orphans_0⟩)
/-! ===== RowChildren.ring ===== -/
theorem dX11_ring_0 : decode cX11_ring 0 = .ok (.aload_n 0, 1) := by decide +kernel
theorem dX11_ring_1 : decode cX11_ring 1 = .ok (.iload_n 1, 1) := by decide +kernel
theorem dX11_ring_2 : decode cX11_ring 2 = .ok (.invokevirtual 134, 3) := by decide +kernel
theorem dX11_ring_5 : decode cX11_ring 5 = .ok (.ifCond .eq 10, 3) := by decide +kernel
theorem dX11_ring_8 : decode cX11_ring 8 = .ok (.iload_n 2, 1) := by decide +kernel
theorem dX11_ring_9 : decode cX11_ring 9 = .ok (.invokestatic 184, 3) := by decide +kernel
theorem dX11_ring_12 : decode cX11_ring 12 = .ok (.ifCond .ne 5, 3) := by decide +kernel
theorem dX11_ring_15 : decode cX11_ring 15 = .ok (.iconst (-1), 1) := by decide +kernel
theorem dX11_ring_16 : decode cX11_ring 16 = .ok (.ireturn, 1) := by decide +kernel
theorem dX11_ring_17 : decode cX11_ring 17 = .ok (.aload_n 0, 1) := by decide +kernel
theorem dX11_ring_18 : decode cX11_ring 18 = .ok (.getfield 19, 3) := by decide +kernel
theorem dX11_ring_21 : decode cX11_ring 21 = .ok (.getfield 124, 3) := by decide +kernel
theorem dX11_ring_24 : decode cX11_ring 24 = .ok (.aload_n 0, 1) := by decide +kernel
theorem dX11_ring_25 : decode cX11_ring 25 = .ok (.getfield 33, 3) := by decide +kernel
theorem dX11_ring_28 : decode cX11_ring 28 = .ok (.iload_n 1, 1) := by decide +kernel
theorem dX11_ring_29 : decode cX11_ring 29 = .ok (.invokevirtual 271, 3) := by decide +kernel
theorem dX11_ring_32 : decode cX11_ring 32 = .ok (.aload_n 0, 1) := by decide +kernel
theorem dX11_ring_33 : decode cX11_ring 33 = .ok (.getfield 33, 3) := by decide +kernel
theorem dX11_ring_36 : decode cX11_ring 36 = .ok (.iload_n 1, 1) := by decide +kernel
theorem dX11_ring_37 : decode cX11_ring 37 = .ok (.invokevirtual 141, 3) := by decide +kernel
theorem dX11_ring_40 : decode cX11_ring 40 = .ok (.invokevirtual 274, 3) := by decide +kernel
theorem dX11_ring_43 : decode cX11_ring 43 = .ok (.iload_n 2, 1) := by decide +kernel
theorem dX11_ring_44 : decode cX11_ring 44 = .ok (.ifCond .ne 16, 3) := by decide +kernel
theorem dX11_ring_47 : decode cX11_ring 47 = .ok (.aload_n 0, 1) := by decide +kernel
theorem dX11_ring_48 : decode cX11_ring 48 = .ok (.getfield 19, 3) := by decide +kernel
theorem dX11_ring_51 : decode cX11_ring 51 = .ok (.getfield 124, 3) := by decide +kernel
theorem dX11_ring_54 : decode cX11_ring 54 = .ok (.getfield 277, 3) := by decide +kernel
theorem dX11_ring_57 : decode cX11_ring 57 = .ok (.goto 13, 3) := by decide +kernel
theorem dX11_ring_60 : decode cX11_ring 60 = .ok (.aload_n 0, 1) := by decide +kernel
theorem dX11_ring_61 : decode cX11_ring 61 = .ok (.getfield 19, 3) := by decide +kernel
theorem dX11_ring_64 : decode cX11_ring 64 = .ok (.getfield 124, 3) := by decide +kernel
theorem dX11_ring_67 : decode cX11_ring 67 = .ok (.getfield 280, 3) := by decide +kernel
theorem dX11_ring_70 : decode cX11_ring 70 = .ok (.ireturn, 1) := by decide +kernel
def xX11_ring : zX := (RX11, cX11_ring, 3, (some .int), false, { frames := 5, cells := 0, slots := 0, locals := 190 }, 0, 0, 0, 0)
theorem rmX11_ring : z_Rm xX11_ring := by unfold z_Rm xX11_ring; exact ⟨by decide, by decide⟩
theorem reX11_ring : z_Re xX11_ring := ⟨rfl, rfl⟩
theorem rlX11_ring : 1 ≤ xX11_ring.2.2.2.2.2.1.frames ∧ 21 ≤ xX11_ring.2.2.2.2.2.1.locals := by unfold xX11_ring; exact ⟨by decide, by decide⟩
theorem meX11_ring : z_Me yX11_ring xX11_ring 2 := ⟨wd742, wd275, by decide, by decide, by decide +kernel⟩
theorem fitX11_ring_2 : z_Fit xX11_isRow xX11_ring := by unfold z_Fit; simp only [xX11_isRow, xX11_ring]; exact ⟨by decide, by decide⟩
theorem fitX11_ring_9 : z_Fit xX11_isOneOfTwo xX11_ring := by unfold z_Fit; simp only [xX11_isOneOfTwo, xX11_ring]; exact ⟨by decide, by decide⟩
theorem fitX11_ring_29 : z_Fit xX1_packed xX11_ring := by unfold z_Fit; simp only [xX1_packed, xX11_ring]; exact ⟨by decide, by decide⟩
theorem fitX11_ring_37 : z_Fit xX1_lengthOf xX11_ring := by unfold z_Fit; simp only [xX1_lengthOf, xX11_ring]; exact ⟨by decide, by decide⟩
theorem fitX11_ring_40 : z_Fit xX5_findRing xX11_ring := by unfold z_Fit; simp only [xX5_findRing, xX11_ring]; exact ⟨by decide, by decide⟩
noncomputable def kX11_ring_15 : zK zR := (q_push (-1) q_iret)
noncomputable def kX11_ring_70 : zK zR := q_iret
noncomputable def kX11_ring_0 : zK zR := (q_aload 0 (q_iload 1 (q_callV 11 fX11_isRow 1 (q_if_eq kX11_ring_15 (q_iload 2 (q_callS fX11_isOneOfTwo 1 (q_if_ne (q_aload 0 (q_getR 11 1 (q_getR 7 1 (q_aload 0 (q_getR 11 4 (q_iload 1 (q_callV 1 fX1_packed 1 (q_aload 0 (q_getR 11 4 (q_iload 1 (q_callV 1 fX1_lengthOf 1 (q_callV 5 fX5_findRing 2 (q_iload 2 (q_if_ne (q_aload 0 (q_getR 11 1 (q_getR 7 1 (q_getI 5 2 kX11_ring_70)))) (q_aload 0 (q_getR 11 1 (q_getR 7 1 (q_getI 5 1 kX11_ring_70)))))))))))))))))) kX11_ring_15)))))))
set_option maxRecDepth 100000 in
theorem tX11_ring_15 {l : Launch} {D : zD} {B sz0 : Nat} {post : Option Value → zS → Prop} : zSnd l D B xX11_ring sz0 post 15 kX11_ring_15 (z_Jr post) := (s_iconst dX11_ring_15 (by decide) (s_iret dX11_ring_16 rfl))
set_option maxRecDepth 100000 in
theorem tX11_ring_70 {l : Launch} {D : zD} {B sz0 : Nat} {post : Option Value → zS → Prop} : zSnd l D B xX11_ring sz0 post 70 kX11_ring_70 (z_Jr post) := (s_iret dX11_ring_70 rfl)
set_option maxRecDepth 100000 in
theorem tX11_ring_0 {l : Launch} {D : zD} {B sz0 : Nat} {post : Option Value → zS → Prop} : zSnd l D B xX11_ring sz0 post 0 kX11_ring_0 (z_Jr post) := (s_aload_n dX11_ring_0 rfl (s_iload_n dX11_ring_1 rfl (s_callV (r := (RX11, TX11, 13)) dX11_ring_2 mX11_isRow meX11_isRow wd610 wd611 rfl rfl reX11_isRow rmX11_ring (fitX11_ring_2) wd612 (s_if_eq (tgt := 15) dX11_ring_5 (by decide) tX11_ring_15 (s_iload_n dX11_ring_8 rfl (s_callS dX11_ring_9 mX11_isOneOfTwo meX11_isOneOfTwo wd636 rfl reX11_isOneOfTwo rmX11_ring (fitX11_ring_9) wd637 (s_if_ne (tgt := 17) dX11_ring_12 (by decide) (s_aload_n dX11_ring_17 rfl (s_getR (f := 1) dX11_ring_18 clX11 (by decide) rfl wd527 (s_getR (f := 1) dX11_ring_21 clX7 (by decide) rfl wd583 (s_aload_n dX11_ring_24 rfl (s_getR (f := 4) dX11_ring_25 clX11 (by decide) rfl wd531 (s_iload_n dX11_ring_28 rfl (s_callV (r := (RX1, TX1, 5)) dX11_ring_29 mX1_packed meX1_packed wd736 wd737 rfl rfl reX1_packed rmX11_ring (fitX11_ring_29) wd738 (s_aload_n dX11_ring_32 rfl (s_getR (f := 4) dX11_ring_33 clX11 (by decide) rfl wd531 (s_iload_n dX11_ring_36 rfl (s_callV (r := (RX1, TX1, 5)) dX11_ring_37 mX1_lengthOf meX1_lengthOf wd65 wd66 rfl rfl reX1_lengthOf rmX11_ring (fitX11_ring_37) wd616 (s_callV (r := (RX5, TX5, 7)) dX11_ring_40 mX5_findRing meX5_findRing wd289 wd290 rfl rfl reX5_findRing rmX11_ring (fitX11_ring_40) wd739 (s_iload_n dX11_ring_43 rfl (s_if_ne (tgt := 60) dX11_ring_44 (by decide) (s_aload_n dX11_ring_60 rfl (s_getR (f := 1) dX11_ring_61 clX11 (by decide) rfl wd527 (s_getR (f := 1) dX11_ring_64 clX7 (by decide) rfl wd583 (s_getI (f := 2) dX11_ring_67 clX5 (by decide) rfl wd740 tX11_ring_70)))) (s_aload_n dX11_ring_47 rfl (s_getR (f := 1) dX11_ring_48 clX11 (by decide) rfl wd527 (s_getR (f := 1) dX11_ring_51 clX7 (by decide) rfl wd583 (s_getI (f := 1) dX11_ring_54 clX5 (by decide) rfl wd741 (s_goto (tgt := 70) dX11_ring_57 (by decide) tX11_ring_70))))))))))))))))))) tX11_ring_15)))))))
noncomputable def fX11_ring : zF := z_fn 3 kX11_ring_0
theorem mX11_ring {l : Launch} {D : zD} {B : Nat} : z_MF l D B yX11_ring xX11_ring fX11_ring := z_mf (by decide) rfl (fun h => by cases h) rfl (fun as σ r h => ⟨z_fn_len h, kX11_ring_0, z_fn_run h, fun _ => tX11_ring_0⟩)
/-! ===== RowChildren.isFar ===== -/
theorem dX11_isFar_0 : decode cX11_isFar 0 = .ok (.iload_n 0, 1) := by decide +kernel
theorem dX11_isFar_1 : decode cX11_isFar 1 = .ok (.ifCond .lt 14, 3) := by decide +kernel
theorem dX11_isFar_4 : decode cX11_isFar 4 = .ok (.iload_n 0, 1) := by decide +kernel
theorem dX11_isFar_5 : decode cX11_isFar 5 = .ok (.ldc_w 376, 3) := by decide +kernel
theorem dX11_isFar_8 : decode cX11_isFar 8 = .ok (.if_icmp .gt 7, 3) := by decide +kernel
theorem dX11_isFar_11 : decode cX11_isFar 11 = .ok (.iconst 1, 1) := by decide +kernel
theorem dX11_isFar_12 : decode cX11_isFar 12 = .ok (.goto 4, 3) := by decide +kernel
theorem dX11_isFar_15 : decode cX11_isFar 15 = .ok (.iconst 0, 1) := by decide +kernel
theorem dX11_isFar_16 : decode cX11_isFar 16 = .ok (.ireturn, 1) := by decide +kernel
def xX11_isFar : zX := (RX11, cX11_isFar, 1, (some .boolean), false, { frames := 1, cells := 0, slots := 0, locals := 90 }, 0, 0, 0, 0)
theorem rmX11_isFar : z_Rm xX11_isFar := by unfold z_Rm xX11_isFar; exact ⟨by decide, by decide⟩
theorem reX11_isFar : z_Re xX11_isFar := ⟨rfl, rfl⟩
theorem rlX11_isFar : 1 ≤ xX11_isFar.2.2.2.2.2.1.frames ∧ 21 ≤ xX11_isFar.2.2.2.2.2.1.locals := by unfold xX11_isFar; exact ⟨by decide, by decide⟩
theorem meX11_isFar : z_Me yX11_isFar xX11_isFar 1 := ⟨wd744, wd275, by decide, by decide, by decide +kernel⟩
noncomputable def kX11_isFar_16 : zK zR := q_zret
noncomputable def kX11_isFar_15 : zK zR := (q_push 0 kX11_isFar_16)
noncomputable def kX11_isFar_0 : zK zR := (q_iload 0 (q_if_lt kX11_isFar_15 (q_iload 0 (q_push 1000000000 (q_icmp_gt kX11_isFar_15 (q_push 1 kX11_isFar_16))))))
set_option maxRecDepth 100000 in
theorem tX11_isFar_16 {l : Launch} {D : zD} {B sz0 : Nat} {post : Option Value → zS → Prop} : zSnd l D B xX11_isFar sz0 post 16 kX11_isFar_16 (z_Jr post) := (s_zret dX11_isFar_16 rfl)
set_option maxRecDepth 100000 in
theorem tX11_isFar_15 {l : Launch} {D : zD} {B sz0 : Nat} {post : Option Value → zS → Prop} : zSnd l D B xX11_isFar sz0 post 15 kX11_isFar_15 (z_Jr post) := (s_iconst dX11_isFar_15 (by decide) tX11_isFar_16)
set_option maxRecDepth 100000 in
theorem tX11_isFar_0 {l : Launch} {D : zD} {B sz0 : Nat} {post : Option Value → zS → Prop} : zSnd l D B xX11_isFar sz0 post 0 kX11_isFar_0 (z_Jr post) := (s_iload_n dX11_isFar_0 rfl (s_if_lt (tgt := 15) dX11_isFar_1 (by decide) tX11_isFar_15 (s_iload_n dX11_isFar_4 rfl (s_ldcw dX11_isFar_5 wd743 (s_icmp_gt (tgt := 15) dX11_isFar_8 (by decide) tX11_isFar_15 (s_iconst dX11_isFar_11 (by decide) (s_goto (tgt := 16) dX11_isFar_12 (by decide) tX11_isFar_16)))))))
noncomputable def fX11_isFar : zF := z_fn 1 kX11_isFar_0
theorem mX11_isFar {l : Launch} {D : zD} {B : Nat} : z_MF l D B yX11_isFar xX11_isFar fX11_isFar := z_mf (by decide) rfl (fun h => by cases h) rfl (fun as σ r h => ⟨z_fn_len h, kX11_isFar_0, z_fn_run h, fun _ => tX11_isFar_0⟩)
/-! ===== RowChildren.after ===== -/
theorem dX11_after_0 : decode cX11_after 0 = .ok (.aload_n 0, 1) := by decide +kernel
theorem dX11_after_1 : decode cX11_after 1 = .ok (.iload_n 1, 1) := by decide +kernel
theorem dX11_after_2 : decode cX11_after 2 = .ok (.invokevirtual 134, 3) := by decide +kernel
theorem dX11_after_5 : decode cX11_after 5 = .ok (.ifCond .eq 26, 3) := by decide +kernel
theorem dX11_after_8 : decode cX11_after 8 = .ok (.iload_n 2, 1) := by decide +kernel
theorem dX11_after_9 : decode cX11_after 9 = .ok (.invokestatic 283, 3) := by decide +kernel
theorem dX11_after_12 : decode cX11_after 12 = .ok (.ifCond .eq 19, 3) := by decide +kernel
theorem dX11_after_15 : decode cX11_after 15 = .ok (.iload_n 3, 1) := by decide +kernel
theorem dX11_after_16 : decode cX11_after 16 = .ok (.ifCond .lt 15, 3) := by decide +kernel
theorem dX11_after_19 : decode cX11_after 19 = .ok (.iload_n 3, 1) := by decide +kernel
theorem dX11_after_20 : decode cX11_after 20 = .ok (.aload_n 0, 1) := by decide +kernel
theorem dX11_after_21 : decode cX11_after 21 = .ok (.getfield 33, 3) := by decide +kernel
theorem dX11_after_24 : decode cX11_after 24 = .ok (.iload_n 1, 1) := by decide +kernel
theorem dX11_after_25 : decode cX11_after 25 = .ok (.invokevirtual 141, 3) := by decide +kernel
theorem dX11_after_28 : decode cX11_after 28 = .ok (.if_icmp .lt 5, 3) := by decide +kernel
theorem dX11_after_31 : decode cX11_after 31 = .ok (.iconst (-1), 1) := by decide +kernel
theorem dX11_after_32 : decode cX11_after 32 = .ok (.ireturn, 1) := by decide +kernel
theorem dX11_after_33 : decode cX11_after 33 = .ok (.aload_n 0, 1) := by decide +kernel
theorem dX11_after_34 : decode cX11_after 34 = .ok (.getfield 33, 3) := by decide +kernel
theorem dX11_after_37 : decode cX11_after 37 = .ok (.iload_n 1, 1) := by decide +kernel
theorem dX11_after_38 : decode cX11_after 38 = .ok (.invokevirtual 141, 3) := by decide +kernel
theorem dX11_after_41 : decode cX11_after 41 = .ok (.istore 4, 2) := by decide +kernel
theorem dX11_after_43 : decode cX11_after 43 = .ok (.aload_n 0, 1) := by decide +kernel
theorem dX11_after_44 : decode cX11_after 44 = .ok (.getfield 19, 3) := by decide +kernel
theorem dX11_after_47 : decode cX11_after 47 = .ok (.getfield 124, 3) := by decide +kernel
theorem dX11_after_50 : decode cX11_after 50 = .ok (.aload_n 0, 1) := by decide +kernel
theorem dX11_after_51 : decode cX11_after 51 = .ok (.getfield 33, 3) := by decide +kernel
theorem dX11_after_54 : decode cX11_after 54 = .ok (.iload_n 1, 1) := by decide +kernel
theorem dX11_after_55 : decode cX11_after 55 = .ok (.invokevirtual 271, 3) := by decide +kernel
theorem dX11_after_58 : decode cX11_after 58 = .ok (.iload 4, 2) := by decide +kernel
theorem dX11_after_60 : decode cX11_after 60 = .ok (.iload_n 2, 1) := by decide +kernel
theorem dX11_after_61 : decode cX11_after 61 = .ok (.invokevirtual 286, 3) := by decide +kernel
theorem dX11_after_64 : decode cX11_after 64 = .ok (.istore 5, 2) := by decide +kernel
theorem dX11_after_66 : decode cX11_after 66 = .ok (.iload 5, 2) := by decide +kernel
theorem dX11_after_68 : decode cX11_after 68 = .ok (.iload 4, 2) := by decide +kernel
theorem dX11_after_70 : decode cX11_after 70 = .ok (.iload_n 3, 1) := by decide +kernel
theorem dX11_after_71 : decode cX11_after 71 = .ok (.invokestatic 289, 3) := by decide +kernel
theorem dX11_after_74 : decode cX11_after 74 = .ok (.ireturn, 1) := by decide +kernel
def xX11_after : zX := (RX11, cX11_after, 6, (some .int), false, { frames := 6, cells := 0, slots := 0, locals := 215 }, 0, 0, 0, 0)
theorem rmX11_after : z_Rm xX11_after := by unfold z_Rm xX11_after; exact ⟨by decide, by decide⟩
theorem reX11_after : z_Re xX11_after := ⟨rfl, rfl⟩
theorem rlX11_after : 1 ≤ xX11_after.2.2.2.2.2.1.frames ∧ 21 ≤ xX11_after.2.2.2.2.2.1.locals := by unfold xX11_after; exact ⟨by decide, by decide⟩
theorem meX11_after : z_Me yX11_after xX11_after 3 := ⟨wd751, wd275, by decide, by decide, by decide +kernel⟩
theorem fitX11_after_2 : z_Fit xX11_isRow xX11_after := by unfold z_Fit; simp only [xX11_isRow, xX11_after]; exact ⟨by decide, by decide⟩
theorem fitX11_after_9 : z_Fit xX11_isFar xX11_after := by unfold z_Fit; simp only [xX11_isFar, xX11_after]; exact ⟨by decide, by decide⟩
theorem fitX11_after_25 : z_Fit xX1_lengthOf xX11_after := by unfold z_Fit; simp only [xX1_lengthOf, xX11_after]; exact ⟨by decide, by decide⟩
theorem fitX11_after_38 : z_Fit xX1_lengthOf xX11_after := by unfold z_Fit; simp only [xX1_lengthOf, xX11_after]; exact ⟨by decide, by decide⟩
theorem fitX11_after_55 : z_Fit xX1_packed xX11_after := by unfold z_Fit; simp only [xX1_packed, xX11_after]; exact ⟨by decide, by decide⟩
theorem fitX11_after_61 : z_Fit xX5_ringAfter xX11_after := by unfold z_Fit; simp only [xX5_ringAfter, xX11_after]; exact ⟨by decide, by decide⟩
theorem fitX11_after_71 : z_Fit xX11_unpacked xX11_after := by unfold z_Fit; simp only [xX11_unpacked, xX11_after]; exact ⟨by decide, by decide⟩
noncomputable def kX11_after_31 : zK zR := (q_push (-1) q_iret)
noncomputable def kX11_after_0 : zK zR := (q_aload 0 (q_iload 1 (q_callV 11 fX11_isRow 1 (q_if_eq kX11_after_31 (q_iload 2 (q_callS fX11_isFar 1 (q_if_eq kX11_after_31 (q_iload 3 (q_if_lt kX11_after_31 (q_iload 3 (q_aload 0 (q_getR 11 4 (q_iload 1 (q_callV 1 fX1_lengthOf 1 (q_icmp_lt (q_aload 0 (q_getR 11 4 (q_iload 1 (q_callV 1 fX1_lengthOf 1 (q_istore 4 (q_aload 0 (q_getR 11 1 (q_getR 7 1 (q_aload 0 (q_getR 11 4 (q_iload 1 (q_callV 1 fX1_packed 1 (q_iload 4 (q_iload 2 (q_callV 5 fX5_ringAfter 3 (q_istore 5 (q_iload 5 (q_iload 4 (q_iload 3 (q_callS fX11_unpacked 3 q_iret)))))))))))))))))))) kX11_after_31)))))))))))))))
set_option maxRecDepth 100000 in
theorem tX11_after_31 {l : Launch} {D : zD} {B sz0 : Nat} {post : Option Value → zS → Prop} : zSnd l D B xX11_after sz0 post 31 kX11_after_31 (z_Jr post) := (s_iconst dX11_after_31 (by decide) (s_iret dX11_after_32 rfl))
set_option maxRecDepth 100000 in
theorem tX11_after_0 {l : Launch} {D : zD} {B sz0 : Nat} {post : Option Value → zS → Prop} : zSnd l D B xX11_after sz0 post 0 kX11_after_0 (z_Jr post) := (s_aload_n dX11_after_0 rfl (s_iload_n dX11_after_1 rfl (s_callV (r := (RX11, TX11, 13)) dX11_after_2 mX11_isRow meX11_isRow wd610 wd611 rfl rfl reX11_isRow rmX11_after (fitX11_after_2) wd612 (s_if_eq (tgt := 31) dX11_after_5 (by decide) tX11_after_31 (s_iload_n dX11_after_8 rfl (s_callS dX11_after_9 mX11_isFar meX11_isFar wd745 rfl reX11_isFar rmX11_after (fitX11_after_9) wd746 (s_if_eq (tgt := 31) dX11_after_12 (by decide) tX11_after_31 (s_iload_n dX11_after_15 rfl (s_if_lt (tgt := 31) dX11_after_16 (by decide) tX11_after_31 (s_iload_n dX11_after_19 rfl (s_aload_n dX11_after_20 rfl (s_getR (f := 4) dX11_after_21 clX11 (by decide) rfl wd531 (s_iload_n dX11_after_24 rfl (s_callV (r := (RX1, TX1, 5)) dX11_after_25 mX1_lengthOf meX1_lengthOf wd65 wd66 rfl rfl reX1_lengthOf rmX11_after (fitX11_after_25) wd616 (s_icmp_lt (tgt := 33) dX11_after_28 (by decide) (s_aload_n dX11_after_33 rfl (s_getR (f := 4) dX11_after_34 clX11 (by decide) rfl wd531 (s_iload_n dX11_after_37 rfl (s_callV (r := (RX1, TX1, 5)) dX11_after_38 mX1_lengthOf meX1_lengthOf wd65 wd66 rfl rfl reX1_lengthOf rmX11_after (fitX11_after_38) wd616 (s_istore dX11_after_41 (s_aload_n dX11_after_43 rfl (s_getR (f := 1) dX11_after_44 clX11 (by decide) rfl wd527 (s_getR (f := 1) dX11_after_47 clX7 (by decide) rfl wd583 (s_aload_n dX11_after_50 rfl (s_getR (f := 4) dX11_after_51 clX11 (by decide) rfl wd531 (s_iload_n dX11_after_54 rfl (s_callV (r := (RX1, TX1, 5)) dX11_after_55 mX1_packed meX1_packed wd736 wd737 rfl rfl reX1_packed rmX11_after (fitX11_after_55) wd738 (s_iload dX11_after_58 (s_iload_n dX11_after_60 rfl (s_callV (r := (RX5, TX5, 7)) dX11_after_61 mX5_ringAfter meX5_ringAfter wd747 wd748 rfl rfl reX5_ringAfter rmX11_after (fitX11_after_61) wd749 (s_istore dX11_after_64 (s_iload dX11_after_66 (s_iload dX11_after_68 (s_iload_n dX11_after_70 rfl (s_callS dX11_after_71 mX11_unpacked meX11_unpacked wd276 rfl reX11_unpacked rmX11_after (fitX11_after_71) wd750 (s_iret dX11_after_74 rfl))))))))))))))))))))) tX11_after_31)))))))))))))))
noncomputable def fX11_after : zF := z_fn 6 kX11_after_0
theorem mX11_after {l : Launch} {D : zD} {B : Nat} : z_MF l D B yX11_after xX11_after fX11_after := z_mf (by decide) rfl (fun h => by cases h) rfl (fun as σ r h => ⟨z_fn_len h, kX11_after_0, z_fn_run h, fun _ => tX11_after_0⟩)
/-! ===== RowChildren.ways ===== -/
theorem dX11_ways_0 : decode cX11_ways 0 = .ok (.aload_n 0, 1) := by decide +kernel
theorem dX11_ways_1 : decode cX11_ways 1 = .ok (.getfield 19, 3) := by decide +kernel
theorem dX11_ways_4 : decode cX11_ways 4 = .ok (.getfield 124, 3) := by decide +kernel
theorem dX11_ways_7 : decode cX11_ways 7 = .ok (.astore_n 1, 1) := by decide +kernel
theorem dX11_ways_8 : decode cX11_ways 8 = .ok (.aload_n 1, 1) := by decide +kernel
theorem dX11_ways_9 : decode cX11_ways 9 = .ok (.invokevirtual 292, 3) := by decide +kernel
theorem dX11_ways_12 : decode cX11_ways 12 = .ok (.ifCond .eq 7, 3) := by decide +kernel
theorem dX11_ways_15 : decode cX11_ways 15 = .ok (.iconst 1, 1) := by decide +kernel
theorem dX11_ways_16 : decode cX11_ways 16 = .ok (.goto 4, 3) := by decide +kernel
theorem dX11_ways_19 : decode cX11_ways 19 = .ok (.iconst 0, 1) := by decide +kernel
theorem dX11_ways_20 : decode cX11_ways 20 = .ok (.istore_n 2, 1) := by decide +kernel
theorem dX11_ways_21 : decode cX11_ways 21 = .ok (.iload_n 2, 1) := by decide +kernel
theorem dX11_ways_22 : decode cX11_ways 22 = .ok (.aload_n 1, 1) := by decide +kernel
theorem dX11_ways_23 : decode cX11_ways 23 = .ok (.iconst 1, 1) := by decide +kernel
theorem dX11_ways_24 : decode cX11_ways 24 = .ok (.invokevirtual 295, 3) := by decide +kernel
theorem dX11_ways_27 : decode cX11_ways 27 = .ok (.ifCond .eq 7, 3) := by decide +kernel
theorem dX11_ways_30 : decode cX11_ways 30 = .ok (.iconst 2, 1) := by decide +kernel
theorem dX11_ways_31 : decode cX11_ways 31 = .ok (.goto 4, 3) := by decide +kernel
theorem dX11_ways_34 : decode cX11_ways 34 = .ok (.iconst 0, 1) := by decide +kernel
theorem dX11_ways_35 : decode cX11_ways 35 = .ok (.ior, 1) := by decide +kernel
theorem dX11_ways_36 : decode cX11_ways 36 = .ok (.istore_n 2, 1) := by decide +kernel
theorem dX11_ways_37 : decode cX11_ways 37 = .ok (.iload_n 2, 1) := by decide +kernel
theorem dX11_ways_38 : decode cX11_ways 38 = .ok (.aload_n 1, 1) := by decide +kernel
theorem dX11_ways_39 : decode cX11_ways 39 = .ok (.iconst 0, 1) := by decide +kernel
theorem dX11_ways_40 : decode cX11_ways 40 = .ok (.invokevirtual 295, 3) := by decide +kernel
theorem dX11_ways_43 : decode cX11_ways 43 = .ok (.ifCond .eq 7, 3) := by decide +kernel
theorem dX11_ways_46 : decode cX11_ways 46 = .ok (.iconst 4, 1) := by decide +kernel
theorem dX11_ways_47 : decode cX11_ways 47 = .ok (.goto 4, 3) := by decide +kernel
theorem dX11_ways_50 : decode cX11_ways 50 = .ok (.iconst 0, 1) := by decide +kernel
theorem dX11_ways_51 : decode cX11_ways 51 = .ok (.ior, 1) := by decide +kernel
theorem dX11_ways_52 : decode cX11_ways 52 = .ok (.istore_n 2, 1) := by decide +kernel
theorem dX11_ways_53 : decode cX11_ways 53 = .ok (.iload_n 2, 1) := by decide +kernel
theorem dX11_ways_54 : decode cX11_ways 54 = .ok (.aload_n 1, 1) := by decide +kernel
theorem dX11_ways_55 : decode cX11_ways 55 = .ok (.invokevirtual 299, 3) := by decide +kernel
theorem dX11_ways_58 : decode cX11_ways 58 = .ok (.ifCond .eq 8, 3) := by decide +kernel
theorem dX11_ways_61 : decode cX11_ways 61 = .ok (.bipush 8, 2) := by decide +kernel
theorem dX11_ways_63 : decode cX11_ways 63 = .ok (.goto 4, 3) := by decide +kernel
theorem dX11_ways_66 : decode cX11_ways 66 = .ok (.iconst 0, 1) := by decide +kernel
theorem dX11_ways_67 : decode cX11_ways 67 = .ok (.ior, 1) := by decide +kernel
theorem dX11_ways_68 : decode cX11_ways 68 = .ok (.istore_n 2, 1) := by decide +kernel
theorem dX11_ways_69 : decode cX11_ways 69 = .ok (.iload_n 2, 1) := by decide +kernel
theorem dX11_ways_70 : decode cX11_ways 70 = .ok (.aload_n 1, 1) := by decide +kernel
theorem dX11_ways_71 : decode cX11_ways 71 = .ok (.invokevirtual 302, 3) := by decide +kernel
theorem dX11_ways_74 : decode cX11_ways 74 = .ok (.ifCond .eq 8, 3) := by decide +kernel
theorem dX11_ways_77 : decode cX11_ways 77 = .ok (.bipush 16, 2) := by decide +kernel
theorem dX11_ways_79 : decode cX11_ways 79 = .ok (.goto 4, 3) := by decide +kernel
theorem dX11_ways_82 : decode cX11_ways 82 = .ok (.iconst 0, 1) := by decide +kernel
theorem dX11_ways_83 : decode cX11_ways 83 = .ok (.ior, 1) := by decide +kernel
theorem dX11_ways_84 : decode cX11_ways 84 = .ok (.istore_n 2, 1) := by decide +kernel
theorem dX11_ways_85 : decode cX11_ways 85 = .ok (.iload_n 2, 1) := by decide +kernel
theorem dX11_ways_86 : decode cX11_ways 86 = .ok (.aload_n 1, 1) := by decide +kernel
theorem dX11_ways_87 : decode cX11_ways 87 = .ok (.invokevirtual 305, 3) := by decide +kernel
theorem dX11_ways_90 : decode cX11_ways 90 = .ok (.ifCond .eq 8, 3) := by decide +kernel
theorem dX11_ways_93 : decode cX11_ways 93 = .ok (.bipush 32, 2) := by decide +kernel
theorem dX11_ways_95 : decode cX11_ways 95 = .ok (.goto 4, 3) := by decide +kernel
theorem dX11_ways_98 : decode cX11_ways 98 = .ok (.iconst 0, 1) := by decide +kernel
theorem dX11_ways_99 : decode cX11_ways 99 = .ok (.ior, 1) := by decide +kernel
theorem dX11_ways_100 : decode cX11_ways 100 = .ok (.istore_n 2, 1) := by decide +kernel
theorem dX11_ways_101 : decode cX11_ways 101 = .ok (.iload_n 2, 1) := by decide +kernel
theorem dX11_ways_102 : decode cX11_ways 102 = .ok (.ireturn, 1) := by decide +kernel
def xX11_ways : zX := (RX11, cX11_ways, 3, (some .int), false, { frames := 3, cells := 0, slots := 0, locals := 136 }, 0, 0, 0, 0)
theorem rmX11_ways : z_Rm xX11_ways := by unfold z_Rm xX11_ways; exact ⟨by decide, by decide⟩
theorem reX11_ways : z_Re xX11_ways := ⟨rfl, rfl⟩
theorem rlX11_ways : 1 ≤ xX11_ways.2.2.2.2.2.1.frames ∧ 21 ≤ xX11_ways.2.2.2.2.2.1.locals := by unfold xX11_ways; exact ⟨by decide, by decide⟩
theorem meX11_ways : z_Me yX11_ways xX11_ways 0 := ⟨wd767, wd275, by decide, by decide, by decide +kernel⟩
theorem fitX11_ways_9 : z_Fit xX5_isAlikeBothWays xX11_ways := by unfold z_Fit; simp only [xX5_isAlikeBothWays, xX11_ways]; exact ⟨by decide, by decide⟩
theorem fitX11_ways_24 : z_Fit xX5_isUnlike xX11_ways := by unfold z_Fit; simp only [xX5_isUnlike, xX11_ways]; exact ⟨by decide, by decide⟩
theorem fitX11_ways_40 : z_Fit xX5_isUnlike xX11_ways := by unfold z_Fit; simp only [xX5_isUnlike, xX11_ways]; exact ⟨by decide, by decide⟩
theorem fitX11_ways_55 : z_Fit xX5_isAssociative xX11_ways := by unfold z_Fit; simp only [xX5_isAssociative, xX11_ways]; exact ⟨by decide, by decide⟩
theorem fitX11_ways_71 : z_Fit xX5_keepsAlike xX11_ways := by unfold z_Fit; simp only [xX5_keepsAlike, xX11_ways]; exact ⟨by decide, by decide⟩
theorem fitX11_ways_87 : z_Fit xX5_hasNeutral xX11_ways := by unfold z_Fit; simp only [xX5_hasNeutral, xX11_ways]; exact ⟨by decide, by decide⟩
noncomputable def kX11_ways_99 : zK zR := (q_ior (q_istore 2 (q_iload 2 q_iret)))
noncomputable def kX11_ways_83 : zK zR := (q_ior (q_istore 2 (q_iload 2 (q_aload 1 (q_callV 5 fX5_hasNeutral 0 (q_if_eq (q_push 0 kX11_ways_99) (q_push 32 kX11_ways_99)))))))
noncomputable def kX11_ways_67 : zK zR := (q_ior (q_istore 2 (q_iload 2 (q_aload 1 (q_callV 5 fX5_keepsAlike 0 (q_if_eq (q_push 0 kX11_ways_83) (q_push 16 kX11_ways_83)))))))
noncomputable def kX11_ways_51 : zK zR := (q_ior (q_istore 2 (q_iload 2 (q_aload 1 (q_callV 5 fX5_isAssociative 0 (q_if_eq (q_push 0 kX11_ways_67) (q_push 8 kX11_ways_67)))))))
noncomputable def kX11_ways_35 : zK zR := (q_ior (q_istore 2 (q_iload 2 (q_aload 1 (q_push 0 (q_callV 5 fX5_isUnlike 1 (q_if_eq (q_push 0 kX11_ways_51) (q_push 4 kX11_ways_51))))))))
noncomputable def kX11_ways_20 : zK zR := (q_istore 2 (q_iload 2 (q_aload 1 (q_push 1 (q_callV 5 fX5_isUnlike 1 (q_if_eq (q_push 0 kX11_ways_35) (q_push 2 kX11_ways_35)))))))
noncomputable def kX11_ways_0 : zK zR := (q_aload 0 (q_getR 11 1 (q_getR 7 1 (q_astore 1 (q_aload 1 (q_callV 5 fX5_isAlikeBothWays 0 (q_if_eq (q_push 0 kX11_ways_20) (q_push 1 kX11_ways_20))))))))
set_option maxRecDepth 100000 in
theorem tX11_ways_99 {l : Launch} {D : zD} {B sz0 : Nat} {post : Option Value → zS → Prop} : zSnd l D B xX11_ways sz0 post 99 kX11_ways_99 (z_Jr post) := (s_ior dX11_ways_99 (s_istore_n dX11_ways_100 rfl (s_iload_n dX11_ways_101 rfl (s_iret dX11_ways_102 rfl))))
set_option maxRecDepth 100000 in
theorem tX11_ways_83 {l : Launch} {D : zD} {B sz0 : Nat} {post : Option Value → zS → Prop} : zSnd l D B xX11_ways sz0 post 83 kX11_ways_83 (z_Jr post) := (s_ior dX11_ways_83 (s_istore_n dX11_ways_84 rfl (s_iload_n dX11_ways_85 rfl (s_aload_n dX11_ways_86 rfl (s_callV (r := (RX5, TX5, 7)) dX11_ways_87 mX5_hasNeutral meX5_hasNeutral wd764 wd765 rfl rfl reX5_hasNeutral rmX11_ways (fitX11_ways_87) wd766 (s_if_eq (tgt := 98) dX11_ways_90 (by decide) (s_iconst dX11_ways_98 (by decide) tX11_ways_99) (s_bipush dX11_ways_93 (by decide) (s_goto (tgt := 99) dX11_ways_95 (by decide) tX11_ways_99))))))))
set_option maxRecDepth 100000 in
theorem tX11_ways_67 {l : Launch} {D : zD} {B sz0 : Nat} {post : Option Value → zS → Prop} : zSnd l D B xX11_ways sz0 post 67 kX11_ways_67 (z_Jr post) := (s_ior dX11_ways_67 (s_istore_n dX11_ways_68 rfl (s_iload_n dX11_ways_69 rfl (s_aload_n dX11_ways_70 rfl (s_callV (r := (RX5, TX5, 7)) dX11_ways_71 mX5_keepsAlike meX5_keepsAlike wd761 wd762 rfl rfl reX5_keepsAlike rmX11_ways (fitX11_ways_71) wd763 (s_if_eq (tgt := 82) dX11_ways_74 (by decide) (s_iconst dX11_ways_82 (by decide) tX11_ways_83) (s_bipush dX11_ways_77 (by decide) (s_goto (tgt := 83) dX11_ways_79 (by decide) tX11_ways_83))))))))
set_option maxRecDepth 100000 in
theorem tX11_ways_51 {l : Launch} {D : zD} {B sz0 : Nat} {post : Option Value → zS → Prop} : zSnd l D B xX11_ways sz0 post 51 kX11_ways_51 (z_Jr post) := (s_ior dX11_ways_51 (s_istore_n dX11_ways_52 rfl (s_iload_n dX11_ways_53 rfl (s_aload_n dX11_ways_54 rfl (s_callV (r := (RX5, TX5, 7)) dX11_ways_55 mX5_isAssociative meX5_isAssociative wd758 wd759 rfl rfl reX5_isAssociative rmX11_ways (fitX11_ways_55) wd760 (s_if_eq (tgt := 66) dX11_ways_58 (by decide) (s_iconst dX11_ways_66 (by decide) tX11_ways_67) (s_bipush dX11_ways_61 (by decide) (s_goto (tgt := 67) dX11_ways_63 (by decide) tX11_ways_67))))))))
set_option maxRecDepth 100000 in
theorem tX11_ways_35 {l : Launch} {D : zD} {B sz0 : Nat} {post : Option Value → zS → Prop} : zSnd l D B xX11_ways sz0 post 35 kX11_ways_35 (z_Jr post) := (s_ior dX11_ways_35 (s_istore_n dX11_ways_36 rfl (s_iload_n dX11_ways_37 rfl (s_aload_n dX11_ways_38 rfl (s_iconst dX11_ways_39 (by decide) (s_callV (r := (RX5, TX5, 7)) dX11_ways_40 mX5_isUnlike meX5_isUnlike wd755 wd756 rfl rfl reX5_isUnlike rmX11_ways (fitX11_ways_40) wd757 (s_if_eq (tgt := 50) dX11_ways_43 (by decide) (s_iconst dX11_ways_50 (by decide) tX11_ways_51) (s_iconst dX11_ways_46 (by decide) (s_goto (tgt := 51) dX11_ways_47 (by decide) tX11_ways_51)))))))))
set_option maxRecDepth 100000 in
theorem tX11_ways_20 {l : Launch} {D : zD} {B sz0 : Nat} {post : Option Value → zS → Prop} : zSnd l D B xX11_ways sz0 post 20 kX11_ways_20 (z_Jr post) := (s_istore_n dX11_ways_20 rfl (s_iload_n dX11_ways_21 rfl (s_aload_n dX11_ways_22 rfl (s_iconst dX11_ways_23 (by decide) (s_callV (r := (RX5, TX5, 7)) dX11_ways_24 mX5_isUnlike meX5_isUnlike wd755 wd756 rfl rfl reX5_isUnlike rmX11_ways (fitX11_ways_24) wd757 (s_if_eq (tgt := 34) dX11_ways_27 (by decide) (s_iconst dX11_ways_34 (by decide) tX11_ways_35) (s_iconst dX11_ways_30 (by decide) (s_goto (tgt := 35) dX11_ways_31 (by decide) tX11_ways_35))))))))
set_option maxRecDepth 100000 in
theorem tX11_ways_0 {l : Launch} {D : zD} {B sz0 : Nat} {post : Option Value → zS → Prop} : zSnd l D B xX11_ways sz0 post 0 kX11_ways_0 (z_Jr post) := (s_aload_n dX11_ways_0 rfl (s_getR (f := 1) dX11_ways_1 clX11 (by decide) rfl wd527 (s_getR (f := 1) dX11_ways_4 clX7 (by decide) rfl wd583 (s_astore_n dX11_ways_7 rfl (s_aload_n dX11_ways_8 rfl (s_callV (r := (RX5, TX5, 7)) dX11_ways_9 mX5_isAlikeBothWays meX5_isAlikeBothWays wd752 wd753 rfl rfl reX5_isAlikeBothWays rmX11_ways (fitX11_ways_9) wd754 (s_if_eq (tgt := 19) dX11_ways_12 (by decide) (s_iconst dX11_ways_19 (by decide) tX11_ways_20) (s_iconst dX11_ways_15 (by decide) (s_goto (tgt := 20) dX11_ways_16 (by decide) tX11_ways_20)))))))))
noncomputable def fX11_ways : zF := z_fn 3 kX11_ways_0
theorem mX11_ways {l : Launch} {D : zD} {B : Nat} : z_MF l D B yX11_ways xX11_ways fX11_ways := z_mf (by decide) rfl (fun h => by cases h) rfl (fun as σ r h => ⟨z_fn_len h, kX11_ways_0, z_fn_run h, fun _ => tX11_ways_0⟩)
/-! ===== RowChildren.shut ===== -/
theorem dX11_shut_0 : decode cX11_shut 0 = .ok (.iload_n 1, 1) := by decide +kernel
theorem dX11_shut_1 : decode cX11_shut 1 = .ok (.iconst 1, 1) := by decide +kernel
theorem dX11_shut_2 : decode cX11_shut 2 = .ok (.if_icmp .lt 19, 3) := by decide +kernel
theorem dX11_shut_5 : decode cX11_shut 5 = .ok (.iload_n 1, 1) := by decide +kernel
theorem dX11_shut_6 : decode cX11_shut 6 = .ok (.iconst 1, 1) := by decide +kernel
theorem dX11_shut_7 : decode cX11_shut 7 = .ok (.aload_n 0, 1) := by decide +kernel
theorem dX11_shut_8 : decode cX11_shut 8 = .ok (.getfield 19, 3) := by decide +kernel
theorem dX11_shut_11 : decode cX11_shut 11 = .ok (.getfield 124, 3) := by decide +kernel
theorem dX11_shut_14 : decode cX11_shut 14 = .ok (.getfield 145, 3) := by decide +kernel
theorem dX11_shut_17 : decode cX11_shut 17 = .ok (.ishl, 1) := by decide +kernel
theorem dX11_shut_18 : decode cX11_shut 18 = .ok (.if_icmp .lt 5, 3) := by decide +kernel
theorem dX11_shut_21 : decode cX11_shut 21 = .ok (.iconst (-1), 1) := by decide +kernel
theorem dX11_shut_22 : decode cX11_shut 22 = .ok (.ireturn, 1) := by decide +kernel
theorem dX11_shut_23 : decode cX11_shut 23 = .ok (.aload_n 0, 1) := by decide +kernel
theorem dX11_shut_24 : decode cX11_shut 24 = .ok (.getfield 19, 3) := by decide +kernel
theorem dX11_shut_27 : decode cX11_shut 27 = .ok (.getfield 124, 3) := by decide +kernel
theorem dX11_shut_30 : decode cX11_shut 30 = .ok (.iload_n 1, 1) := by decide +kernel
theorem dX11_shut_31 : decode cX11_shut 31 = .ok (.invokevirtual 308, 3) := by decide +kernel
theorem dX11_shut_34 : decode cX11_shut 34 = .ok (.ireturn, 1) := by decide +kernel
def xX11_shut : zX := (RX11, cX11_shut, 2, (some .int), false, { frames := 3, cells := 0, slots := 0, locals := 137 }, 0, 0, 0, 0)
theorem rmX11_shut : z_Rm xX11_shut := by unfold z_Rm xX11_shut; exact ⟨by decide, by decide⟩
theorem reX11_shut : z_Re xX11_shut := ⟨rfl, rfl⟩
theorem rlX11_shut : 1 ≤ xX11_shut.2.2.2.2.2.1.frames ∧ 21 ≤ xX11_shut.2.2.2.2.2.1.locals := by unfold xX11_shut; exact ⟨by decide, by decide⟩
theorem meX11_shut : z_Me yX11_shut xX11_shut 1 := ⟨wd771, wd275, by decide, by decide, by decide +kernel⟩
theorem fitX11_shut_31 : z_Fit xX5_closureOf xX11_shut := by unfold z_Fit; simp only [xX5_closureOf, xX11_shut]; exact ⟨by decide, by decide⟩
noncomputable def kX11_shut_21 : zK zR := (q_push (-1) q_iret)
noncomputable def kX11_shut_0 : zK zR := (q_iload 1 (q_push 1 (q_icmp_lt kX11_shut_21 (q_iload 1 (q_push 1 (q_aload 0 (q_getR 11 1 (q_getR 7 1 (q_getI 5 0 (q_ishl (q_icmp_lt (q_aload 0 (q_getR 11 1 (q_getR 7 1 (q_iload 1 (q_callV 5 fX5_closureOf 1 q_iret))))) kX11_shut_21)))))))))))
set_option maxRecDepth 100000 in
theorem tX11_shut_21 {l : Launch} {D : zD} {B sz0 : Nat} {post : Option Value → zS → Prop} : zSnd l D B xX11_shut sz0 post 21 kX11_shut_21 (z_Jr post) := (s_iconst dX11_shut_21 (by decide) (s_iret dX11_shut_22 rfl))
set_option maxRecDepth 100000 in
theorem tX11_shut_0 {l : Launch} {D : zD} {B sz0 : Nat} {post : Option Value → zS → Prop} : zSnd l D B xX11_shut sz0 post 0 kX11_shut_0 (z_Jr post) := (s_iload_n dX11_shut_0 rfl (s_iconst dX11_shut_1 (by decide) (s_icmp_lt (tgt := 21) dX11_shut_2 (by decide) tX11_shut_21 (s_iload_n dX11_shut_5 rfl (s_iconst dX11_shut_6 (by decide) (s_aload_n dX11_shut_7 rfl (s_getR (f := 1) dX11_shut_8 clX11 (by decide) rfl wd527 (s_getR (f := 1) dX11_shut_11 clX7 (by decide) rfl wd583 (s_getI (f := 0) dX11_shut_14 clX5 (by decide) rfl wd584 (s_ishl dX11_shut_17 (s_icmp_lt (tgt := 23) dX11_shut_18 (by decide) (s_aload_n dX11_shut_23 rfl (s_getR (f := 1) dX11_shut_24 clX11 (by decide) rfl wd527 (s_getR (f := 1) dX11_shut_27 clX7 (by decide) rfl wd583 (s_iload_n dX11_shut_30 rfl (s_callV (r := (RX5, TX5, 7)) dX11_shut_31 mX5_closureOf meX5_closureOf wd768 wd769 rfl rfl reX5_closureOf rmX11_shut (fitX11_shut_31) wd770 (s_iret dX11_shut_34 rfl)))))) tX11_shut_21)))))))))))
noncomputable def fX11_shut : zF := z_fn 2 kX11_shut_0
theorem mX11_shut {l : Launch} {D : zD} {B : Nat} : z_MF l D B yX11_shut xX11_shut fX11_shut := z_mf (by decide) rfl (fun h => by cases h) rfl (fun as σ r h => ⟨z_fn_len h, kX11_shut_0, z_fn_run h, fun _ => tX11_shut_0⟩)
