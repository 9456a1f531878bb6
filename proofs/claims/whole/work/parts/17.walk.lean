/-! ===== RowChildren$Text.step ===== -/
theorem dX7_step_0 : decode cX7_step 0 = .ok (.aload_n 0, 1) := by decide +kernel
theorem dX7_step_1 : decode cX7_step 1 = .ok (.getfield 53, 3) := by decide +kernel
theorem dX7_step_4 : decode cX7_step 4 = .ok (.ifCond .eq 4, 3) := by decide +kernel
theorem dX7_step_7 : decode cX7_step 7 = .ok (.return_, 1) := by decide +kernel
theorem dX7_step_8 : decode cX7_step 8 = .ok (.iload_n 1, 1) := by decide +kernel
theorem dX7_step_9 : decode cX7_step 9 = .ok (.ifCond .ne 11, 3) := by decide +kernel
theorem dX7_step_12 : decode cX7_step 12 = .ok (.aload_n 0, 1) := by decide +kernel
theorem dX7_step_13 : decode cX7_step 13 = .ok (.iconst 1, 1) := by decide +kernel
theorem dX7_step_14 : decode cX7_step 14 = .ok (.putfield 53, 3) := by decide +kernel
theorem dX7_step_17 : decode cX7_step 17 = .ok (.goto 31, 3) := by decide +kernel
theorem dX7_step_20 : decode cX7_step 20 = .ok (.aload_n 0, 1) := by decide +kernel
theorem dX7_step_21 : decode cX7_step 21 = .ok (.getfield 60, 3) := by decide +kernel
theorem dX7_step_24 : decode cX7_step 24 = .ok (.sipush 400, 3) := by decide +kernel
theorem dX7_step_27 : decode cX7_step 27 = .ok (.if_icmp .lt 11, 3) := by decide +kernel
theorem dX7_step_30 : decode cX7_step 30 = .ok (.aload_n 0, 1) := by decide +kernel
theorem dX7_step_31 : decode cX7_step 31 = .ok (.iconst 2, 1) := by decide +kernel
theorem dX7_step_32 : decode cX7_step 32 = .ok (.putfield 53, 3) := by decide +kernel
theorem dX7_step_35 : decode cX7_step 35 = .ok (.goto 13, 3) := by decide +kernel
theorem dX7_step_38 : decode cX7_step 38 = .ok (.aload_n 0, 1) := by decide +kernel
theorem dX7_step_39 : decode cX7_step 39 = .ok (.dup, 1) := by decide +kernel
theorem dX7_step_40 : decode cX7_step 40 = .ok (.getfield 60, 3) := by decide +kernel
theorem dX7_step_43 : decode cX7_step 43 = .ok (.iconst 1, 1) := by decide +kernel
theorem dX7_step_44 : decode cX7_step 44 = .ok (.iadd, 1) := by decide +kernel
theorem dX7_step_45 : decode cX7_step 45 = .ok (.putfield 60, 3) := by decide +kernel
theorem dX7_step_48 : decode cX7_step 48 = .ok (.return_, 1) := by decide +kernel
def xX7_step : zX := (RX7, cX7_step, 2, none, false, { frames := 1, cells := 0, slots := 0, locals := 90 }, 0, 0, 0, 0)
theorem rmX7_step : z_Rm xX7_step := by unfold z_Rm xX7_step; exact ⟨by decide, by decide⟩
theorem reX7_step : z_Re xX7_step := ⟨rfl, rfl⟩
theorem rlX7_step : 1 ≤ xX7_step.2.2.2.2.2.1.frames ∧ 21 ≤ xX7_step.2.2.2.2.2.1.locals := by unfold xX7_step; exact ⟨by decide, by decide⟩
theorem meX7_step : z_Me yX7_step xX7_step 1 := ⟨wd428, wd111, by decide, by decide, by decide +kernel⟩
noncomputable def kX7_step_48 : zK zR := q_vret
noncomputable def kX7_step_0 : zK zR := (q_aload 0 (q_getI 7 6 (q_if_eq (q_iload 1 (q_if_ne (q_aload 0 (q_getI 7 8 (q_push 400 (q_icmp_lt (q_aload 0 (q_dup (q_getI 7 8 (q_push 1 (q_iadd (q_putI 7 8 kX7_step_48)))))) (q_aload 0 (q_push 2 (q_putI 7 6 kX7_step_48))))))) (q_aload 0 (q_push 1 (q_putI 7 6 kX7_step_48))))) q_vret)))
set_option maxRecDepth 100000 in
theorem tX7_step_48 {l : Launch} {D : zD} {B sz0 : Nat} {post : Option Value → zS → Prop} : zSnd l D B xX7_step sz0 post 48 kX7_step_48 (z_Jr post) := (s_vret dX7_step_48 rfl)
set_option maxRecDepth 100000 in
theorem tX7_step_0 {l : Launch} {D : zD} {B sz0 : Nat} {post : Option Value → zS → Prop} : zSnd l D B xX7_step sz0 post 0 kX7_step_0 (z_Jr post) := (s_aload_n dX7_step_0 rfl (s_getI (f := 6) dX7_step_1 clX7 (by decide) rfl wd311 (s_if_eq (tgt := 8) dX7_step_4 (by decide) (s_iload_n dX7_step_8 rfl (s_if_ne (tgt := 20) dX7_step_9 (by decide) (s_aload_n dX7_step_20 rfl (s_getI (f := 8) dX7_step_21 clX7 (by decide) rfl wd427 (s_sipush dX7_step_24 (by decide) (s_icmp_lt (tgt := 38) dX7_step_27 (by decide) (s_aload_n dX7_step_38 rfl (s_dup dX7_step_39 (s_getI (f := 8) dX7_step_40 clX7 (by decide) rfl wd427 (s_iconst dX7_step_43 (by decide) (s_iadd dX7_step_44 (s_putI (f := 8) dX7_step_45 clX7 (by decide) rfl rfl rfl wd427 tX7_step_48)))))) (s_aload_n dX7_step_30 rfl (s_iconst dX7_step_31 (by decide) (s_putI (f := 6) dX7_step_32 clX7 (by decide) rfl rfl rfl wd311 (s_goto (tgt := 48) dX7_step_35 (by decide) tX7_step_48)))))))) (s_aload_n dX7_step_12 rfl (s_iconst dX7_step_13 (by decide) (s_putI (f := 6) dX7_step_14 clX7 (by decide) rfl rfl rfl wd311 (s_goto (tgt := 48) dX7_step_17 (by decide) tX7_step_48)))))) (s_vret dX7_step_7 rfl))))
noncomputable def fX7_step : zF := z_fn 2 kX7_step_0
theorem mX7_step {l : Launch} {D : zD} {B : Nat} : z_MF l D B yX7_step xX7_step fX7_step := z_mf (by decide) rfl (fun h => by cases h) rfl (fun as σ r h => ⟨z_fn_len h, kX7_step_0, z_fn_run h, fun _ => tX7_step_0⟩)
/-! ===== RowChildren$Text.expect ===== -/
theorem dX7_expect_0 : decode cX7_expect 0 = .ok (.aload_n 0, 1) := by decide +kernel
theorem dX7_expect_1 : decode cX7_expect 1 = .ok (.aload_n 0, 1) := by decide +kernel
theorem dX7_expect_2 : decode cX7_expect 2 = .ok (.getfield 12, 3) := by decide +kernel
theorem dX7_expect_5 : decode cX7_expect 5 = .ok (.aload_n 0, 1) := by decide +kernel
theorem dX7_expect_6 : decode cX7_expect 6 = .ok (.getfield 60, 3) := by decide +kernel
theorem dX7_expect_9 : decode cX7_expect 9 = .ok (.invokevirtual 87, 3) := by decide +kernel
theorem dX7_expect_12 : decode cX7_expect 12 = .ok (.iload_n 1, 1) := by decide +kernel
theorem dX7_expect_13 : decode cX7_expect 13 = .ok (.if_icmp .ne 7, 3) := by decide +kernel
theorem dX7_expect_16 : decode cX7_expect 16 = .ok (.iconst 1, 1) := by decide +kernel
theorem dX7_expect_17 : decode cX7_expect 17 = .ok (.goto 4, 3) := by decide +kernel
theorem dX7_expect_20 : decode cX7_expect 20 = .ok (.iconst 0, 1) := by decide +kernel
theorem dX7_expect_21 : decode cX7_expect 21 = .ok (.invokevirtual 90, 3) := by decide +kernel
theorem dX7_expect_24 : decode cX7_expect 24 = .ok (.return_, 1) := by decide +kernel
def xX7_expect : zX := (RX7, cX7_expect, 2, none, false, { frames := 2, cells := 0, slots := 0, locals := 111 }, 0, 0, 0, 0)
theorem rmX7_expect : z_Rm xX7_expect := by unfold z_Rm xX7_expect; exact ⟨by decide, by decide⟩
theorem reX7_expect : z_Re xX7_expect := ⟨rfl, rfl⟩
theorem rlX7_expect : 1 ≤ xX7_expect.2.2.2.2.2.1.frames ∧ 21 ≤ xX7_expect.2.2.2.2.2.1.locals := by unfold xX7_expect; exact ⟨by decide, by decide⟩
theorem meX7_expect : z_Me yX7_expect xX7_expect 1 := ⟨wd433, wd111, by decide, by decide, by decide +kernel⟩
theorem fitX7_expect_9 : z_Fit xX8_kind xX7_expect := by unfold z_Fit; simp only [xX8_kind, xX7_expect]; exact ⟨by decide, by decide⟩
theorem fitX7_expect_21 : z_Fit xX7_step xX7_expect := by unfold z_Fit; simp only [xX7_step, xX7_expect]; exact ⟨by decide, by decide⟩
noncomputable def kX7_expect_21 : zK zR := (q_callV 7 fX7_step 1 q_vret)
noncomputable def kX7_expect_0 : zK zR := (q_aload 0 (q_aload 0 (q_getR 7 0 (q_aload 0 (q_getI 7 8 (q_callV 8 fX8_kind 1 (q_iload 1 (q_icmp_ne (q_push 0 kX7_expect_21) (q_push 1 kX7_expect_21)))))))))
set_option maxRecDepth 100000 in
theorem tX7_expect_21 {l : Launch} {D : zD} {B sz0 : Nat} {post : Option Value → zS → Prop} : zSnd l D B xX7_expect sz0 post 21 kX7_expect_21 (z_Jr post) := (s_callV (r := (RX7, TX7, 10)) dX7_expect_21 mX7_step meX7_step wd430 wd431 rfl rfl reX7_step rmX7_expect (fitX7_expect_21) wd432 (s_vret dX7_expect_24 rfl))
set_option maxRecDepth 100000 in
theorem tX7_expect_0 {l : Launch} {D : zD} {B sz0 : Nat} {post : Option Value → zS → Prop} : zSnd l D B xX7_expect sz0 post 0 kX7_expect_0 (z_Jr post) := (s_aload_n dX7_expect_0 rfl (s_aload_n dX7_expect_1 rfl (s_getR (f := 0) dX7_expect_2 clX7 (by decide) rfl wd329 (s_aload_n dX7_expect_5 rfl (s_getI (f := 8) dX7_expect_6 clX7 (by decide) rfl wd427 (s_callV (r := (RX8, TX8, 4)) dX7_expect_9 mX8_kind meX8_kind wd121 wd122 rfl rfl reX8_kind rmX7_expect (fitX7_expect_9) wd429 (s_iload_n dX7_expect_12 rfl (s_icmp_ne (tgt := 20) dX7_expect_13 (by decide) (s_iconst dX7_expect_20 (by decide) tX7_expect_21) (s_iconst dX7_expect_16 (by decide) (s_goto (tgt := 21) dX7_expect_17 (by decide) tX7_expect_21))))))))))
noncomputable def fX7_expect : zF := z_fn 2 kX7_expect_0
theorem mX7_expect {l : Launch} {D : zD} {B : Nat} : z_MF l D B yX7_expect xX7_expect fX7_expect := z_mf (by decide) rfl (fun h => by cases h) rfl (fun as σ r h => ⟨z_fn_len h, kX7_expect_0, z_fn_run h, fun _ => tX7_expect_0⟩)
/-! ===== RowChildren$Text.checkRow ===== -/
theorem dX7_checkRow_0 : decode cX7_checkRow 0 = .ok (.aload_n 0, 1) := by decide +kernel
theorem dX7_checkRow_1 : decode cX7_checkRow 1 = .ok (.bipush 20, 2) := by decide +kernel
theorem dX7_checkRow_3 : decode cX7_checkRow 3 = .ok (.invokevirtual 104, 3) := by decide +kernel
theorem dX7_checkRow_6 : decode cX7_checkRow 6 = .ok (.aload_n 0, 1) := by decide +kernel
theorem dX7_checkRow_7 : decode cX7_checkRow 7 = .ok (.bipush 21, 2) := by decide +kernel
theorem dX7_checkRow_9 : decode cX7_checkRow 9 = .ok (.invokevirtual 104, 3) := by decide +kernel
theorem dX7_checkRow_12 : decode cX7_checkRow 12 = .ok (.iconst 1, 1) := by decide +kernel
theorem dX7_checkRow_13 : decode cX7_checkRow 13 = .ok (.istore_n 1, 1) := by decide +kernel
theorem dX7_checkRow_14 : decode cX7_checkRow 14 = .ok (.iload_n 1, 1) := by decide +kernel
theorem dX7_checkRow_15 : decode cX7_checkRow 15 = .ok (.bipush 8, 2) := by decide +kernel
theorem dX7_checkRow_17 : decode cX7_checkRow 17 = .ok (.if_icmp .gt 51, 3) := by decide +kernel
theorem dX7_checkRow_20 : decode cX7_checkRow 20 = .ok (.aload_n 0, 1) := by decide +kernel
theorem dX7_checkRow_21 : decode cX7_checkRow 21 = .ok (.getfield 53, 3) := by decide +kernel
theorem dX7_checkRow_24 : decode cX7_checkRow 24 = .ok (.ifCond .ne 44, 3) := by decide +kernel
theorem dX7_checkRow_27 : decode cX7_checkRow 27 = .ok (.aload_n 0, 1) := by decide +kernel
theorem dX7_checkRow_28 : decode cX7_checkRow 28 = .ok (.getfield 12, 3) := by decide +kernel
theorem dX7_checkRow_31 : decode cX7_checkRow 31 = .ok (.aload_n 0, 1) := by decide +kernel
theorem dX7_checkRow_32 : decode cX7_checkRow 32 = .ok (.getfield 60, 3) := by decide +kernel
theorem dX7_checkRow_35 : decode cX7_checkRow 35 = .ok (.invokevirtual 87, 3) := by decide +kernel
theorem dX7_checkRow_38 : decode cX7_checkRow 38 = .ok (.bipush 21, 2) := by decide +kernel
theorem dX7_checkRow_40 : decode cX7_checkRow 40 = .ok (.if_icmp .ne 28, 3) := by decide +kernel
theorem dX7_checkRow_43 : decode cX7_checkRow 43 = .ok (.iload_n 1, 1) := by decide +kernel
theorem dX7_checkRow_44 : decode cX7_checkRow 44 = .ok (.bipush 8, 2) := by decide +kernel
theorem dX7_checkRow_46 : decode cX7_checkRow 46 = .ok (.if_icmp .ne 11, 3) := by decide +kernel
theorem dX7_checkRow_49 : decode cX7_checkRow 49 = .ok (.aload_n 0, 1) := by decide +kernel
theorem dX7_checkRow_50 : decode cX7_checkRow 50 = .ok (.iconst 2, 1) := by decide +kernel
theorem dX7_checkRow_51 : decode cX7_checkRow 51 = .ok (.putfield 53, 3) := by decide +kernel
theorem dX7_checkRow_54 : decode cX7_checkRow 54 = .ok (.goto 8, 3) := by decide +kernel
theorem dX7_checkRow_57 : decode cX7_checkRow 57 = .ok (.aload_n 0, 1) := by decide +kernel
theorem dX7_checkRow_58 : decode cX7_checkRow 58 = .ok (.iconst 1, 1) := by decide +kernel
theorem dX7_checkRow_59 : decode cX7_checkRow 59 = .ok (.invokevirtual 90, 3) := by decide +kernel
theorem dX7_checkRow_62 : decode cX7_checkRow 62 = .ok (.iinc 1 1, 3) := by decide +kernel
theorem dX7_checkRow_65 : decode cX7_checkRow 65 = .ok (.goto (-51), 3) := by decide +kernel
theorem dX7_checkRow_68 : decode cX7_checkRow 68 = .ok (.return_, 1) := by decide +kernel
def xX7_checkRow : zX := (RX7, cX7_checkRow, 2, none, false, { frames := 3, cells := 0, slots := 0, locals := 132 }, 0, 0, 0, 0)
theorem rmX7_checkRow : z_Rm xX7_checkRow := by unfold z_Rm xX7_checkRow; exact ⟨by decide, by decide⟩
theorem reX7_checkRow : z_Re xX7_checkRow := ⟨rfl, rfl⟩
theorem rlX7_checkRow : 1 ≤ xX7_checkRow.2.2.2.2.2.1.frames ∧ 21 ≤ xX7_checkRow.2.2.2.2.2.1.locals := by unfold xX7_checkRow; exact ⟨by decide, by decide⟩
theorem meX7_checkRow : z_Me yX7_checkRow xX7_checkRow 0 := ⟨wd437, wd111, by decide, by decide, by decide +kernel⟩
theorem fitX7_checkRow_3 : z_Fit xX7_expect xX7_checkRow := by unfold z_Fit; simp only [xX7_expect, xX7_checkRow]; exact ⟨by decide, by decide⟩
theorem fitX7_checkRow_9 : z_Fit xX7_expect xX7_checkRow := by unfold z_Fit; simp only [xX7_expect, xX7_checkRow]; exact ⟨by decide, by decide⟩
theorem fitX7_checkRow_35 : z_Fit xX8_kind xX7_checkRow := by unfold z_Fit; simp only [xX8_kind, xX7_checkRow]; exact ⟨by decide, by decide⟩
theorem fitX7_checkRow_59 : z_Fit xX7_step xX7_checkRow := by unfold z_Fit; simp only [xX7_step, xX7_checkRow]; exact ⟨by decide, by decide⟩
noncomputable def kX7_checkRow_68 : zK zR := q_vret
noncomputable def kX7_checkRow_62 : zK ((zL × zS) ⊕ zR) := (q_iinc 1 1 q_ag)
noncomputable def bX7_checkRow_14 : zK ((zL × zS) ⊕ zR) := (q_iload 1 (q_push 8 (q_icmp_gt (q_dn kX7_checkRow_68) (q_aload 0 (q_getI 7 6 (q_if_ne (q_dn kX7_checkRow_68) (q_aload 0 (q_getR 7 0 (q_aload 0 (q_getI 7 8 (q_callV 8 fX8_kind 1 (q_push 21 (q_icmp_ne (q_dn kX7_checkRow_68) (q_iload 1 (q_push 8 (q_icmp_ne (q_aload 0 (q_push 1 (q_callV 7 fX7_step 1 kX7_checkRow_62))) (q_aload 0 (q_push 2 (q_putI 7 6 kX7_checkRow_62)))))))))))))))))))
noncomputable def kX7_checkRow_14 : zK zR := q_lp (bX7_checkRow_14)
noncomputable def kX7_checkRow_0 : zK zR := (q_aload 0 (q_push 20 (q_callV 7 fX7_expect 1 (q_aload 0 (q_push 21 (q_callV 7 fX7_expect 1 (q_push 1 (q_istore 1 kX7_checkRow_14))))))))
set_option maxRecDepth 100000 in
theorem tX7_checkRow_68 {l : Launch} {D : zD} {B sz0 : Nat} {post : Option Value → zS → Prop} : zSnd l D B xX7_checkRow sz0 post 68 kX7_checkRow_68 (z_Jr post) := (s_vret dX7_checkRow_68 rfl)
set_option maxRecDepth 100000 in
theorem tX7_checkRow_62 {l : Launch} {D : zD} {B sz0 : Nat} {post : Option Value → zS → Prop} : zSnd l D B xX7_checkRow sz0 post 62 kX7_checkRow_62 (z_Jl l D B xX7_checkRow sz0 post 14 (z_Jr post)) := (s_iinc dX7_checkRow_62 (by decide) (s_goto (tgt := 14) dX7_checkRow_65 (by decide) s_ag))
set_option maxRecDepth 100000 in
theorem tX7_checkRow_14 {l : Launch} {D : zD} {B sz0 : Nat} {post : Option Value → zS → Prop} : zSnd l D B xX7_checkRow sz0 post 14 kX7_checkRow_14 (z_Jr post) := s_lp (body := bX7_checkRow_14) (s_iload_n dX7_checkRow_14 rfl (s_bipush dX7_checkRow_15 (by decide) (s_icmp_gt (tgt := 68) dX7_checkRow_17 (by decide) (s_dn tX7_checkRow_68) (s_aload_n dX7_checkRow_20 rfl (s_getI (f := 6) dX7_checkRow_21 clX7 (by decide) rfl wd311 (s_if_ne (tgt := 68) dX7_checkRow_24 (by decide) (s_dn tX7_checkRow_68) (s_aload_n dX7_checkRow_27 rfl (s_getR (f := 0) dX7_checkRow_28 clX7 (by decide) rfl wd329 (s_aload_n dX7_checkRow_31 rfl (s_getI (f := 8) dX7_checkRow_32 clX7 (by decide) rfl wd427 (s_callV (r := (RX8, TX8, 4)) dX7_checkRow_35 mX8_kind meX8_kind wd121 wd122 rfl rfl reX8_kind rmX7_checkRow (fitX7_checkRow_35) wd429 (s_bipush dX7_checkRow_38 (by decide) (s_icmp_ne (tgt := 68) dX7_checkRow_40 (by decide) (s_dn tX7_checkRow_68) (s_iload_n dX7_checkRow_43 rfl (s_bipush dX7_checkRow_44 (by decide) (s_icmp_ne (tgt := 57) dX7_checkRow_46 (by decide) (s_aload_n dX7_checkRow_57 rfl (s_iconst dX7_checkRow_58 (by decide) (s_callV (r := (RX7, TX7, 10)) dX7_checkRow_59 mX7_step meX7_step wd430 wd431 rfl rfl reX7_step rmX7_checkRow (fitX7_checkRow_59) wd432 tX7_checkRow_62))) (s_aload_n dX7_checkRow_49 rfl (s_iconst dX7_checkRow_50 (by decide) (s_putI (f := 6) dX7_checkRow_51 clX7 (by decide) rfl rfl rfl wd311 (s_goto (tgt := 62) dX7_checkRow_54 (by decide) tX7_checkRow_62))))))))))))))))))))
set_option maxRecDepth 100000 in
theorem tX7_checkRow_0 {l : Launch} {D : zD} {B sz0 : Nat} {post : Option Value → zS → Prop} : zSnd l D B xX7_checkRow sz0 post 0 kX7_checkRow_0 (z_Jr post) := (s_aload_n dX7_checkRow_0 rfl (s_bipush dX7_checkRow_1 (by decide) (s_callV (r := (RX7, TX7, 10)) dX7_checkRow_3 mX7_expect meX7_expect wd434 wd435 rfl rfl reX7_expect rmX7_checkRow (fitX7_checkRow_3) wd436 (s_aload_n dX7_checkRow_6 rfl (s_bipush dX7_checkRow_7 (by decide) (s_callV (r := (RX7, TX7, 10)) dX7_checkRow_9 mX7_expect meX7_expect wd434 wd435 rfl rfl reX7_expect rmX7_checkRow (fitX7_checkRow_9) wd436 (s_iconst dX7_checkRow_12 (by decide) (s_istore_n dX7_checkRow_13 rfl tX7_checkRow_14))))))))
noncomputable def fX7_checkRow : zF := z_fn 2 kX7_checkRow_0
theorem mX7_checkRow {l : Launch} {D : zD} {B : Nat} : z_MF l D B yX7_checkRow xX7_checkRow fX7_checkRow := z_mf (by decide) rfl (fun h => by cases h) rfl (fun as σ r h => ⟨z_fn_len h, kX7_checkRow_0, z_fn_run h, fun _ => tX7_checkRow_0⟩)
/-! ===== RowChildren$Text.checkExpression, RowChildren$Text.checkUnit ===== -/
theorem dX7_checkExpression_0 : decode cX7_checkExpression 0 = .ok (.aload_n 0, 1) := by decide +kernel
theorem dX7_checkExpression_1 : decode cX7_checkExpression 1 = .ok (.iload_n 1, 1) := by decide +kernel
theorem dX7_checkExpression_2 : decode cX7_checkExpression 2 = .ok (.invokevirtual 110, 3) := by decide +kernel
theorem dX7_checkExpression_5 : decode cX7_checkExpression 5 = .ok (.iconst 0, 1) := by decide +kernel
theorem dX7_checkExpression_6 : decode cX7_checkExpression 6 = .ok (.istore_n 2, 1) := by decide +kernel
theorem dX7_checkExpression_7 : decode cX7_checkExpression 7 = .ok (.iload_n 2, 1) := by decide +kernel
theorem dX7_checkExpression_8 : decode cX7_checkExpression 8 = .ok (.sipush 400, 3) := by decide +kernel
theorem dX7_checkExpression_11 : decode cX7_checkExpression 11 = .ok (.if_icmp .ge 43, 3) := by decide +kernel
theorem dX7_checkExpression_14 : decode cX7_checkExpression 14 = .ok (.aload_n 0, 1) := by decide +kernel
theorem dX7_checkExpression_15 : decode cX7_checkExpression 15 = .ok (.getfield 53, 3) := by decide +kernel
theorem dX7_checkExpression_18 : decode cX7_checkExpression 18 = .ok (.ifCond .ne 36, 3) := by decide +kernel
theorem dX7_checkExpression_21 : decode cX7_checkExpression 21 = .ok (.aload_n 0, 1) := by decide +kernel
theorem dX7_checkExpression_22 : decode cX7_checkExpression 22 = .ok (.getfield 12, 3) := by decide +kernel
theorem dX7_checkExpression_25 : decode cX7_checkExpression 25 = .ok (.aload_n 0, 1) := by decide +kernel
theorem dX7_checkExpression_26 : decode cX7_checkExpression 26 = .ok (.getfield 60, 3) := by decide +kernel
theorem dX7_checkExpression_29 : decode cX7_checkExpression 29 = .ok (.invokevirtual 87, 3) := by decide +kernel
theorem dX7_checkExpression_32 : decode cX7_checkExpression 32 = .ok (.invokestatic 113, 3) := by decide +kernel
theorem dX7_checkExpression_35 : decode cX7_checkExpression 35 = .ok (.ifCond .eq 19, 3) := by decide +kernel
theorem dX7_checkExpression_38 : decode cX7_checkExpression 38 = .ok (.aload_n 0, 1) := by decide +kernel
theorem dX7_checkExpression_39 : decode cX7_checkExpression 39 = .ok (.iconst 1, 1) := by decide +kernel
theorem dX7_checkExpression_40 : decode cX7_checkExpression 40 = .ok (.invokevirtual 90, 3) := by decide +kernel
theorem dX7_checkExpression_43 : decode cX7_checkExpression 43 = .ok (.aload_n 0, 1) := by decide +kernel
theorem dX7_checkExpression_44 : decode cX7_checkExpression 44 = .ok (.iload_n 1, 1) := by decide +kernel
theorem dX7_checkExpression_45 : decode cX7_checkExpression 45 = .ok (.invokevirtual 110, 3) := by decide +kernel
theorem dX7_checkExpression_48 : decode cX7_checkExpression 48 = .ok (.iinc 2 1, 3) := by decide +kernel
theorem dX7_checkExpression_51 : decode cX7_checkExpression 51 = .ok (.goto (-44), 3) := by decide +kernel
theorem dX7_checkExpression_54 : decode cX7_checkExpression 54 = .ok (.return_, 1) := by decide +kernel
theorem dX7_checkUnit_0 : decode cX7_checkUnit 0 = .ok (.aload_n 0, 1) := by decide +kernel
theorem dX7_checkUnit_1 : decode cX7_checkUnit 1 = .ok (.getfield 53, 3) := by decide +kernel
theorem dX7_checkUnit_4 : decode cX7_checkUnit 4 = .ok (.ifCond .eq 4, 3) := by decide +kernel
theorem dX7_checkUnit_7 : decode cX7_checkUnit 7 = .ok (.return_, 1) := by decide +kernel
theorem dX7_checkUnit_8 : decode cX7_checkUnit 8 = .ok (.aload_n 0, 1) := by decide +kernel
theorem dX7_checkUnit_9 : decode cX7_checkUnit 9 = .ok (.getfield 12, 3) := by decide +kernel
theorem dX7_checkUnit_12 : decode cX7_checkUnit 12 = .ok (.aload_n 0, 1) := by decide +kernel
theorem dX7_checkUnit_13 : decode cX7_checkUnit 13 = .ok (.getfield 60, 3) := by decide +kernel
theorem dX7_checkUnit_16 : decode cX7_checkUnit 16 = .ok (.invokevirtual 87, 3) := by decide +kernel
theorem dX7_checkUnit_19 : decode cX7_checkUnit 19 = .ok (.istore_n 2, 1) := by decide +kernel
theorem dX7_checkUnit_20 : decode cX7_checkUnit 20 = .ok (.iload_n 2, 1) := by decide +kernel
theorem dX7_checkUnit_21 : decode cX7_checkUnit 21 = .ok (.bipush 40, 2) := by decide +kernel
theorem dX7_checkUnit_23 : decode cX7_checkUnit 23 = .ok (.if_icmp .eq 28, 3) := by decide +kernel
theorem dX7_checkUnit_26 : decode cX7_checkUnit 26 = .ok (.aload_n 0, 1) := by decide +kernel
theorem dX7_checkUnit_27 : decode cX7_checkUnit 27 = .ok (.iload_n 2, 1) := by decide +kernel
theorem dX7_checkUnit_28 : decode cX7_checkUnit 28 = .ok (.bipush 21, 2) := by decide +kernel
theorem dX7_checkUnit_30 : decode cX7_checkUnit 30 = .ok (.if_icmp .eq 10, 3) := by decide +kernel
theorem dX7_checkUnit_33 : decode cX7_checkUnit 33 = .ok (.iload_n 2, 1) := by decide +kernel
theorem dX7_checkUnit_34 : decode cX7_checkUnit 34 = .ok (.invokestatic 117, 3) := by decide +kernel
theorem dX7_checkUnit_37 : decode cX7_checkUnit 37 = .ok (.ifCond .eq 7, 3) := by decide +kernel
theorem dX7_checkUnit_40 : decode cX7_checkUnit 40 = .ok (.iconst 1, 1) := by decide +kernel
theorem dX7_checkUnit_41 : decode cX7_checkUnit 41 = .ok (.goto 4, 3) := by decide +kernel
theorem dX7_checkUnit_44 : decode cX7_checkUnit 44 = .ok (.iconst 0, 1) := by decide +kernel
theorem dX7_checkUnit_45 : decode cX7_checkUnit 45 = .ok (.invokevirtual 90, 3) := by decide +kernel
theorem dX7_checkUnit_48 : decode cX7_checkUnit 48 = .ok (.goto 35, 3) := by decide +kernel
theorem dX7_checkUnit_51 : decode cX7_checkUnit 51 = .ok (.iload_n 1, 1) := by decide +kernel
theorem dX7_checkUnit_52 : decode cX7_checkUnit 52 = .ok (.bipush 6, 2) := by decide +kernel
theorem dX7_checkUnit_54 : decode cX7_checkUnit 54 = .ok (.if_icmp .lt 11, 3) := by decide +kernel
theorem dX7_checkUnit_57 : decode cX7_checkUnit 57 = .ok (.aload_n 0, 1) := by decide +kernel
theorem dX7_checkUnit_58 : decode cX7_checkUnit 58 = .ok (.iconst 2, 1) := by decide +kernel
theorem dX7_checkUnit_59 : decode cX7_checkUnit 59 = .ok (.putfield 53, 3) := by decide +kernel
theorem dX7_checkUnit_62 : decode cX7_checkUnit 62 = .ok (.goto 21, 3) := by decide +kernel
theorem dX7_checkUnit_65 : decode cX7_checkUnit 65 = .ok (.aload_n 0, 1) := by decide +kernel
theorem dX7_checkUnit_66 : decode cX7_checkUnit 66 = .ok (.iconst 1, 1) := by decide +kernel
theorem dX7_checkUnit_67 : decode cX7_checkUnit 67 = .ok (.invokevirtual 90, 3) := by decide +kernel
theorem dX7_checkUnit_70 : decode cX7_checkUnit 70 = .ok (.aload_n 0, 1) := by decide +kernel
theorem dX7_checkUnit_71 : decode cX7_checkUnit 71 = .ok (.iload_n 1, 1) := by decide +kernel
theorem dX7_checkUnit_72 : decode cX7_checkUnit 72 = .ok (.iconst 1, 1) := by decide +kernel
theorem dX7_checkUnit_73 : decode cX7_checkUnit 73 = .ok (.iadd, 1) := by decide +kernel
theorem dX7_checkUnit_74 : decode cX7_checkUnit 74 = .ok (.invokevirtual 107, 3) := by decide +kernel
theorem dX7_checkUnit_77 : decode cX7_checkUnit 77 = .ok (.aload_n 0, 1) := by decide +kernel
theorem dX7_checkUnit_78 : decode cX7_checkUnit 78 = .ok (.bipush 41, 2) := by decide +kernel
theorem dX7_checkUnit_80 : decode cX7_checkUnit 80 = .ok (.invokevirtual 104, 3) := by decide +kernel
theorem dX7_checkUnit_83 : decode cX7_checkUnit 83 = .ok (.return_, 1) := by decide +kernel
def xX7_checkExpression (d : Nat) : zX := (RX7, cX7_checkExpression, 3, none, false, { frames := 3 + 2 * d, cells := 0, slots := 0, locals := 132 + 44 * d }, 0, 0, 0, 0)
theorem rmX7_checkExpression (d : Nat) : z_Rm (xX7_checkExpression d) := by unfold z_Rm xX7_checkExpression; exact ⟨by simp, by simp⟩
theorem reX7_checkExpression (d : Nat) : z_Re (xX7_checkExpression d) := ⟨rfl, rfl⟩
theorem rlX7_checkExpression (d : Nat) : 1 ≤ (xX7_checkExpression d).2.2.2.2.2.1.frames ∧ 21 ≤ (xX7_checkExpression d).2.2.2.2.2.1.locals := by unfold xX7_checkExpression; exact ⟨by simp; try omega, by simp; try omega⟩
theorem meX7_checkExpression (d : Nat) : z_Me yX7_checkExpression (xX7_checkExpression d) 1 := ⟨wd442, wd111, by decide, by decide, by decide +kernel⟩
def xX7_checkUnit (d : Nat) : zX := (RX7, cX7_checkUnit, 3, none, false, { frames := 4 + 2 * d, cells := 0, slots := 0, locals := 154 + 44 * d }, 0, 0, 0, 0)
theorem rmX7_checkUnit (d : Nat) : z_Rm (xX7_checkUnit d) := by unfold z_Rm xX7_checkUnit; exact ⟨by simp, by simp⟩
theorem reX7_checkUnit (d : Nat) : z_Re (xX7_checkUnit d) := ⟨rfl, rfl⟩
theorem rlX7_checkUnit (d : Nat) : 1 ≤ (xX7_checkUnit d).2.2.2.2.2.1.frames ∧ 21 ≤ (xX7_checkUnit d).2.2.2.2.2.1.locals := by unfold xX7_checkUnit; exact ⟨by simp; try omega, by simp; try omega⟩
theorem meX7_checkUnit (d : Nat) : z_Me yX7_checkUnit (xX7_checkUnit d) 1 := ⟨wd447, wd111, by decide, by decide, by decide +kernel⟩
theorem fitX7_checkExpression_2 (d : Nat) : z_Fit (xX7_checkUnit d) (xX7_checkExpression (d + 1)) := by unfold z_Fit; simp only [xX7_checkUnit, xX7_checkExpression]; exact ⟨by omega, by omega⟩
theorem fitX7_checkExpression_29 (d : Nat) : z_Fit xX8_kind (xX7_checkExpression (d + 1)) := by unfold z_Fit; simp only [xX8_kind, xX7_checkExpression]; exact ⟨by omega, by omega⟩
theorem fitX7_checkExpression_32 (d : Nat) : z_Fit xX7_isOperator (xX7_checkExpression (d + 1)) := by unfold z_Fit; simp only [xX7_isOperator, xX7_checkExpression]; exact ⟨by omega, by omega⟩
theorem fitX7_checkExpression_40 (d : Nat) : z_Fit xX7_step (xX7_checkExpression (d + 1)) := by unfold z_Fit; simp only [xX7_step, xX7_checkExpression]; exact ⟨by omega, by omega⟩
theorem fitX7_checkExpression_45 (d : Nat) : z_Fit (xX7_checkUnit d) (xX7_checkExpression (d + 1)) := by unfold z_Fit; simp only [xX7_checkUnit, xX7_checkExpression]; exact ⟨by omega, by omega⟩
theorem fitX7_checkUnit_16 (d : Nat) : z_Fit xX8_kind (xX7_checkUnit d) := by unfold z_Fit; simp only [xX8_kind, xX7_checkUnit]; exact ⟨by omega, by omega⟩
theorem fitX7_checkUnit_67 (d : Nat) : z_Fit xX7_step (xX7_checkUnit d) := by unfold z_Fit; simp only [xX7_step, xX7_checkUnit]; exact ⟨by omega, by omega⟩
theorem fitX7_checkUnit_74 (d : Nat) : z_Fit (xX7_checkExpression d) (xX7_checkUnit d) := by unfold z_Fit; simp only [xX7_checkExpression, xX7_checkUnit]; exact ⟨by omega, by omega⟩
theorem fitX7_checkUnit_80 (d : Nat) : z_Fit xX7_expect (xX7_checkUnit d) := by unfold z_Fit; simp only [xX7_expect, xX7_checkUnit]; exact ⟨by omega, by omega⟩
theorem fitX7_checkUnit_45 (d : Nat) : z_Fit xX7_step (xX7_checkUnit d) := by unfold z_Fit; simp only [xX7_step, xX7_checkUnit]; exact ⟨by omega, by omega⟩
theorem fitX7_checkUnit_34 (d : Nat) : z_Fit xX7_isVariable (xX7_checkUnit d) := by unfold z_Fit; simp only [xX7_isVariable, xX7_checkUnit]; exact ⟨by omega, by omega⟩
noncomputable def kX7_checkExpression_54 (g : zF) : zK zR := q_vret
noncomputable def bX7_checkExpression_7 (g : zF) : zK ((zL × zS) ⊕ zR) := (q_iload 2 (q_push 400 (q_icmp_ge (q_dn (kX7_checkExpression_54 g)) (q_aload 0 (q_getI 7 6 (q_if_ne (q_dn (kX7_checkExpression_54 g)) (q_aload 0 (q_getR 7 0 (q_aload 0 (q_getI 7 8 (q_callV 8 fX8_kind 1 (q_callS fX7_isOperator 1 (q_if_eq (q_dn (kX7_checkExpression_54 g)) (q_aload 0 (q_push 1 (q_callV 7 fX7_step 1 (q_aload 0 (q_iload 1 (q_callV 7 g 1 (q_iinc 2 1 q_ag))))))))))))))))))))
noncomputable def kX7_checkExpression_7 (g : zF) : zK zR := q_lp (bX7_checkExpression_7 g)
noncomputable def kX7_checkExpression_0 (g : zF) : zK zR := (q_aload 0 (q_iload 1 (q_callV 7 g 1 (q_push 0 (q_istore 2 (kX7_checkExpression_7 g))))))
noncomputable def kX7_checkUnit_83 (g : zF) : zK zR := q_vret
noncomputable def kX7_checkUnit_45 (g : zF) : zK zR := (q_callV 7 fX7_step 1 (kX7_checkUnit_83 g))
noncomputable def kX7_checkUnit_40 (g : zF) : zK zR := (q_push 1 (kX7_checkUnit_45 g))
noncomputable def kX7_checkUnit_0 (g : zF) : zK zR := (q_aload 0 (q_getI 7 6 (q_if_eq (q_aload 0 (q_getR 7 0 (q_aload 0 (q_getI 7 8 (q_callV 8 fX8_kind 1 (q_istore 2 (q_iload 2 (q_push 40 (q_icmp_eq (q_iload 1 (q_push 6 (q_icmp_lt (q_aload 0 (q_push 1 (q_callV 7 fX7_step 1 (q_aload 0 (q_iload 1 (q_push 1 (q_iadd (q_callV 7 g 1 (q_aload 0 (q_push 41 (q_callV 7 fX7_expect 1 (kX7_checkUnit_83 g)))))))))))) (q_aload 0 (q_push 2 (q_putI 7 6 (kX7_checkUnit_83 g))))))) (q_aload 0 (q_iload 2 (q_push 21 (q_icmp_eq (kX7_checkUnit_40 g) (q_iload 2 (q_callS fX7_isVariable 1 (q_if_eq (q_push 0 (kX7_checkUnit_45 g)) (kX7_checkUnit_40 g))))))))))))))))) q_vret)))
set_option maxRecDepth 100000 in
theorem tX7_checkExpression_54 (d : Nat) {g : zF} {l : Launch} {D : zD} {B sz0 : Nat} {post : Option Value → zS → Prop} (hg : z_MF l D B yX7_checkUnit (xX7_checkUnit d) g) : zSnd l D B (xX7_checkExpression (d + 1)) sz0 post 54 (kX7_checkExpression_54 g) (z_Jr post) := (s_vret dX7_checkExpression_54 rfl)
set_option maxRecDepth 100000 in
theorem tX7_checkExpression_7 (d : Nat) {g : zF} {l : Launch} {D : zD} {B sz0 : Nat} {post : Option Value → zS → Prop} (hg : z_MF l D B yX7_checkUnit (xX7_checkUnit d) g) : zSnd l D B (xX7_checkExpression (d + 1)) sz0 post 7 (kX7_checkExpression_7 g) (z_Jr post) := s_lp (body := bX7_checkExpression_7 g) (s_iload_n dX7_checkExpression_7 rfl (s_sipush dX7_checkExpression_8 (by decide) (s_icmp_ge (tgt := 54) dX7_checkExpression_11 (by decide) (s_dn (tX7_checkExpression_54 d hg)) (s_aload_n dX7_checkExpression_14 rfl (s_getI (f := 6) dX7_checkExpression_15 clX7 (by decide) rfl wd311 (s_if_ne (tgt := 54) dX7_checkExpression_18 (by decide) (s_dn (tX7_checkExpression_54 d hg)) (s_aload_n dX7_checkExpression_21 rfl (s_getR (f := 0) dX7_checkExpression_22 clX7 (by decide) rfl wd329 (s_aload_n dX7_checkExpression_25 rfl (s_getI (f := 8) dX7_checkExpression_26 clX7 (by decide) rfl wd427 (s_callV (r := (RX8, TX8, 4)) dX7_checkExpression_29 mX8_kind meX8_kind wd121 wd122 rfl rfl reX8_kind (rmX7_checkExpression (d + 1)) (fitX7_checkExpression_29 d) wd429 (s_callS dX7_checkExpression_32 mX7_isOperator meX7_isOperator wd124 rfl reX7_isOperator (rmX7_checkExpression (d + 1)) (fitX7_checkExpression_32 d) wd441 (s_if_eq (tgt := 54) dX7_checkExpression_35 (by decide) (s_dn (tX7_checkExpression_54 d hg)) (s_aload_n dX7_checkExpression_38 rfl (s_iconst dX7_checkExpression_39 (by decide) (s_callV (r := (RX7, TX7, 10)) dX7_checkExpression_40 mX7_step meX7_step wd430 wd431 rfl rfl reX7_step (rmX7_checkExpression (d + 1)) (fitX7_checkExpression_40 d) wd432 (s_aload_n dX7_checkExpression_43 rfl (s_iload_n dX7_checkExpression_44 rfl (s_callV (r := (RX7, TX7, 10)) dX7_checkExpression_45 hg (meX7_checkUnit d) wd438 wd439 rfl rfl (reX7_checkUnit d) (rmX7_checkExpression (d + 1)) (fitX7_checkExpression_45 d) wd440 (s_iinc dX7_checkExpression_48 (by decide) (s_goto (tgt := 7) dX7_checkExpression_51 (by decide) s_ag)))))))))))))))))))))
set_option maxRecDepth 100000 in
theorem tX7_checkExpression_0 (d : Nat) {g : zF} {l : Launch} {D : zD} {B sz0 : Nat} {post : Option Value → zS → Prop} (hg : z_MF l D B yX7_checkUnit (xX7_checkUnit d) g) : zSnd l D B (xX7_checkExpression (d + 1)) sz0 post 0 (kX7_checkExpression_0 g) (z_Jr post) := (s_aload_n dX7_checkExpression_0 rfl (s_iload_n dX7_checkExpression_1 rfl (s_callV (r := (RX7, TX7, 10)) dX7_checkExpression_2 hg (meX7_checkUnit d) wd438 wd439 rfl rfl (reX7_checkUnit d) (rmX7_checkExpression (d + 1)) (fitX7_checkExpression_2 d) wd440 (s_iconst dX7_checkExpression_5 (by decide) (s_istore_n dX7_checkExpression_6 rfl (tX7_checkExpression_7 d hg))))))
set_option maxRecDepth 100000 in
theorem tX7_checkUnit_83 (d : Nat) {g : zF} {l : Launch} {D : zD} {B sz0 : Nat} {post : Option Value → zS → Prop} (hg : z_MF l D B yX7_checkExpression (xX7_checkExpression d) g) : zSnd l D B (xX7_checkUnit d) sz0 post 83 (kX7_checkUnit_83 g) (z_Jr post) := (s_vret dX7_checkUnit_83 rfl)
set_option maxRecDepth 100000 in
theorem tX7_checkUnit_45 (d : Nat) {g : zF} {l : Launch} {D : zD} {B sz0 : Nat} {post : Option Value → zS → Prop} (hg : z_MF l D B yX7_checkExpression (xX7_checkExpression d) g) : zSnd l D B (xX7_checkUnit d) sz0 post 45 (kX7_checkUnit_45 g) (z_Jr post) := (s_callV (r := (RX7, TX7, 10)) dX7_checkUnit_45 mX7_step meX7_step wd430 wd431 rfl rfl reX7_step (rmX7_checkUnit d) (fitX7_checkUnit_45 d) wd432 (s_goto (tgt := 83) dX7_checkUnit_48 (by decide) (tX7_checkUnit_83 d hg)))
set_option maxRecDepth 100000 in
theorem tX7_checkUnit_40 (d : Nat) {g : zF} {l : Launch} {D : zD} {B sz0 : Nat} {post : Option Value → zS → Prop} (hg : z_MF l D B yX7_checkExpression (xX7_checkExpression d) g) : zSnd l D B (xX7_checkUnit d) sz0 post 40 (kX7_checkUnit_40 g) (z_Jr post) := (s_iconst dX7_checkUnit_40 (by decide) (s_goto (tgt := 45) dX7_checkUnit_41 (by decide) (tX7_checkUnit_45 d hg)))
set_option maxRecDepth 100000 in
theorem tX7_checkUnit_0 (d : Nat) {g : zF} {l : Launch} {D : zD} {B sz0 : Nat} {post : Option Value → zS → Prop} (hg : z_MF l D B yX7_checkExpression (xX7_checkExpression d) g) : zSnd l D B (xX7_checkUnit d) sz0 post 0 (kX7_checkUnit_0 g) (z_Jr post) := (s_aload_n dX7_checkUnit_0 rfl (s_getI (f := 6) dX7_checkUnit_1 clX7 (by decide) rfl wd311 (s_if_eq (tgt := 8) dX7_checkUnit_4 (by decide) (s_aload_n dX7_checkUnit_8 rfl (s_getR (f := 0) dX7_checkUnit_9 clX7 (by decide) rfl wd329 (s_aload_n dX7_checkUnit_12 rfl (s_getI (f := 8) dX7_checkUnit_13 clX7 (by decide) rfl wd427 (s_callV (r := (RX8, TX8, 4)) dX7_checkUnit_16 mX8_kind meX8_kind wd121 wd122 rfl rfl reX8_kind (rmX7_checkUnit d) (fitX7_checkUnit_16 d) wd429 (s_istore_n dX7_checkUnit_19 rfl (s_iload_n dX7_checkUnit_20 rfl (s_bipush dX7_checkUnit_21 (by decide) (s_icmp_eq (tgt := 51) dX7_checkUnit_23 (by decide) (s_iload_n dX7_checkUnit_51 rfl (s_bipush dX7_checkUnit_52 (by decide) (s_icmp_lt (tgt := 65) dX7_checkUnit_54 (by decide) (s_aload_n dX7_checkUnit_65 rfl (s_iconst dX7_checkUnit_66 (by decide) (s_callV (r := (RX7, TX7, 10)) dX7_checkUnit_67 mX7_step meX7_step wd430 wd431 rfl rfl reX7_step (rmX7_checkUnit d) (fitX7_checkUnit_67 d) wd432 (s_aload_n dX7_checkUnit_70 rfl (s_iload_n dX7_checkUnit_71 rfl (s_iconst dX7_checkUnit_72 (by decide) (s_iadd dX7_checkUnit_73 (s_callV (r := (RX7, TX7, 10)) dX7_checkUnit_74 hg (meX7_checkExpression d) wd443 wd444 rfl rfl (reX7_checkExpression d) (rmX7_checkUnit d) (fitX7_checkUnit_74 d) wd445 (s_aload_n dX7_checkUnit_77 rfl (s_bipush dX7_checkUnit_78 (by decide) (s_callV (r := (RX7, TX7, 10)) dX7_checkUnit_80 mX7_expect meX7_expect wd434 wd435 rfl rfl reX7_expect (rmX7_checkUnit d) (fitX7_checkUnit_80 d) wd436 (tX7_checkUnit_83 d hg)))))))))))) (s_aload_n dX7_checkUnit_57 rfl (s_iconst dX7_checkUnit_58 (by decide) (s_putI (f := 6) dX7_checkUnit_59 clX7 (by decide) rfl rfl rfl wd311 (s_goto (tgt := 83) dX7_checkUnit_62 (by decide) (tX7_checkUnit_83 d hg)))))))) (s_aload_n dX7_checkUnit_26 rfl (s_iload_n dX7_checkUnit_27 rfl (s_bipush dX7_checkUnit_28 (by decide) (s_icmp_eq (tgt := 40) dX7_checkUnit_30 (by decide) (tX7_checkUnit_40 d hg) (s_iload_n dX7_checkUnit_33 rfl (s_callS dX7_checkUnit_34 mX7_isVariable meX7_isVariable wd132 rfl reX7_isVariable (rmX7_checkUnit d) (fitX7_checkUnit_34 d) wd446 (s_if_eq (tgt := 44) dX7_checkUnit_37 (by decide) (s_iconst dX7_checkUnit_44 (by decide) (tX7_checkUnit_45 d hg)) (tX7_checkUnit_40 d hg))))))))))))))))) (s_vret dX7_checkUnit_7 rfl))))
noncomputable def fX7_checkExpression : Nat → zF
  | 0 => fun _ _ => none
  | d + 1 => z_fn 3 (kX7_checkExpression_0 (z_fn 3 (kX7_checkUnit_0 (fX7_checkExpression d))))
noncomputable def fX7_checkUnit (d : Nat) : zF := z_fn 3 (kX7_checkUnit_0 (fX7_checkExpression d))
theorem mX7_checkUnit_of {l : Launch} {D : zD} {B d : Nat} (h : z_MF l D B yX7_checkExpression (xX7_checkExpression d) (fX7_checkExpression d)) : z_MF l D B yX7_checkUnit (xX7_checkUnit d) (fX7_checkUnit d) := z_mf (by decide) rfl (fun h => by cases h) rfl (fun as σ r hh => ⟨z_fn_len (k := kX7_checkUnit_0 (fX7_checkExpression d)) hh, kX7_checkUnit_0 (fX7_checkExpression d), z_fn_run (k := kX7_checkUnit_0 (fX7_checkExpression d)) hh, fun _ => tX7_checkUnit_0 d h⟩)
theorem mX7_checkExpression {l : Launch} {D : zD} {B : Nat} : ∀ d : Nat, z_MF l D B yX7_checkExpression (xX7_checkExpression d) (fX7_checkExpression d)
  | 0 => fun _ _ _ h => by cases h
  | d + 1 => z_mf (by decide) rfl (fun h => by cases h) rfl (fun as σ r h => ⟨z_fn_len (k := kX7_checkExpression_0 (fX7_checkUnit d)) h, kX7_checkExpression_0 (fX7_checkUnit d), z_fn_run (k := kX7_checkExpression_0 (fX7_checkUnit d)) h, fun _ => tX7_checkExpression_0 d (mX7_checkUnit_of (mX7_checkExpression d))⟩)
theorem mX7_checkUnit {l : Launch} {D : zD} {B : Nat} (d : Nat) : z_MF l D B yX7_checkUnit (xX7_checkUnit d) (fX7_checkUnit d) := mX7_checkUnit_of (mX7_checkExpression d)
/-! ===== RowChildren$Text.checkLaw ===== -/
theorem dX7_checkLaw_0 : decode cX7_checkLaw 0 = .ok (.aload_n 0, 1) := by decide +kernel
theorem dX7_checkLaw_1 : decode cX7_checkLaw 1 = .ok (.bipush 61, 2) := by decide +kernel
theorem dX7_checkLaw_3 : decode cX7_checkLaw 3 = .ok (.invokevirtual 104, 3) := by decide +kernel
theorem dX7_checkLaw_6 : decode cX7_checkLaw 6 = .ok (.iconst 0, 1) := by decide +kernel
theorem dX7_checkLaw_7 : decode cX7_checkLaw 7 = .ok (.istore_n 1, 1) := by decide +kernel
theorem dX7_checkLaw_8 : decode cX7_checkLaw 8 = .ok (.iload_n 1, 1) := by decide +kernel
theorem dX7_checkLaw_9 : decode cX7_checkLaw 9 = .ok (.iconst 4, 1) := by decide +kernel
theorem dX7_checkLaw_10 : decode cX7_checkLaw 10 = .ok (.if_icmp .gt 83, 3) := by decide +kernel
theorem dX7_checkLaw_13 : decode cX7_checkLaw 13 = .ok (.aload_n 0, 1) := by decide +kernel
theorem dX7_checkLaw_14 : decode cX7_checkLaw 14 = .ok (.getfield 53, 3) := by decide +kernel
theorem dX7_checkLaw_17 : decode cX7_checkLaw 17 = .ok (.ifCond .ne 76, 3) := by decide +kernel
theorem dX7_checkLaw_20 : decode cX7_checkLaw 20 = .ok (.aload_n 0, 1) := by decide +kernel
theorem dX7_checkLaw_21 : decode cX7_checkLaw 21 = .ok (.getfield 12, 3) := by decide +kernel
theorem dX7_checkLaw_24 : decode cX7_checkLaw 24 = .ok (.aload_n 0, 1) := by decide +kernel
theorem dX7_checkLaw_25 : decode cX7_checkLaw 25 = .ok (.getfield 60, 3) := by decide +kernel
theorem dX7_checkLaw_28 : decode cX7_checkLaw 28 = .ok (.invokevirtual 87, 3) := by decide +kernel
theorem dX7_checkLaw_31 : decode cX7_checkLaw 31 = .ok (.bipush 8, 2) := by decide +kernel
theorem dX7_checkLaw_33 : decode cX7_checkLaw 33 = .ok (.if_icmp .ne 60, 3) := by decide +kernel
theorem dX7_checkLaw_36 : decode cX7_checkLaw 36 = .ok (.iload_n 1, 1) := by decide +kernel
theorem dX7_checkLaw_37 : decode cX7_checkLaw 37 = .ok (.iconst 4, 1) := by decide +kernel
theorem dX7_checkLaw_38 : decode cX7_checkLaw 38 = .ok (.if_icmp .ne 11, 3) := by decide +kernel
theorem dX7_checkLaw_41 : decode cX7_checkLaw 41 = .ok (.aload_n 0, 1) := by decide +kernel
theorem dX7_checkLaw_42 : decode cX7_checkLaw 42 = .ok (.iconst 2, 1) := by decide +kernel
theorem dX7_checkLaw_43 : decode cX7_checkLaw 43 = .ok (.putfield 53, 3) := by decide +kernel
theorem dX7_checkLaw_46 : decode cX7_checkLaw 46 = .ok (.goto 41, 3) := by decide +kernel
theorem dX7_checkLaw_49 : decode cX7_checkLaw 49 = .ok (.aload_n 0, 1) := by decide +kernel
theorem dX7_checkLaw_50 : decode cX7_checkLaw 50 = .ok (.iconst 1, 1) := by decide +kernel
theorem dX7_checkLaw_51 : decode cX7_checkLaw 51 = .ok (.invokevirtual 90, 3) := by decide +kernel
theorem dX7_checkLaw_54 : decode cX7_checkLaw 54 = .ok (.aload_n 0, 1) := by decide +kernel
theorem dX7_checkLaw_55 : decode cX7_checkLaw 55 = .ok (.iconst 0, 1) := by decide +kernel
theorem dX7_checkLaw_56 : decode cX7_checkLaw 56 = .ok (.invokevirtual 107, 3) := by decide +kernel
theorem dX7_checkLaw_59 : decode cX7_checkLaw 59 = .ok (.aload_n 0, 1) := by decide +kernel
theorem dX7_checkLaw_60 : decode cX7_checkLaw 60 = .ok (.bipush 60, 2) := by decide +kernel
theorem dX7_checkLaw_62 : decode cX7_checkLaw 62 = .ok (.invokevirtual 104, 3) := by decide +kernel
theorem dX7_checkLaw_65 : decode cX7_checkLaw 65 = .ok (.aload_n 0, 1) := by decide +kernel
theorem dX7_checkLaw_66 : decode cX7_checkLaw 66 = .ok (.iconst 0, 1) := by decide +kernel
theorem dX7_checkLaw_67 : decode cX7_checkLaw 67 = .ok (.invokevirtual 107, 3) := by decide +kernel
theorem dX7_checkLaw_70 : decode cX7_checkLaw 70 = .ok (.aload_n 0, 1) := by decide +kernel
theorem dX7_checkLaw_71 : decode cX7_checkLaw 71 = .ok (.bipush 9, 2) := by decide +kernel
theorem dX7_checkLaw_73 : decode cX7_checkLaw 73 = .ok (.invokevirtual 104, 3) := by decide +kernel
theorem dX7_checkLaw_76 : decode cX7_checkLaw 76 = .ok (.aload_n 0, 1) := by decide +kernel
theorem dX7_checkLaw_77 : decode cX7_checkLaw 77 = .ok (.iconst 0, 1) := by decide +kernel
theorem dX7_checkLaw_78 : decode cX7_checkLaw 78 = .ok (.invokevirtual 107, 3) := by decide +kernel
theorem dX7_checkLaw_81 : decode cX7_checkLaw 81 = .ok (.aload_n 0, 1) := by decide +kernel
theorem dX7_checkLaw_82 : decode cX7_checkLaw 82 = .ok (.bipush 10, 2) := by decide +kernel
theorem dX7_checkLaw_84 : decode cX7_checkLaw 84 = .ok (.invokevirtual 104, 3) := by decide +kernel
theorem dX7_checkLaw_87 : decode cX7_checkLaw 87 = .ok (.iinc 1 1, 3) := by decide +kernel
theorem dX7_checkLaw_90 : decode cX7_checkLaw 90 = .ok (.goto (-82), 3) := by decide +kernel
theorem dX7_checkLaw_93 : decode cX7_checkLaw 93 = .ok (.aload_n 0, 1) := by decide +kernel
theorem dX7_checkLaw_94 : decode cX7_checkLaw 94 = .ok (.iconst 0, 1) := by decide +kernel
theorem dX7_checkLaw_95 : decode cX7_checkLaw 95 = .ok (.invokevirtual 107, 3) := by decide +kernel
theorem dX7_checkLaw_98 : decode cX7_checkLaw 98 = .ok (.return_, 1) := by decide +kernel
def xX7_checkLaw : zX := (RX7, cX7_checkLaw, 2, none, false, { frames := 20, cells := 0, slots := 0, locals := 506 }, 0, 0, 0, 0)
theorem rmX7_checkLaw : z_Rm xX7_checkLaw := by unfold z_Rm xX7_checkLaw; exact ⟨by decide, by decide⟩
theorem reX7_checkLaw : z_Re xX7_checkLaw := ⟨rfl, rfl⟩
theorem rlX7_checkLaw : 1 ≤ xX7_checkLaw.2.2.2.2.2.1.frames ∧ 21 ≤ xX7_checkLaw.2.2.2.2.2.1.locals := by unfold xX7_checkLaw; exact ⟨by decide, by decide⟩
theorem meX7_checkLaw : z_Me yX7_checkLaw xX7_checkLaw 0 := ⟨wd448, wd111, by decide, by decide, by decide +kernel⟩
theorem fitX7_checkLaw_3 : z_Fit xX7_expect xX7_checkLaw := by unfold z_Fit; simp only [xX7_expect, xX7_checkLaw]; exact ⟨by decide, by decide⟩
theorem fitX7_checkLaw_95 : z_Fit (xX7_checkExpression 8) xX7_checkLaw := by unfold z_Fit; simp only [xX7_checkExpression, xX7_checkLaw]; exact ⟨by decide, by decide⟩
theorem fitX7_checkLaw_28 : z_Fit xX8_kind xX7_checkLaw := by unfold z_Fit; simp only [xX8_kind, xX7_checkLaw]; exact ⟨by decide, by decide⟩
theorem fitX7_checkLaw_51 : z_Fit xX7_step xX7_checkLaw := by unfold z_Fit; simp only [xX7_step, xX7_checkLaw]; exact ⟨by decide, by decide⟩
theorem fitX7_checkLaw_56 : z_Fit (xX7_checkExpression 8) xX7_checkLaw := by unfold z_Fit; simp only [xX7_checkExpression, xX7_checkLaw]; exact ⟨by decide, by decide⟩
theorem fitX7_checkLaw_62 : z_Fit xX7_expect xX7_checkLaw := by unfold z_Fit; simp only [xX7_expect, xX7_checkLaw]; exact ⟨by decide, by decide⟩
theorem fitX7_checkLaw_67 : z_Fit (xX7_checkExpression 8) xX7_checkLaw := by unfold z_Fit; simp only [xX7_checkExpression, xX7_checkLaw]; exact ⟨by decide, by decide⟩
theorem fitX7_checkLaw_73 : z_Fit xX7_expect xX7_checkLaw := by unfold z_Fit; simp only [xX7_expect, xX7_checkLaw]; exact ⟨by decide, by decide⟩
theorem fitX7_checkLaw_78 : z_Fit (xX7_checkExpression 8) xX7_checkLaw := by unfold z_Fit; simp only [xX7_checkExpression, xX7_checkLaw]; exact ⟨by decide, by decide⟩
theorem fitX7_checkLaw_84 : z_Fit xX7_expect xX7_checkLaw := by unfold z_Fit; simp only [xX7_expect, xX7_checkLaw]; exact ⟨by decide, by decide⟩
noncomputable def kX7_checkLaw_93 : zK zR := (q_aload 0 (q_push 0 (q_callV 7 (fX7_checkExpression 8) 1 q_vret)))
noncomputable def kX7_checkLaw_87 : zK ((zL × zS) ⊕ zR) := (q_iinc 1 1 q_ag)
noncomputable def bX7_checkLaw_8 : zK ((zL × zS) ⊕ zR) := (q_iload 1 (q_push 4 (q_icmp_gt (q_dn kX7_checkLaw_93) (q_aload 0 (q_getI 7 6 (q_if_ne (q_dn kX7_checkLaw_93) (q_aload 0 (q_getR 7 0 (q_aload 0 (q_getI 7 8 (q_callV 8 fX8_kind 1 (q_push 8 (q_icmp_ne (q_dn kX7_checkLaw_93) (q_iload 1 (q_push 4 (q_icmp_ne (q_aload 0 (q_push 1 (q_callV 7 fX7_step 1 (q_aload 0 (q_push 0 (q_callV 7 (fX7_checkExpression 8) 1 (q_aload 0 (q_push 60 (q_callV 7 fX7_expect 1 (q_aload 0 (q_push 0 (q_callV 7 (fX7_checkExpression 8) 1 (q_aload 0 (q_push 9 (q_callV 7 fX7_expect 1 (q_aload 0 (q_push 0 (q_callV 7 (fX7_checkExpression 8) 1 (q_aload 0 (q_push 10 (q_callV 7 fX7_expect 1 kX7_checkLaw_87))))))))))))))))))))) (q_aload 0 (q_push 2 (q_putI 7 6 kX7_checkLaw_87)))))))))))))))))))
noncomputable def kX7_checkLaw_8 : zK zR := q_lp (bX7_checkLaw_8)
noncomputable def kX7_checkLaw_0 : zK zR := (q_aload 0 (q_push 61 (q_callV 7 fX7_expect 1 (q_push 0 (q_istore 1 kX7_checkLaw_8)))))
set_option maxRecDepth 100000 in
theorem tX7_checkLaw_93 {l : Launch} {D : zD} {B sz0 : Nat} {post : Option Value → zS → Prop} : zSnd l D B xX7_checkLaw sz0 post 93 kX7_checkLaw_93 (z_Jr post) := (s_aload_n dX7_checkLaw_93 rfl (s_iconst dX7_checkLaw_94 (by decide) (s_callV (r := (RX7, TX7, 10)) dX7_checkLaw_95 (mX7_checkExpression 8) (meX7_checkExpression 8) wd443 wd444 rfl rfl (reX7_checkExpression 8) rmX7_checkLaw (fitX7_checkLaw_95) wd445 (s_vret dX7_checkLaw_98 rfl))))
set_option maxRecDepth 100000 in
theorem tX7_checkLaw_87 {l : Launch} {D : zD} {B sz0 : Nat} {post : Option Value → zS → Prop} : zSnd l D B xX7_checkLaw sz0 post 87 kX7_checkLaw_87 (z_Jl l D B xX7_checkLaw sz0 post 8 (z_Jr post)) := (s_iinc dX7_checkLaw_87 (by decide) (s_goto (tgt := 8) dX7_checkLaw_90 (by decide) s_ag))
set_option maxRecDepth 100000 in
theorem tX7_checkLaw_8 {l : Launch} {D : zD} {B sz0 : Nat} {post : Option Value → zS → Prop} : zSnd l D B xX7_checkLaw sz0 post 8 kX7_checkLaw_8 (z_Jr post) := s_lp (body := bX7_checkLaw_8) (s_iload_n dX7_checkLaw_8 rfl (s_iconst dX7_checkLaw_9 (by decide) (s_icmp_gt (tgt := 93) dX7_checkLaw_10 (by decide) (s_dn tX7_checkLaw_93) (s_aload_n dX7_checkLaw_13 rfl (s_getI (f := 6) dX7_checkLaw_14 clX7 (by decide) rfl wd311 (s_if_ne (tgt := 93) dX7_checkLaw_17 (by decide) (s_dn tX7_checkLaw_93) (s_aload_n dX7_checkLaw_20 rfl (s_getR (f := 0) dX7_checkLaw_21 clX7 (by decide) rfl wd329 (s_aload_n dX7_checkLaw_24 rfl (s_getI (f := 8) dX7_checkLaw_25 clX7 (by decide) rfl wd427 (s_callV (r := (RX8, TX8, 4)) dX7_checkLaw_28 mX8_kind meX8_kind wd121 wd122 rfl rfl reX8_kind rmX7_checkLaw (fitX7_checkLaw_28) wd429 (s_bipush dX7_checkLaw_31 (by decide) (s_icmp_ne (tgt := 93) dX7_checkLaw_33 (by decide) (s_dn tX7_checkLaw_93) (s_iload_n dX7_checkLaw_36 rfl (s_iconst dX7_checkLaw_37 (by decide) (s_icmp_ne (tgt := 49) dX7_checkLaw_38 (by decide) (s_aload_n dX7_checkLaw_49 rfl (s_iconst dX7_checkLaw_50 (by decide) (s_callV (r := (RX7, TX7, 10)) dX7_checkLaw_51 mX7_step meX7_step wd430 wd431 rfl rfl reX7_step rmX7_checkLaw (fitX7_checkLaw_51) wd432 (s_aload_n dX7_checkLaw_54 rfl (s_iconst dX7_checkLaw_55 (by decide) (s_callV (r := (RX7, TX7, 10)) dX7_checkLaw_56 (mX7_checkExpression 8) (meX7_checkExpression 8) wd443 wd444 rfl rfl (reX7_checkExpression 8) rmX7_checkLaw (fitX7_checkLaw_56) wd445 (s_aload_n dX7_checkLaw_59 rfl (s_bipush dX7_checkLaw_60 (by decide) (s_callV (r := (RX7, TX7, 10)) dX7_checkLaw_62 mX7_expect meX7_expect wd434 wd435 rfl rfl reX7_expect rmX7_checkLaw (fitX7_checkLaw_62) wd436 (s_aload_n dX7_checkLaw_65 rfl (s_iconst dX7_checkLaw_66 (by decide) (s_callV (r := (RX7, TX7, 10)) dX7_checkLaw_67 (mX7_checkExpression 8) (meX7_checkExpression 8) wd443 wd444 rfl rfl (reX7_checkExpression 8) rmX7_checkLaw (fitX7_checkLaw_67) wd445 (s_aload_n dX7_checkLaw_70 rfl (s_bipush dX7_checkLaw_71 (by decide) (s_callV (r := (RX7, TX7, 10)) dX7_checkLaw_73 mX7_expect meX7_expect wd434 wd435 rfl rfl reX7_expect rmX7_checkLaw (fitX7_checkLaw_73) wd436 (s_aload_n dX7_checkLaw_76 rfl (s_iconst dX7_checkLaw_77 (by decide) (s_callV (r := (RX7, TX7, 10)) dX7_checkLaw_78 (mX7_checkExpression 8) (meX7_checkExpression 8) wd443 wd444 rfl rfl (reX7_checkExpression 8) rmX7_checkLaw (fitX7_checkLaw_78) wd445 (s_aload_n dX7_checkLaw_81 rfl (s_bipush dX7_checkLaw_82 (by decide) (s_callV (r := (RX7, TX7, 10)) dX7_checkLaw_84 mX7_expect meX7_expect wd434 wd435 rfl rfl reX7_expect rmX7_checkLaw (fitX7_checkLaw_84) wd436 tX7_checkLaw_87))))))))))))))))))))) (s_aload_n dX7_checkLaw_41 rfl (s_iconst dX7_checkLaw_42 (by decide) (s_putI (f := 6) dX7_checkLaw_43 clX7 (by decide) rfl rfl rfl wd311 (s_goto (tgt := 87) dX7_checkLaw_46 (by decide) tX7_checkLaw_87))))))))))))))))))))
set_option maxRecDepth 100000 in
theorem tX7_checkLaw_0 {l : Launch} {D : zD} {B sz0 : Nat} {post : Option Value → zS → Prop} : zSnd l D B xX7_checkLaw sz0 post 0 kX7_checkLaw_0 (z_Jr post) := (s_aload_n dX7_checkLaw_0 rfl (s_bipush dX7_checkLaw_1 (by decide) (s_callV (r := (RX7, TX7, 10)) dX7_checkLaw_3 mX7_expect meX7_expect wd434 wd435 rfl rfl reX7_expect rmX7_checkLaw (fitX7_checkLaw_3) wd436 (s_iconst dX7_checkLaw_6 (by decide) (s_istore_n dX7_checkLaw_7 rfl tX7_checkLaw_8)))))
noncomputable def fX7_checkLaw : zF := z_fn 2 kX7_checkLaw_0
theorem mX7_checkLaw {l : Launch} {D : zD} {B : Nat} : z_MF l D B yX7_checkLaw xX7_checkLaw fX7_checkLaw := z_mf (by decide) rfl (fun h => by cases h) rfl (fun as σ r h => ⟨z_fn_len h, kX7_checkLaw_0, z_fn_run h, fun _ => tX7_checkLaw_0⟩)
/-! ===== RowChildren$Text.checkNumbers ===== -/
theorem dX7_checkNumbers_0 : decode cX7_checkNumbers 0 = .ok (.iconst 0, 1) := by decide +kernel
theorem dX7_checkNumbers_1 : decode cX7_checkNumbers 1 = .ok (.istore_n 2, 1) := by decide +kernel
theorem dX7_checkNumbers_2 : decode cX7_checkNumbers 2 = .ok (.iload_n 2, 1) := by decide +kernel
theorem dX7_checkNumbers_3 : decode cX7_checkNumbers 3 = .ok (.iload_n 1, 1) := by decide +kernel
theorem dX7_checkNumbers_4 : decode cX7_checkNumbers 4 = .ok (.if_icmp .ge 15, 3) := by decide +kernel
theorem dX7_checkNumbers_7 : decode cX7_checkNumbers 7 = .ok (.aload_n 0, 1) := by decide +kernel
theorem dX7_checkNumbers_8 : decode cX7_checkNumbers 8 = .ok (.bipush 21, 2) := by decide +kernel
theorem dX7_checkNumbers_10 : decode cX7_checkNumbers 10 = .ok (.invokevirtual 104, 3) := by decide +kernel
theorem dX7_checkNumbers_13 : decode cX7_checkNumbers 13 = .ok (.iinc 2 1, 3) := by decide +kernel
theorem dX7_checkNumbers_16 : decode cX7_checkNumbers 16 = .ok (.goto (-14), 3) := by decide +kernel
theorem dX7_checkNumbers_19 : decode cX7_checkNumbers 19 = .ok (.return_, 1) := by decide +kernel
def xX7_checkNumbers : zX := (RX7, cX7_checkNumbers, 3, none, false, { frames := 3, cells := 0, slots := 0, locals := 132 }, 0, 0, 0, 0)
theorem rmX7_checkNumbers : z_Rm xX7_checkNumbers := by unfold z_Rm xX7_checkNumbers; exact ⟨by decide, by decide⟩
theorem reX7_checkNumbers : z_Re xX7_checkNumbers := ⟨rfl, rfl⟩
theorem rlX7_checkNumbers : 1 ≤ xX7_checkNumbers.2.2.2.2.2.1.frames ∧ 21 ≤ xX7_checkNumbers.2.2.2.2.2.1.locals := by unfold xX7_checkNumbers; exact ⟨by decide, by decide⟩
theorem meX7_checkNumbers : z_Me yX7_checkNumbers xX7_checkNumbers 1 := ⟨wd449, wd111, by decide, by decide, by decide +kernel⟩
theorem fitX7_checkNumbers_10 : z_Fit xX7_expect xX7_checkNumbers := by unfold z_Fit; simp only [xX7_expect, xX7_checkNumbers]; exact ⟨by decide, by decide⟩
noncomputable def kX7_checkNumbers_19 : zK zR := q_vret
noncomputable def bX7_checkNumbers_2 : zK ((zL × zS) ⊕ zR) := (q_iload 2 (q_iload 1 (q_icmp_ge (q_dn kX7_checkNumbers_19) (q_aload 0 (q_push 21 (q_callV 7 fX7_expect 1 (q_iinc 2 1 q_ag)))))))
noncomputable def kX7_checkNumbers_2 : zK zR := q_lp (bX7_checkNumbers_2)
noncomputable def kX7_checkNumbers_0 : zK zR := (q_push 0 (q_istore 2 kX7_checkNumbers_2))
set_option maxRecDepth 100000 in
theorem tX7_checkNumbers_19 {l : Launch} {D : zD} {B sz0 : Nat} {post : Option Value → zS → Prop} : zSnd l D B xX7_checkNumbers sz0 post 19 kX7_checkNumbers_19 (z_Jr post) := (s_vret dX7_checkNumbers_19 rfl)
set_option maxRecDepth 100000 in
theorem tX7_checkNumbers_2 {l : Launch} {D : zD} {B sz0 : Nat} {post : Option Value → zS → Prop} : zSnd l D B xX7_checkNumbers sz0 post 2 kX7_checkNumbers_2 (z_Jr post) := s_lp (body := bX7_checkNumbers_2) (s_iload_n dX7_checkNumbers_2 rfl (s_iload_n dX7_checkNumbers_3 rfl (s_icmp_ge (tgt := 19) dX7_checkNumbers_4 (by decide) (s_dn tX7_checkNumbers_19) (s_aload_n dX7_checkNumbers_7 rfl (s_bipush dX7_checkNumbers_8 (by decide) (s_callV (r := (RX7, TX7, 10)) dX7_checkNumbers_10 mX7_expect meX7_expect wd434 wd435 rfl rfl reX7_expect rmX7_checkNumbers (fitX7_checkNumbers_10) wd436 (s_iinc dX7_checkNumbers_13 (by decide) (s_goto (tgt := 2) dX7_checkNumbers_16 (by decide) s_ag))))))))
set_option maxRecDepth 100000 in
theorem tX7_checkNumbers_0 {l : Launch} {D : zD} {B sz0 : Nat} {post : Option Value → zS → Prop} : zSnd l D B xX7_checkNumbers sz0 post 0 kX7_checkNumbers_0 (z_Jr post) := (s_iconst dX7_checkNumbers_0 (by decide) (s_istore_n dX7_checkNumbers_1 rfl tX7_checkNumbers_2))
noncomputable def fX7_checkNumbers : zF := z_fn 3 kX7_checkNumbers_0
theorem mX7_checkNumbers {l : Launch} {D : zD} {B : Nat} : z_MF l D B yX7_checkNumbers xX7_checkNumbers fX7_checkNumbers := z_mf (by decide) rfl (fun h => by cases h) rfl (fun as σ r h => ⟨z_fn_len h, kX7_checkNumbers_0, z_fn_run h, fun _ => tX7_checkNumbers_0⟩)
/-! ===== RowChildren$Text.checkTells ===== -/
theorem dX7_checkTells_0 : decode cX7_checkTells 0 = .ok (.iconst 0, 1) := by decide +kernel
theorem dX7_checkTells_1 : decode cX7_checkTells 1 = .ok (.istore_n 1, 1) := by decide +kernel
theorem dX7_checkTells_2 : decode cX7_checkTells 2 = .ok (.iconst 0, 1) := by decide +kernel
theorem dX7_checkTells_3 : decode cX7_checkTells 3 = .ok (.istore_n 2, 1) := by decide +kernel
theorem dX7_checkTells_4 : decode cX7_checkTells 4 = .ok (.aload_n 0, 1) := by decide +kernel
theorem dX7_checkTells_5 : decode cX7_checkTells 5 = .ok (.iconst 0, 1) := by decide +kernel
theorem dX7_checkTells_6 : decode cX7_checkTells 6 = .ok (.putfield 60, 3) := by decide +kernel
theorem dX7_checkTells_9 : decode cX7_checkTells 9 = .ok (.iconst 0, 1) := by decide +kernel
theorem dX7_checkTells_10 : decode cX7_checkTells 10 = .ok (.istore_n 3, 1) := by decide +kernel
theorem dX7_checkTells_11 : decode cX7_checkTells 11 = .ok (.iload_n 3, 1) := by decide +kernel
theorem dX7_checkTells_12 : decode cX7_checkTells 12 = .ok (.sipush 400, 3) := by decide +kernel
theorem dX7_checkTells_15 : decode cX7_checkTells 15 = .ok (.if_icmp .ge 164, 3) := by decide +kernel
theorem dX7_checkTells_18 : decode cX7_checkTells 18 = .ok (.aload_n 0, 1) := by decide +kernel
theorem dX7_checkTells_19 : decode cX7_checkTells 19 = .ok (.getfield 53, 3) := by decide +kernel
theorem dX7_checkTells_22 : decode cX7_checkTells 22 = .ok (.ifCond .ne 157, 3) := by decide +kernel
theorem dX7_checkTells_25 : decode cX7_checkTells 25 = .ok (.aload_n 0, 1) := by decide +kernel
theorem dX7_checkTells_26 : decode cX7_checkTells 26 = .ok (.getfield 12, 3) := by decide +kernel
theorem dX7_checkTells_29 : decode cX7_checkTells 29 = .ok (.aload_n 0, 1) := by decide +kernel
theorem dX7_checkTells_30 : decode cX7_checkTells 30 = .ok (.getfield 60, 3) := by decide +kernel
theorem dX7_checkTells_33 : decode cX7_checkTells 33 = .ok (.invokevirtual 87, 3) := by decide +kernel
theorem dX7_checkTells_36 : decode cX7_checkTells 36 = .ok (.bipush 22, 2) := by decide +kernel
theorem dX7_checkTells_38 : decode cX7_checkTells 38 = .ok (.if_icmp .eq 141, 3) := by decide +kernel
theorem dX7_checkTells_41 : decode cX7_checkTells 41 = .ok (.aload_n 0, 1) := by decide +kernel
theorem dX7_checkTells_42 : decode cX7_checkTells 42 = .ok (.getfield 12, 3) := by decide +kernel
theorem dX7_checkTells_45 : decode cX7_checkTells 45 = .ok (.aload_n 0, 1) := by decide +kernel
theorem dX7_checkTells_46 : decode cX7_checkTells 46 = .ok (.getfield 60, 3) := by decide +kernel
theorem dX7_checkTells_49 : decode cX7_checkTells 49 = .ok (.invokevirtual 87, 3) := by decide +kernel
theorem dX7_checkTells_52 : decode cX7_checkTells 52 = .ok (.istore 4, 2) := by decide +kernel
theorem dX7_checkTells_54 : decode cX7_checkTells 54 = .ok (.iload_n 1, 1) := by decide +kernel
theorem dX7_checkTells_55 : decode cX7_checkTells 55 = .ok (.iload 4, 2) := by decide +kernel
theorem dX7_checkTells_57 : decode cX7_checkTells 57 = .ok (.iconst 1, 1) := by decide +kernel
theorem dX7_checkTells_58 : decode cX7_checkTells 58 = .ok (.if_icmp .ne 7, 3) := by decide +kernel
theorem dX7_checkTells_61 : decode cX7_checkTells 61 = .ok (.iconst 1, 1) := by decide +kernel
theorem dX7_checkTells_62 : decode cX7_checkTells 62 = .ok (.goto 4, 3) := by decide +kernel
theorem dX7_checkTells_65 : decode cX7_checkTells 65 = .ok (.iconst 0, 1) := by decide +kernel
theorem dX7_checkTells_66 : decode cX7_checkTells 66 = .ok (.iadd, 1) := by decide +kernel
theorem dX7_checkTells_67 : decode cX7_checkTells 67 = .ok (.istore_n 1, 1) := by decide +kernel
theorem dX7_checkTells_68 : decode cX7_checkTells 68 = .ok (.iload_n 2, 1) := by decide +kernel
theorem dX7_checkTells_69 : decode cX7_checkTells 69 = .ok (.iload 4, 2) := by decide +kernel
theorem dX7_checkTells_71 : decode cX7_checkTells 71 = .ok (.iconst 2, 1) := by decide +kernel
theorem dX7_checkTells_72 : decode cX7_checkTells 72 = .ok (.if_icmp .ne 7, 3) := by decide +kernel
theorem dX7_checkTells_75 : decode cX7_checkTells 75 = .ok (.iconst 1, 1) := by decide +kernel
theorem dX7_checkTells_76 : decode cX7_checkTells 76 = .ok (.goto 4, 3) := by decide +kernel
theorem dX7_checkTells_79 : decode cX7_checkTells 79 = .ok (.iconst 0, 1) := by decide +kernel
theorem dX7_checkTells_80 : decode cX7_checkTells 80 = .ok (.iadd, 1) := by decide +kernel
theorem dX7_checkTells_81 : decode cX7_checkTells 81 = .ok (.istore_n 2, 1) := by decide +kernel
theorem dX7_checkTells_82 : decode cX7_checkTells 82 = .ok (.iload_n 1, 1) := by decide +kernel
theorem dX7_checkTells_83 : decode cX7_checkTells 83 = .ok (.bipush 20, 2) := by decide +kernel
theorem dX7_checkTells_85 : decode cX7_checkTells 85 = .ok (.if_icmp .gt 8, 3) := by decide +kernel
theorem dX7_checkTells_88 : decode cX7_checkTells 88 = .ok (.iload_n 2, 1) := by decide +kernel
theorem dX7_checkTells_89 : decode cX7_checkTells 89 = .ok (.iconst 4, 1) := by decide +kernel
theorem dX7_checkTells_90 : decode cX7_checkTells 90 = .ok (.if_icmp .le 8, 3) := by decide +kernel
theorem dX7_checkTells_93 : decode cX7_checkTells 93 = .ok (.aload_n 0, 1) := by decide +kernel
theorem dX7_checkTells_94 : decode cX7_checkTells 94 = .ok (.iconst 2, 1) := by decide +kernel
theorem dX7_checkTells_95 : decode cX7_checkTells 95 = .ok (.putfield 53, 3) := by decide +kernel
theorem dX7_checkTells_98 : decode cX7_checkTells 98 = .ok (.aload_n 0, 1) := by decide +kernel
theorem dX7_checkTells_99 : decode cX7_checkTells 99 = .ok (.iload 4, 2) := by decide +kernel
theorem dX7_checkTells_101 : decode cX7_checkTells 101 = .ok (.ifCond .lt 14, 3) := by decide +kernel
theorem dX7_checkTells_104 : decode cX7_checkTells 104 = .ok (.iload 4, 2) := by decide +kernel
theorem dX7_checkTells_106 : decode cX7_checkTells 106 = .ok (.bipush 7, 2) := by decide +kernel
theorem dX7_checkTells_108 : decode cX7_checkTells 108 = .ok (.if_icmp .gt 7, 3) := by decide +kernel
theorem dX7_checkTells_111 : decode cX7_checkTells 111 = .ok (.iconst 1, 1) := by decide +kernel
theorem dX7_checkTells_112 : decode cX7_checkTells 112 = .ok (.goto 4, 3) := by decide +kernel
theorem dX7_checkTells_115 : decode cX7_checkTells 115 = .ok (.iconst 0, 1) := by decide +kernel
theorem dX7_checkTells_116 : decode cX7_checkTells 116 = .ok (.invokevirtual 90, 3) := by decide +kernel
theorem dX7_checkTells_119 : decode cX7_checkTells 119 = .ok (.iload 4, 2) := by decide +kernel
theorem dX7_checkTells_121 : decode cX7_checkTells 121 = .ok (.iconst 2, 1) := by decide +kernel
theorem dX7_checkTells_122 : decode cX7_checkTells 122 = .ok (.if_icmp .ne 10, 3) := by decide +kernel
theorem dX7_checkTells_125 : decode cX7_checkTells 125 = .ok (.aload_n 0, 1) := by decide +kernel
theorem dX7_checkTells_126 : decode cX7_checkTells 126 = .ok (.invokevirtual 94, 3) := by decide +kernel
theorem dX7_checkTells_129 : decode cX7_checkTells 129 = .ok (.goto 38, 3) := by decide +kernel
theorem dX7_checkTells_132 : decode cX7_checkTells 132 = .ok (.iload 4, 2) := by decide +kernel
theorem dX7_checkTells_134 : decode cX7_checkTells 134 = .ok (.iconst 3, 1) := by decide +kernel
theorem dX7_checkTells_135 : decode cX7_checkTells 135 = .ok (.if_icmp .lt 17, 3) := by decide +kernel
theorem dX7_checkTells_138 : decode cX7_checkTells 138 = .ok (.iload 4, 2) := by decide +kernel
theorem dX7_checkTells_140 : decode cX7_checkTells 140 = .ok (.bipush 6, 2) := by decide +kernel
theorem dX7_checkTells_142 : decode cX7_checkTells 142 = .ok (.if_icmp .gt 10, 3) := by decide +kernel
theorem dX7_checkTells_145 : decode cX7_checkTells 145 = .ok (.aload_n 0, 1) := by decide +kernel
theorem dX7_checkTells_146 : decode cX7_checkTells 146 = .ok (.invokevirtual 97, 3) := by decide +kernel
theorem dX7_checkTells_149 : decode cX7_checkTells 149 = .ok (.goto 18, 3) := by decide +kernel
theorem dX7_checkTells_152 : decode cX7_checkTells 152 = .ok (.aload_n 0, 1) := by decide +kernel
theorem dX7_checkTells_153 : decode cX7_checkTells 153 = .ok (.iload 4, 2) := by decide +kernel
theorem dX7_checkTells_155 : decode cX7_checkTells 155 = .ok (.iconst 1, 1) := by decide +kernel
theorem dX7_checkTells_156 : decode cX7_checkTells 156 = .ok (.if_icmp .ne 7, 3) := by decide +kernel
theorem dX7_checkTells_159 : decode cX7_checkTells 159 = .ok (.iconst 3, 1) := by decide +kernel
theorem dX7_checkTells_160 : decode cX7_checkTells 160 = .ok (.goto 4, 3) := by decide +kernel
theorem dX7_checkTells_163 : decode cX7_checkTells 163 = .ok (.iconst 1, 1) := by decide +kernel
theorem dX7_checkTells_164 : decode cX7_checkTells 164 = .ok (.invokevirtual 100, 3) := by decide +kernel
theorem dX7_checkTells_167 : decode cX7_checkTells 167 = .ok (.aload_n 0, 1) := by decide +kernel
theorem dX7_checkTells_168 : decode cX7_checkTells 168 = .ok (.bipush 59, 2) := by decide +kernel
theorem dX7_checkTells_170 : decode cX7_checkTells 170 = .ok (.invokevirtual 104, 3) := by decide +kernel
theorem dX7_checkTells_173 : decode cX7_checkTells 173 = .ok (.iinc 3 1, 3) := by decide +kernel
theorem dX7_checkTells_176 : decode cX7_checkTells 176 = .ok (.goto (-165), 3) := by decide +kernel
theorem dX7_checkTells_179 : decode cX7_checkTells 179 = .ok (.return_, 1) := by decide +kernel
def xX7_checkTells : zX := (RX7, cX7_checkTells, 5, none, false, { frames := 21, cells := 0, slots := 0, locals := 527 }, 0, 0, 0, 0)
theorem rmX7_checkTells : z_Rm xX7_checkTells := by unfold z_Rm xX7_checkTells; exact ⟨by decide, by decide⟩
theorem reX7_checkTells : z_Re xX7_checkTells := ⟨rfl, rfl⟩
theorem rlX7_checkTells : 1 ≤ xX7_checkTells.2.2.2.2.2.1.frames ∧ 21 ≤ xX7_checkTells.2.2.2.2.2.1.locals := by unfold xX7_checkTells; exact ⟨by decide, by decide⟩
theorem meX7_checkTells : z_Me yX7_checkTells xX7_checkTells 0 := ⟨wd459, wd111, by decide, by decide, by decide +kernel⟩
theorem fitX7_checkTells_33 : z_Fit xX8_kind xX7_checkTells := by unfold z_Fit; simp only [xX8_kind, xX7_checkTells]; exact ⟨by decide, by decide⟩
theorem fitX7_checkTells_49 : z_Fit xX8_kind xX7_checkTells := by unfold z_Fit; simp only [xX8_kind, xX7_checkTells]; exact ⟨by decide, by decide⟩
theorem fitX7_checkTells_116 : z_Fit xX7_step xX7_checkTells := by unfold z_Fit; simp only [xX7_step, xX7_checkTells]; exact ⟨by decide, by decide⟩
theorem fitX7_checkTells_164 : z_Fit xX7_checkNumbers xX7_checkTells := by unfold z_Fit; simp only [xX7_checkNumbers, xX7_checkTells]; exact ⟨by decide, by decide⟩
theorem fitX7_checkTells_170 : z_Fit xX7_expect xX7_checkTells := by unfold z_Fit; simp only [xX7_expect, xX7_checkTells]; exact ⟨by decide, by decide⟩
theorem fitX7_checkTells_146 : z_Fit xX7_checkLaw xX7_checkTells := by unfold z_Fit; simp only [xX7_checkLaw, xX7_checkTells]; exact ⟨by decide, by decide⟩
theorem fitX7_checkTells_126 : z_Fit xX7_checkRow xX7_checkTells := by unfold z_Fit; simp only [xX7_checkRow, xX7_checkTells]; exact ⟨by decide, by decide⟩
noncomputable def kX7_checkTells_179 : zK zR := q_vret
noncomputable def kX7_checkTells_167 : zK ((zL × zS) ⊕ zR) := (q_aload 0 (q_push 59 (q_callV 7 fX7_expect 1 (q_iinc 3 1 q_ag))))
noncomputable def kX7_checkTells_164 : zK ((zL × zS) ⊕ zR) := (q_callV 7 fX7_checkNumbers 1 kX7_checkTells_167)
noncomputable def kX7_checkTells_152 : zK ((zL × zS) ⊕ zR) := (q_aload 0 (q_iload 4 (q_push 1 (q_icmp_ne (q_push 1 kX7_checkTells_164) (q_push 3 kX7_checkTells_164)))))
noncomputable def kX7_checkTells_116 : zK ((zL × zS) ⊕ zR) := (q_callV 7 fX7_step 1 (q_iload 4 (q_push 2 (q_icmp_ne (q_iload 4 (q_push 3 (q_icmp_lt kX7_checkTells_152 (q_iload 4 (q_push 6 (q_icmp_gt kX7_checkTells_152 (q_aload 0 (q_callV 7 fX7_checkLaw 0 kX7_checkTells_167)))))))) (q_aload 0 (q_callV 7 fX7_checkRow 0 kX7_checkTells_167))))))
noncomputable def kX7_checkTells_115 : zK ((zL × zS) ⊕ zR) := (q_push 0 kX7_checkTells_116)
noncomputable def kX7_checkTells_98 : zK ((zL × zS) ⊕ zR) := (q_aload 0 (q_iload 4 (q_if_lt kX7_checkTells_115 (q_iload 4 (q_push 7 (q_icmp_gt kX7_checkTells_115 (q_push 1 kX7_checkTells_116)))))))
noncomputable def kX7_checkTells_93 : zK ((zL × zS) ⊕ zR) := (q_aload 0 (q_push 2 (q_putI 7 6 kX7_checkTells_98)))
noncomputable def kX7_checkTells_80 : zK ((zL × zS) ⊕ zR) := (q_iadd (q_istore 2 (q_iload 1 (q_push 20 (q_icmp_gt kX7_checkTells_93 (q_iload 2 (q_push 4 (q_icmp_le kX7_checkTells_98 kX7_checkTells_93))))))))
noncomputable def kX7_checkTells_66 : zK ((zL × zS) ⊕ zR) := (q_iadd (q_istore 1 (q_iload 2 (q_iload 4 (q_push 2 (q_icmp_ne (q_push 0 kX7_checkTells_80) (q_push 1 kX7_checkTells_80)))))))
noncomputable def bX7_checkTells_11 : zK ((zL × zS) ⊕ zR) := (q_iload 3 (q_push 400 (q_icmp_ge (q_dn kX7_checkTells_179) (q_aload 0 (q_getI 7 6 (q_if_ne (q_dn kX7_checkTells_179) (q_aload 0 (q_getR 7 0 (q_aload 0 (q_getI 7 8 (q_callV 8 fX8_kind 1 (q_push 22 (q_icmp_eq (q_dn kX7_checkTells_179) (q_aload 0 (q_getR 7 0 (q_aload 0 (q_getI 7 8 (q_callV 8 fX8_kind 1 (q_istore 4 (q_iload 1 (q_iload 4 (q_push 1 (q_icmp_ne (q_push 0 kX7_checkTells_66) (q_push 1 kX7_checkTells_66))))))))))))))))))))))))
noncomputable def kX7_checkTells_11 : zK zR := q_lp (bX7_checkTells_11)
noncomputable def kX7_checkTells_0 : zK zR := (q_push 0 (q_istore 1 (q_push 0 (q_istore 2 (q_aload 0 (q_push 0 (q_putI 7 8 (q_push 0 (q_istore 3 kX7_checkTells_11)))))))))
set_option maxRecDepth 100000 in
theorem tX7_checkTells_179 {l : Launch} {D : zD} {B sz0 : Nat} {post : Option Value → zS → Prop} : zSnd l D B xX7_checkTells sz0 post 179 kX7_checkTells_179 (z_Jr post) := (s_vret dX7_checkTells_179 rfl)
set_option maxRecDepth 100000 in
theorem tX7_checkTells_167 {l : Launch} {D : zD} {B sz0 : Nat} {post : Option Value → zS → Prop} : zSnd l D B xX7_checkTells sz0 post 167 kX7_checkTells_167 (z_Jl l D B xX7_checkTells sz0 post 11 (z_Jr post)) := (s_aload_n dX7_checkTells_167 rfl (s_bipush dX7_checkTells_168 (by decide) (s_callV (r := (RX7, TX7, 10)) dX7_checkTells_170 mX7_expect meX7_expect wd434 wd435 rfl rfl reX7_expect rmX7_checkTells (fitX7_checkTells_170) wd436 (s_iinc dX7_checkTells_173 (by decide) (s_goto (tgt := 11) dX7_checkTells_176 (by decide) s_ag)))))
set_option maxRecDepth 100000 in
theorem tX7_checkTells_164 {l : Launch} {D : zD} {B sz0 : Nat} {post : Option Value → zS → Prop} : zSnd l D B xX7_checkTells sz0 post 164 kX7_checkTells_164 (z_Jl l D B xX7_checkTells sz0 post 11 (z_Jr post)) := (s_callV (r := (RX7, TX7, 10)) dX7_checkTells_164 mX7_checkNumbers meX7_checkNumbers wd450 wd451 rfl rfl reX7_checkNumbers rmX7_checkTells (fitX7_checkTells_164) wd452 tX7_checkTells_167)
set_option maxRecDepth 100000 in
theorem tX7_checkTells_152 {l : Launch} {D : zD} {B sz0 : Nat} {post : Option Value → zS → Prop} : zSnd l D B xX7_checkTells sz0 post 152 kX7_checkTells_152 (z_Jl l D B xX7_checkTells sz0 post 11 (z_Jr post)) := (s_aload_n dX7_checkTells_152 rfl (s_iload dX7_checkTells_153 (s_iconst dX7_checkTells_155 (by decide) (s_icmp_ne (tgt := 163) dX7_checkTells_156 (by decide) (s_iconst dX7_checkTells_163 (by decide) tX7_checkTells_164) (s_iconst dX7_checkTells_159 (by decide) (s_goto (tgt := 164) dX7_checkTells_160 (by decide) tX7_checkTells_164))))))
set_option maxRecDepth 100000 in
theorem tX7_checkTells_116 {l : Launch} {D : zD} {B sz0 : Nat} {post : Option Value → zS → Prop} : zSnd l D B xX7_checkTells sz0 post 116 kX7_checkTells_116 (z_Jl l D B xX7_checkTells sz0 post 11 (z_Jr post)) := (s_callV (r := (RX7, TX7, 10)) dX7_checkTells_116 mX7_step meX7_step wd430 wd431 rfl rfl reX7_step rmX7_checkTells (fitX7_checkTells_116) wd432 (s_iload dX7_checkTells_119 (s_iconst dX7_checkTells_121 (by decide) (s_icmp_ne (tgt := 132) dX7_checkTells_122 (by decide) (s_iload dX7_checkTells_132 (s_iconst dX7_checkTells_134 (by decide) (s_icmp_lt (tgt := 152) dX7_checkTells_135 (by decide) tX7_checkTells_152 (s_iload dX7_checkTells_138 (s_bipush dX7_checkTells_140 (by decide) (s_icmp_gt (tgt := 152) dX7_checkTells_142 (by decide) tX7_checkTells_152 (s_aload_n dX7_checkTells_145 rfl (s_callV (r := (RX7, TX7, 10)) dX7_checkTells_146 mX7_checkLaw meX7_checkLaw wd453 wd454 rfl rfl reX7_checkLaw rmX7_checkTells (fitX7_checkTells_146) wd455 (s_goto (tgt := 167) dX7_checkTells_149 (by decide) tX7_checkTells_167))))))))) (s_aload_n dX7_checkTells_125 rfl (s_callV (r := (RX7, TX7, 10)) dX7_checkTells_126 mX7_checkRow meX7_checkRow wd456 wd457 rfl rfl reX7_checkRow rmX7_checkTells (fitX7_checkTells_126) wd458 (s_goto (tgt := 167) dX7_checkTells_129 (by decide) tX7_checkTells_167)))))))
set_option maxRecDepth 100000 in
theorem tX7_checkTells_115 {l : Launch} {D : zD} {B sz0 : Nat} {post : Option Value → zS → Prop} : zSnd l D B xX7_checkTells sz0 post 115 kX7_checkTells_115 (z_Jl l D B xX7_checkTells sz0 post 11 (z_Jr post)) := (s_iconst dX7_checkTells_115 (by decide) tX7_checkTells_116)
set_option maxRecDepth 100000 in
theorem tX7_checkTells_98 {l : Launch} {D : zD} {B sz0 : Nat} {post : Option Value → zS → Prop} : zSnd l D B xX7_checkTells sz0 post 98 kX7_checkTells_98 (z_Jl l D B xX7_checkTells sz0 post 11 (z_Jr post)) := (s_aload_n dX7_checkTells_98 rfl (s_iload dX7_checkTells_99 (s_if_lt (tgt := 115) dX7_checkTells_101 (by decide) tX7_checkTells_115 (s_iload dX7_checkTells_104 (s_bipush dX7_checkTells_106 (by decide) (s_icmp_gt (tgt := 115) dX7_checkTells_108 (by decide) tX7_checkTells_115 (s_iconst dX7_checkTells_111 (by decide) (s_goto (tgt := 116) dX7_checkTells_112 (by decide) tX7_checkTells_116))))))))
set_option maxRecDepth 100000 in
theorem tX7_checkTells_93 {l : Launch} {D : zD} {B sz0 : Nat} {post : Option Value → zS → Prop} : zSnd l D B xX7_checkTells sz0 post 93 kX7_checkTells_93 (z_Jl l D B xX7_checkTells sz0 post 11 (z_Jr post)) := (s_aload_n dX7_checkTells_93 rfl (s_iconst dX7_checkTells_94 (by decide) (s_putI (f := 6) dX7_checkTells_95 clX7 (by decide) rfl rfl rfl wd311 tX7_checkTells_98)))
set_option maxRecDepth 100000 in
theorem tX7_checkTells_80 {l : Launch} {D : zD} {B sz0 : Nat} {post : Option Value → zS → Prop} : zSnd l D B xX7_checkTells sz0 post 80 kX7_checkTells_80 (z_Jl l D B xX7_checkTells sz0 post 11 (z_Jr post)) := (s_iadd dX7_checkTells_80 (s_istore_n dX7_checkTells_81 rfl (s_iload_n dX7_checkTells_82 rfl (s_bipush dX7_checkTells_83 (by decide) (s_icmp_gt (tgt := 93) dX7_checkTells_85 (by decide) tX7_checkTells_93 (s_iload_n dX7_checkTells_88 rfl (s_iconst dX7_checkTells_89 (by decide) (s_icmp_le (tgt := 98) dX7_checkTells_90 (by decide) tX7_checkTells_98 tX7_checkTells_93))))))))
set_option maxRecDepth 100000 in
theorem tX7_checkTells_66 {l : Launch} {D : zD} {B sz0 : Nat} {post : Option Value → zS → Prop} : zSnd l D B xX7_checkTells sz0 post 66 kX7_checkTells_66 (z_Jl l D B xX7_checkTells sz0 post 11 (z_Jr post)) := (s_iadd dX7_checkTells_66 (s_istore_n dX7_checkTells_67 rfl (s_iload_n dX7_checkTells_68 rfl (s_iload dX7_checkTells_69 (s_iconst dX7_checkTells_71 (by decide) (s_icmp_ne (tgt := 79) dX7_checkTells_72 (by decide) (s_iconst dX7_checkTells_79 (by decide) tX7_checkTells_80) (s_iconst dX7_checkTells_75 (by decide) (s_goto (tgt := 80) dX7_checkTells_76 (by decide) tX7_checkTells_80))))))))
set_option maxRecDepth 100000 in
theorem tX7_checkTells_11 {l : Launch} {D : zD} {B sz0 : Nat} {post : Option Value → zS → Prop} : zSnd l D B xX7_checkTells sz0 post 11 kX7_checkTells_11 (z_Jr post) := s_lp (body := bX7_checkTells_11) (s_iload_n dX7_checkTells_11 rfl (s_sipush dX7_checkTells_12 (by decide) (s_icmp_ge (tgt := 179) dX7_checkTells_15 (by decide) (s_dn tX7_checkTells_179) (s_aload_n dX7_checkTells_18 rfl (s_getI (f := 6) dX7_checkTells_19 clX7 (by decide) rfl wd311 (s_if_ne (tgt := 179) dX7_checkTells_22 (by decide) (s_dn tX7_checkTells_179) (s_aload_n dX7_checkTells_25 rfl (s_getR (f := 0) dX7_checkTells_26 clX7 (by decide) rfl wd329 (s_aload_n dX7_checkTells_29 rfl (s_getI (f := 8) dX7_checkTells_30 clX7 (by decide) rfl wd427 (s_callV (r := (RX8, TX8, 4)) dX7_checkTells_33 mX8_kind meX8_kind wd121 wd122 rfl rfl reX8_kind rmX7_checkTells (fitX7_checkTells_33) wd429 (s_bipush dX7_checkTells_36 (by decide) (s_icmp_eq (tgt := 179) dX7_checkTells_38 (by decide) (s_dn tX7_checkTells_179) (s_aload_n dX7_checkTells_41 rfl (s_getR (f := 0) dX7_checkTells_42 clX7 (by decide) rfl wd329 (s_aload_n dX7_checkTells_45 rfl (s_getI (f := 8) dX7_checkTells_46 clX7 (by decide) rfl wd427 (s_callV (r := (RX8, TX8, 4)) dX7_checkTells_49 mX8_kind meX8_kind wd121 wd122 rfl rfl reX8_kind rmX7_checkTells (fitX7_checkTells_49) wd429 (s_istore dX7_checkTells_52 (s_iload_n dX7_checkTells_54 rfl (s_iload dX7_checkTells_55 (s_iconst dX7_checkTells_57 (by decide) (s_icmp_ne (tgt := 65) dX7_checkTells_58 (by decide) (s_iconst dX7_checkTells_65 (by decide) tX7_checkTells_66) (s_iconst dX7_checkTells_61 (by decide) (s_goto (tgt := 66) dX7_checkTells_62 (by decide) tX7_checkTells_66)))))))))))))))))))))))))
set_option maxRecDepth 100000 in
theorem tX7_checkTells_0 {l : Launch} {D : zD} {B sz0 : Nat} {post : Option Value → zS → Prop} : zSnd l D B xX7_checkTells sz0 post 0 kX7_checkTells_0 (z_Jr post) := (s_iconst dX7_checkTells_0 (by decide) (s_istore_n dX7_checkTells_1 rfl (s_iconst dX7_checkTells_2 (by decide) (s_istore_n dX7_checkTells_3 rfl (s_aload_n dX7_checkTells_4 rfl (s_iconst dX7_checkTells_5 (by decide) (s_putI (f := 8) dX7_checkTells_6 clX7 (by decide) rfl rfl rfl wd427 (s_iconst dX7_checkTells_9 (by decide) (s_istore_n dX7_checkTells_10 rfl tX7_checkTells_11)))))))))
noncomputable def fX7_checkTells : zF := z_fn 5 kX7_checkTells_0
theorem mX7_checkTells {l : Launch} {D : zD} {B : Nat} : z_MF l D B yX7_checkTells xX7_checkTells fX7_checkTells := z_mf (by decide) rfl (fun h => by cases h) rfl (fun as σ r h => ⟨z_fn_len h, kX7_checkTells_0, z_fn_run h, fun _ => tX7_checkTells_0⟩)
/-! ===== RowChildren$Text.readNumber ===== -/
theorem dX7_readNumber_0 : decode cX7_readNumber 0 = .ok (.aload_n 0, 1) := by decide +kernel
theorem dX7_readNumber_1 : decode cX7_readNumber 1 = .ok (.getfield 12, 3) := by decide +kernel
theorem dX7_readNumber_4 : decode cX7_readNumber 4 = .ok (.aload_n 0, 1) := by decide +kernel
theorem dX7_readNumber_5 : decode cX7_readNumber 5 = .ok (.getfield 60, 3) := by decide +kernel
theorem dX7_readNumber_8 : decode cX7_readNumber 8 = .ok (.invokevirtual 141, 3) := by decide +kernel
theorem dX7_readNumber_11 : decode cX7_readNumber 11 = .ok (.lstore_n 3, 1) := by decide +kernel
theorem dX7_readNumber_12 : decode cX7_readNumber 12 = .ok (.aload_n 0, 1) := by decide +kernel
theorem dX7_readNumber_13 : decode cX7_readNumber 13 = .ok (.getfield 53, 3) := by decide +kernel
theorem dX7_readNumber_16 : decode cX7_readNumber 16 = .ok (.ifCond .ne 17, 3) := by decide +kernel
theorem dX7_readNumber_19 : decode cX7_readNumber 19 = .ok (.lload_n 3, 1) := by decide +kernel
theorem dX7_readNumber_20 : decode cX7_readNumber 20 = .ok (.iload_n 1, 1) := by decide +kernel
theorem dX7_readNumber_21 : decode cX7_readNumber 21 = .ok (.i2l, 1) := by decide +kernel
theorem dX7_readNumber_22 : decode cX7_readNumber 22 = .ok (.lcmp, 1) := by decide +kernel
theorem dX7_readNumber_23 : decode cX7_readNumber 23 = .ok (.ifCond .lt 10, 3) := by decide +kernel
theorem dX7_readNumber_26 : decode cX7_readNumber 26 = .ok (.lload_n 3, 1) := by decide +kernel
theorem dX7_readNumber_27 : decode cX7_readNumber 27 = .ok (.iload_n 2, 1) := by decide +kernel
theorem dX7_readNumber_28 : decode cX7_readNumber 28 = .ok (.i2l, 1) := by decide +kernel
theorem dX7_readNumber_29 : decode cX7_readNumber 29 = .ok (.lcmp, 1) := by decide +kernel
theorem dX7_readNumber_30 : decode cX7_readNumber 30 = .ok (.ifCond .le 24, 3) := by decide +kernel
theorem dX7_readNumber_33 : decode cX7_readNumber 33 = .ok (.aload_n 0, 1) := by decide +kernel
theorem dX7_readNumber_34 : decode cX7_readNumber 34 = .ok (.aload_n 0, 1) := by decide +kernel
theorem dX7_readNumber_35 : decode cX7_readNumber 35 = .ok (.getfield 53, 3) := by decide +kernel
theorem dX7_readNumber_38 : decode cX7_readNumber 38 = .ok (.ifCond .eq 10, 3) := by decide +kernel
theorem dX7_readNumber_41 : decode cX7_readNumber 41 = .ok (.aload_n 0, 1) := by decide +kernel
theorem dX7_readNumber_42 : decode cX7_readNumber 42 = .ok (.getfield 53, 3) := by decide +kernel
theorem dX7_readNumber_45 : decode cX7_readNumber 45 = .ok (.goto 4, 3) := by decide +kernel
theorem dX7_readNumber_48 : decode cX7_readNumber 48 = .ok (.iconst 5, 1) := by decide +kernel
theorem dX7_readNumber_49 : decode cX7_readNumber 49 = .ok (.putfield 53, 3) := by decide +kernel
theorem dX7_readNumber_52 : decode cX7_readNumber 52 = .ok (.iload_n 1, 1) := by decide +kernel
theorem dX7_readNumber_53 : decode cX7_readNumber 53 = .ok (.ireturn, 1) := by decide +kernel
theorem dX7_readNumber_54 : decode cX7_readNumber 54 = .ok (.aload_n 0, 1) := by decide +kernel
theorem dX7_readNumber_55 : decode cX7_readNumber 55 = .ok (.dup, 1) := by decide +kernel
theorem dX7_readNumber_56 : decode cX7_readNumber 56 = .ok (.getfield 60, 3) := by decide +kernel
theorem dX7_readNumber_59 : decode cX7_readNumber 59 = .ok (.iconst 1, 1) := by decide +kernel
theorem dX7_readNumber_60 : decode cX7_readNumber 60 = .ok (.iadd, 1) := by decide +kernel
theorem dX7_readNumber_61 : decode cX7_readNumber 61 = .ok (.putfield 60, 3) := by decide +kernel
theorem dX7_readNumber_64 : decode cX7_readNumber 64 = .ok (.lload_n 3, 1) := by decide +kernel
theorem dX7_readNumber_65 : decode cX7_readNumber 65 = .ok (.l2i, 1) := by decide +kernel
theorem dX7_readNumber_66 : decode cX7_readNumber 66 = .ok (.ireturn, 1) := by decide +kernel
def xX7_readNumber : zX := (RX7, cX7_readNumber, 5, (some .int), false, { frames := 2, cells := 0, slots := 0, locals := 111 }, 0, 0, 0, 0)
theorem rmX7_readNumber : z_Rm xX7_readNumber := by unfold z_Rm xX7_readNumber; exact ⟨by decide, by decide⟩
theorem reX7_readNumber : z_Re xX7_readNumber := ⟨rfl, rfl⟩
theorem rlX7_readNumber : 1 ≤ xX7_readNumber.2.2.2.2.2.1.frames ∧ 21 ≤ xX7_readNumber.2.2.2.2.2.1.locals := by unfold xX7_readNumber; exact ⟨by decide, by decide⟩
theorem meX7_readNumber : z_Me yX7_readNumber xX7_readNumber 2 := ⟨wd461, wd111, by decide, by decide, by decide +kernel⟩
theorem fitX7_readNumber_8 : z_Fit xX8_value xX7_readNumber := by unfold z_Fit; simp only [xX8_value, xX7_readNumber]; exact ⟨by decide, by decide⟩
noncomputable def kX7_readNumber_49 : zK zR := (q_putI 7 6 (q_iload 1 q_iret))
noncomputable def kX7_readNumber_33 : zK zR := (q_aload 0 (q_aload 0 (q_getI 7 6 (q_if_eq (q_push 5 kX7_readNumber_49) (q_aload 0 (q_getI 7 6 kX7_readNumber_49))))))
noncomputable def kX7_readNumber_0 : zK zR := (q_aload 0 (q_getR 7 0 (q_aload 0 (q_getI 7 8 (q_callV 8 fX8_value 1 (q_lstore 3 (q_aload 0 (q_getI 7 6 (q_if_ne kX7_readNumber_33 (q_lload 3 (q_iload 1 (q_i2l (q_lcmp (q_if_lt kX7_readNumber_33 (q_lload 3 (q_iload 2 (q_i2l (q_lcmp (q_if_le (q_aload 0 (q_dup (q_getI 7 8 (q_push 1 (q_iadd (q_putI 7 8 (q_lload 3 (q_l2i q_iret)))))))) kX7_readNumber_33)))))))))))))))))))
set_option maxRecDepth 100000 in
theorem tX7_readNumber_49 {l : Launch} {D : zD} {B sz0 : Nat} {post : Option Value → zS → Prop} : zSnd l D B xX7_readNumber sz0 post 49 kX7_readNumber_49 (z_Jr post) := (s_putI (f := 6) dX7_readNumber_49 clX7 (by decide) rfl rfl rfl wd311 (s_iload_n dX7_readNumber_52 rfl (s_iret dX7_readNumber_53 rfl)))
set_option maxRecDepth 100000 in
theorem tX7_readNumber_33 {l : Launch} {D : zD} {B sz0 : Nat} {post : Option Value → zS → Prop} : zSnd l D B xX7_readNumber sz0 post 33 kX7_readNumber_33 (z_Jr post) := (s_aload_n dX7_readNumber_33 rfl (s_aload_n dX7_readNumber_34 rfl (s_getI (f := 6) dX7_readNumber_35 clX7 (by decide) rfl wd311 (s_if_eq (tgt := 48) dX7_readNumber_38 (by decide) (s_iconst dX7_readNumber_48 (by decide) tX7_readNumber_49) (s_aload_n dX7_readNumber_41 rfl (s_getI (f := 6) dX7_readNumber_42 clX7 (by decide) rfl wd311 (s_goto (tgt := 49) dX7_readNumber_45 (by decide) tX7_readNumber_49)))))))
set_option maxRecDepth 100000 in
theorem tX7_readNumber_0 {l : Launch} {D : zD} {B sz0 : Nat} {post : Option Value → zS → Prop} : zSnd l D B xX7_readNumber sz0 post 0 kX7_readNumber_0 (z_Jr post) := (s_aload_n dX7_readNumber_0 rfl (s_getR (f := 0) dX7_readNumber_1 clX7 (by decide) rfl wd329 (s_aload_n dX7_readNumber_4 rfl (s_getI (f := 8) dX7_readNumber_5 clX7 (by decide) rfl wd427 (s_callV (r := (RX8, TX8, 4)) dX7_readNumber_8 mX8_value meX8_value wd129 wd130 rfl rfl reX8_value rmX7_readNumber (fitX7_readNumber_8) wd460 (s_lstore_n dX7_readNumber_11 rfl (s_aload_n dX7_readNumber_12 rfl (s_getI (f := 6) dX7_readNumber_13 clX7 (by decide) rfl wd311 (s_if_ne (tgt := 33) dX7_readNumber_16 (by decide) tX7_readNumber_33 (s_lload_n dX7_readNumber_19 rfl (s_iload_n dX7_readNumber_20 rfl (s_i2l dX7_readNumber_21 (s_lcmp dX7_readNumber_22 (s_if_lt (tgt := 33) dX7_readNumber_23 (by decide) tX7_readNumber_33 (s_lload_n dX7_readNumber_26 rfl (s_iload_n dX7_readNumber_27 rfl (s_i2l dX7_readNumber_28 (s_lcmp dX7_readNumber_29 (s_if_le (tgt := 54) dX7_readNumber_30 (by decide) (s_aload_n dX7_readNumber_54 rfl (s_dup dX7_readNumber_55 (s_getI (f := 8) dX7_readNumber_56 clX7 (by decide) rfl wd427 (s_iconst dX7_readNumber_59 (by decide) (s_iadd dX7_readNumber_60 (s_putI (f := 8) dX7_readNumber_61 clX7 (by decide) rfl rfl rfl wd427 (s_lload_n dX7_readNumber_64 rfl (s_l2i dX7_readNumber_65 (s_iret dX7_readNumber_66 rfl))))))))) tX7_readNumber_33)))))))))))))))))))
noncomputable def fX7_readNumber : zF := z_fn 5 kX7_readNumber_0
theorem mX7_readNumber {l : Launch} {D : zD} {B : Nat} : z_MF l D B yX7_readNumber xX7_readNumber fX7_readNumber := z_mf (by decide) rfl (fun h => by cases h) rfl (fun as σ r h => ⟨z_fn_len h, kX7_readNumber_0, z_fn_run h, fun _ => tX7_readNumber_0⟩)
/-! ===== RowChildren$Text.readColour ===== -/
theorem dX7_readColour_0 : decode cX7_readColour 0 = .ok (.aload_n 0, 1) := by decide +kernel
theorem dX7_readColour_1 : decode cX7_readColour 1 = .ok (.iconst 0, 1) := by decide +kernel
theorem dX7_readColour_2 : decode cX7_readColour 2 = .ok (.iconst 3, 1) := by decide +kernel
theorem dX7_readColour_3 : decode cX7_readColour 3 = .ok (.invokevirtual 126, 3) := by decide +kernel
theorem dX7_readColour_6 : decode cX7_readColour 6 = .ok (.istore_n 1, 1) := by decide +kernel
theorem dX7_readColour_7 : decode cX7_readColour 7 = .ok (.aload_n 0, 1) := by decide +kernel
theorem dX7_readColour_8 : decode cX7_readColour 8 = .ok (.aload_n 0, 1) := by decide +kernel
theorem dX7_readColour_9 : decode cX7_readColour 9 = .ok (.getfield 69, 3) := by decide +kernel
theorem dX7_readColour_12 : decode cX7_readColour 12 = .ok (.iload_n 1, 1) := by decide +kernel
theorem dX7_readColour_13 : decode cX7_readColour 13 = .ok (.invokestatic 145, 3) := by decide +kernel
theorem dX7_readColour_16 : decode cX7_readColour 16 = .ok (.putfield 69, 3) := by decide +kernel
theorem dX7_readColour_19 : decode cX7_readColour 19 = .ok (.iload_n 1, 1) := by decide +kernel
theorem dX7_readColour_20 : decode cX7_readColour 20 = .ok (.ireturn, 1) := by decide +kernel
def xX7_readColour : zX := (RX7, cX7_readColour, 2, (some .int), false, { frames := 3, cells := 0, slots := 0, locals := 135 }, 0, 0, 0, 0)
theorem rmX7_readColour : z_Rm xX7_readColour := by unfold z_Rm xX7_readColour; exact ⟨by decide, by decide⟩
theorem reX7_readColour : z_Re xX7_readColour := ⟨rfl, rfl⟩
theorem rlX7_readColour : 1 ≤ xX7_readColour.2.2.2.2.2.1.frames ∧ 21 ≤ xX7_readColour.2.2.2.2.2.1.locals := by unfold xX7_readColour; exact ⟨by decide, by decide⟩
theorem meX7_readColour : z_Me yX7_readColour xX7_readColour 0 := ⟨wd466, wd111, by decide, by decide, by decide +kernel⟩
theorem fitX7_readColour_3 : z_Fit xX7_readNumber xX7_readColour := by unfold z_Fit; simp only [xX7_readNumber, xX7_readColour]; exact ⟨by decide, by decide⟩
noncomputable def kX7_readColour_0 : zK zR := (q_aload 0 (q_push 0 (q_push 3 (q_callV 7 fX7_readNumber 2 (q_istore 1 (q_aload 0 (q_aload 0 (q_getI 7 9 (q_iload 1 (q_mmax (q_putI 7 9 (q_iload 1 q_iret))))))))))))
set_option maxRecDepth 100000 in
theorem tX7_readColour_0 {l : Launch} {D : zD} {B sz0 : Nat} {post : Option Value → zS → Prop} : zSnd l D B xX7_readColour sz0 post 0 kX7_readColour_0 (z_Jr post) := (s_aload_n dX7_readColour_0 rfl (s_iconst dX7_readColour_1 (by decide) (s_iconst dX7_readColour_2 (by decide) (s_callV (r := (RX7, TX7, 10)) dX7_readColour_3 mX7_readNumber meX7_readNumber wd462 wd463 rfl rfl reX7_readNumber rmX7_readColour (fitX7_readColour_3) wd464 (s_istore_n dX7_readColour_6 rfl (s_aload_n dX7_readColour_7 rfl (s_aload_n dX7_readColour_8 rfl (s_getI (f := 9) dX7_readColour_9 clX7 (by decide) rfl wd314 (s_iload_n dX7_readColour_12 rfl (s_mmax dX7_readColour_13 wd465 wd152 wd149 wd153 (rlX7_readColour) rmX7_readColour (s_putI (f := 9) dX7_readColour_16 clX7 (by decide) rfl rfl rfl wd314 (s_iload_n dX7_readColour_19 rfl (s_iret dX7_readColour_20 rfl)))))))))))))
noncomputable def fX7_readColour : zF := z_fn 2 kX7_readColour_0
theorem mX7_readColour {l : Launch} {D : zD} {B : Nat} : z_MF l D B yX7_readColour xX7_readColour fX7_readColour := z_mf (by decide) rfl (fun h => by cases h) rfl (fun as σ r h => ⟨z_fn_len h, kX7_readColour_0, z_fn_run h, fun _ => tX7_readColour_0⟩)
/-! ===== RowChildren$Text.readRow ===== -/
theorem dX7_readRow_0 : decode cX7_readRow 0 = .ok (.aload_n 0, 1) := by decide +kernel
theorem dX7_readRow_1 : decode cX7_readRow 1 = .ok (.getfield 28, 3) := by decide +kernel
theorem dX7_readRow_4 : decode cX7_readRow 4 = .ok (.getfield 150, 3) := by decide +kernel
theorem dX7_readRow_7 : decode cX7_readRow 7 = .ok (.istore_n 1, 1) := by decide +kernel
theorem dX7_readRow_8 : decode cX7_readRow 8 = .ok (.aload_n 0, 1) := by decide +kernel
theorem dX7_readRow_9 : decode cX7_readRow 9 = .ok (.getfield 12, 3) := by decide +kernel
theorem dX7_readRow_12 : decode cX7_readRow 12 = .ok (.aload_n 0, 1) := by decide +kernel
theorem dX7_readRow_13 : decode cX7_readRow 13 = .ok (.getfield 60, 3) := by decide +kernel
theorem dX7_readRow_16 : decode cX7_readRow 16 = .ok (.invokevirtual 141, 3) := by decide +kernel
theorem dX7_readRow_19 : decode cX7_readRow 19 = .ok (.lstore_n 2, 1) := by decide +kernel
theorem dX7_readRow_20 : decode cX7_readRow 20 = .ok (.iconst 0, 1) := by decide +kernel
theorem dX7_readRow_21 : decode cX7_readRow 21 = .ok (.istore 4, 2) := by decide +kernel
theorem dX7_readRow_23 : decode cX7_readRow 23 = .ok (.iload 4, 2) := by decide +kernel
theorem dX7_readRow_25 : decode cX7_readRow 25 = .ok (.iload_n 1, 1) := by decide +kernel
theorem dX7_readRow_26 : decode cX7_readRow 26 = .ok (.if_icmp .ge 26, 3) := by decide +kernel
theorem dX7_readRow_29 : decode cX7_readRow 29 = .ok (.aload_n 0, 1) := by decide +kernel
theorem dX7_readRow_30 : decode cX7_readRow 30 = .ok (.getfield 36, 3) := by decide +kernel
theorem dX7_readRow_33 : decode cX7_readRow 33 = .ok (.iload 4, 2) := by decide +kernel
theorem dX7_readRow_35 : decode cX7_readRow 35 = .ok (.laload, 1) := by decide +kernel
theorem dX7_readRow_36 : decode cX7_readRow 36 = .ok (.lload_n 2, 1) := by decide +kernel
theorem dX7_readRow_37 : decode cX7_readRow 37 = .ok (.lcmp, 1) := by decide +kernel
theorem dX7_readRow_38 : decode cX7_readRow 38 = .ok (.ifCond .ne 8, 3) := by decide +kernel
theorem dX7_readRow_41 : decode cX7_readRow 41 = .ok (.aload_n 0, 1) := by decide +kernel
theorem dX7_readRow_42 : decode cX7_readRow 42 = .ok (.iconst 3, 1) := by decide +kernel
theorem dX7_readRow_43 : decode cX7_readRow 43 = .ok (.putfield 53, 3) := by decide +kernel
theorem dX7_readRow_46 : decode cX7_readRow 46 = .ok (.iinc 4 1, 3) := by decide +kernel
theorem dX7_readRow_49 : decode cX7_readRow 49 = .ok (.goto (-26), 3) := by decide +kernel
theorem dX7_readRow_52 : decode cX7_readRow 52 = .ok (.iload_n 1, 1) := by decide +kernel
theorem dX7_readRow_53 : decode cX7_readRow 53 = .ok (.iconst 4, 1) := by decide +kernel
theorem dX7_readRow_54 : decode cX7_readRow 54 = .ok (.if_icmp .ge 10, 3) := by decide +kernel
theorem dX7_readRow_57 : decode cX7_readRow 57 = .ok (.aload_n 0, 1) := by decide +kernel
theorem dX7_readRow_58 : decode cX7_readRow 58 = .ok (.getfield 53, 3) := by decide +kernel
theorem dX7_readRow_61 : decode cX7_readRow 61 = .ok (.ifCond .eq 4, 3) := by decide +kernel
theorem dX7_readRow_64 : decode cX7_readRow 64 = .ok (.return_, 1) := by decide +kernel
theorem dX7_readRow_65 : decode cX7_readRow 65 = .ok (.aload_n 0, 1) := by decide +kernel
theorem dX7_readRow_66 : decode cX7_readRow 66 = .ok (.getfield 36, 3) := by decide +kernel
theorem dX7_readRow_69 : decode cX7_readRow 69 = .ok (.iload_n 1, 1) := by decide +kernel
theorem dX7_readRow_70 : decode cX7_readRow 70 = .ok (.lload_n 2, 1) := by decide +kernel
theorem dX7_readRow_71 : decode cX7_readRow 71 = .ok (.lastore, 1) := by decide +kernel
theorem dX7_readRow_72 : decode cX7_readRow 72 = .ok (.aload_n 0, 1) := by decide +kernel
theorem dX7_readRow_73 : decode cX7_readRow 73 = .ok (.getfield 28, 3) := by decide +kernel
theorem dX7_readRow_76 : decode cX7_readRow 76 = .ok (.dup, 1) := by decide +kernel
theorem dX7_readRow_77 : decode cX7_readRow 77 = .ok (.getfield 150, 3) := by decide +kernel
theorem dX7_readRow_80 : decode cX7_readRow 80 = .ok (.iconst 1, 1) := by decide +kernel
theorem dX7_readRow_81 : decode cX7_readRow 81 = .ok (.iadd, 1) := by decide +kernel
theorem dX7_readRow_82 : decode cX7_readRow 82 = .ok (.putfield 150, 3) := by decide +kernel
theorem dX7_readRow_85 : decode cX7_readRow 85 = .ok (.aload_n 0, 1) := by decide +kernel
theorem dX7_readRow_86 : decode cX7_readRow 86 = .ok (.dup, 1) := by decide +kernel
theorem dX7_readRow_87 : decode cX7_readRow 87 = .ok (.getfield 60, 3) := by decide +kernel
theorem dX7_readRow_90 : decode cX7_readRow 90 = .ok (.iconst 1, 1) := by decide +kernel
theorem dX7_readRow_91 : decode cX7_readRow 91 = .ok (.iadd, 1) := by decide +kernel
theorem dX7_readRow_92 : decode cX7_readRow 92 = .ok (.putfield 60, 3) := by decide +kernel
theorem dX7_readRow_95 : decode cX7_readRow 95 = .ok (.iconst 0, 1) := by decide +kernel
theorem dX7_readRow_96 : decode cX7_readRow 96 = .ok (.istore 4, 2) := by decide +kernel
theorem dX7_readRow_98 : decode cX7_readRow 98 = .ok (.iload 4, 2) := by decide +kernel
theorem dX7_readRow_100 : decode cX7_readRow 100 = .ok (.bipush 8, 2) := by decide +kernel
theorem dX7_readRow_102 : decode cX7_readRow 102 = .ok (.if_icmp .ge 44, 3) := by decide +kernel
theorem dX7_readRow_105 : decode cX7_readRow 105 = .ok (.aload_n 0, 1) := by decide +kernel
theorem dX7_readRow_106 : decode cX7_readRow 106 = .ok (.getfield 53, 3) := by decide +kernel
theorem dX7_readRow_109 : decode cX7_readRow 109 = .ok (.ifCond .ne 37, 3) := by decide +kernel
theorem dX7_readRow_112 : decode cX7_readRow 112 = .ok (.aload_n 0, 1) := by decide +kernel
theorem dX7_readRow_113 : decode cX7_readRow 113 = .ok (.getfield 12, 3) := by decide +kernel
theorem dX7_readRow_116 : decode cX7_readRow 116 = .ok (.aload_n 0, 1) := by decide +kernel
theorem dX7_readRow_117 : decode cX7_readRow 117 = .ok (.getfield 60, 3) := by decide +kernel
theorem dX7_readRow_120 : decode cX7_readRow 120 = .ok (.invokevirtual 87, 3) := by decide +kernel
theorem dX7_readRow_123 : decode cX7_readRow 123 = .ok (.bipush 21, 2) := by decide +kernel
theorem dX7_readRow_125 : decode cX7_readRow 125 = .ok (.if_icmp .ne 21, 3) := by decide +kernel
theorem dX7_readRow_128 : decode cX7_readRow 128 = .ok (.aload_n 0, 1) := by decide +kernel
theorem dX7_readRow_129 : decode cX7_readRow 129 = .ok (.getfield 28, 3) := by decide +kernel
theorem dX7_readRow_132 : decode cX7_readRow 132 = .ok (.iload_n 1, 1) := by decide +kernel
theorem dX7_readRow_133 : decode cX7_readRow 133 = .ok (.aload_n 0, 1) := by decide +kernel
theorem dX7_readRow_134 : decode cX7_readRow 134 = .ok (.invokevirtual 130, 3) := by decide +kernel
theorem dX7_readRow_137 : decode cX7_readRow 137 = .ok (.invokevirtual 153, 3) := by decide +kernel
theorem dX7_readRow_140 : decode cX7_readRow 140 = .ok (.iinc 4 1, 3) := by decide +kernel
theorem dX7_readRow_143 : decode cX7_readRow 143 = .ok (.goto (-45), 3) := by decide +kernel
theorem dX7_readRow_146 : decode cX7_readRow 146 = .ok (.return_, 1) := by decide +kernel
def xX7_readRow : zX := (RX7, cX7_readRow, 5, none, false, { frames := 4, cells := 0, slots := 0, locals := 156 }, 0, 0, 0, 0)
theorem rmX7_readRow : z_Rm xX7_readRow := by unfold z_Rm xX7_readRow; exact ⟨by decide, by decide⟩
theorem reX7_readRow : z_Re xX7_readRow := ⟨rfl, rfl⟩
theorem rlX7_readRow : 1 ≤ xX7_readRow.2.2.2.2.2.1.frames ∧ 21 ≤ xX7_readRow.2.2.2.2.2.1.locals := by unfold xX7_readRow; exact ⟨by decide, by decide⟩
theorem meX7_readRow : z_Me yX7_readRow xX7_readRow 0 := ⟨wd474, wd111, by decide, by decide, by decide +kernel⟩
theorem fitX7_readRow_16 : z_Fit xX8_value xX7_readRow := by unfold z_Fit; simp only [xX8_value, xX7_readRow]; exact ⟨by decide, by decide⟩
theorem fitX7_readRow_120 : z_Fit xX8_kind xX7_readRow := by unfold z_Fit; simp only [xX8_kind, xX7_readRow]; exact ⟨by decide, by decide⟩
theorem fitX7_readRow_134 : z_Fit xX7_readColour xX7_readRow := by unfold z_Fit; simp only [xX7_readColour, xX7_readRow]; exact ⟨by decide, by decide⟩
theorem fitX7_readRow_137 : z_Fit xX1_append xX7_readRow := by unfold z_Fit; simp only [xX1_append, xX7_readRow]; exact ⟨by decide, by decide⟩
noncomputable def kX7_readRow_64 : zK zR := q_vret
noncomputable def kX7_readRow_146 : zK zR := q_vret
noncomputable def bX7_readRow_98 : zK ((zL × zS) ⊕ zR) := (q_iload 4 (q_push 8 (q_icmp_ge (q_dn kX7_readRow_146) (q_aload 0 (q_getI 7 6 (q_if_ne (q_dn kX7_readRow_146) (q_aload 0 (q_getR 7 0 (q_aload 0 (q_getI 7 8 (q_callV 8 fX8_kind 1 (q_push 21 (q_icmp_ne (q_dn kX7_readRow_146) (q_aload 0 (q_getR 7 2 (q_iload 1 (q_aload 0 (q_callV 7 fX7_readColour 0 (q_callV 1 fX1_append 2 (q_iinc 4 1 q_ag))))))))))))))))))))
noncomputable def kX7_readRow_98 : zK zR := q_lp (bX7_readRow_98)
noncomputable def kX7_readRow_52 : zK zR := (q_iload 1 (q_push 4 (q_icmp_ge kX7_readRow_64 (q_aload 0 (q_getI 7 6 (q_if_eq (q_aload 0 (q_getR 7 4 (q_iload 1 (q_lload 2 (q_last (q_aload 0 (q_getR 7 2 (q_dup (q_getI 1 0 (q_push 1 (q_iadd (q_putI 1 0 (q_aload 0 (q_dup (q_getI 7 8 (q_push 1 (q_iadd (q_putI 7 8 (q_push 0 (q_istore 4 kX7_readRow_98)))))))))))))))))))) kX7_readRow_64))))))
noncomputable def kX7_readRow_46 : zK ((zL × zS) ⊕ zR) := (q_iinc 4 1 q_ag)
noncomputable def bX7_readRow_23 : zK ((zL × zS) ⊕ zR) := (q_iload 4 (q_iload 1 (q_icmp_ge (q_dn kX7_readRow_52) (q_aload 0 (q_getR 7 4 (q_iload 4 (q_lald (q_lload 2 (q_lcmp (q_if_ne kX7_readRow_46 (q_aload 0 (q_push 3 (q_putI 7 6 kX7_readRow_46)))))))))))))
noncomputable def kX7_readRow_23 : zK zR := q_lp (bX7_readRow_23)
noncomputable def kX7_readRow_0 : zK zR := (q_aload 0 (q_getR 7 2 (q_getI 1 0 (q_istore 1 (q_aload 0 (q_getR 7 0 (q_aload 0 (q_getI 7 8 (q_callV 8 fX8_value 1 (q_lstore 2 (q_push 0 (q_istore 4 kX7_readRow_23))))))))))))
set_option maxRecDepth 100000 in
theorem tX7_readRow_64 {l : Launch} {D : zD} {B sz0 : Nat} {post : Option Value → zS → Prop} : zSnd l D B xX7_readRow sz0 post 64 kX7_readRow_64 (z_Jr post) := (s_vret dX7_readRow_64 rfl)
set_option maxRecDepth 100000 in
theorem tX7_readRow_146 {l : Launch} {D : zD} {B sz0 : Nat} {post : Option Value → zS → Prop} : zSnd l D B xX7_readRow sz0 post 146 kX7_readRow_146 (z_Jr post) := (s_vret dX7_readRow_146 rfl)
set_option maxRecDepth 100000 in
theorem tX7_readRow_98 {l : Launch} {D : zD} {B sz0 : Nat} {post : Option Value → zS → Prop} : zSnd l D B xX7_readRow sz0 post 98 kX7_readRow_98 (z_Jr post) := s_lp (body := bX7_readRow_98) (s_iload dX7_readRow_98 (s_bipush dX7_readRow_100 (by decide) (s_icmp_ge (tgt := 146) dX7_readRow_102 (by decide) (s_dn tX7_readRow_146) (s_aload_n dX7_readRow_105 rfl (s_getI (f := 6) dX7_readRow_106 clX7 (by decide) rfl wd311 (s_if_ne (tgt := 146) dX7_readRow_109 (by decide) (s_dn tX7_readRow_146) (s_aload_n dX7_readRow_112 rfl (s_getR (f := 0) dX7_readRow_113 clX7 (by decide) rfl wd329 (s_aload_n dX7_readRow_116 rfl (s_getI (f := 8) dX7_readRow_117 clX7 (by decide) rfl wd427 (s_callV (r := (RX8, TX8, 4)) dX7_readRow_120 mX8_kind meX8_kind wd121 wd122 rfl rfl reX8_kind rmX7_readRow (fitX7_readRow_120) wd429 (s_bipush dX7_readRow_123 (by decide) (s_icmp_ne (tgt := 146) dX7_readRow_125 (by decide) (s_dn tX7_readRow_146) (s_aload_n dX7_readRow_128 rfl (s_getR (f := 2) dX7_readRow_129 clX7 (by decide) rfl wd315 (s_iload_n dX7_readRow_132 rfl (s_aload_n dX7_readRow_133 rfl (s_callV (r := (RX7, TX7, 10)) dX7_readRow_134 mX7_readColour meX7_readColour wd468 wd469 rfl rfl reX7_readColour rmX7_readRow (fitX7_readRow_134) wd470 (s_callV (r := (RX1, TX1, 5)) dX7_readRow_137 mX1_append meX1_append wd471 wd472 rfl rfl reX1_append rmX7_readRow (fitX7_readRow_137) wd473 (s_iinc dX7_readRow_140 (by decide) (s_goto (tgt := 98) dX7_readRow_143 (by decide) s_ag)))))))))))))))))))))
set_option maxRecDepth 100000 in
theorem tX7_readRow_52 {l : Launch} {D : zD} {B sz0 : Nat} {post : Option Value → zS → Prop} : zSnd l D B xX7_readRow sz0 post 52 kX7_readRow_52 (z_Jr post) := (s_iload_n dX7_readRow_52 rfl (s_iconst dX7_readRow_53 (by decide) (s_icmp_ge (tgt := 64) dX7_readRow_54 (by decide) tX7_readRow_64 (s_aload_n dX7_readRow_57 rfl (s_getI (f := 6) dX7_readRow_58 clX7 (by decide) rfl wd311 (s_if_eq (tgt := 65) dX7_readRow_61 (by decide) (s_aload_n dX7_readRow_65 rfl (s_getR (f := 4) dX7_readRow_66 clX7 (by decide) rfl wd334 (s_iload_n dX7_readRow_69 rfl (s_lload_n dX7_readRow_70 rfl (s_last dX7_readRow_71 (s_aload_n dX7_readRow_72 rfl (s_getR (f := 2) dX7_readRow_73 clX7 (by decide) rfl wd315 (s_dup dX7_readRow_76 (s_getI (f := 0) dX7_readRow_77 clX1 (by decide) rfl wd467 (s_iconst dX7_readRow_80 (by decide) (s_iadd dX7_readRow_81 (s_putI (f := 0) dX7_readRow_82 clX1 (by decide) rfl rfl rfl wd467 (s_aload_n dX7_readRow_85 rfl (s_dup dX7_readRow_86 (s_getI (f := 8) dX7_readRow_87 clX7 (by decide) rfl wd427 (s_iconst dX7_readRow_90 (by decide) (s_iadd dX7_readRow_91 (s_putI (f := 8) dX7_readRow_92 clX7 (by decide) rfl rfl rfl wd427 (s_iconst dX7_readRow_95 (by decide) (s_istore dX7_readRow_96 tX7_readRow_98)))))))))))))))))))) tX7_readRow_64))))))
set_option maxRecDepth 100000 in
theorem tX7_readRow_46 {l : Launch} {D : zD} {B sz0 : Nat} {post : Option Value → zS → Prop} : zSnd l D B xX7_readRow sz0 post 46 kX7_readRow_46 (z_Jl l D B xX7_readRow sz0 post 23 (z_Jr post)) := (s_iinc dX7_readRow_46 (by decide) (s_goto (tgt := 23) dX7_readRow_49 (by decide) s_ag))
set_option maxRecDepth 100000 in
theorem tX7_readRow_23 {l : Launch} {D : zD} {B sz0 : Nat} {post : Option Value → zS → Prop} : zSnd l D B xX7_readRow sz0 post 23 kX7_readRow_23 (z_Jr post) := s_lp (body := bX7_readRow_23) (s_iload dX7_readRow_23 (s_iload_n dX7_readRow_25 rfl (s_icmp_ge (tgt := 52) dX7_readRow_26 (by decide) (s_dn tX7_readRow_52) (s_aload_n dX7_readRow_29 rfl (s_getR (f := 4) dX7_readRow_30 clX7 (by decide) rfl wd334 (s_iload dX7_readRow_33 (s_lald dX7_readRow_35 (s_lload_n dX7_readRow_36 rfl (s_lcmp dX7_readRow_37 (s_if_ne (tgt := 46) dX7_readRow_38 (by decide) tX7_readRow_46 (s_aload_n dX7_readRow_41 rfl (s_iconst dX7_readRow_42 (by decide) (s_putI (f := 6) dX7_readRow_43 clX7 (by decide) rfl rfl rfl wd311 tX7_readRow_46)))))))))))))
set_option maxRecDepth 100000 in
theorem tX7_readRow_0 {l : Launch} {D : zD} {B sz0 : Nat} {post : Option Value → zS → Prop} : zSnd l D B xX7_readRow sz0 post 0 kX7_readRow_0 (z_Jr post) := (s_aload_n dX7_readRow_0 rfl (s_getR (f := 2) dX7_readRow_1 clX7 (by decide) rfl wd315 (s_getI (f := 0) dX7_readRow_4 clX1 (by decide) rfl wd467 (s_istore_n dX7_readRow_7 rfl (s_aload_n dX7_readRow_8 rfl (s_getR (f := 0) dX7_readRow_9 clX7 (by decide) rfl wd329 (s_aload_n dX7_readRow_12 rfl (s_getI (f := 8) dX7_readRow_13 clX7 (by decide) rfl wd427 (s_callV (r := (RX8, TX8, 4)) dX7_readRow_16 mX8_value meX8_value wd129 wd130 rfl rfl reX8_value rmX7_readRow (fitX7_readRow_16) wd460 (s_lstore_n dX7_readRow_19 rfl (s_iconst dX7_readRow_20 (by decide) (s_istore dX7_readRow_21 tX7_readRow_23))))))))))))
noncomputable def fX7_readRow : zF := z_fn 5 kX7_readRow_0
theorem mX7_readRow {l : Launch} {D : zD} {B : Nat} : z_MF l D B yX7_readRow xX7_readRow fX7_readRow := z_mf (by decide) rfl (fun h => by cases h) rfl (fun as σ r h => ⟨z_fn_len h, kX7_readRow_0, z_fn_run h, fun _ => tX7_readRow_0⟩)
/-! ===== RowChildren$Text.readTell ===== -/
theorem dX7_readTell_0 : decode cX7_readTell 0 = .ok (.iload_n 1, 1) := by decide +kernel
theorem dX7_readTell_1 : decode cX7_readTell 1 = .ok (.ifCond .ne 19, 3) := by decide +kernel
theorem dX7_readTell_4 : decode cX7_readTell 4 = .ok (.aload_n 0, 1) := by decide +kernel
theorem dX7_readTell_5 : decode cX7_readTell 5 = .ok (.getfield 21, 3) := by decide +kernel
theorem dX7_readTell_8 : decode cX7_readTell 8 = .ok (.aload_n 0, 1) := by decide +kernel
theorem dX7_readTell_9 : decode cX7_readTell 9 = .ok (.iconst 2, 1) := by decide +kernel
theorem dX7_readTell_10 : decode cX7_readTell 10 = .ok (.iconst 4, 1) := by decide +kernel
theorem dX7_readTell_11 : decode cX7_readTell 11 = .ok (.invokevirtual 126, 3) := by decide +kernel
theorem dX7_readTell_14 : decode cX7_readTell 14 = .ok (.putfield 72, 3) := by decide +kernel
theorem dX7_readTell_17 : decode cX7_readTell 17 = .ok (.goto 92, 3) := by decide +kernel
theorem dX7_readTell_20 : decode cX7_readTell 20 = .ok (.iload_n 1, 1) := by decide +kernel
theorem dX7_readTell_21 : decode cX7_readTell 21 = .ok (.iconst 1, 1) := by decide +kernel
theorem dX7_readTell_22 : decode cX7_readTell 22 = .ok (.if_icmp .ne 29, 3) := by decide +kernel
theorem dX7_readTell_25 : decode cX7_readTell 25 = .ok (.aload_n 0, 1) := by decide +kernel
theorem dX7_readTell_26 : decode cX7_readTell 26 = .ok (.invokevirtual 130, 3) := by decide +kernel
theorem dX7_readTell_29 : decode cX7_readTell 29 = .ok (.istore_n 2, 1) := by decide +kernel
theorem dX7_readTell_30 : decode cX7_readTell 30 = .ok (.aload_n 0, 1) := by decide +kernel
theorem dX7_readTell_31 : decode cX7_readTell 31 = .ok (.invokevirtual 130, 3) := by decide +kernel
theorem dX7_readTell_34 : decode cX7_readTell 34 = .ok (.istore_n 3, 1) := by decide +kernel
theorem dX7_readTell_35 : decode cX7_readTell 35 = .ok (.aload_n 0, 1) := by decide +kernel
theorem dX7_readTell_36 : decode cX7_readTell 36 = .ok (.getfield 21, 3) := by decide +kernel
theorem dX7_readTell_39 : decode cX7_readTell 39 = .ok (.iload_n 2, 1) := by decide +kernel
theorem dX7_readTell_40 : decode cX7_readTell 40 = .ok (.iload_n 3, 1) := by decide +kernel
theorem dX7_readTell_41 : decode cX7_readTell 41 = .ok (.aload_n 0, 1) := by decide +kernel
theorem dX7_readTell_42 : decode cX7_readTell 42 = .ok (.invokevirtual 130, 3) := by decide +kernel
theorem dX7_readTell_45 : decode cX7_readTell 45 = .ok (.invokevirtual 134, 3) := by decide +kernel
theorem dX7_readTell_48 : decode cX7_readTell 48 = .ok (.goto 61, 3) := by decide +kernel
theorem dX7_readTell_51 : decode cX7_readTell 51 = .ok (.iload_n 1, 1) := by decide +kernel
theorem dX7_readTell_52 : decode cX7_readTell 52 = .ok (.iconst 2, 1) := by decide +kernel
theorem dX7_readTell_53 : decode cX7_readTell 53 = .ok (.if_icmp .ne 10, 3) := by decide +kernel
theorem dX7_readTell_56 : decode cX7_readTell 56 = .ok (.aload_n 0, 1) := by decide +kernel
theorem dX7_readTell_57 : decode cX7_readTell 57 = .ok (.invokevirtual 138, 3) := by decide +kernel
theorem dX7_readTell_60 : decode cX7_readTell 60 = .ok (.goto 49, 3) := by decide +kernel
theorem dX7_readTell_63 : decode cX7_readTell 63 = .ok (.iload_n 1, 1) := by decide +kernel
theorem dX7_readTell_64 : decode cX7_readTell 64 = .ok (.bipush 7, 2) := by decide +kernel
theorem dX7_readTell_66 : decode cX7_readTell 66 = .ok (.if_icmp .ne 18, 3) := by decide +kernel
theorem dX7_readTell_69 : decode cX7_readTell 69 = .ok (.aload_n 0, 1) := by decide +kernel
theorem dX7_readTell_70 : decode cX7_readTell 70 = .ok (.aload_n 0, 1) := by decide +kernel
theorem dX7_readTell_71 : decode cX7_readTell 71 = .ok (.iconst 0, 1) := by decide +kernel
theorem dX7_readTell_72 : decode cX7_readTell 72 = .ok (.sipush 9999, 3) := by decide +kernel
theorem dX7_readTell_75 : decode cX7_readTell 75 = .ok (.invokevirtual 126, 3) := by decide +kernel
theorem dX7_readTell_78 : decode cX7_readTell 78 = .ok (.putfield 80, 3) := by decide +kernel
theorem dX7_readTell_81 : decode cX7_readTell 81 = .ok (.goto 28, 3) := by decide +kernel
theorem dX7_readTell_84 : decode cX7_readTell 84 = .ok (.iload_n 1, 1) := by decide +kernel
theorem dX7_readTell_85 : decode cX7_readTell 85 = .ok (.iconst 3, 1) := by decide +kernel
theorem dX7_readTell_86 : decode cX7_readTell 86 = .ok (.if_icmp .lt 23, 3) := by decide +kernel
theorem dX7_readTell_89 : decode cX7_readTell 89 = .ok (.iload_n 1, 1) := by decide +kernel
theorem dX7_readTell_90 : decode cX7_readTell 90 = .ok (.bipush 6, 2) := by decide +kernel
theorem dX7_readTell_92 : decode cX7_readTell 92 = .ok (.if_icmp .gt 17, 3) := by decide +kernel
theorem dX7_readTell_95 : decode cX7_readTell 95 = .ok (.aload_n 0, 1) := by decide +kernel
theorem dX7_readTell_96 : decode cX7_readTell 96 = .ok (.getfield 32, 3) := by decide +kernel
theorem dX7_readTell_99 : decode cX7_readTell 99 = .ok (.iload_n 1, 1) := by decide +kernel
theorem dX7_readTell_100 : decode cX7_readTell 100 = .ok (.iconst 3, 1) := by decide +kernel
theorem dX7_readTell_101 : decode cX7_readTell 101 = .ok (.isub, 1) := by decide +kernel
theorem dX7_readTell_102 : decode cX7_readTell 102 = .ok (.aload_n 0, 1) := by decide +kernel
theorem dX7_readTell_103 : decode cX7_readTell 103 = .ok (.getfield 60, 3) := by decide +kernel
theorem dX7_readTell_106 : decode cX7_readTell 106 = .ok (.iconst 1, 1) := by decide +kernel
theorem dX7_readTell_107 : decode cX7_readTell 107 = .ok (.iadd, 1) := by decide +kernel
theorem dX7_readTell_108 : decode cX7_readTell 108 = .ok (.iastore, 1) := by decide +kernel
theorem dX7_readTell_109 : decode cX7_readTell 109 = .ok (.return_, 1) := by decide +kernel
def xX7_readTell : zX := (RX7, cX7_readTell, 4, none, false, { frames := 5, cells := 0, slots := 0, locals := 180 }, 0, 0, 0, 0)
theorem rmX7_readTell : z_Rm xX7_readTell := by unfold z_Rm xX7_readTell; exact ⟨by decide, by decide⟩
theorem reX7_readTell : z_Re xX7_readTell := ⟨rfl, rfl⟩
theorem rlX7_readTell : 1 ≤ xX7_readTell.2.2.2.2.2.1.frames ∧ 21 ≤ xX7_readTell.2.2.2.2.2.1.locals := by unfold xX7_readTell; exact ⟨by decide, by decide⟩
theorem meX7_readTell : z_Me yX7_readTell xX7_readTell 1 := ⟨wd480, wd111, by decide, by decide, by decide +kernel⟩
theorem fitX7_readTell_75 : z_Fit xX7_readNumber xX7_readTell := by unfold z_Fit; simp only [xX7_readNumber, xX7_readTell]; exact ⟨by decide, by decide⟩
theorem fitX7_readTell_57 : z_Fit xX7_readRow xX7_readTell := by unfold z_Fit; simp only [xX7_readRow, xX7_readTell]; exact ⟨by decide, by decide⟩
theorem fitX7_readTell_26 : z_Fit xX7_readColour xX7_readTell := by unfold z_Fit; simp only [xX7_readColour, xX7_readTell]; exact ⟨by decide, by decide⟩
theorem fitX7_readTell_31 : z_Fit xX7_readColour xX7_readTell := by unfold z_Fit; simp only [xX7_readColour, xX7_readTell]; exact ⟨by decide, by decide⟩
theorem fitX7_readTell_42 : z_Fit xX7_readColour xX7_readTell := by unfold z_Fit; simp only [xX7_readColour, xX7_readTell]; exact ⟨by decide, by decide⟩
theorem fitX7_readTell_45 : z_Fit xX5_setChild xX7_readTell := by unfold z_Fit; simp only [xX5_setChild, xX7_readTell]; exact ⟨by decide, by decide⟩
theorem fitX7_readTell_11 : z_Fit xX7_readNumber xX7_readTell := by unfold z_Fit; simp only [xX7_readNumber, xX7_readTell]; exact ⟨by decide, by decide⟩
noncomputable def kX7_readTell_109 : zK zR := q_vret
noncomputable def kX7_readTell_0 : zK zR := (q_iload 1 (q_if_ne (q_iload 1 (q_push 1 (q_icmp_ne (q_iload 1 (q_push 2 (q_icmp_ne (q_iload 1 (q_push 7 (q_icmp_ne (q_iload 1 (q_push 3 (q_icmp_lt kX7_readTell_109 (q_iload 1 (q_push 6 (q_icmp_gt kX7_readTell_109 (q_aload 0 (q_getR 7 3 (q_iload 1 (q_push 3 (q_isub (q_aload 0 (q_getI 7 8 (q_push 1 (q_iadd (q_iast kX7_readTell_109)))))))))))))))) (q_aload 0 (q_aload 0 (q_push 0 (q_push 9999 (q_callV 7 fX7_readNumber 2 (q_putI 7 5 kX7_readTell_109))))))))) (q_aload 0 (q_callV 7 fX7_readRow 0 kX7_readTell_109))))) (q_aload 0 (q_callV 7 fX7_readColour 0 (q_istore 2 (q_aload 0 (q_callV 7 fX7_readColour 0 (q_istore 3 (q_aload 0 (q_getR 7 1 (q_iload 2 (q_iload 3 (q_aload 0 (q_callV 7 fX7_readColour 0 (q_callV 5 fX5_setChild 3 kX7_readTell_109)))))))))))))))) (q_aload 0 (q_getR 7 1 (q_aload 0 (q_push 2 (q_push 4 (q_callV 7 fX7_readNumber 2 (q_putI 5 0 kX7_readTell_109)))))))))
set_option maxRecDepth 100000 in
theorem tX7_readTell_109 {l : Launch} {D : zD} {B sz0 : Nat} {post : Option Value → zS → Prop} : zSnd l D B xX7_readTell sz0 post 109 kX7_readTell_109 (z_Jr post) := (s_vret dX7_readTell_109 rfl)
set_option maxRecDepth 100000 in
theorem tX7_readTell_0 {l : Launch} {D : zD} {B sz0 : Nat} {post : Option Value → zS → Prop} : zSnd l D B xX7_readTell sz0 post 0 kX7_readTell_0 (z_Jr post) := (s_iload_n dX7_readTell_0 rfl (s_if_ne (tgt := 20) dX7_readTell_1 (by decide) (s_iload_n dX7_readTell_20 rfl (s_iconst dX7_readTell_21 (by decide) (s_icmp_ne (tgt := 51) dX7_readTell_22 (by decide) (s_iload_n dX7_readTell_51 rfl (s_iconst dX7_readTell_52 (by decide) (s_icmp_ne (tgt := 63) dX7_readTell_53 (by decide) (s_iload_n dX7_readTell_63 rfl (s_bipush dX7_readTell_64 (by decide) (s_icmp_ne (tgt := 84) dX7_readTell_66 (by decide) (s_iload_n dX7_readTell_84 rfl (s_iconst dX7_readTell_85 (by decide) (s_icmp_lt (tgt := 109) dX7_readTell_86 (by decide) tX7_readTell_109 (s_iload_n dX7_readTell_89 rfl (s_bipush dX7_readTell_90 (by decide) (s_icmp_gt (tgt := 109) dX7_readTell_92 (by decide) tX7_readTell_109 (s_aload_n dX7_readTell_95 rfl (s_getR (f := 3) dX7_readTell_96 clX7 (by decide) rfl wd323 (s_iload_n dX7_readTell_99 rfl (s_iconst dX7_readTell_100 (by decide) (s_isub dX7_readTell_101 (s_aload_n dX7_readTell_102 rfl (s_getI (f := 8) dX7_readTell_103 clX7 (by decide) rfl wd427 (s_iconst dX7_readTell_106 (by decide) (s_iadd dX7_readTell_107 (s_iast dX7_readTell_108 tX7_readTell_109)))))))))))))))) (s_aload_n dX7_readTell_69 rfl (s_aload_n dX7_readTell_70 rfl (s_iconst dX7_readTell_71 (by decide) (s_sipush dX7_readTell_72 (by decide) (s_callV (r := (RX7, TX7, 10)) dX7_readTell_75 mX7_readNumber meX7_readNumber wd462 wd463 rfl rfl reX7_readNumber rmX7_readTell (fitX7_readTell_75) wd464 (s_putI (f := 5) dX7_readTell_78 clX7 (by decide) rfl rfl rfl wd313 (s_goto (tgt := 109) dX7_readTell_81 (by decide) tX7_readTell_109)))))))))) (s_aload_n dX7_readTell_56 rfl (s_callV (r := (RX7, TX7, 10)) dX7_readTell_57 mX7_readRow meX7_readRow wd475 wd476 rfl rfl reX7_readRow rmX7_readTell (fitX7_readTell_57) wd477 (s_goto (tgt := 109) dX7_readTell_60 (by decide) tX7_readTell_109)))))) (s_aload_n dX7_readTell_25 rfl (s_callV (r := (RX7, TX7, 10)) dX7_readTell_26 mX7_readColour meX7_readColour wd468 wd469 rfl rfl reX7_readColour rmX7_readTell (fitX7_readTell_26) wd470 (s_istore_n dX7_readTell_29 rfl (s_aload_n dX7_readTell_30 rfl (s_callV (r := (RX7, TX7, 10)) dX7_readTell_31 mX7_readColour meX7_readColour wd468 wd469 rfl rfl reX7_readColour rmX7_readTell (fitX7_readTell_31) wd470 (s_istore_n dX7_readTell_34 rfl (s_aload_n dX7_readTell_35 rfl (s_getR (f := 1) dX7_readTell_36 clX7 (by decide) rfl wd319 (s_iload_n dX7_readTell_39 rfl (s_iload_n dX7_readTell_40 rfl (s_aload_n dX7_readTell_41 rfl (s_callV (r := (RX7, TX7, 10)) dX7_readTell_42 mX7_readColour meX7_readColour wd468 wd469 rfl rfl reX7_readColour rmX7_readTell (fitX7_readTell_42) wd470 (s_callV (r := (RX5, TX5, 7)) dX7_readTell_45 mX5_setChild meX5_setChild wd245 wd246 rfl rfl reX5_setChild rmX7_readTell (fitX7_readTell_45) wd478 (s_goto (tgt := 109) dX7_readTell_48 (by decide) tX7_readTell_109))))))))))))))))) (s_aload_n dX7_readTell_4 rfl (s_getR (f := 1) dX7_readTell_5 clX7 (by decide) rfl wd319 (s_aload_n dX7_readTell_8 rfl (s_iconst dX7_readTell_9 (by decide) (s_iconst dX7_readTell_10 (by decide) (s_callV (r := (RX7, TX7, 10)) dX7_readTell_11 mX7_readNumber meX7_readNumber wd462 wd463 rfl rfl reX7_readNumber rmX7_readTell (fitX7_readTell_11) wd464 (s_putI (f := 0) dX7_readTell_14 clX5 (by decide) rfl rfl rfl wd479 (s_goto (tgt := 109) dX7_readTell_17 (by decide) tX7_readTell_109))))))))))
noncomputable def fX7_readTell : zF := z_fn 4 kX7_readTell_0
theorem mX7_readTell {l : Launch} {D : zD} {B : Nat} : z_MF l D B yX7_readTell xX7_readTell fX7_readTell := z_mf (by decide) rfl (fun h => by cases h) rfl (fun as σ r h => ⟨z_fn_len h, kX7_readTell_0, z_fn_run h, fun _ => tX7_readTell_0⟩)
/-! ===== RowChildren$Text.passSemicolon ===== -/
theorem dX7_passSemicolon_0 : decode cX7_passSemicolon 0 = .ok (.aload_n 0, 1) := by decide +kernel
theorem dX7_passSemicolon_1 : decode cX7_passSemicolon 1 = .ok (.getfield 53, 3) := by decide +kernel
theorem dX7_passSemicolon_4 : decode cX7_passSemicolon 4 = .ok (.ifCond .eq 4, 3) := by decide +kernel
theorem dX7_passSemicolon_7 : decode cX7_passSemicolon 7 = .ok (.return_, 1) := by decide +kernel
theorem dX7_passSemicolon_8 : decode cX7_passSemicolon 8 = .ok (.aload_n 0, 1) := by decide +kernel
theorem dX7_passSemicolon_9 : decode cX7_passSemicolon 9 = .ok (.getfield 60, 3) := by decide +kernel
theorem dX7_passSemicolon_12 : decode cX7_passSemicolon 12 = .ok (.sipush 400, 3) := by decide +kernel
theorem dX7_passSemicolon_15 : decode cX7_passSemicolon 15 = .ok (.if_icmp .ge 32, 3) := by decide +kernel
theorem dX7_passSemicolon_18 : decode cX7_passSemicolon 18 = .ok (.aload_n 0, 1) := by decide +kernel
theorem dX7_passSemicolon_19 : decode cX7_passSemicolon 19 = .ok (.getfield 12, 3) := by decide +kernel
theorem dX7_passSemicolon_22 : decode cX7_passSemicolon 22 = .ok (.aload_n 0, 1) := by decide +kernel
theorem dX7_passSemicolon_23 : decode cX7_passSemicolon 23 = .ok (.getfield 60, 3) := by decide +kernel
theorem dX7_passSemicolon_26 : decode cX7_passSemicolon 26 = .ok (.invokevirtual 87, 3) := by decide +kernel
theorem dX7_passSemicolon_29 : decode cX7_passSemicolon 29 = .ok (.bipush 59, 2) := by decide +kernel
theorem dX7_passSemicolon_31 : decode cX7_passSemicolon 31 = .ok (.if_icmp .eq 16, 3) := by decide +kernel
theorem dX7_passSemicolon_34 : decode cX7_passSemicolon 34 = .ok (.aload_n 0, 1) := by decide +kernel
theorem dX7_passSemicolon_35 : decode cX7_passSemicolon 35 = .ok (.dup, 1) := by decide +kernel
theorem dX7_passSemicolon_36 : decode cX7_passSemicolon 36 = .ok (.getfield 60, 3) := by decide +kernel
theorem dX7_passSemicolon_39 : decode cX7_passSemicolon 39 = .ok (.iconst 1, 1) := by decide +kernel
theorem dX7_passSemicolon_40 : decode cX7_passSemicolon 40 = .ok (.iadd, 1) := by decide +kernel
theorem dX7_passSemicolon_41 : decode cX7_passSemicolon 41 = .ok (.putfield 60, 3) := by decide +kernel
theorem dX7_passSemicolon_44 : decode cX7_passSemicolon 44 = .ok (.goto (-36), 3) := by decide +kernel
theorem dX7_passSemicolon_47 : decode cX7_passSemicolon 47 = .ok (.aload_n 0, 1) := by decide +kernel
theorem dX7_passSemicolon_48 : decode cX7_passSemicolon 48 = .ok (.dup, 1) := by decide +kernel
theorem dX7_passSemicolon_49 : decode cX7_passSemicolon 49 = .ok (.getfield 60, 3) := by decide +kernel
theorem dX7_passSemicolon_52 : decode cX7_passSemicolon 52 = .ok (.iconst 1, 1) := by decide +kernel
theorem dX7_passSemicolon_53 : decode cX7_passSemicolon 53 = .ok (.iadd, 1) := by decide +kernel
theorem dX7_passSemicolon_54 : decode cX7_passSemicolon 54 = .ok (.putfield 60, 3) := by decide +kernel
theorem dX7_passSemicolon_57 : decode cX7_passSemicolon 57 = .ok (.return_, 1) := by decide +kernel
def xX7_passSemicolon : zX := (RX7, cX7_passSemicolon, 1, none, false, { frames := 2, cells := 0, slots := 0, locals := 111 }, 0, 0, 0, 0)
theorem rmX7_passSemicolon : z_Rm xX7_passSemicolon := by unfold z_Rm xX7_passSemicolon; exact ⟨by decide, by decide⟩
theorem reX7_passSemicolon : z_Re xX7_passSemicolon := ⟨rfl, rfl⟩
theorem rlX7_passSemicolon : 1 ≤ xX7_passSemicolon.2.2.2.2.2.1.frames ∧ 21 ≤ xX7_passSemicolon.2.2.2.2.2.1.locals := by unfold xX7_passSemicolon; exact ⟨by decide, by decide⟩
theorem meX7_passSemicolon : z_Me yX7_passSemicolon xX7_passSemicolon 0 := ⟨wd481, wd111, by decide, by decide, by decide +kernel⟩
theorem fitX7_passSemicolon_26 : z_Fit xX8_kind xX7_passSemicolon := by unfold z_Fit; simp only [xX8_kind, xX7_passSemicolon]; exact ⟨by decide, by decide⟩
noncomputable def kX7_passSemicolon_47 : zK zR := (q_aload 0 (q_dup (q_getI 7 8 (q_push 1 (q_iadd (q_putI 7 8 q_vret))))))
noncomputable def bX7_passSemicolon_8 : zK ((zL × zS) ⊕ zR) := (q_aload 0 (q_getI 7 8 (q_push 400 (q_icmp_ge (q_dn kX7_passSemicolon_47) (q_aload 0 (q_getR 7 0 (q_aload 0 (q_getI 7 8 (q_callV 8 fX8_kind 1 (q_push 59 (q_icmp_eq (q_dn kX7_passSemicolon_47) (q_aload 0 (q_dup (q_getI 7 8 (q_push 1 (q_iadd (q_putI 7 8 q_ag)))))))))))))))))
noncomputable def kX7_passSemicolon_8 : zK zR := q_lp (bX7_passSemicolon_8)
noncomputable def kX7_passSemicolon_0 : zK zR := (q_aload 0 (q_getI 7 6 (q_if_eq kX7_passSemicolon_8 q_vret)))
set_option maxRecDepth 100000 in
theorem tX7_passSemicolon_47 {l : Launch} {D : zD} {B sz0 : Nat} {post : Option Value → zS → Prop} : zSnd l D B xX7_passSemicolon sz0 post 47 kX7_passSemicolon_47 (z_Jr post) := (s_aload_n dX7_passSemicolon_47 rfl (s_dup dX7_passSemicolon_48 (s_getI (f := 8) dX7_passSemicolon_49 clX7 (by decide) rfl wd427 (s_iconst dX7_passSemicolon_52 (by decide) (s_iadd dX7_passSemicolon_53 (s_putI (f := 8) dX7_passSemicolon_54 clX7 (by decide) rfl rfl rfl wd427 (s_vret dX7_passSemicolon_57 rfl)))))))
set_option maxRecDepth 100000 in
theorem tX7_passSemicolon_8 {l : Launch} {D : zD} {B sz0 : Nat} {post : Option Value → zS → Prop} : zSnd l D B xX7_passSemicolon sz0 post 8 kX7_passSemicolon_8 (z_Jr post) := s_lp (body := bX7_passSemicolon_8) (s_aload_n dX7_passSemicolon_8 rfl (s_getI (f := 8) dX7_passSemicolon_9 clX7 (by decide) rfl wd427 (s_sipush dX7_passSemicolon_12 (by decide) (s_icmp_ge (tgt := 47) dX7_passSemicolon_15 (by decide) (s_dn tX7_passSemicolon_47) (s_aload_n dX7_passSemicolon_18 rfl (s_getR (f := 0) dX7_passSemicolon_19 clX7 (by decide) rfl wd329 (s_aload_n dX7_passSemicolon_22 rfl (s_getI (f := 8) dX7_passSemicolon_23 clX7 (by decide) rfl wd427 (s_callV (r := (RX8, TX8, 4)) dX7_passSemicolon_26 mX8_kind meX8_kind wd121 wd122 rfl rfl reX8_kind rmX7_passSemicolon (fitX7_passSemicolon_26) wd429 (s_bipush dX7_passSemicolon_29 (by decide) (s_icmp_eq (tgt := 47) dX7_passSemicolon_31 (by decide) (s_dn tX7_passSemicolon_47) (s_aload_n dX7_passSemicolon_34 rfl (s_dup dX7_passSemicolon_35 (s_getI (f := 8) dX7_passSemicolon_36 clX7 (by decide) rfl wd427 (s_iconst dX7_passSemicolon_39 (by decide) (s_iadd dX7_passSemicolon_40 (s_putI (f := 8) dX7_passSemicolon_41 clX7 (by decide) rfl rfl rfl wd427 (s_goto (tgt := 8) dX7_passSemicolon_44 (by decide) s_ag))))))))))))))))))
set_option maxRecDepth 100000 in
theorem tX7_passSemicolon_0 {l : Launch} {D : zD} {B sz0 : Nat} {post : Option Value → zS → Prop} : zSnd l D B xX7_passSemicolon sz0 post 0 kX7_passSemicolon_0 (z_Jr post) := (s_aload_n dX7_passSemicolon_0 rfl (s_getI (f := 6) dX7_passSemicolon_1 clX7 (by decide) rfl wd311 (s_if_eq (tgt := 8) dX7_passSemicolon_4 (by decide) tX7_passSemicolon_8 (s_vret dX7_passSemicolon_7 rfl))))
noncomputable def fX7_passSemicolon : zF := z_fn 1 kX7_passSemicolon_0
theorem mX7_passSemicolon {l : Launch} {D : zD} {B : Nat} : z_MF l D B yX7_passSemicolon xX7_passSemicolon fX7_passSemicolon := z_mf (by decide) rfl (fun h => by cases h) rfl (fun as σ r h => ⟨z_fn_len h, kX7_passSemicolon_0, z_fn_run h, fun _ => tX7_passSemicolon_0⟩)
/-! ===== RowChildren$Text.readTells ===== -/
theorem dX7_readTells_0 : decode cX7_readTells 0 = .ok (.aload_n 0, 1) := by decide +kernel
theorem dX7_readTells_1 : decode cX7_readTells 1 = .ok (.iconst 0, 1) := by decide +kernel
theorem dX7_readTells_2 : decode cX7_readTells 2 = .ok (.putfield 60, 3) := by decide +kernel
theorem dX7_readTells_5 : decode cX7_readTells 5 = .ok (.iconst 0, 1) := by decide +kernel
theorem dX7_readTells_6 : decode cX7_readTells 6 = .ok (.istore_n 1, 1) := by decide +kernel
theorem dX7_readTells_7 : decode cX7_readTells 7 = .ok (.iload_n 1, 1) := by decide +kernel
theorem dX7_readTells_8 : decode cX7_readTells 8 = .ok (.sipush 400, 3) := by decide +kernel
theorem dX7_readTells_11 : decode cX7_readTells 11 = .ok (.if_icmp .ge 63, 3) := by decide +kernel
theorem dX7_readTells_14 : decode cX7_readTells 14 = .ok (.aload_n 0, 1) := by decide +kernel
theorem dX7_readTells_15 : decode cX7_readTells 15 = .ok (.getfield 53, 3) := by decide +kernel
theorem dX7_readTells_18 : decode cX7_readTells 18 = .ok (.ifCond .ne 56, 3) := by decide +kernel
theorem dX7_readTells_21 : decode cX7_readTells 21 = .ok (.aload_n 0, 1) := by decide +kernel
theorem dX7_readTells_22 : decode cX7_readTells 22 = .ok (.getfield 12, 3) := by decide +kernel
theorem dX7_readTells_25 : decode cX7_readTells 25 = .ok (.aload_n 0, 1) := by decide +kernel
theorem dX7_readTells_26 : decode cX7_readTells 26 = .ok (.getfield 60, 3) := by decide +kernel
theorem dX7_readTells_29 : decode cX7_readTells 29 = .ok (.invokevirtual 87, 3) := by decide +kernel
theorem dX7_readTells_32 : decode cX7_readTells 32 = .ok (.bipush 22, 2) := by decide +kernel
theorem dX7_readTells_34 : decode cX7_readTells 34 = .ok (.if_icmp .eq 40, 3) := by decide +kernel
theorem dX7_readTells_37 : decode cX7_readTells 37 = .ok (.aload_n 0, 1) := by decide +kernel
theorem dX7_readTells_38 : decode cX7_readTells 38 = .ok (.getfield 12, 3) := by decide +kernel
theorem dX7_readTells_41 : decode cX7_readTells 41 = .ok (.aload_n 0, 1) := by decide +kernel
theorem dX7_readTells_42 : decode cX7_readTells 42 = .ok (.getfield 60, 3) := by decide +kernel
theorem dX7_readTells_45 : decode cX7_readTells 45 = .ok (.invokevirtual 87, 3) := by decide +kernel
theorem dX7_readTells_48 : decode cX7_readTells 48 = .ok (.istore_n 2, 1) := by decide +kernel
theorem dX7_readTells_49 : decode cX7_readTells 49 = .ok (.aload_n 0, 1) := by decide +kernel
theorem dX7_readTells_50 : decode cX7_readTells 50 = .ok (.dup, 1) := by decide +kernel
theorem dX7_readTells_51 : decode cX7_readTells 51 = .ok (.getfield 60, 3) := by decide +kernel
theorem dX7_readTells_54 : decode cX7_readTells 54 = .ok (.iconst 1, 1) := by decide +kernel
theorem dX7_readTells_55 : decode cX7_readTells 55 = .ok (.iadd, 1) := by decide +kernel
theorem dX7_readTells_56 : decode cX7_readTells 56 = .ok (.putfield 60, 3) := by decide +kernel
theorem dX7_readTells_59 : decode cX7_readTells 59 = .ok (.aload_n 0, 1) := by decide +kernel
theorem dX7_readTells_60 : decode cX7_readTells 60 = .ok (.iload_n 2, 1) := by decide +kernel
theorem dX7_readTells_61 : decode cX7_readTells 61 = .ok (.invokevirtual 120, 3) := by decide +kernel
theorem dX7_readTells_64 : decode cX7_readTells 64 = .ok (.aload_n 0, 1) := by decide +kernel
theorem dX7_readTells_65 : decode cX7_readTells 65 = .ok (.invokevirtual 123, 3) := by decide +kernel
theorem dX7_readTells_68 : decode cX7_readTells 68 = .ok (.iinc 1 1, 3) := by decide +kernel
theorem dX7_readTells_71 : decode cX7_readTells 71 = .ok (.goto (-64), 3) := by decide +kernel
theorem dX7_readTells_74 : decode cX7_readTells 74 = .ok (.return_, 1) := by decide +kernel
def xX7_readTells : zX := (RX7, cX7_readTells, 3, none, false, { frames := 6, cells := 0, slots := 0, locals := 203 }, 0, 0, 0, 0)
theorem rmX7_readTells : z_Rm xX7_readTells := by unfold z_Rm xX7_readTells; exact ⟨by decide, by decide⟩
theorem reX7_readTells : z_Re xX7_readTells := ⟨rfl, rfl⟩
theorem rlX7_readTells : 1 ≤ xX7_readTells.2.2.2.2.2.1.frames ∧ 21 ≤ xX7_readTells.2.2.2.2.2.1.locals := by unfold xX7_readTells; exact ⟨by decide, by decide⟩
theorem meX7_readTells : z_Me yX7_readTells xX7_readTells 0 := ⟨wd488, wd111, by decide, by decide, by decide +kernel⟩
theorem fitX7_readTells_29 : z_Fit xX8_kind xX7_readTells := by unfold z_Fit; simp only [xX8_kind, xX7_readTells]; exact ⟨by decide, by decide⟩
theorem fitX7_readTells_45 : z_Fit xX8_kind xX7_readTells := by unfold z_Fit; simp only [xX8_kind, xX7_readTells]; exact ⟨by decide, by decide⟩
theorem fitX7_readTells_61 : z_Fit xX7_readTell xX7_readTells := by unfold z_Fit; simp only [xX7_readTell, xX7_readTells]; exact ⟨by decide, by decide⟩
theorem fitX7_readTells_65 : z_Fit xX7_passSemicolon xX7_readTells := by unfold z_Fit; simp only [xX7_passSemicolon, xX7_readTells]; exact ⟨by decide, by decide⟩
noncomputable def kX7_readTells_74 : zK zR := q_vret
noncomputable def bX7_readTells_7 : zK ((zL × zS) ⊕ zR) := (q_iload 1 (q_push 400 (q_icmp_ge (q_dn kX7_readTells_74) (q_aload 0 (q_getI 7 6 (q_if_ne (q_dn kX7_readTells_74) (q_aload 0 (q_getR 7 0 (q_aload 0 (q_getI 7 8 (q_callV 8 fX8_kind 1 (q_push 22 (q_icmp_eq (q_dn kX7_readTells_74) (q_aload 0 (q_getR 7 0 (q_aload 0 (q_getI 7 8 (q_callV 8 fX8_kind 1 (q_istore 2 (q_aload 0 (q_dup (q_getI 7 8 (q_push 1 (q_iadd (q_putI 7 8 (q_aload 0 (q_iload 2 (q_callV 7 fX7_readTell 1 (q_aload 0 (q_callV 7 fX7_passSemicolon 0 (q_iinc 1 1 q_ag)))))))))))))))))))))))))))))))
noncomputable def kX7_readTells_7 : zK zR := q_lp (bX7_readTells_7)
noncomputable def kX7_readTells_0 : zK zR := (q_aload 0 (q_push 0 (q_putI 7 8 (q_push 0 (q_istore 1 kX7_readTells_7)))))
set_option maxRecDepth 100000 in
theorem tX7_readTells_74 {l : Launch} {D : zD} {B sz0 : Nat} {post : Option Value → zS → Prop} : zSnd l D B xX7_readTells sz0 post 74 kX7_readTells_74 (z_Jr post) := (s_vret dX7_readTells_74 rfl)
set_option maxRecDepth 100000 in
theorem tX7_readTells_7 {l : Launch} {D : zD} {B sz0 : Nat} {post : Option Value → zS → Prop} : zSnd l D B xX7_readTells sz0 post 7 kX7_readTells_7 (z_Jr post) := s_lp (body := bX7_readTells_7) (s_iload_n dX7_readTells_7 rfl (s_sipush dX7_readTells_8 (by decide) (s_icmp_ge (tgt := 74) dX7_readTells_11 (by decide) (s_dn tX7_readTells_74) (s_aload_n dX7_readTells_14 rfl (s_getI (f := 6) dX7_readTells_15 clX7 (by decide) rfl wd311 (s_if_ne (tgt := 74) dX7_readTells_18 (by decide) (s_dn tX7_readTells_74) (s_aload_n dX7_readTells_21 rfl (s_getR (f := 0) dX7_readTells_22 clX7 (by decide) rfl wd329 (s_aload_n dX7_readTells_25 rfl (s_getI (f := 8) dX7_readTells_26 clX7 (by decide) rfl wd427 (s_callV (r := (RX8, TX8, 4)) dX7_readTells_29 mX8_kind meX8_kind wd121 wd122 rfl rfl reX8_kind rmX7_readTells (fitX7_readTells_29) wd429 (s_bipush dX7_readTells_32 (by decide) (s_icmp_eq (tgt := 74) dX7_readTells_34 (by decide) (s_dn tX7_readTells_74) (s_aload_n dX7_readTells_37 rfl (s_getR (f := 0) dX7_readTells_38 clX7 (by decide) rfl wd329 (s_aload_n dX7_readTells_41 rfl (s_getI (f := 8) dX7_readTells_42 clX7 (by decide) rfl wd427 (s_callV (r := (RX8, TX8, 4)) dX7_readTells_45 mX8_kind meX8_kind wd121 wd122 rfl rfl reX8_kind rmX7_readTells (fitX7_readTells_45) wd429 (s_istore_n dX7_readTells_48 rfl (s_aload_n dX7_readTells_49 rfl (s_dup dX7_readTells_50 (s_getI (f := 8) dX7_readTells_51 clX7 (by decide) rfl wd427 (s_iconst dX7_readTells_54 (by decide) (s_iadd dX7_readTells_55 (s_putI (f := 8) dX7_readTells_56 clX7 (by decide) rfl rfl rfl wd427 (s_aload_n dX7_readTells_59 rfl (s_iload_n dX7_readTells_60 rfl (s_callV (r := (RX7, TX7, 10)) dX7_readTells_61 mX7_readTell meX7_readTell wd482 wd483 rfl rfl reX7_readTell rmX7_readTells (fitX7_readTells_61) wd484 (s_aload_n dX7_readTells_64 rfl (s_callV (r := (RX7, TX7, 10)) dX7_readTells_65 mX7_passSemicolon meX7_passSemicolon wd485 wd486 rfl rfl reX7_passSemicolon rmX7_readTells (fitX7_readTells_65) wd487 (s_iinc dX7_readTells_68 (by decide) (s_goto (tgt := 7) dX7_readTells_71 (by decide) s_ag))))))))))))))))))))))))))))))))
set_option maxRecDepth 100000 in
theorem tX7_readTells_0 {l : Launch} {D : zD} {B sz0 : Nat} {post : Option Value → zS → Prop} : zSnd l D B xX7_readTells sz0 post 0 kX7_readTells_0 (z_Jr post) := (s_aload_n dX7_readTells_0 rfl (s_iconst dX7_readTells_1 (by decide) (s_putI (f := 8) dX7_readTells_2 clX7 (by decide) rfl rfl rfl wd427 (s_iconst dX7_readTells_5 (by decide) (s_istore_n dX7_readTells_6 rfl tX7_readTells_7)))))
noncomputable def fX7_readTells : zF := z_fn 3 kX7_readTells_0
theorem mX7_readTells {l : Launch} {D : zD} {B : Nat} : z_MF l D B yX7_readTells xX7_readTells fX7_readTells := z_mf (by decide) rfl (fun h => by cases h) rfl (fun as σ r h => ⟨z_fn_len h, kX7_readTells_0, z_fn_run h, fun _ => tX7_readTells_0⟩)
/-! ===== RowChildren$Tokens.start ===== -/
theorem dX8_start_0 : decode cX8_start 0 = .ok (.iload_n 1, 1) := by decide +kernel
theorem dX8_start_1 : decode cX8_start 1 = .ok (.ifCond .lt 20, 3) := by decide +kernel
theorem dX8_start_4 : decode cX8_start 4 = .ok (.iload_n 1, 1) := by decide +kernel
theorem dX8_start_5 : decode cX8_start 5 = .ok (.aload_n 0, 1) := by decide +kernel
theorem dX8_start_6 : decode cX8_start 6 = .ok (.getfield 22, 3) := by decide +kernel
theorem dX8_start_9 : decode cX8_start 9 = .ok (.if_icmp .ge 12, 3) := by decide +kernel
theorem dX8_start_12 : decode cX8_start 12 = .ok (.aload_n 0, 1) := by decide +kernel
theorem dX8_start_13 : decode cX8_start 13 = .ok (.getfield 19, 3) := by decide +kernel
theorem dX8_start_16 : decode cX8_start 16 = .ok (.iload_n 1, 1) := by decide +kernel
theorem dX8_start_17 : decode cX8_start 17 = .ok (.iaload, 1) := by decide +kernel
theorem dX8_start_18 : decode cX8_start 18 = .ok (.goto 4, 3) := by decide +kernel
theorem dX8_start_21 : decode cX8_start 21 = .ok (.iconst (-1), 1) := by decide +kernel
theorem dX8_start_22 : decode cX8_start 22 = .ok (.ireturn, 1) := by decide +kernel
def xX8_start : zX := (RX8, cX8_start, 2, (some .int), false, { frames := 1, cells := 0, slots := 0, locals := 90 }, 0, 0, 0, 0)
theorem rmX8_start : z_Rm xX8_start := by unfold z_Rm xX8_start; exact ⟨by decide, by decide⟩
theorem reX8_start : z_Re xX8_start := ⟨rfl, rfl⟩
theorem rlX8_start : 1 ≤ xX8_start.2.2.2.2.2.1.frames ∧ 21 ≤ xX8_start.2.2.2.2.2.1.locals := by unfold xX8_start; exact ⟨by decide, by decide⟩
theorem meX8_start : z_Me yX8_start xX8_start 1 := ⟨wd489, wd109, by decide, by decide, by decide +kernel⟩
noncomputable def kX8_start_22 : zK zR := q_iret
noncomputable def kX8_start_21 : zK zR := (q_push (-1) kX8_start_22)
noncomputable def kX8_start_0 : zK zR := (q_iload 1 (q_if_lt kX8_start_21 (q_iload 1 (q_aload 0 (q_getI 8 3 (q_icmp_ge kX8_start_21 (q_aload 0 (q_getR 8 2 (q_iload 1 (q_iald kX8_start_22))))))))))
set_option maxRecDepth 100000 in
theorem tX8_start_22 {l : Launch} {D : zD} {B sz0 : Nat} {post : Option Value → zS → Prop} : zSnd l D B xX8_start sz0 post 22 kX8_start_22 (z_Jr post) := (s_iret dX8_start_22 rfl)
set_option maxRecDepth 100000 in
theorem tX8_start_21 {l : Launch} {D : zD} {B sz0 : Nat} {post : Option Value → zS → Prop} : zSnd l D B xX8_start sz0 post 21 kX8_start_21 (z_Jr post) := (s_iconst dX8_start_21 (by decide) tX8_start_22)
set_option maxRecDepth 100000 in
theorem tX8_start_0 {l : Launch} {D : zD} {B sz0 : Nat} {post : Option Value → zS → Prop} : zSnd l D B xX8_start sz0 post 0 kX8_start_0 (z_Jr post) := (s_iload_n dX8_start_0 rfl (s_if_lt (tgt := 21) dX8_start_1 (by decide) tX8_start_21 (s_iload_n dX8_start_4 rfl (s_aload_n dX8_start_5 rfl (s_getI (f := 3) dX8_start_6 clX8 (by decide) rfl wd106 (s_icmp_ge (tgt := 21) dX8_start_9 (by decide) tX8_start_21 (s_aload_n dX8_start_12 rfl (s_getR (f := 2) dX8_start_13 clX8 (by decide) rfl wd309 (s_iload_n dX8_start_16 rfl (s_iald dX8_start_17 (s_goto (tgt := 22) dX8_start_18 (by decide) tX8_start_22)))))))))))
noncomputable def fX8_start : zF := z_fn 2 kX8_start_0
theorem mX8_start {l : Launch} {D : zD} {B : Nat} : z_MF l D B yX8_start xX8_start fX8_start := z_mf (by decide) rfl (fun h => by cases h) rfl (fun as σ r h => ⟨z_fn_len h, kX8_start_0, z_fn_run h, fun _ => tX8_start_0⟩)
/-! ===== RowChildren$Text.take ===== -/
theorem dX7_take_0 : decode cX7_take 0 = .ok (.aload_n 0, 1) := by decide +kernel
theorem dX7_take_1 : decode cX7_take 1 = .ok (.invokevirtual 40, 3) := by decide +kernel
theorem dX7_take_4 : decode cX7_take 4 = .ok (.aload_n 0, 1) := by decide +kernel
theorem dX7_take_5 : decode cX7_take 5 = .ok (.getfield 12, 3) := by decide +kernel
theorem dX7_take_8 : decode cX7_take 8 = .ok (.aload_n 1, 1) := by decide +kernel
theorem dX7_take_9 : decode cX7_take 9 = .ok (.invokevirtual 46, 3) := by decide +kernel
theorem dX7_take_12 : decode cX7_take 12 = .ok (.aload_n 0, 1) := by decide +kernel
theorem dX7_take_13 : decode cX7_take 13 = .ok (.invokevirtual 50, 3) := by decide +kernel
theorem dX7_take_16 : decode cX7_take 16 = .ok (.aload_n 0, 1) := by decide +kernel
theorem dX7_take_17 : decode cX7_take 17 = .ok (.getfield 53, 3) := by decide +kernel
theorem dX7_take_20 : decode cX7_take 20 = .ok (.ifCond .ne 7, 3) := by decide +kernel
theorem dX7_take_23 : decode cX7_take 23 = .ok (.aload_n 0, 1) := by decide +kernel
theorem dX7_take_24 : decode cX7_take 24 = .ok (.invokevirtual 57, 3) := by decide +kernel
theorem dX7_take_27 : decode cX7_take 27 = .ok (.aload_n 0, 1) := by decide +kernel
theorem dX7_take_28 : decode cX7_take 28 = .ok (.getfield 53, 3) := by decide +kernel
theorem dX7_take_31 : decode cX7_take 31 = .ok (.ifCond .eq 21, 3) := by decide +kernel
theorem dX7_take_34 : decode cX7_take 34 = .ok (.aload_n 0, 1) := by decide +kernel
theorem dX7_take_35 : decode cX7_take 35 = .ok (.aload_n 0, 1) := by decide +kernel
theorem dX7_take_36 : decode cX7_take 36 = .ok (.getfield 12, 3) := by decide +kernel
theorem dX7_take_39 : decode cX7_take 39 = .ok (.aload_n 0, 1) := by decide +kernel
theorem dX7_take_40 : decode cX7_take 40 = .ok (.getfield 60, 3) := by decide +kernel
theorem dX7_take_43 : decode cX7_take 43 = .ok (.invokevirtual 63, 3) := by decide +kernel
theorem dX7_take_46 : decode cX7_take 46 = .ok (.putfield 66, 3) := by decide +kernel
theorem dX7_take_49 : decode cX7_take 49 = .ok (.goto 41, 3) := by decide +kernel
theorem dX7_take_52 : decode cX7_take 52 = .ok (.aload_n 0, 1) := by decide +kernel
theorem dX7_take_53 : decode cX7_take 53 = .ok (.getfield 69, 3) := by decide +kernel
theorem dX7_take_56 : decode cX7_take 56 = .ok (.aload_n 0, 1) := by decide +kernel
theorem dX7_take_57 : decode cX7_take 57 = .ok (.getfield 21, 3) := by decide +kernel
theorem dX7_take_60 : decode cX7_take 60 = .ok (.getfield 72, 3) := by decide +kernel
theorem dX7_take_63 : decode cX7_take 63 = .ok (.if_icmp .lt 20, 3) := by decide +kernel
theorem dX7_take_66 : decode cX7_take 66 = .ok (.aload_n 0, 1) := by decide +kernel
theorem dX7_take_67 : decode cX7_take 67 = .ok (.bipush 6, 2) := by decide +kernel
theorem dX7_take_69 : decode cX7_take 69 = .ok (.putfield 53, 3) := by decide +kernel
theorem dX7_take_72 : decode cX7_take 72 = .ok (.aload_n 0, 1) := by decide +kernel
theorem dX7_take_73 : decode cX7_take 73 = .ok (.aload_n 1, 1) := by decide +kernel
theorem dX7_take_74 : decode cX7_take 74 = .ok (.getfield 75, 3) := by decide +kernel
theorem dX7_take_77 : decode cX7_take 77 = .ok (.putfield 66, 3) := by decide +kernel
theorem dX7_take_80 : decode cX7_take 80 = .ok (.goto 10, 3) := by decide +kernel
theorem dX7_take_83 : decode cX7_take 83 = .ok (.aload_n 0, 1) := by decide +kernel
theorem dX7_take_84 : decode cX7_take 84 = .ok (.getfield 21, 3) := by decide +kernel
theorem dX7_take_87 : decode cX7_take 87 = .ok (.invokevirtual 43, 3) := by decide +kernel
theorem dX7_take_90 : decode cX7_take 90 = .ok (.return_, 1) := by decide +kernel
def xX7_take : zX := (RX7, cX7_take, 2, none, false, { frames := 22, cells := 0, slots := 0, locals := 551 }, 0, 0, 0, 0)
theorem rmX7_take : z_Rm xX7_take := by unfold z_Rm xX7_take; exact ⟨by decide, by decide⟩
theorem reX7_take : z_Re xX7_take := ⟨rfl, rfl⟩
theorem rlX7_take : 1 ≤ xX7_take.2.2.2.2.2.1.frames ∧ 21 ≤ xX7_take.2.2.2.2.2.1.locals := by unfold xX7_take; exact ⟨by decide, by decide⟩
theorem meX7_take : z_Me yX7_take xX7_take 1 := ⟨wd503, wd111, by decide, by decide, by decide +kernel⟩
theorem fitX7_take_1 : z_Fit xX7_tellNothing xX7_take := by unfold z_Fit; simp only [xX7_tellNothing, xX7_take]; exact ⟨by decide, by decide⟩
theorem fitX7_take_9 : z_Fit xX8_scan xX7_take := by unfold z_Fit; simp only [xX8_scan, xX7_take]; exact ⟨by decide, by decide⟩
theorem fitX7_take_13 : z_Fit xX7_checkTells xX7_take := by unfold z_Fit; simp only [xX7_checkTells, xX7_take]; exact ⟨by decide, by decide⟩
theorem fitX7_take_87 : z_Fit xX5_fillGaps xX7_take := by unfold z_Fit; simp only [xX5_fillGaps, xX7_take]; exact ⟨by decide, by decide⟩
theorem fitX7_take_43 : z_Fit xX8_start xX7_take := by unfold z_Fit; simp only [xX8_start, xX7_take]; exact ⟨by decide, by decide⟩
theorem fitX7_take_24 : z_Fit xX7_readTells xX7_take := by unfold z_Fit; simp only [xX7_readTells, xX7_take]; exact ⟨by decide, by decide⟩
noncomputable def kX7_take_90 : zK zR := q_vret
noncomputable def kX7_take_27 : zK zR := (q_aload 0 (q_getI 7 6 (q_if_eq (q_aload 0 (q_getI 7 9 (q_aload 0 (q_getR 7 1 (q_getI 5 0 (q_icmp_lt (q_aload 0 (q_getR 7 1 (q_callV 5 fX5_fillGaps 0 kX7_take_90))) (q_aload 0 (q_push 6 (q_putI 7 6 (q_aload 0 (q_aload 1 (q_getI 6 1 (q_putI 7 7 kX7_take_90))))))))))))) (q_aload 0 (q_aload 0 (q_getR 7 0 (q_aload 0 (q_getI 7 8 (q_callV 8 fX8_start 1 (q_putI 7 7 kX7_take_90))))))))))
noncomputable def kX7_take_0 : zK zR := (q_aload 0 (q_callV 7 fX7_tellNothing 0 (q_aload 0 (q_getR 7 0 (q_aload 1 (q_callV 8 fX8_scan 1 (q_aload 0 (q_callV 7 fX7_checkTells 0 (q_aload 0 (q_getI 7 6 (q_if_ne kX7_take_27 (q_aload 0 (q_callV 7 fX7_readTells 0 kX7_take_27)))))))))))))
set_option maxRecDepth 100000 in
theorem tX7_take_90 {l : Launch} {D : zD} {B sz0 : Nat} {post : Option Value → zS → Prop} : zSnd l D B xX7_take sz0 post 90 kX7_take_90 (z_Jr post) := (s_vret dX7_take_90 rfl)
set_option maxRecDepth 100000 in
theorem tX7_take_27 {l : Launch} {D : zD} {B sz0 : Nat} {post : Option Value → zS → Prop} : zSnd l D B xX7_take sz0 post 27 kX7_take_27 (z_Jr post) := (s_aload_n dX7_take_27 rfl (s_getI (f := 6) dX7_take_28 clX7 (by decide) rfl wd311 (s_if_eq (tgt := 52) dX7_take_31 (by decide) (s_aload_n dX7_take_52 rfl (s_getI (f := 9) dX7_take_53 clX7 (by decide) rfl wd314 (s_aload_n dX7_take_56 rfl (s_getR (f := 1) dX7_take_57 clX7 (by decide) rfl wd319 (s_getI (f := 0) dX7_take_60 clX5 (by decide) rfl wd479 (s_icmp_lt (tgt := 83) dX7_take_63 (by decide) (s_aload_n dX7_take_83 rfl (s_getR (f := 1) dX7_take_84 clX7 (by decide) rfl wd319 (s_callV (r := (RX5, TX5, 7)) dX7_take_87 mX5_fillGaps meX5_fillGaps wd338 wd339 rfl rfl reX5_fillGaps rmX7_take (fitX7_take_87) wd340 tX7_take_90))) (s_aload_n dX7_take_66 rfl (s_bipush dX7_take_67 (by decide) (s_putI (f := 6) dX7_take_69 clX7 (by decide) rfl rfl rfl wd311 (s_aload_n dX7_take_72 rfl (s_aload_n dX7_take_73 rfl (s_getI (f := 1) dX7_take_74 clX6 (by decide) rfl wd496 (s_putI (f := 7) dX7_take_77 clX7 (by decide) rfl rfl rfl wd312 (s_goto (tgt := 90) dX7_take_80 (by decide) tX7_take_90)))))))))))))) (s_aload_n dX7_take_34 rfl (s_aload_n dX7_take_35 rfl (s_getR (f := 0) dX7_take_36 clX7 (by decide) rfl wd329 (s_aload_n dX7_take_39 rfl (s_getI (f := 8) dX7_take_40 clX7 (by decide) rfl wd427 (s_callV (r := (RX8, TX8, 4)) dX7_take_43 mX8_start meX8_start wd497 wd498 rfl rfl reX8_start rmX7_take (fitX7_take_43) wd499 (s_putI (f := 7) dX7_take_46 clX7 (by decide) rfl rfl rfl wd312 (s_goto (tgt := 90) dX7_take_49 (by decide) tX7_take_90)))))))))))
set_option maxRecDepth 100000 in
theorem tX7_take_0 {l : Launch} {D : zD} {B sz0 : Nat} {post : Option Value → zS → Prop} : zSnd l D B xX7_take sz0 post 0 kX7_take_0 (z_Jr post) := (s_aload_n dX7_take_0 rfl (s_callV (r := (RX7, TX7, 10)) dX7_take_1 mX7_tellNothing meX7_tellNothing wd335 wd336 rfl rfl reX7_tellNothing rmX7_take (fitX7_take_1) wd337 (s_aload_n dX7_take_4 rfl (s_getR (f := 0) dX7_take_5 clX7 (by decide) rfl wd329 (s_aload_n dX7_take_8 rfl (s_callV (r := (RX8, TX8, 4)) dX7_take_9 mX8_scan meX8_scan wd490 wd491 rfl rfl reX8_scan rmX7_take (fitX7_take_9) wd492 (s_aload_n dX7_take_12 rfl (s_callV (r := (RX7, TX7, 10)) dX7_take_13 mX7_checkTells meX7_checkTells wd493 wd494 rfl rfl reX7_checkTells rmX7_take (fitX7_take_13) wd495 (s_aload_n dX7_take_16 rfl (s_getI (f := 6) dX7_take_17 clX7 (by decide) rfl wd311 (s_if_ne (tgt := 27) dX7_take_20 (by decide) tX7_take_27 (s_aload_n dX7_take_23 rfl (s_callV (r := (RX7, TX7, 10)) dX7_take_24 mX7_readTells meX7_readTells wd500 wd501 rfl rfl reX7_readTells rmX7_take (fitX7_take_24) wd502 tX7_take_27)))))))))))))
noncomputable def fX7_take : zF := z_fn 2 kX7_take_0
theorem mX7_take {l : Launch} {D : zD} {B : Nat} : z_MF l D B yX7_take xX7_take fX7_take := z_mf (by decide) rfl (fun h => by cases h) rfl (fun as σ r h => ⟨z_fn_len h, kX7_take_0, z_fn_run h, fun _ => tX7_take_0⟩)
/-! ===== RowChildren$Told.<init> ===== -/
theorem dX9_init_0 : decode cX9_init 0 = .ok (.aload_n 0, 1) := by decide +kernel
theorem dX9_init_1 : decode cX9_init 1 = .ok (.invokespecial 3, 3) := by decide +kernel
theorem dX9_init_4 : decode cX9_init 4 = .ok (.aload_n 0, 1) := by decide +kernel
theorem dX9_init_5 : decode cX9_init 5 = .ok (.bipush 20, 2) := by decide +kernel
theorem dX9_init_7 : decode cX9_init 7 = .ok (.newarray .int, 2) := by decide +kernel
theorem dX9_init_9 : decode cX9_init 9 = .ok (.putfield 9, 3) := by decide +kernel
theorem dX9_init_12 : decode cX9_init 12 = .ok (.aload_n 0, 1) := by decide +kernel
theorem dX9_init_13 : decode cX9_init 13 = .ok (.bipush 20, 2) := by decide +kernel
theorem dX9_init_15 : decode cX9_init 15 = .ok (.newarray .int, 2) := by decide +kernel
theorem dX9_init_17 : decode cX9_init 17 = .ok (.putfield 15, 3) := by decide +kernel
theorem dX9_init_20 : decode cX9_init 20 = .ok (.aload_n 0, 1) := by decide +kernel
theorem dX9_init_21 : decode cX9_init 21 = .ok (.bipush 20, 2) := by decide +kernel
theorem dX9_init_23 : decode cX9_init 23 = .ok (.newarray .int, 2) := by decide +kernel
theorem dX9_init_25 : decode cX9_init 25 = .ok (.putfield 18, 3) := by decide +kernel
theorem dX9_init_28 : decode cX9_init 28 = .ok (.aload_n 0, 1) := by decide +kernel
theorem dX9_init_29 : decode cX9_init 29 = .ok (.bipush 20, 2) := by decide +kernel
theorem dX9_init_31 : decode cX9_init 31 = .ok (.newarray .boolean, 2) := by decide +kernel
theorem dX9_init_33 : decode cX9_init 33 = .ok (.putfield 21, 3) := by decide +kernel
theorem dX9_init_36 : decode cX9_init 36 = .ok (.aload_n 0, 1) := by decide +kernel
theorem dX9_init_37 : decode cX9_init 37 = .ok (.new 25, 3) := by decide +kernel
theorem dX9_init_40 : decode cX9_init 40 = .ok (.dup, 1) := by decide +kernel
theorem dX9_init_41 : decode cX9_init 41 = .ok (.invokespecial 27, 3) := by decide +kernel
theorem dX9_init_44 : decode cX9_init 44 = .ok (.putfield 28, 3) := by decide +kernel
theorem dX9_init_47 : decode cX9_init 47 = .ok (.aload_n 0, 1) := by decide +kernel
theorem dX9_init_48 : decode cX9_init 48 = .ok (.sipush 144, 3) := by decide +kernel
theorem dX9_init_51 : decode cX9_init 51 = .ok (.newarray .int, 2) := by decide +kernel
theorem dX9_init_53 : decode cX9_init 53 = .ok (.putfield 32, 3) := by decide +kernel
theorem dX9_init_56 : decode cX9_init 56 = .ok (.return_, 1) := by decide +kernel
def xX9_init : zX := (RX9, cX9_init, 1, none, true, { frames := 2, cells := 8, slots := 16384, locals := 110 }, 8, 2048, 0, 0)
theorem rmX9_init : z_Rm xX9_init := by unfold z_Rm xX9_init; exact ⟨by decide, by decide⟩
theorem reX9_init : z_Re xX9_init := ⟨rfl, rfl⟩
theorem rlX9_init : 1 ≤ xX9_init.2.2.2.2.2.1.frames ∧ 21 ≤ xX9_init.2.2.2.2.2.1.locals := by unfold xX9_init; exact ⟨by decide, by decide⟩
theorem meX9_init : z_Me yX9_init xX9_init 0 := ⟨wd512, wd513, by decide, by decide, by decide +kernel⟩
theorem fitX9_init_41 : z_Fit xX10_init xX9_init := by unfold z_Fit; simp only [xX10_init, xX9_init]; exact ⟨by decide, by decide⟩
noncomputable def kX9_init_0 (lim : Nat) : zK zR := (q_aload 0 (q_obj (q_aload 0 (q_push 20 (q_newa 0 2048 lim (q_putR 9 3 (q_aload 0 (q_push 20 (q_newa 0 2048 lim (q_putR 9 4 (q_aload 0 (q_push 20 (q_newa 0 2048 lim (q_putR 9 5 (q_aload 0 (q_push 20 (q_newa 2 2048 lim (q_putR 9 6 (q_aload 0 (q_new 10 lim (q_dup (q_ctor fX10_init 0 2 lim (q_putR 9 7 (q_aload 0 (q_push 144 (q_newa 0 2048 lim (q_putR 9 8 q_vret)))))))))))))))))))))))))))
set_option maxRecDepth 100000 in
theorem tX9_init_0 {l : Launch} {D : zD} {B sz0 : Nat} {post : Option Value → zS → Prop} : zSnd l D B xX9_init sz0 post 0 (kX9_init_0 (sz0 + 8)) (z_Jr post) := (s_aload_n dX9_init_0 rfl (s_obj dX9_init_1 wd504 wd1 wd2 (by decide) (s_aload_n dX9_init_4 rfl (s_bipush dX9_init_5 (by decide) (s_newa (t := 0) dX9_init_7 (by decide) rfl wd3 rmX9_init rfl (by decide) rfl (s_putRF (f := 3) dX9_init_9 clX9 (by decide) rfl rfl rfl rfl (Or.inr ⟨_, rfl⟩) wd505 (s_aload_n dX9_init_12 rfl (s_bipush dX9_init_13 (by decide) (s_newa (t := 0) dX9_init_15 (by decide) rfl wd3 rmX9_init rfl (by decide) rfl (s_putRF (f := 4) dX9_init_17 clX9 (by decide) rfl rfl rfl rfl (Or.inr ⟨_, rfl⟩) wd506 (s_aload_n dX9_init_20 rfl (s_bipush dX9_init_21 (by decide) (s_newa (t := 0) dX9_init_23 (by decide) rfl wd3 rmX9_init rfl (by decide) rfl (s_putRF (f := 5) dX9_init_25 clX9 (by decide) rfl rfl rfl rfl (Or.inr ⟨_, rfl⟩) wd507 (s_aload_n dX9_init_28 rfl (s_bipush dX9_init_29 (by decide) (s_newa (t := 2) dX9_init_31 (by decide) rfl wd13 rmX9_init rfl (by decide) rfl (s_putRF (f := 6) dX9_init_33 clX9 (by decide) rfl rfl rfl rfl (Or.inr ⟨_, rfl⟩) wd508 (s_aload_n dX9_init_36 rfl (s_new dX9_init_37 clX10 dfX10 wd509 wd10 wd7 rmX9_init (by decide) rfl (s_dup dX9_init_40 (s_ctorN (host := RX11) dX9_init_41 mX10_init meX10_init wd11 rfl rfl reX10_init rmX9_init (fitX9_init_41) rfl (by decide) rfl neX9_27 (s_putRF (f := 7) dX9_init_44 clX9 (by decide) rfl rfl rfl rfl (Or.inl ⟨_, rfl⟩) wd510 (s_aload_n dX9_init_47 rfl (s_sipush dX9_init_48 (by decide) (s_newa (t := 0) dX9_init_51 (by decide) rfl wd3 rmX9_init rfl (by decide) rfl (s_putRF (f := 8) dX9_init_53 clX9 (by decide) rfl rfl rfl rfl (Or.inr ⟨_, rfl⟩) wd511 (s_vret dX9_init_56 rfl))))))))))))))))))))))))))))
noncomputable def fX9_init : zF := fun as σ => z_fn 1 (kX9_init_0 (z_sz σ + 8)) as σ
theorem mX9_init {l : Launch} {D : zD} {B : Nat} : z_MF l D B yX9_init xX9_init fX9_init := z_mf (by decide) rfl (fun _ => rfl) rfl (fun as σ r h => ⟨z_fn_len h, kX9_init_0 (z_sz σ + 8), z_fn_run h, fun _ => tX9_init_0⟩)
/-! ===== RowChildren$Told.append ===== -/
theorem dX9_append_0 : decode cX9_append 0 = .ok (.aload_n 0, 1) := by decide +kernel
theorem dX9_append_1 : decode cX9_append 1 = .ok (.getfield 35, 3) := by decide +kernel
theorem dX9_append_4 : decode cX9_append 4 = .ok (.bipush 20, 2) := by decide +kernel
theorem dX9_append_6 : decode cX9_append 6 = .ok (.if_icmp .ge 54, 3) := by decide +kernel
theorem dX9_append_9 : decode cX9_append 9 = .ok (.aload_n 0, 1) := by decide +kernel
theorem dX9_append_10 : decode cX9_append 10 = .ok (.getfield 9, 3) := by decide +kernel
theorem dX9_append_13 : decode cX9_append 13 = .ok (.aload_n 0, 1) := by decide +kernel
theorem dX9_append_14 : decode cX9_append 14 = .ok (.getfield 35, 3) := by decide +kernel
theorem dX9_append_17 : decode cX9_append 17 = .ok (.iload_n 1, 1) := by decide +kernel
theorem dX9_append_18 : decode cX9_append 18 = .ok (.iastore, 1) := by decide +kernel
theorem dX9_append_19 : decode cX9_append 19 = .ok (.aload_n 0, 1) := by decide +kernel
theorem dX9_append_20 : decode cX9_append 20 = .ok (.getfield 15, 3) := by decide +kernel
theorem dX9_append_23 : decode cX9_append 23 = .ok (.aload_n 0, 1) := by decide +kernel
theorem dX9_append_24 : decode cX9_append 24 = .ok (.getfield 35, 3) := by decide +kernel
theorem dX9_append_27 : decode cX9_append 27 = .ok (.iload_n 2, 1) := by decide +kernel
theorem dX9_append_28 : decode cX9_append 28 = .ok (.iastore, 1) := by decide +kernel
theorem dX9_append_29 : decode cX9_append 29 = .ok (.aload_n 0, 1) := by decide +kernel
theorem dX9_append_30 : decode cX9_append 30 = .ok (.getfield 18, 3) := by decide +kernel
theorem dX9_append_33 : decode cX9_append 33 = .ok (.aload_n 0, 1) := by decide +kernel
theorem dX9_append_34 : decode cX9_append 34 = .ok (.getfield 35, 3) := by decide +kernel
theorem dX9_append_37 : decode cX9_append 37 = .ok (.iload_n 3, 1) := by decide +kernel
theorem dX9_append_38 : decode cX9_append 38 = .ok (.iastore, 1) := by decide +kernel
theorem dX9_append_39 : decode cX9_append 39 = .ok (.aload_n 0, 1) := by decide +kernel
theorem dX9_append_40 : decode cX9_append 40 = .ok (.getfield 21, 3) := by decide +kernel
theorem dX9_append_43 : decode cX9_append 43 = .ok (.aload_n 0, 1) := by decide +kernel
theorem dX9_append_44 : decode cX9_append 44 = .ok (.getfield 35, 3) := by decide +kernel
theorem dX9_append_47 : decode cX9_append 47 = .ok (.iload 4, 2) := by decide +kernel
theorem dX9_append_49 : decode cX9_append 49 = .ok (.bastore, 1) := by decide +kernel
theorem dX9_append_50 : decode cX9_append 50 = .ok (.aload_n 0, 1) := by decide +kernel
theorem dX9_append_51 : decode cX9_append 51 = .ok (.dup, 1) := by decide +kernel
theorem dX9_append_52 : decode cX9_append 52 = .ok (.getfield 35, 3) := by decide +kernel
theorem dX9_append_55 : decode cX9_append 55 = .ok (.iconst 1, 1) := by decide +kernel
theorem dX9_append_56 : decode cX9_append 56 = .ok (.iadd, 1) := by decide +kernel
theorem dX9_append_57 : decode cX9_append 57 = .ok (.putfield 35, 3) := by decide +kernel
theorem dX9_append_60 : decode cX9_append 60 = .ok (.return_, 1) := by decide +kernel
def xX9_append : zX := (RX9, cX9_append, 5, none, false, { frames := 1, cells := 0, slots := 0, locals := 90 }, 0, 0, 0, 0)
theorem rmX9_append : z_Rm xX9_append := by unfold z_Rm xX9_append; exact ⟨by decide, by decide⟩
theorem reX9_append : z_Re xX9_append := ⟨rfl, rfl⟩
theorem rlX9_append : 1 ≤ xX9_append.2.2.2.2.2.1.frames ∧ 21 ≤ xX9_append.2.2.2.2.2.1.locals := by unfold xX9_append; exact ⟨by decide, by decide⟩
theorem meX9_append : z_Me yX9_append xX9_append 4 := ⟨wd515, wd513, by decide, by decide, by decide +kernel⟩
noncomputable def kX9_append_60 : zK zR := q_vret
noncomputable def kX9_append_0 : zK zR := (q_aload 0 (q_getI 9 0 (q_push 20 (q_icmp_ge kX9_append_60 (q_aload 0 (q_getR 9 3 (q_aload 0 (q_getI 9 0 (q_iload 1 (q_iast (q_aload 0 (q_getR 9 4 (q_aload 0 (q_getI 9 0 (q_iload 2 (q_iast (q_aload 0 (q_getR 9 5 (q_aload 0 (q_getI 9 0 (q_iload 3 (q_iast (q_aload 0 (q_getR 9 6 (q_aload 0 (q_getI 9 0 (q_iload 4 (q_zast (q_aload 0 (q_dup (q_getI 9 0 (q_push 1 (q_iadd (q_putI 9 0 kX9_append_60))))))))))))))))))))))))))))))))))
set_option maxRecDepth 100000 in
theorem tX9_append_60 {l : Launch} {D : zD} {B sz0 : Nat} {post : Option Value → zS → Prop} : zSnd l D B xX9_append sz0 post 60 kX9_append_60 (z_Jr post) := (s_vret dX9_append_60 rfl)
set_option maxRecDepth 100000 in
theorem tX9_append_0 {l : Launch} {D : zD} {B sz0 : Nat} {post : Option Value → zS → Prop} : zSnd l D B xX9_append sz0 post 0 kX9_append_0 (z_Jr post) := (s_aload_n dX9_append_0 rfl (s_getI (f := 0) dX9_append_1 clX9 (by decide) rfl wd514 (s_bipush dX9_append_4 (by decide) (s_icmp_ge (tgt := 60) dX9_append_6 (by decide) tX9_append_60 (s_aload_n dX9_append_9 rfl (s_getR (f := 3) dX9_append_10 clX9 (by decide) rfl wd505 (s_aload_n dX9_append_13 rfl (s_getI (f := 0) dX9_append_14 clX9 (by decide) rfl wd514 (s_iload_n dX9_append_17 rfl (s_iast dX9_append_18 (s_aload_n dX9_append_19 rfl (s_getR (f := 4) dX9_append_20 clX9 (by decide) rfl wd506 (s_aload_n dX9_append_23 rfl (s_getI (f := 0) dX9_append_24 clX9 (by decide) rfl wd514 (s_iload_n dX9_append_27 rfl (s_iast dX9_append_28 (s_aload_n dX9_append_29 rfl (s_getR (f := 5) dX9_append_30 clX9 (by decide) rfl wd507 (s_aload_n dX9_append_33 rfl (s_getI (f := 0) dX9_append_34 clX9 (by decide) rfl wd514 (s_iload_n dX9_append_37 rfl (s_iast dX9_append_38 (s_aload_n dX9_append_39 rfl (s_getR (f := 6) dX9_append_40 clX9 (by decide) rfl wd508 (s_aload_n dX9_append_43 rfl (s_getI (f := 0) dX9_append_44 clX9 (by decide) rfl wd514 (s_iload dX9_append_47 (s_zast dX9_append_49 (s_aload_n dX9_append_50 rfl (s_dup dX9_append_51 (s_getI (f := 0) dX9_append_52 clX9 (by decide) rfl wd514 (s_iconst dX9_append_55 (by decide) (s_iadd dX9_append_56 (s_putI (f := 0) dX9_append_57 clX9 (by decide) rfl rfl rfl wd514 tX9_append_60))))))))))))))))))))))))))))))))))
noncomputable def fX9_append : zF := z_fn 5 kX9_append_0
theorem mX9_append {l : Launch} {D : zD} {B : Nat} : z_MF l D B yX9_append xX9_append fX9_append := z_mf (by decide) rfl (fun h => by cases h) rfl (fun as σ r h => ⟨z_fn_len h, kX9_append_0, z_fn_run h, fun _ => tX9_append_0⟩)
/-! ===== RowChildren$Triangle.has ===== -/
theorem dX10_has_0 : decode cX10_has 0 = .ok (.iload_n 1, 1) := by decide +kernel
theorem dX10_has_1 : decode cX10_has 1 = .ok (.ifCond .lt 29, 3) := by decide +kernel
theorem dX10_has_4 : decode cX10_has 4 = .ok (.iload_n 1, 1) := by decide +kernel
theorem dX10_has_5 : decode cX10_has 5 = .ok (.aload_n 0, 1) := by decide +kernel
theorem dX10_has_6 : decode cX10_has 6 = .ok (.getfield 18, 3) := by decide +kernel
theorem dX10_has_9 : decode cX10_has 9 = .ok (.if_icmp .ge 21, 3) := by decide +kernel
theorem dX10_has_12 : decode cX10_has 12 = .ok (.iload_n 2, 1) := by decide +kernel
theorem dX10_has_13 : decode cX10_has 13 = .ok (.ifCond .lt 17, 3) := by decide +kernel
theorem dX10_has_16 : decode cX10_has 16 = .ok (.iload_n 2, 1) := by decide +kernel
theorem dX10_has_17 : decode cX10_has 17 = .ok (.aload_n 0, 1) := by decide +kernel
theorem dX10_has_18 : decode cX10_has 18 = .ok (.getfield 18, 3) := by decide +kernel
theorem dX10_has_21 : decode cX10_has 21 = .ok (.iload_n 1, 1) := by decide +kernel
theorem dX10_has_22 : decode cX10_has 22 = .ok (.isub, 1) := by decide +kernel
theorem dX10_has_23 : decode cX10_has 23 = .ok (.if_icmp .ge 7, 3) := by decide +kernel
theorem dX10_has_26 : decode cX10_has 26 = .ok (.iconst 1, 1) := by decide +kernel
theorem dX10_has_27 : decode cX10_has 27 = .ok (.goto 4, 3) := by decide +kernel
theorem dX10_has_30 : decode cX10_has 30 = .ok (.iconst 0, 1) := by decide +kernel
theorem dX10_has_31 : decode cX10_has 31 = .ok (.ireturn, 1) := by decide +kernel
def xX10_has : zX := (RX10, cX10_has, 3, (some .boolean), false, { frames := 1, cells := 0, slots := 0, locals := 90 }, 0, 0, 0, 0)
theorem rmX10_has : z_Rm xX10_has := by unfold z_Rm xX10_has; exact ⟨by decide, by decide⟩
theorem reX10_has : z_Re xX10_has := ⟨rfl, rfl⟩
theorem rlX10_has : 1 ≤ xX10_has.2.2.2.2.2.1.frames ∧ 21 ≤ xX10_has.2.2.2.2.2.1.locals := by unfold xX10_has; exact ⟨by decide, by decide⟩
theorem meX10_has : z_Me yX10_has xX10_has 2 := ⟨wd516, wd7, by decide, by decide, by decide +kernel⟩
noncomputable def kX10_has_31 : zK zR := q_zret
noncomputable def kX10_has_30 : zK zR := (q_push 0 kX10_has_31)
noncomputable def kX10_has_0 : zK zR := (q_iload 1 (q_if_lt kX10_has_30 (q_iload 1 (q_aload 0 (q_getI 10 0 (q_icmp_ge kX10_has_30 (q_iload 2 (q_if_lt kX10_has_30 (q_iload 2 (q_aload 0 (q_getI 10 0 (q_iload 1 (q_isub (q_icmp_ge kX10_has_30 (q_push 1 kX10_has_31)))))))))))))))
set_option maxRecDepth 100000 in
theorem tX10_has_31 {l : Launch} {D : zD} {B sz0 : Nat} {post : Option Value → zS → Prop} : zSnd l D B xX10_has sz0 post 31 kX10_has_31 (z_Jr post) := (s_zret dX10_has_31 rfl)
set_option maxRecDepth 100000 in
theorem tX10_has_30 {l : Launch} {D : zD} {B sz0 : Nat} {post : Option Value → zS → Prop} : zSnd l D B xX10_has sz0 post 30 kX10_has_30 (z_Jr post) := (s_iconst dX10_has_30 (by decide) tX10_has_31)
set_option maxRecDepth 100000 in
theorem tX10_has_0 {l : Launch} {D : zD} {B sz0 : Nat} {post : Option Value → zS → Prop} : zSnd l D B xX10_has sz0 post 0 kX10_has_0 (z_Jr post) := (s_iload_n dX10_has_0 rfl (s_if_lt (tgt := 30) dX10_has_1 (by decide) tX10_has_30 (s_iload_n dX10_has_4 rfl (s_aload_n dX10_has_5 rfl (s_getI (f := 0) dX10_has_6 clX10 (by decide) rfl wd22 (s_icmp_ge (tgt := 30) dX10_has_9 (by decide) tX10_has_30 (s_iload_n dX10_has_12 rfl (s_if_lt (tgt := 30) dX10_has_13 (by decide) tX10_has_30 (s_iload_n dX10_has_16 rfl (s_aload_n dX10_has_17 rfl (s_getI (f := 0) dX10_has_18 clX10 (by decide) rfl wd22 (s_iload_n dX10_has_21 rfl (s_isub dX10_has_22 (s_icmp_ge (tgt := 30) dX10_has_23 (by decide) tX10_has_30 (s_iconst dX10_has_26 (by decide) (s_goto (tgt := 31) dX10_has_27 (by decide) tX10_has_31))))))))))))))))
noncomputable def fX10_has : zF := z_fn 3 kX10_has_0
theorem mX10_has {l : Launch} {D : zD} {B : Nat} : z_MF l D B yX10_has xX10_has fX10_has := z_mf (by decide) rfl (fun h => by cases h) rfl (fun as σ r h => ⟨z_fn_len h, kX10_has_0, z_fn_run h, fun _ => tX10_has_0⟩)
/-! ===== RowChildren$Told.isFit ===== -/
theorem dX9_isFit_0 : decode cX9_isFit 0 = .ok (.iconst 0, 1) := by decide +kernel
theorem dX9_isFit_1 : decode cX9_isFit 1 = .ok (.istore_n 2, 1) := by decide +kernel
theorem dX9_isFit_2 : decode cX9_isFit 2 = .ok (.iload_n 2, 1) := by decide +kernel
theorem dX9_isFit_3 : decode cX9_isFit 3 = .ok (.iload_n 1, 1) := by decide +kernel
theorem dX9_isFit_4 : decode cX9_isFit 4 = .ok (.if_icmp .ge 77, 3) := by decide +kernel
theorem dX9_isFit_7 : decode cX9_isFit 7 = .ok (.aload_n 0, 1) := by decide +kernel
theorem dX9_isFit_8 : decode cX9_isFit 8 = .ok (.getfield 28, 3) := by decide +kernel
theorem dX9_isFit_11 : decode cX9_isFit 11 = .ok (.aload_n 0, 1) := by decide +kernel
theorem dX9_isFit_12 : decode cX9_isFit 12 = .ok (.getfield 9, 3) := by decide +kernel
theorem dX9_isFit_15 : decode cX9_isFit 15 = .ok (.iload_n 2, 1) := by decide +kernel
theorem dX9_isFit_16 : decode cX9_isFit 16 = .ok (.iaload, 1) := by decide +kernel
theorem dX9_isFit_17 : decode cX9_isFit 17 = .ok (.aload_n 0, 1) := by decide +kernel
theorem dX9_isFit_18 : decode cX9_isFit 18 = .ok (.getfield 15, 3) := by decide +kernel
theorem dX9_isFit_21 : decode cX9_isFit 21 = .ok (.iload_n 2, 1) := by decide +kernel
theorem dX9_isFit_22 : decode cX9_isFit 22 = .ok (.iaload, 1) := by decide +kernel
theorem dX9_isFit_23 : decode cX9_isFit 23 = .ok (.invokevirtual 71, 3) := by decide +kernel
theorem dX9_isFit_26 : decode cX9_isFit 26 = .ok (.ifCond .ne 5, 3) := by decide +kernel
theorem dX9_isFit_29 : decode cX9_isFit 29 = .ok (.iconst 0, 1) := by decide +kernel
theorem dX9_isFit_30 : decode cX9_isFit 30 = .ok (.ireturn, 1) := by decide +kernel
theorem dX9_isFit_31 : decode cX9_isFit 31 = .ok (.aload_n 0, 1) := by decide +kernel
theorem dX9_isFit_32 : decode cX9_isFit 32 = .ok (.getfield 28, 3) := by decide +kernel
theorem dX9_isFit_35 : decode cX9_isFit 35 = .ok (.aload_n 0, 1) := by decide +kernel
theorem dX9_isFit_36 : decode cX9_isFit 36 = .ok (.getfield 9, 3) := by decide +kernel
theorem dX9_isFit_39 : decode cX9_isFit 39 = .ok (.iload_n 2, 1) := by decide +kernel
theorem dX9_isFit_40 : decode cX9_isFit 40 = .ok (.iaload, 1) := by decide +kernel
theorem dX9_isFit_41 : decode cX9_isFit 41 = .ok (.aload_n 0, 1) := by decide +kernel
theorem dX9_isFit_42 : decode cX9_isFit 42 = .ok (.getfield 15, 3) := by decide +kernel
theorem dX9_isFit_45 : decode cX9_isFit 45 = .ok (.iload_n 2, 1) := by decide +kernel
theorem dX9_isFit_46 : decode cX9_isFit 46 = .ok (.iaload, 1) := by decide +kernel
theorem dX9_isFit_47 : decode cX9_isFit 47 = .ok (.invokevirtual 75, 3) := by decide +kernel
theorem dX9_isFit_50 : decode cX9_isFit 50 = .ok (.aload_n 0, 1) := by decide +kernel
theorem dX9_isFit_51 : decode cX9_isFit 51 = .ok (.getfield 18, 3) := by decide +kernel
theorem dX9_isFit_54 : decode cX9_isFit 54 = .ok (.iload_n 2, 1) := by decide +kernel
theorem dX9_isFit_55 : decode cX9_isFit 55 = .ok (.iaload, 1) := by decide +kernel
theorem dX9_isFit_56 : decode cX9_isFit 56 = .ok (.if_icmp .ne 7, 3) := by decide +kernel
theorem dX9_isFit_59 : decode cX9_isFit 59 = .ok (.iconst 1, 1) := by decide +kernel
theorem dX9_isFit_60 : decode cX9_isFit 60 = .ok (.goto 4, 3) := by decide +kernel
theorem dX9_isFit_63 : decode cX9_isFit 63 = .ok (.iconst 0, 1) := by decide +kernel
theorem dX9_isFit_64 : decode cX9_isFit 64 = .ok (.aload_n 0, 1) := by decide +kernel
theorem dX9_isFit_65 : decode cX9_isFit 65 = .ok (.getfield 21, 3) := by decide +kernel
theorem dX9_isFit_68 : decode cX9_isFit 68 = .ok (.iload_n 2, 1) := by decide +kernel
theorem dX9_isFit_69 : decode cX9_isFit 69 = .ok (.baload, 1) := by decide +kernel
theorem dX9_isFit_70 : decode cX9_isFit 70 = .ok (.if_icmp .eq 5, 3) := by decide +kernel
theorem dX9_isFit_73 : decode cX9_isFit 73 = .ok (.iconst 0, 1) := by decide +kernel
theorem dX9_isFit_74 : decode cX9_isFit 74 = .ok (.ireturn, 1) := by decide +kernel
theorem dX9_isFit_75 : decode cX9_isFit 75 = .ok (.iinc 2 1, 3) := by decide +kernel
theorem dX9_isFit_78 : decode cX9_isFit 78 = .ok (.goto (-76), 3) := by decide +kernel
theorem dX9_isFit_81 : decode cX9_isFit 81 = .ok (.iconst 1, 1) := by decide +kernel
theorem dX9_isFit_82 : decode cX9_isFit 82 = .ok (.ireturn, 1) := by decide +kernel
def xX9_isFit : zX := (RX9, cX9_isFit, 3, (some .boolean), false, { frames := 2, cells := 0, slots := 0, locals := 112 }, 0, 0, 0, 0)
theorem rmX9_isFit : z_Rm xX9_isFit := by unfold z_Rm xX9_isFit; exact ⟨by decide, by decide⟩
theorem reX9_isFit : z_Re xX9_isFit := ⟨rfl, rfl⟩
theorem rlX9_isFit : 1 ≤ xX9_isFit.2.2.2.2.2.1.frames ∧ 21 ≤ xX9_isFit.2.2.2.2.2.1.locals := by unfold xX9_isFit; exact ⟨by decide, by decide⟩
theorem meX9_isFit : z_Me yX9_isFit xX9_isFit 1 := ⟨wd521, wd513, by decide, by decide, by decide +kernel⟩
theorem fitX9_isFit_23 : z_Fit xX10_has xX9_isFit := by unfold z_Fit; simp only [xX10_has, xX9_isFit]; exact ⟨by decide, by decide⟩
theorem fitX9_isFit_47 : z_Fit xX10_cell xX9_isFit := by unfold z_Fit; simp only [xX10_cell, xX9_isFit]; exact ⟨by decide, by decide⟩
noncomputable def kX9_isFit_81 : zK zR := (q_push 1 q_zret)
noncomputable def kX9_isFit_73 : zK zR := (q_push 0 q_zret)
noncomputable def kX9_isFit_64 : zK ((zL × zS) ⊕ zR) := (q_aload 0 (q_getR 9 6 (q_iload 2 (q_zald (q_icmp_eq (q_iinc 2 1 q_ag) (q_dn kX9_isFit_73))))))
noncomputable def kX9_isFit_29 : zK zR := (q_push 0 q_zret)
noncomputable def bX9_isFit_2 : zK ((zL × zS) ⊕ zR) := (q_iload 2 (q_iload 1 (q_icmp_ge (q_dn kX9_isFit_81) (q_aload 0 (q_getR 9 7 (q_aload 0 (q_getR 9 3 (q_iload 2 (q_iald (q_aload 0 (q_getR 9 4 (q_iload 2 (q_iald (q_callV 10 fX10_has 2 (q_if_ne (q_aload 0 (q_getR 9 7 (q_aload 0 (q_getR 9 3 (q_iload 2 (q_iald (q_aload 0 (q_getR 9 4 (q_iload 2 (q_iald (q_callV 10 fX10_cell 2 (q_aload 0 (q_getR 9 5 (q_iload 2 (q_iald (q_icmp_ne (q_push 0 kX9_isFit_64) (q_push 1 kX9_isFit_64))))))))))))))))) (q_dn kX9_isFit_29))))))))))))))))
noncomputable def kX9_isFit_2 : zK zR := q_lp (bX9_isFit_2)
noncomputable def kX9_isFit_0 : zK zR := (q_push 0 (q_istore 2 kX9_isFit_2))
set_option maxRecDepth 100000 in
theorem tX9_isFit_81 {l : Launch} {D : zD} {B sz0 : Nat} {post : Option Value → zS → Prop} : zSnd l D B xX9_isFit sz0 post 81 kX9_isFit_81 (z_Jr post) := (s_iconst dX9_isFit_81 (by decide) (s_zret dX9_isFit_82 rfl))
set_option maxRecDepth 100000 in
theorem tX9_isFit_73 {l : Launch} {D : zD} {B sz0 : Nat} {post : Option Value → zS → Prop} : zSnd l D B xX9_isFit sz0 post 73 kX9_isFit_73 (z_Jr post) := (s_iconst dX9_isFit_73 (by decide) (s_zret dX9_isFit_74 rfl))
set_option maxRecDepth 100000 in
theorem tX9_isFit_64 {l : Launch} {D : zD} {B sz0 : Nat} {post : Option Value → zS → Prop} : zSnd l D B xX9_isFit sz0 post 64 kX9_isFit_64 (z_Jl l D B xX9_isFit sz0 post 2 (z_Jr post)) := (s_aload_n dX9_isFit_64 rfl (s_getR (f := 6) dX9_isFit_65 clX9 (by decide) rfl wd508 (s_iload_n dX9_isFit_68 rfl (s_zald dX9_isFit_69 (s_icmp_eq (tgt := 75) dX9_isFit_70 (by decide) (s_iinc dX9_isFit_75 (by decide) (s_goto (tgt := 2) dX9_isFit_78 (by decide) s_ag)) (s_dn tX9_isFit_73))))))
set_option maxRecDepth 100000 in
theorem tX9_isFit_29 {l : Launch} {D : zD} {B sz0 : Nat} {post : Option Value → zS → Prop} : zSnd l D B xX9_isFit sz0 post 29 kX9_isFit_29 (z_Jr post) := (s_iconst dX9_isFit_29 (by decide) (s_zret dX9_isFit_30 rfl))
set_option maxRecDepth 100000 in
theorem tX9_isFit_2 {l : Launch} {D : zD} {B sz0 : Nat} {post : Option Value → zS → Prop} : zSnd l D B xX9_isFit sz0 post 2 kX9_isFit_2 (z_Jr post) := s_lp (body := bX9_isFit_2) (s_iload_n dX9_isFit_2 rfl (s_iload_n dX9_isFit_3 rfl (s_icmp_ge (tgt := 81) dX9_isFit_4 (by decide) (s_dn tX9_isFit_81) (s_aload_n dX9_isFit_7 rfl (s_getR (f := 7) dX9_isFit_8 clX9 (by decide) rfl wd510 (s_aload_n dX9_isFit_11 rfl (s_getR (f := 3) dX9_isFit_12 clX9 (by decide) rfl wd505 (s_iload_n dX9_isFit_15 rfl (s_iald dX9_isFit_16 (s_aload_n dX9_isFit_17 rfl (s_getR (f := 4) dX9_isFit_18 clX9 (by decide) rfl wd506 (s_iload_n dX9_isFit_21 rfl (s_iald dX9_isFit_22 (s_callV (r := (RX10, TX10, 3)) dX9_isFit_23 mX10_has meX10_has wd517 wd518 rfl rfl reX10_has rmX9_isFit (fitX9_isFit_23) wd519 (s_if_ne (tgt := 31) dX9_isFit_26 (by decide) (s_aload_n dX9_isFit_31 rfl (s_getR (f := 7) dX9_isFit_32 clX9 (by decide) rfl wd510 (s_aload_n dX9_isFit_35 rfl (s_getR (f := 3) dX9_isFit_36 clX9 (by decide) rfl wd505 (s_iload_n dX9_isFit_39 rfl (s_iald dX9_isFit_40 (s_aload_n dX9_isFit_41 rfl (s_getR (f := 4) dX9_isFit_42 clX9 (by decide) rfl wd506 (s_iload_n dX9_isFit_45 rfl (s_iald dX9_isFit_46 (s_callV (r := (RX10, TX10, 3)) dX9_isFit_47 mX10_cell meX10_cell wd23 wd24 rfl rfl reX10_cell rmX9_isFit (fitX9_isFit_47) wd520 (s_aload_n dX9_isFit_50 rfl (s_getR (f := 5) dX9_isFit_51 clX9 (by decide) rfl wd507 (s_iload_n dX9_isFit_54 rfl (s_iald dX9_isFit_55 (s_icmp_ne (tgt := 63) dX9_isFit_56 (by decide) (s_iconst dX9_isFit_63 (by decide) tX9_isFit_64) (s_iconst dX9_isFit_59 (by decide) (s_goto (tgt := 64) dX9_isFit_60 (by decide) tX9_isFit_64)))))))))))))))))) (s_dn tX9_isFit_29))))))))))))))))
set_option maxRecDepth 100000 in
theorem tX9_isFit_0 {l : Launch} {D : zD} {B sz0 : Nat} {post : Option Value → zS → Prop} : zSnd l D B xX9_isFit sz0 post 0 kX9_isFit_0 (z_Jr post) := (s_iconst dX9_isFit_0 (by decide) (s_istore_n dX9_isFit_1 rfl tX9_isFit_2))
noncomputable def fX9_isFit : zF := z_fn 3 kX9_isFit_0
theorem mX9_isFit {l : Launch} {D : zD} {B : Nat} : z_MF l D B yX9_isFit xX9_isFit fX9_isFit := z_mf (by decide) rfl (fun h => by cases h) rfl (fun as σ r h => ⟨z_fn_len h, kX9_isFit_0, z_fn_run h, fun _ => tX9_isFit_0⟩)
