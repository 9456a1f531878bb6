/-! ===== RowChildrenModel.is ===== -/
theorem dX12_is_0 : decode cX12_is 0 = .ok (.aload_n 0, 1) := by decide +kernel
theorem dX12_is_1 : decode cX12_is 1 = .ok (.getfield 219, 3) := by decide +kernel
theorem dX12_is_4 : decode cX12_is 4 = .ok (.ifCond .ne 20, 3) := by decide +kernel
theorem dX12_is_7 : decode cX12_is 7 = .ok (.aload_n 0, 1) := by decide +kernel
theorem dX12_is_8 : decode cX12_is 8 = .ok (.getfield 20, 3) := by decide +kernel
theorem dX12_is_11 : decode cX12_is 11 = .ok (.aload_n 0, 1) := by decide +kernel
theorem dX12_is_12 : decode cX12_is 12 = .ok (.getfield 222, 3) := by decide +kernel
theorem dX12_is_15 : decode cX12_is 15 = .ok (.iaload, 1) := by decide +kernel
theorem dX12_is_16 : decode cX12_is 16 = .ok (.iload_n 1, 1) := by decide +kernel
theorem dX12_is_17 : decode cX12_is 17 = .ok (.if_icmp .ne 7, 3) := by decide +kernel
theorem dX12_is_20 : decode cX12_is 20 = .ok (.iconst 1, 1) := by decide +kernel
theorem dX12_is_21 : decode cX12_is 21 = .ok (.goto 4, 3) := by decide +kernel
theorem dX12_is_24 : decode cX12_is 24 = .ok (.iconst 0, 1) := by decide +kernel
theorem dX12_is_25 : decode cX12_is 25 = .ok (.ireturn, 1) := by decide +kernel
def xX12_is : zX := (RX12, cX12_is, 2, (some .boolean), false, { frames := 1, cells := 0, slots := 0, locals := 90 }, 0, 0, 0, 0)
theorem rmX12_is : z_Rm xX12_is := by unfold z_Rm xX12_is; exact ⟨by decide, by decide⟩
theorem reX12_is : z_Re xX12_is := ⟨rfl, rfl⟩
theorem rlX12_is : 1 ≤ xX12_is.2.2.2.2.2.1.frames ∧ 21 ≤ xX12_is.2.2.2.2.2.1.locals := by unfold xX12_is; exact ⟨by decide, by decide⟩
theorem meX12_is : z_Me yX12_is xX12_is 1 := ⟨wd944, wd848, by decide, by decide, by decide +kernel⟩
noncomputable def kX12_is_25 : zK zR := q_zret
noncomputable def kX12_is_24 : zK zR := (q_push 0 kX12_is_25)
noncomputable def kX12_is_0 : zK zR := (q_aload 0 (q_getI 12 13 (q_if_ne kX12_is_24 (q_aload 0 (q_getR 12 5 (q_aload 0 (q_getI 12 11 (q_iald (q_iload 1 (q_icmp_ne kX12_is_24 (q_push 1 kX12_is_25)))))))))))
set_option maxRecDepth 100000 in
theorem tX12_is_25 {l : Launch} {D : zD} {B sz0 : Nat} {post : Option Value → zS → Prop} : zSnd l D B xX12_is sz0 post 25 kX12_is_25 (z_Jr post) := (s_zret dX12_is_25 rfl)
set_option maxRecDepth 100000 in
theorem tX12_is_24 {l : Launch} {D : zD} {B sz0 : Nat} {post : Option Value → zS → Prop} : zSnd l D B xX12_is sz0 post 24 kX12_is_24 (z_Jr post) := (s_iconst dX12_is_24 (by decide) tX12_is_25)
set_option maxRecDepth 100000 in
theorem tX12_is_0 {l : Launch} {D : zD} {B sz0 : Nat} {post : Option Value → zS → Prop} : zSnd l D B xX12_is sz0 post 0 kX12_is_0 (z_Jr post) := (s_aload_n dX12_is_0 rfl (s_getI (f := 13) dX12_is_1 clX12 (by decide) rfl wd942 (s_if_ne (tgt := 24) dX12_is_4 (by decide) tX12_is_24 (s_aload_n dX12_is_7 rfl (s_getR (f := 5) dX12_is_8 clX12 (by decide) rfl wd865 (s_aload_n dX12_is_11 rfl (s_getI (f := 11) dX12_is_12 clX12 (by decide) rfl wd943 (s_iald dX12_is_15 (s_iload_n dX12_is_16 rfl (s_icmp_ne (tgt := 24) dX12_is_17 (by decide) tX12_is_24 (s_iconst dX12_is_20 (by decide) (s_goto (tgt := 25) dX12_is_21 (by decide) tX12_is_25))))))))))))
noncomputable def fX12_is : zF := z_fn 2 kX12_is_0
theorem mX12_is {l : Launch} {D : zD} {B : Nat} : z_MF l D B yX12_is xX12_is fX12_is := z_mf (by decide) rfl (fun h => by cases h) rfl (fun as σ r h => ⟨z_fn_len h, kX12_is_0, z_fn_run h, fun _ => tX12_is_0⟩)
/-! ===== RowChildrenModel.fail ===== -/
theorem dX12_fail_0 : decode cX12_fail 0 = .ok (.aload_n 0, 1) := by decide +kernel
theorem dX12_fail_1 : decode cX12_fail 1 = .ok (.getfield 219, 3) := by decide +kernel
theorem dX12_fail_4 : decode cX12_fail 4 = .ok (.ifCond .le 4, 3) := by decide +kernel
theorem dX12_fail_7 : decode cX12_fail 7 = .ok (.return_, 1) := by decide +kernel
theorem dX12_fail_8 : decode cX12_fail 8 = .ok (.aload_n 0, 1) := by decide +kernel
theorem dX12_fail_9 : decode cX12_fail 9 = .ok (.iload_n 1, 1) := by decide +kernel
theorem dX12_fail_10 : decode cX12_fail 10 = .ok (.putfield 219, 3) := by decide +kernel
theorem dX12_fail_13 : decode cX12_fail 13 = .ok (.aload_n 0, 1) := by decide +kernel
theorem dX12_fail_14 : decode cX12_fail 14 = .ok (.aload_n 0, 1) := by decide +kernel
theorem dX12_fail_15 : decode cX12_fail 15 = .ok (.getfield 24, 3) := by decide +kernel
theorem dX12_fail_18 : decode cX12_fail 18 = .ok (.aload_n 0, 1) := by decide +kernel
theorem dX12_fail_19 : decode cX12_fail 19 = .ok (.getfield 222, 3) := by decide +kernel
theorem dX12_fail_22 : decode cX12_fail 22 = .ok (.iaload, 1) := by decide +kernel
theorem dX12_fail_23 : decode cX12_fail 23 = .ok (.putfield 225, 3) := by decide +kernel
theorem dX12_fail_26 : decode cX12_fail 26 = .ok (.return_, 1) := by decide +kernel
def xX12_fail : zX := (RX12, cX12_fail, 2, none, false, { frames := 1, cells := 0, slots := 0, locals := 90 }, 0, 0, 0, 0)
theorem rmX12_fail : z_Rm xX12_fail := by unfold z_Rm xX12_fail; exact ⟨by decide, by decide⟩
theorem reX12_fail : z_Re xX12_fail := ⟨rfl, rfl⟩
theorem rlX12_fail : 1 ≤ xX12_fail.2.2.2.2.2.1.frames ∧ 21 ≤ xX12_fail.2.2.2.2.2.1.locals := by unfold xX12_fail; exact ⟨by decide, by decide⟩
theorem meX12_fail : z_Me yX12_fail xX12_fail 1 := ⟨wd946, wd848, by decide, by decide, by decide +kernel⟩
noncomputable def kX12_fail_0 : zK zR := (q_aload 0 (q_getI 12 13 (q_if_le (q_aload 0 (q_iload 1 (q_putI 12 13 (q_aload 0 (q_aload 0 (q_getR 12 6 (q_aload 0 (q_getI 12 11 (q_iald (q_putI 12 14 q_vret)))))))))) q_vret)))
set_option maxRecDepth 100000 in
theorem tX12_fail_0 {l : Launch} {D : zD} {B sz0 : Nat} {post : Option Value → zS → Prop} : zSnd l D B xX12_fail sz0 post 0 kX12_fail_0 (z_Jr post) := (s_aload_n dX12_fail_0 rfl (s_getI (f := 13) dX12_fail_1 clX12 (by decide) rfl wd942 (s_if_le (tgt := 8) dX12_fail_4 (by decide) (s_aload_n dX12_fail_8 rfl (s_iload_n dX12_fail_9 rfl (s_putI (f := 13) dX12_fail_10 clX12 (by decide) rfl rfl rfl wd942 (s_aload_n dX12_fail_13 rfl (s_aload_n dX12_fail_14 rfl (s_getR (f := 6) dX12_fail_15 clX12 (by decide) rfl wd866 (s_aload_n dX12_fail_18 rfl (s_getI (f := 11) dX12_fail_19 clX12 (by decide) rfl wd943 (s_iald dX12_fail_22 (s_putI (f := 14) dX12_fail_23 clX12 (by decide) rfl rfl rfl wd945 (s_vret dX12_fail_26 rfl))))))))))) (s_vret dX12_fail_7 rfl))))
noncomputable def fX12_fail : zF := z_fn 2 kX12_fail_0
theorem mX12_fail {l : Launch} {D : zD} {B : Nat} : z_MF l D B yX12_fail xX12_fail fX12_fail := z_mf (by decide) rfl (fun h => by cases h) rfl (fun as σ r h => ⟨z_fn_len h, kX12_fail_0, z_fn_run h, fun _ => tX12_fail_0⟩)
/-! ===== RowChildrenModel.wrong ===== -/
theorem dX12_wrong_0 : decode cX12_wrong 0 = .ok (.aload_n 0, 1) := by decide +kernel
theorem dX12_wrong_1 : decode cX12_wrong 1 = .ok (.getfield 24, 3) := by decide +kernel
theorem dX12_wrong_4 : decode cX12_wrong 4 = .ok (.iload_n 2, 1) := by decide +kernel
theorem dX12_wrong_5 : decode cX12_wrong 5 = .ok (.iaload, 1) := by decide +kernel
theorem dX12_wrong_6 : decode cX12_wrong 6 = .ok (.istore_n 3, 1) := by decide +kernel
theorem dX12_wrong_7 : decode cX12_wrong 7 = .ok (.aload_n 0, 1) := by decide +kernel
theorem dX12_wrong_8 : decode cX12_wrong 8 = .ok (.getfield 219, 3) := by decide +kernel
theorem dX12_wrong_11 : decode cX12_wrong 11 = .ok (.ifCond .gt 34, 3) := by decide +kernel
theorem dX12_wrong_14 : decode cX12_wrong 14 = .ok (.aload_n 0, 1) := by decide +kernel
theorem dX12_wrong_15 : decode cX12_wrong 15 = .ok (.getfield 228, 3) := by decide +kernel
theorem dX12_wrong_18 : decode cX12_wrong 18 = .ok (.ifCond .eq 28, 3) := by decide +kernel
theorem dX12_wrong_21 : decode cX12_wrong 21 = .ok (.iload_n 3, 1) := by decide +kernel
theorem dX12_wrong_22 : decode cX12_wrong 22 = .ok (.aload_n 0, 1) := by decide +kernel
theorem dX12_wrong_23 : decode cX12_wrong 23 = .ok (.getfield 231, 3) := by decide +kernel
theorem dX12_wrong_26 : decode cX12_wrong 26 = .ok (.if_icmp .gt 19, 3) := by decide +kernel
theorem dX12_wrong_29 : decode cX12_wrong 29 = .ok (.iload_n 3, 1) := by decide +kernel
theorem dX12_wrong_30 : decode cX12_wrong 30 = .ok (.aload_n 0, 1) := by decide +kernel
theorem dX12_wrong_31 : decode cX12_wrong 31 = .ok (.getfield 231, 3) := by decide +kernel
theorem dX12_wrong_34 : decode cX12_wrong 34 = .ok (.if_icmp .ne 12, 3) := by decide +kernel
theorem dX12_wrong_37 : decode cX12_wrong 37 = .ok (.iload_n 1, 1) := by decide +kernel
theorem dX12_wrong_38 : decode cX12_wrong 38 = .ok (.aload_n 0, 1) := by decide +kernel
theorem dX12_wrong_39 : decode cX12_wrong 39 = .ok (.getfield 228, 3) := by decide +kernel
theorem dX12_wrong_42 : decode cX12_wrong 42 = .ok (.if_icmp .lt 4, 3) := by decide +kernel
theorem dX12_wrong_45 : decode cX12_wrong 45 = .ok (.return_, 1) := by decide +kernel
theorem dX12_wrong_46 : decode cX12_wrong 46 = .ok (.aload_n 0, 1) := by decide +kernel
theorem dX12_wrong_47 : decode cX12_wrong 47 = .ok (.iload_n 1, 1) := by decide +kernel
theorem dX12_wrong_48 : decode cX12_wrong 48 = .ok (.putfield 228, 3) := by decide +kernel
theorem dX12_wrong_51 : decode cX12_wrong 51 = .ok (.aload_n 0, 1) := by decide +kernel
theorem dX12_wrong_52 : decode cX12_wrong 52 = .ok (.iload_n 3, 1) := by decide +kernel
theorem dX12_wrong_53 : decode cX12_wrong 53 = .ok (.putfield 231, 3) := by decide +kernel
theorem dX12_wrong_56 : decode cX12_wrong 56 = .ok (.return_, 1) := by decide +kernel
def xX12_wrong : zX := (RX12, cX12_wrong, 4, none, false, { frames := 1, cells := 0, slots := 0, locals := 90 }, 0, 0, 0, 0)
theorem rmX12_wrong : z_Rm xX12_wrong := by unfold z_Rm xX12_wrong; exact ⟨by decide, by decide⟩
theorem reX12_wrong : z_Re xX12_wrong := ⟨rfl, rfl⟩
theorem rlX12_wrong : 1 ≤ xX12_wrong.2.2.2.2.2.1.frames ∧ 21 ≤ xX12_wrong.2.2.2.2.2.1.locals := by unfold xX12_wrong; exact ⟨by decide, by decide⟩
theorem meX12_wrong : z_Me yX12_wrong xX12_wrong 2 := ⟨wd949, wd848, by decide, by decide, by decide +kernel⟩
noncomputable def kX12_wrong_45 : zK zR := q_vret
noncomputable def kX12_wrong_46 : zK zR := (q_aload 0 (q_iload 1 (q_putI 12 15 (q_aload 0 (q_iload 3 (q_putI 12 16 q_vret))))))
noncomputable def kX12_wrong_0 : zK zR := (q_aload 0 (q_getR 12 6 (q_iload 2 (q_iald (q_istore 3 (q_aload 0 (q_getI 12 13 (q_if_gt kX12_wrong_45 (q_aload 0 (q_getI 12 15 (q_if_eq kX12_wrong_46 (q_iload 3 (q_aload 0 (q_getI 12 16 (q_icmp_gt kX12_wrong_45 (q_iload 3 (q_aload 0 (q_getI 12 16 (q_icmp_ne kX12_wrong_46 (q_iload 1 (q_aload 0 (q_getI 12 15 (q_icmp_lt kX12_wrong_46 kX12_wrong_45)))))))))))))))))))))))
set_option maxRecDepth 100000 in
theorem tX12_wrong_45 {l : Launch} {D : zD} {B sz0 : Nat} {post : Option Value → zS → Prop} : zSnd l D B xX12_wrong sz0 post 45 kX12_wrong_45 (z_Jr post) := (s_vret dX12_wrong_45 rfl)
set_option maxRecDepth 100000 in
theorem tX12_wrong_46 {l : Launch} {D : zD} {B sz0 : Nat} {post : Option Value → zS → Prop} : zSnd l D B xX12_wrong sz0 post 46 kX12_wrong_46 (z_Jr post) := (s_aload_n dX12_wrong_46 rfl (s_iload_n dX12_wrong_47 rfl (s_putI (f := 15) dX12_wrong_48 clX12 (by decide) rfl rfl rfl wd947 (s_aload_n dX12_wrong_51 rfl (s_iload_n dX12_wrong_52 rfl (s_putI (f := 16) dX12_wrong_53 clX12 (by decide) rfl rfl rfl wd948 (s_vret dX12_wrong_56 rfl)))))))
set_option maxRecDepth 100000 in
theorem tX12_wrong_0 {l : Launch} {D : zD} {B sz0 : Nat} {post : Option Value → zS → Prop} : zSnd l D B xX12_wrong sz0 post 0 kX12_wrong_0 (z_Jr post) := (s_aload_n dX12_wrong_0 rfl (s_getR (f := 6) dX12_wrong_1 clX12 (by decide) rfl wd866 (s_iload_n dX12_wrong_4 rfl (s_iald dX12_wrong_5 (s_istore_n dX12_wrong_6 rfl (s_aload_n dX12_wrong_7 rfl (s_getI (f := 13) dX12_wrong_8 clX12 (by decide) rfl wd942 (s_if_gt (tgt := 45) dX12_wrong_11 (by decide) tX12_wrong_45 (s_aload_n dX12_wrong_14 rfl (s_getI (f := 15) dX12_wrong_15 clX12 (by decide) rfl wd947 (s_if_eq (tgt := 46) dX12_wrong_18 (by decide) tX12_wrong_46 (s_iload_n dX12_wrong_21 rfl (s_aload_n dX12_wrong_22 rfl (s_getI (f := 16) dX12_wrong_23 clX12 (by decide) rfl wd948 (s_icmp_gt (tgt := 45) dX12_wrong_26 (by decide) tX12_wrong_45 (s_iload_n dX12_wrong_29 rfl (s_aload_n dX12_wrong_30 rfl (s_getI (f := 16) dX12_wrong_31 clX12 (by decide) rfl wd948 (s_icmp_ne (tgt := 46) dX12_wrong_34 (by decide) tX12_wrong_46 (s_iload_n dX12_wrong_37 rfl (s_aload_n dX12_wrong_38 rfl (s_getI (f := 15) dX12_wrong_39 clX12 (by decide) rfl wd947 (s_icmp_lt (tgt := 46) dX12_wrong_42 (by decide) tX12_wrong_46 tX12_wrong_45)))))))))))))))))))))))
noncomputable def fX12_wrong : zF := z_fn 4 kX12_wrong_0
theorem mX12_wrong {l : Launch} {D : zD} {B : Nat} : z_MF l D B yX12_wrong xX12_wrong fX12_wrong := z_mf (by decide) rfl (fun h => by cases h) rfl (fun as σ r h => ⟨z_fn_len h, kX12_wrong_0, z_fn_run h, fun _ => tX12_wrong_0⟩)
/-! ===== RowChildrenModel.goesOn ===== -/
theorem dX12_goesOn_0 : decode cX12_goesOn 0 = .ok (.aload_n 0, 1) := by decide +kernel
theorem dX12_goesOn_1 : decode cX12_goesOn 1 = .ok (.getfield 222, 3) := by decide +kernel
theorem dX12_goesOn_4 : decode cX12_goesOn 4 = .ok (.sipush 400, 3) := by decide +kernel
theorem dX12_goesOn_7 : decode cX12_goesOn 7 = .ok (.if_icmp .ne 11, 3) := by decide +kernel
theorem dX12_goesOn_10 : decode cX12_goesOn 10 = .ok (.aload_n 0, 1) := by decide +kernel
theorem dX12_goesOn_11 : decode cX12_goesOn 11 = .ok (.iconst 2, 1) := by decide +kernel
theorem dX12_goesOn_12 : decode cX12_goesOn 12 = .ok (.invokevirtual 234, 3) := by decide +kernel
theorem dX12_goesOn_15 : decode cX12_goesOn 15 = .ok (.goto 13, 3) := by decide +kernel
theorem dX12_goesOn_18 : decode cX12_goesOn 18 = .ok (.aload_n 0, 1) := by decide +kernel
theorem dX12_goesOn_19 : decode cX12_goesOn 19 = .ok (.dup, 1) := by decide +kernel
theorem dX12_goesOn_20 : decode cX12_goesOn 20 = .ok (.getfield 222, 3) := by decide +kernel
theorem dX12_goesOn_23 : decode cX12_goesOn 23 = .ok (.iconst 1, 1) := by decide +kernel
theorem dX12_goesOn_24 : decode cX12_goesOn 24 = .ok (.iadd, 1) := by decide +kernel
theorem dX12_goesOn_25 : decode cX12_goesOn 25 = .ok (.putfield 222, 3) := by decide +kernel
theorem dX12_goesOn_28 : decode cX12_goesOn 28 = .ok (.return_, 1) := by decide +kernel
def xX12_goesOn : zX := (RX12, cX12_goesOn, 1, none, false, { frames := 2, cells := 0, slots := 0, locals := 111 }, 0, 0, 0, 0)
theorem rmX12_goesOn : z_Rm xX12_goesOn := by unfold z_Rm xX12_goesOn; exact ⟨by decide, by decide⟩
theorem reX12_goesOn : z_Re xX12_goesOn := ⟨rfl, rfl⟩
theorem rlX12_goesOn : 1 ≤ xX12_goesOn.2.2.2.2.2.1.frames ∧ 21 ≤ xX12_goesOn.2.2.2.2.2.1.locals := by unfold xX12_goesOn; exact ⟨by decide, by decide⟩
theorem meX12_goesOn : z_Me yX12_goesOn xX12_goesOn 0 := ⟨wd953, wd848, by decide, by decide, by decide +kernel⟩
theorem fitX12_goesOn_12 : z_Fit xX12_fail xX12_goesOn := by unfold z_Fit; simp only [xX12_fail, xX12_goesOn]; exact ⟨by decide, by decide⟩
noncomputable def kX12_goesOn_28 : zK zR := q_vret
noncomputable def kX12_goesOn_0 : zK zR := (q_aload 0 (q_getI 12 11 (q_push 400 (q_icmp_ne (q_aload 0 (q_dup (q_getI 12 11 (q_push 1 (q_iadd (q_putI 12 11 kX12_goesOn_28)))))) (q_aload 0 (q_push 2 (q_callV 12 fX12_fail 1 kX12_goesOn_28)))))))
set_option maxRecDepth 100000 in
theorem tX12_goesOn_28 {l : Launch} {D : zD} {B sz0 : Nat} {post : Option Value → zS → Prop} : zSnd l D B xX12_goesOn sz0 post 28 kX12_goesOn_28 (z_Jr post) := (s_vret dX12_goesOn_28 rfl)
set_option maxRecDepth 100000 in
theorem tX12_goesOn_0 {l : Launch} {D : zD} {B sz0 : Nat} {post : Option Value → zS → Prop} : zSnd l D B xX12_goesOn sz0 post 0 kX12_goesOn_0 (z_Jr post) := (s_aload_n dX12_goesOn_0 rfl (s_getI (f := 11) dX12_goesOn_1 clX12 (by decide) rfl wd943 (s_sipush dX12_goesOn_4 (by decide) (s_icmp_ne (tgt := 18) dX12_goesOn_7 (by decide) (s_aload_n dX12_goesOn_18 rfl (s_dup dX12_goesOn_19 (s_getI (f := 11) dX12_goesOn_20 clX12 (by decide) rfl wd943 (s_iconst dX12_goesOn_23 (by decide) (s_iadd dX12_goesOn_24 (s_putI (f := 11) dX12_goesOn_25 clX12 (by decide) rfl rfl rfl wd943 tX12_goesOn_28)))))) (s_aload_n dX12_goesOn_10 rfl (s_iconst dX12_goesOn_11 (by decide) (s_callV (r := (RX12, TX12, 74)) dX12_goesOn_12 mX12_fail meX12_fail wd950 wd951 rfl rfl reX12_fail rmX12_goesOn (fitX12_goesOn_12) wd952 (s_goto (tgt := 28) dX12_goesOn_15 (by decide) tX12_goesOn_28))))))))
noncomputable def fX12_goesOn : zF := z_fn 1 kX12_goesOn_0
theorem mX12_goesOn {l : Launch} {D : zD} {B : Nat} : z_MF l D B yX12_goesOn xX12_goesOn fX12_goesOn := z_mf (by decide) rfl (fun h => by cases h) rfl (fun as σ r h => ⟨z_fn_len h, kX12_goesOn_0, z_fn_run h, fun _ => tX12_goesOn_0⟩)
/-! ===== RowChildrenModel.must ===== -/
theorem dX12_must_0 : decode cX12_must 0 = .ok (.aload_n 0, 1) := by decide +kernel
theorem dX12_must_1 : decode cX12_must 1 = .ok (.iload_n 1, 1) := by decide +kernel
theorem dX12_must_2 : decode cX12_must 2 = .ok (.invokevirtual 237, 3) := by decide +kernel
theorem dX12_must_5 : decode cX12_must 5 = .ok (.ifCond .eq 10, 3) := by decide +kernel
theorem dX12_must_8 : decode cX12_must 8 = .ok (.aload_n 0, 1) := by decide +kernel
theorem dX12_must_9 : decode cX12_must 9 = .ok (.invokevirtual 240, 3) := by decide +kernel
theorem dX12_must_12 : decode cX12_must 12 = .ok (.goto 8, 3) := by decide +kernel
theorem dX12_must_15 : decode cX12_must 15 = .ok (.aload_n 0, 1) := by decide +kernel
theorem dX12_must_16 : decode cX12_must 16 = .ok (.iconst 1, 1) := by decide +kernel
theorem dX12_must_17 : decode cX12_must 17 = .ok (.invokevirtual 234, 3) := by decide +kernel
theorem dX12_must_20 : decode cX12_must 20 = .ok (.return_, 1) := by decide +kernel
def xX12_must : zX := (RX12, cX12_must, 2, none, false, { frames := 3, cells := 0, slots := 0, locals := 131 }, 0, 0, 0, 0)
theorem rmX12_must : z_Rm xX12_must := by unfold z_Rm xX12_must; exact ⟨by decide, by decide⟩
theorem reX12_must : z_Re xX12_must := ⟨rfl, rfl⟩
theorem rlX12_must : 1 ≤ xX12_must.2.2.2.2.2.1.frames ∧ 21 ≤ xX12_must.2.2.2.2.2.1.locals := by unfold xX12_must; exact ⟨by decide, by decide⟩
theorem meX12_must : z_Me yX12_must xX12_must 1 := ⟨wd960, wd848, by decide, by decide, by decide +kernel⟩
theorem fitX12_must_2 : z_Fit xX12_is xX12_must := by unfold z_Fit; simp only [xX12_is, xX12_must]; exact ⟨by decide, by decide⟩
theorem fitX12_must_17 : z_Fit xX12_fail xX12_must := by unfold z_Fit; simp only [xX12_fail, xX12_must]; exact ⟨by decide, by decide⟩
theorem fitX12_must_9 : z_Fit xX12_goesOn xX12_must := by unfold z_Fit; simp only [xX12_goesOn, xX12_must]; exact ⟨by decide, by decide⟩
noncomputable def kX12_must_20 : zK zR := q_vret
noncomputable def kX12_must_0 : zK zR := (q_aload 0 (q_iload 1 (q_callV 12 fX12_is 1 (q_if_eq (q_aload 0 (q_push 1 (q_callV 12 fX12_fail 1 kX12_must_20))) (q_aload 0 (q_callV 12 fX12_goesOn 0 kX12_must_20))))))
set_option maxRecDepth 100000 in
theorem tX12_must_20 {l : Launch} {D : zD} {B sz0 : Nat} {post : Option Value → zS → Prop} : zSnd l D B xX12_must sz0 post 20 kX12_must_20 (z_Jr post) := (s_vret dX12_must_20 rfl)
set_option maxRecDepth 100000 in
theorem tX12_must_0 {l : Launch} {D : zD} {B sz0 : Nat} {post : Option Value → zS → Prop} : zSnd l D B xX12_must sz0 post 0 kX12_must_0 (z_Jr post) := (s_aload_n dX12_must_0 rfl (s_iload_n dX12_must_1 rfl (s_callV (r := (RX12, TX12, 74)) dX12_must_2 mX12_is meX12_is wd954 wd955 rfl rfl reX12_is rmX12_must (fitX12_must_2) wd956 (s_if_eq (tgt := 15) dX12_must_5 (by decide) (s_aload_n dX12_must_15 rfl (s_iconst dX12_must_16 (by decide) (s_callV (r := (RX12, TX12, 74)) dX12_must_17 mX12_fail meX12_fail wd950 wd951 rfl rfl reX12_fail rmX12_must (fitX12_must_17) wd952 tX12_must_20))) (s_aload_n dX12_must_8 rfl (s_callV (r := (RX12, TX12, 74)) dX12_must_9 mX12_goesOn meX12_goesOn wd957 wd958 rfl rfl reX12_goesOn rmX12_must (fitX12_must_9) wd959 (s_goto (tgt := 20) dX12_must_12 (by decide) tX12_must_20)))))))
noncomputable def fX12_must : zF := z_fn 2 kX12_must_0
theorem mX12_must {l : Launch} {D : zD} {B : Nat} : z_MF l D B yX12_must xX12_must fX12_must := z_mf (by decide) rfl (fun h => by cases h) rfl (fun as σ r h => ⟨z_fn_len h, kX12_must_0, z_fn_run h, fun _ => tX12_must_0⟩)
/-! ===== RowChildrenModel.bounded ===== -/
theorem dX12_bounded_0 : decode cX12_bounded 0 = .ok (.aload_n 0, 1) := by decide +kernel
theorem dX12_bounded_1 : decode cX12_bounded 1 = .ok (.getfield 219, 3) := by decide +kernel
theorem dX12_bounded_4 : decode cX12_bounded 4 = .ok (.ifCond .gt 11, 3) := by decide +kernel
theorem dX12_bounded_7 : decode cX12_bounded 7 = .ok (.aload_n 0, 1) := by decide +kernel
theorem dX12_bounded_8 : decode cX12_bounded 8 = .ok (.iconst 2, 1) := by decide +kernel
theorem dX12_bounded_9 : decode cX12_bounded 9 = .ok (.invokevirtual 237, 3) := by decide +kernel
theorem dX12_bounded_12 : decode cX12_bounded 12 = .ok (.ifCond .ne 10, 3) := by decide +kernel
theorem dX12_bounded_15 : decode cX12_bounded 15 = .ok (.aload_n 0, 1) := by decide +kernel
theorem dX12_bounded_16 : decode cX12_bounded 16 = .ok (.iconst 1, 1) := by decide +kernel
theorem dX12_bounded_17 : decode cX12_bounded 17 = .ok (.invokevirtual 234, 3) := by decide +kernel
theorem dX12_bounded_20 : decode cX12_bounded 20 = .ok (.iload_n 1, 1) := by decide +kernel
theorem dX12_bounded_21 : decode cX12_bounded 21 = .ok (.ireturn, 1) := by decide +kernel
theorem dX12_bounded_22 : decode cX12_bounded 22 = .ok (.aload_n 0, 1) := by decide +kernel
theorem dX12_bounded_23 : decode cX12_bounded 23 = .ok (.getfield 27, 3) := by decide +kernel
theorem dX12_bounded_26 : decode cX12_bounded 26 = .ok (.aload_n 0, 1) := by decide +kernel
theorem dX12_bounded_27 : decode cX12_bounded 27 = .ok (.getfield 222, 3) := by decide +kernel
theorem dX12_bounded_30 : decode cX12_bounded 30 = .ok (.iaload, 1) := by decide +kernel
theorem dX12_bounded_31 : decode cX12_bounded 31 = .ok (.istore_n 3, 1) := by decide +kernel
theorem dX12_bounded_32 : decode cX12_bounded 32 = .ok (.iload_n 3, 1) := by decide +kernel
theorem dX12_bounded_33 : decode cX12_bounded 33 = .ok (.iload_n 1, 1) := by decide +kernel
theorem dX12_bounded_34 : decode cX12_bounded 34 = .ok (.if_icmp .lt 8, 3) := by decide +kernel
theorem dX12_bounded_37 : decode cX12_bounded 37 = .ok (.iload_n 3, 1) := by decide +kernel
theorem dX12_bounded_38 : decode cX12_bounded 38 = .ok (.iload_n 2, 1) := by decide +kernel
theorem dX12_bounded_39 : decode cX12_bounded 39 = .ok (.if_icmp .le 12, 3) := by decide +kernel
theorem dX12_bounded_42 : decode cX12_bounded 42 = .ok (.aload_n 0, 1) := by decide +kernel
theorem dX12_bounded_43 : decode cX12_bounded 43 = .ok (.iconst 5, 1) := by decide +kernel
theorem dX12_bounded_44 : decode cX12_bounded 44 = .ok (.aload_n 0, 1) := by decide +kernel
theorem dX12_bounded_45 : decode cX12_bounded 45 = .ok (.getfield 222, 3) := by decide +kernel
theorem dX12_bounded_48 : decode cX12_bounded 48 = .ok (.invokevirtual 267, 3) := by decide +kernel
theorem dX12_bounded_51 : decode cX12_bounded 51 = .ok (.aload_n 0, 1) := by decide +kernel
theorem dX12_bounded_52 : decode cX12_bounded 52 = .ok (.invokevirtual 240, 3) := by decide +kernel
theorem dX12_bounded_55 : decode cX12_bounded 55 = .ok (.iload_n 3, 1) := by decide +kernel
theorem dX12_bounded_56 : decode cX12_bounded 56 = .ok (.ireturn, 1) := by decide +kernel
def xX12_bounded : zX := (RX12, cX12_bounded, 4, (some .int), false, { frames := 3, cells := 0, slots := 0, locals := 131 }, 0, 0, 0, 0)
theorem rmX12_bounded : z_Rm xX12_bounded := by unfold z_Rm xX12_bounded; exact ⟨by decide, by decide⟩
theorem reX12_bounded : z_Re xX12_bounded := ⟨rfl, rfl⟩
theorem rlX12_bounded : 1 ≤ xX12_bounded.2.2.2.2.2.1.frames ∧ 21 ≤ xX12_bounded.2.2.2.2.2.1.locals := by unfold xX12_bounded; exact ⟨by decide, by decide⟩
theorem meX12_bounded : z_Me yX12_bounded xX12_bounded 2 := ⟨wd964, wd848, by decide, by decide, by decide +kernel⟩
theorem fitX12_bounded_17 : z_Fit xX12_fail xX12_bounded := by unfold z_Fit; simp only [xX12_fail, xX12_bounded]; exact ⟨by decide, by decide⟩
theorem fitX12_bounded_9 : z_Fit xX12_is xX12_bounded := by unfold z_Fit; simp only [xX12_is, xX12_bounded]; exact ⟨by decide, by decide⟩
theorem fitX12_bounded_48 : z_Fit xX12_wrong xX12_bounded := by unfold z_Fit; simp only [xX12_wrong, xX12_bounded]; exact ⟨by decide, by decide⟩
theorem fitX12_bounded_52 : z_Fit xX12_goesOn xX12_bounded := by unfold z_Fit; simp only [xX12_goesOn, xX12_bounded]; exact ⟨by decide, by decide⟩
noncomputable def kX12_bounded_15 : zK zR := (q_aload 0 (q_push 1 (q_callV 12 fX12_fail 1 (q_iload 1 q_iret))))
noncomputable def kX12_bounded_51 : zK zR := (q_aload 0 (q_callV 12 fX12_goesOn 0 (q_iload 3 q_iret)))
noncomputable def kX12_bounded_42 : zK zR := (q_aload 0 (q_push 5 (q_aload 0 (q_getI 12 11 (q_callV 12 fX12_wrong 2 kX12_bounded_51)))))
noncomputable def kX12_bounded_0 : zK zR := (q_aload 0 (q_getI 12 13 (q_if_gt kX12_bounded_15 (q_aload 0 (q_push 2 (q_callV 12 fX12_is 1 (q_if_ne (q_aload 0 (q_getR 12 7 (q_aload 0 (q_getI 12 11 (q_iald (q_istore 3 (q_iload 3 (q_iload 1 (q_icmp_lt kX12_bounded_42 (q_iload 3 (q_iload 2 (q_icmp_le kX12_bounded_51 kX12_bounded_42)))))))))))) kX12_bounded_15)))))))
set_option maxRecDepth 100000 in
theorem tX12_bounded_15 {l : Launch} {D : zD} {B sz0 : Nat} {post : Option Value → zS → Prop} : zSnd l D B xX12_bounded sz0 post 15 kX12_bounded_15 (z_Jr post) := (s_aload_n dX12_bounded_15 rfl (s_iconst dX12_bounded_16 (by decide) (s_callV (r := (RX12, TX12, 74)) dX12_bounded_17 mX12_fail meX12_fail wd950 wd951 rfl rfl reX12_fail rmX12_bounded (fitX12_bounded_17) wd952 (s_iload_n dX12_bounded_20 rfl (s_iret dX12_bounded_21 rfl)))))
set_option maxRecDepth 100000 in
theorem tX12_bounded_51 {l : Launch} {D : zD} {B sz0 : Nat} {post : Option Value → zS → Prop} : zSnd l D B xX12_bounded sz0 post 51 kX12_bounded_51 (z_Jr post) := (s_aload_n dX12_bounded_51 rfl (s_callV (r := (RX12, TX12, 74)) dX12_bounded_52 mX12_goesOn meX12_goesOn wd957 wd958 rfl rfl reX12_goesOn rmX12_bounded (fitX12_bounded_52) wd959 (s_iload_n dX12_bounded_55 rfl (s_iret dX12_bounded_56 rfl))))
set_option maxRecDepth 100000 in
theorem tX12_bounded_42 {l : Launch} {D : zD} {B sz0 : Nat} {post : Option Value → zS → Prop} : zSnd l D B xX12_bounded sz0 post 42 kX12_bounded_42 (z_Jr post) := (s_aload_n dX12_bounded_42 rfl (s_iconst dX12_bounded_43 (by decide) (s_aload_n dX12_bounded_44 rfl (s_getI (f := 11) dX12_bounded_45 clX12 (by decide) rfl wd943 (s_callV (r := (RX12, TX12, 74)) dX12_bounded_48 mX12_wrong meX12_wrong wd961 wd962 rfl rfl reX12_wrong rmX12_bounded (fitX12_bounded_48) wd963 tX12_bounded_51)))))
set_option maxRecDepth 100000 in
theorem tX12_bounded_0 {l : Launch} {D : zD} {B sz0 : Nat} {post : Option Value → zS → Prop} : zSnd l D B xX12_bounded sz0 post 0 kX12_bounded_0 (z_Jr post) := (s_aload_n dX12_bounded_0 rfl (s_getI (f := 13) dX12_bounded_1 clX12 (by decide) rfl wd942 (s_if_gt (tgt := 15) dX12_bounded_4 (by decide) tX12_bounded_15 (s_aload_n dX12_bounded_7 rfl (s_iconst dX12_bounded_8 (by decide) (s_callV (r := (RX12, TX12, 74)) dX12_bounded_9 mX12_is meX12_is wd954 wd955 rfl rfl reX12_is rmX12_bounded (fitX12_bounded_9) wd956 (s_if_ne (tgt := 22) dX12_bounded_12 (by decide) (s_aload_n dX12_bounded_22 rfl (s_getR (f := 7) dX12_bounded_23 clX12 (by decide) rfl wd867 (s_aload_n dX12_bounded_26 rfl (s_getI (f := 11) dX12_bounded_27 clX12 (by decide) rfl wd943 (s_iald dX12_bounded_30 (s_istore_n dX12_bounded_31 rfl (s_iload_n dX12_bounded_32 rfl (s_iload_n dX12_bounded_33 rfl (s_icmp_lt (tgt := 42) dX12_bounded_34 (by decide) tX12_bounded_42 (s_iload_n dX12_bounded_37 rfl (s_iload_n dX12_bounded_38 rfl (s_icmp_le (tgt := 51) dX12_bounded_39 (by decide) tX12_bounded_51 tX12_bounded_42)))))))))))) tX12_bounded_15)))))))
noncomputable def fX12_bounded : zF := z_fn 4 kX12_bounded_0
theorem mX12_bounded {l : Launch} {D : zD} {B : Nat} : z_MF l D B yX12_bounded xX12_bounded fX12_bounded := z_mf (by decide) rfl (fun h => by cases h) rfl (fun as σ r h => ⟨z_fn_len h, kX12_bounded_0, z_fn_run h, fun _ => tX12_bounded_0⟩)
/-! ===== RowChildrenModel.roomFor ===== -/
theorem dX12_roomFor_0 : decode cX12_roomFor 0 = .ok (.iload_n 1, 1) := by decide +kernel
theorem dX12_roomFor_1 : decode cX12_roomFor 1 = .ok (.iload_n 2, 1) := by decide +kernel
theorem dX12_roomFor_2 : decode cX12_roomFor 2 = .ok (.if_icmp .ne 8, 3) := by decide +kernel
theorem dX12_roomFor_5 : decode cX12_roomFor 5 = .ok (.aload_n 0, 1) := by decide +kernel
theorem dX12_roomFor_6 : decode cX12_roomFor 6 = .ok (.iconst 2, 1) := by decide +kernel
theorem dX12_roomFor_7 : decode cX12_roomFor 7 = .ok (.invokevirtual 234, 3) := by decide +kernel
theorem dX12_roomFor_10 : decode cX12_roomFor 10 = .ok (.aload_n 0, 1) := by decide +kernel
theorem dX12_roomFor_11 : decode cX12_roomFor 11 = .ok (.getfield 219, 3) := by decide +kernel
theorem dX12_roomFor_14 : decode cX12_roomFor 14 = .ok (.ifCond .ne 7, 3) := by decide +kernel
theorem dX12_roomFor_17 : decode cX12_roomFor 17 = .ok (.aload_n 0, 1) := by decide +kernel
theorem dX12_roomFor_18 : decode cX12_roomFor 18 = .ok (.invokevirtual 240, 3) := by decide +kernel
theorem dX12_roomFor_21 : decode cX12_roomFor 21 = .ok (.return_, 1) := by decide +kernel
def xX12_roomFor : zX := (RX12, cX12_roomFor, 3, none, false, { frames := 3, cells := 0, slots := 0, locals := 131 }, 0, 0, 0, 0)
theorem rmX12_roomFor : z_Rm xX12_roomFor := by unfold z_Rm xX12_roomFor; exact ⟨by decide, by decide⟩
theorem reX12_roomFor : z_Re xX12_roomFor := ⟨rfl, rfl⟩
theorem rlX12_roomFor : 1 ≤ xX12_roomFor.2.2.2.2.2.1.frames ∧ 21 ≤ xX12_roomFor.2.2.2.2.2.1.locals := by unfold xX12_roomFor; exact ⟨by decide, by decide⟩
theorem meX12_roomFor : z_Me yX12_roomFor xX12_roomFor 2 := ⟨wd965, wd848, by decide, by decide, by decide +kernel⟩
theorem fitX12_roomFor_18 : z_Fit xX12_goesOn xX12_roomFor := by unfold z_Fit; simp only [xX12_goesOn, xX12_roomFor]; exact ⟨by decide, by decide⟩
theorem fitX12_roomFor_7 : z_Fit xX12_fail xX12_roomFor := by unfold z_Fit; simp only [xX12_fail, xX12_roomFor]; exact ⟨by decide, by decide⟩
noncomputable def kX12_roomFor_21 : zK zR := q_vret
noncomputable def kX12_roomFor_10 : zK zR := (q_aload 0 (q_getI 12 13 (q_if_ne kX12_roomFor_21 (q_aload 0 (q_callV 12 fX12_goesOn 0 kX12_roomFor_21)))))
noncomputable def kX12_roomFor_0 : zK zR := (q_iload 1 (q_iload 2 (q_icmp_ne kX12_roomFor_10 (q_aload 0 (q_push 2 (q_callV 12 fX12_fail 1 kX12_roomFor_10))))))
set_option maxRecDepth 100000 in
theorem tX12_roomFor_21 {l : Launch} {D : zD} {B sz0 : Nat} {post : Option Value → zS → Prop} : zSnd l D B xX12_roomFor sz0 post 21 kX12_roomFor_21 (z_Jr post) := (s_vret dX12_roomFor_21 rfl)
set_option maxRecDepth 100000 in
theorem tX12_roomFor_10 {l : Launch} {D : zD} {B sz0 : Nat} {post : Option Value → zS → Prop} : zSnd l D B xX12_roomFor sz0 post 10 kX12_roomFor_10 (z_Jr post) := (s_aload_n dX12_roomFor_10 rfl (s_getI (f := 13) dX12_roomFor_11 clX12 (by decide) rfl wd942 (s_if_ne (tgt := 21) dX12_roomFor_14 (by decide) tX12_roomFor_21 (s_aload_n dX12_roomFor_17 rfl (s_callV (r := (RX12, TX12, 74)) dX12_roomFor_18 mX12_goesOn meX12_goesOn wd957 wd958 rfl rfl reX12_goesOn rmX12_roomFor (fitX12_roomFor_18) wd959 tX12_roomFor_21)))))
set_option maxRecDepth 100000 in
theorem tX12_roomFor_0 {l : Launch} {D : zD} {B sz0 : Nat} {post : Option Value → zS → Prop} : zSnd l D B xX12_roomFor sz0 post 0 kX12_roomFor_0 (z_Jr post) := (s_iload_n dX12_roomFor_0 rfl (s_iload_n dX12_roomFor_1 rfl (s_icmp_ne (tgt := 10) dX12_roomFor_2 (by decide) tX12_roomFor_10 (s_aload_n dX12_roomFor_5 rfl (s_iconst dX12_roomFor_6 (by decide) (s_callV (r := (RX12, TX12, 74)) dX12_roomFor_7 mX12_fail meX12_fail wd950 wd951 rfl rfl reX12_fail rmX12_roomFor (fitX12_roomFor_7) wd952 tX12_roomFor_10))))))
noncomputable def fX12_roomFor : zF := z_fn 3 kX12_roomFor_0
theorem mX12_roomFor {l : Launch} {D : zD} {B : Nat} : z_MF l D B yX12_roomFor xX12_roomFor fX12_roomFor := z_mf (by decide) rfl (fun h => by cases h) rfl (fun as σ r h => ⟨z_fn_len h, kX12_roomFor_0, z_fn_run h, fun _ => tX12_roomFor_0⟩)
/-! ===== RowChildrenModel.colourTold ===== -/
theorem dX12_colourTold_0 : decode cX12_colourTold 0 = .ok (.aload_n 0, 1) := by decide +kernel
theorem dX12_colourTold_1 : decode cX12_colourTold 1 = .ok (.iconst 0, 1) := by decide +kernel
theorem dX12_colourTold_2 : decode cX12_colourTold 2 = .ok (.iconst 3, 1) := by decide +kernel
theorem dX12_colourTold_3 : decode cX12_colourTold 3 = .ok (.invokevirtual 277, 3) := by decide +kernel
theorem dX12_colourTold_6 : decode cX12_colourTold 6 = .ok (.istore_n 1, 1) := by decide +kernel
theorem dX12_colourTold_7 : decode cX12_colourTold 7 = .ok (.iload_n 1, 1) := by decide +kernel
theorem dX12_colourTold_8 : decode cX12_colourTold 8 = .ok (.aload_n 0, 1) := by decide +kernel
theorem dX12_colourTold_9 : decode cX12_colourTold 9 = .ok (.getfield 52, 3) := by decide +kernel
theorem dX12_colourTold_12 : decode cX12_colourTold 12 = .ok (.aload_n 0, 1) := by decide +kernel
theorem dX12_colourTold_13 : decode cX12_colourTold 13 = .ok (.getfield 252, 3) := by decide +kernel
theorem dX12_colourTold_16 : decode cX12_colourTold 16 = .ok (.iaload, 1) := by decide +kernel
theorem dX12_colourTold_17 : decode cX12_colourTold 17 = .ok (.if_icmp .le 13, 3) := by decide +kernel
theorem dX12_colourTold_20 : decode cX12_colourTold 20 = .ok (.aload_n 0, 1) := by decide +kernel
theorem dX12_colourTold_21 : decode cX12_colourTold 21 = .ok (.getfield 52, 3) := by decide +kernel
theorem dX12_colourTold_24 : decode cX12_colourTold 24 = .ok (.aload_n 0, 1) := by decide +kernel
theorem dX12_colourTold_25 : decode cX12_colourTold 25 = .ok (.getfield 252, 3) := by decide +kernel
theorem dX12_colourTold_28 : decode cX12_colourTold 28 = .ok (.iload_n 1, 1) := by decide +kernel
theorem dX12_colourTold_29 : decode cX12_colourTold 29 = .ok (.iastore, 1) := by decide +kernel
theorem dX12_colourTold_30 : decode cX12_colourTold 30 = .ok (.iload_n 1, 1) := by decide +kernel
theorem dX12_colourTold_31 : decode cX12_colourTold 31 = .ok (.ifCond .lt 8, 3) := by decide +kernel
theorem dX12_colourTold_34 : decode cX12_colourTold 34 = .ok (.iload_n 1, 1) := by decide +kernel
theorem dX12_colourTold_35 : decode cX12_colourTold 35 = .ok (.iconst 3, 1) := by decide +kernel
theorem dX12_colourTold_36 : decode cX12_colourTold 36 = .ok (.if_icmp .le 7, 3) := by decide +kernel
theorem dX12_colourTold_39 : decode cX12_colourTold 39 = .ok (.iconst 0, 1) := by decide +kernel
theorem dX12_colourTold_40 : decode cX12_colourTold 40 = .ok (.goto 4, 3) := by decide +kernel
theorem dX12_colourTold_43 : decode cX12_colourTold 43 = .ok (.iload_n 1, 1) := by decide +kernel
theorem dX12_colourTold_44 : decode cX12_colourTold 44 = .ok (.ireturn, 1) := by decide +kernel
def xX12_colourTold : zX := (RX12, cX12_colourTold, 2, (some .int), false, { frames := 4, cells := 0, slots := 0, locals := 154 }, 0, 0, 0, 0)
theorem rmX12_colourTold : z_Rm xX12_colourTold := by unfold z_Rm xX12_colourTold; exact ⟨by decide, by decide⟩
theorem reX12_colourTold : z_Re xX12_colourTold := ⟨rfl, rfl⟩
theorem rlX12_colourTold : 1 ≤ xX12_colourTold.2.2.2.2.2.1.frames ∧ 21 ≤ xX12_colourTold.2.2.2.2.2.1.locals := by unfold xX12_colourTold; exact ⟨by decide, by decide⟩
theorem meX12_colourTold : z_Me yX12_colourTold xX12_colourTold 0 := ⟨wd970, wd848, by decide, by decide, by decide +kernel⟩
theorem fitX12_colourTold_3 : z_Fit xX12_bounded xX12_colourTold := by unfold z_Fit; simp only [xX12_bounded, xX12_colourTold]; exact ⟨by decide, by decide⟩
noncomputable def kX12_colourTold_44 : zK zR := q_iret
noncomputable def kX12_colourTold_39 : zK zR := (q_push 0 kX12_colourTold_44)
noncomputable def kX12_colourTold_30 : zK zR := (q_iload 1 (q_if_lt kX12_colourTold_39 (q_iload 1 (q_push 3 (q_icmp_le (q_iload 1 kX12_colourTold_44) kX12_colourTold_39)))))
noncomputable def kX12_colourTold_0 : zK zR := (q_aload 0 (q_push 0 (q_push 3 (q_callV 12 fX12_bounded 2 (q_istore 1 (q_iload 1 (q_aload 0 (q_getR 12 25 (q_aload 0 (q_getI 12 19 (q_iald (q_icmp_le kX12_colourTold_30 (q_aload 0 (q_getR 12 25 (q_aload 0 (q_getI 12 19 (q_iload 1 (q_iast kX12_colourTold_30))))))))))))))))))
set_option maxRecDepth 100000 in
theorem tX12_colourTold_44 {l : Launch} {D : zD} {B sz0 : Nat} {post : Option Value → zS → Prop} : zSnd l D B xX12_colourTold sz0 post 44 kX12_colourTold_44 (z_Jr post) := (s_iret dX12_colourTold_44 rfl)
set_option maxRecDepth 100000 in
theorem tX12_colourTold_39 {l : Launch} {D : zD} {B sz0 : Nat} {post : Option Value → zS → Prop} : zSnd l D B xX12_colourTold sz0 post 39 kX12_colourTold_39 (z_Jr post) := (s_iconst dX12_colourTold_39 (by decide) (s_goto (tgt := 44) dX12_colourTold_40 (by decide) tX12_colourTold_44))
set_option maxRecDepth 100000 in
theorem tX12_colourTold_30 {l : Launch} {D : zD} {B sz0 : Nat} {post : Option Value → zS → Prop} : zSnd l D B xX12_colourTold sz0 post 30 kX12_colourTold_30 (z_Jr post) := (s_iload_n dX12_colourTold_30 rfl (s_if_lt (tgt := 39) dX12_colourTold_31 (by decide) tX12_colourTold_39 (s_iload_n dX12_colourTold_34 rfl (s_iconst dX12_colourTold_35 (by decide) (s_icmp_le (tgt := 43) dX12_colourTold_36 (by decide) (s_iload_n dX12_colourTold_43 rfl tX12_colourTold_44) tX12_colourTold_39)))))
set_option maxRecDepth 100000 in
theorem tX12_colourTold_0 {l : Launch} {D : zD} {B sz0 : Nat} {post : Option Value → zS → Prop} : zSnd l D B xX12_colourTold sz0 post 0 kX12_colourTold_0 (z_Jr post) := (s_aload_n dX12_colourTold_0 rfl (s_iconst dX12_colourTold_1 (by decide) (s_iconst dX12_colourTold_2 (by decide) (s_callV (r := (RX12, TX12, 74)) dX12_colourTold_3 mX12_bounded meX12_bounded wd966 wd967 rfl rfl reX12_bounded rmX12_colourTold (fitX12_colourTold_3) wd968 (s_istore_n dX12_colourTold_6 rfl (s_iload_n dX12_colourTold_7 rfl (s_aload_n dX12_colourTold_8 rfl (s_getR (f := 25) dX12_colourTold_9 clX12 (by decide) rfl wd841 (s_aload_n dX12_colourTold_12 rfl (s_getI (f := 19) dX12_colourTold_13 clX12 (by decide) rfl wd969 (s_iald dX12_colourTold_16 (s_icmp_le (tgt := 30) dX12_colourTold_17 (by decide) tX12_colourTold_30 (s_aload_n dX12_colourTold_20 rfl (s_getR (f := 25) dX12_colourTold_21 clX12 (by decide) rfl wd841 (s_aload_n dX12_colourTold_24 rfl (s_getI (f := 19) dX12_colourTold_25 clX12 (by decide) rfl wd969 (s_iload_n dX12_colourTold_28 rfl (s_iast dX12_colourTold_29 tX12_colourTold_30))))))))))))))))))
noncomputable def fX12_colourTold : zF := z_fn 2 kX12_colourTold_0
theorem mX12_colourTold {l : Launch} {D : zD} {B : Nat} : z_MF l D B yX12_colourTold xX12_colourTold fX12_colourTold := z_mf (by decide) rfl (fun h => by cases h) rfl (fun as σ r h => ⟨z_fn_len h, kX12_colourTold_0, z_fn_run h, fun _ => tX12_colourTold_0⟩)
/-! ===== RowChildrenModel.tellChild ===== -/
theorem dX12_tellChild_0 : decode cX12_tellChild 0 = .ok (.aload_n 0, 1) := by decide +kernel
theorem dX12_tellChild_1 : decode cX12_tellChild 1 = .ok (.invokevirtual 296, 3) := by decide +kernel
theorem dX12_tellChild_4 : decode cX12_tellChild 4 = .ok (.istore_n 1, 1) := by decide +kernel
theorem dX12_tellChild_5 : decode cX12_tellChild 5 = .ok (.aload_n 0, 1) := by decide +kernel
theorem dX12_tellChild_6 : decode cX12_tellChild 6 = .ok (.invokevirtual 296, 3) := by decide +kernel
theorem dX12_tellChild_9 : decode cX12_tellChild 9 = .ok (.istore_n 2, 1) := by decide +kernel
theorem dX12_tellChild_10 : decode cX12_tellChild 10 = .ok (.aload_n 0, 1) := by decide +kernel
theorem dX12_tellChild_11 : decode cX12_tellChild 11 = .ok (.invokevirtual 296, 3) := by decide +kernel
theorem dX12_tellChild_14 : decode cX12_tellChild 14 = .ok (.istore_n 3, 1) := by decide +kernel
theorem dX12_tellChild_15 : decode cX12_tellChild 15 = .ok (.aload_n 0, 1) := by decide +kernel
theorem dX12_tellChild_16 : decode cX12_tellChild 16 = .ok (.iconst 4, 1) := by decide +kernel
theorem dX12_tellChild_17 : decode cX12_tellChild 17 = .ok (.invokevirtual 281, 3) := by decide +kernel
theorem dX12_tellChild_20 : decode cX12_tellChild 20 = .ok (.aload_n 0, 1) := by decide +kernel
theorem dX12_tellChild_21 : decode cX12_tellChild 21 = .ok (.getfield 219, 3) := by decide +kernel
theorem dX12_tellChild_24 : decode cX12_tellChild 24 = .ok (.ifCond .le 4, 3) := by decide +kernel
theorem dX12_tellChild_27 : decode cX12_tellChild 27 = .ok (.return_, 1) := by decide +kernel
theorem dX12_tellChild_28 : decode cX12_tellChild 28 = .ok (.aload_n 0, 1) := by decide +kernel
theorem dX12_tellChild_29 : decode cX12_tellChild 29 = .ok (.getfield 46, 3) := by decide +kernel
theorem dX12_tellChild_32 : decode cX12_tellChild 32 = .ok (.aload_n 0, 1) := by decide +kernel
theorem dX12_tellChild_33 : decode cX12_tellChild 33 = .ok (.getfield 252, 3) := by decide +kernel
theorem dX12_tellChild_36 : decode cX12_tellChild 36 = .ok (.dup2, 1) := by decide +kernel
theorem dX12_tellChild_37 : decode cX12_tellChild 37 = .ok (.iaload, 1) := by decide +kernel
theorem dX12_tellChild_38 : decode cX12_tellChild 38 = .ok (.iconst 1, 1) := by decide +kernel
theorem dX12_tellChild_39 : decode cX12_tellChild 39 = .ok (.iadd, 1) := by decide +kernel
theorem dX12_tellChild_40 : decode cX12_tellChild 40 = .ok (.iastore, 1) := by decide +kernel
theorem dX12_tellChild_41 : decode cX12_tellChild 41 = .ok (.aload_n 0, 1) := by decide +kernel
theorem dX12_tellChild_42 : decode cX12_tellChild 42 = .ok (.getfield 49, 3) := by decide +kernel
theorem dX12_tellChild_45 : decode cX12_tellChild 45 = .ok (.bipush 16, 2) := by decide +kernel
theorem dX12_tellChild_47 : decode cX12_tellChild 47 = .ok (.aload_n 0, 1) := by decide +kernel
theorem dX12_tellChild_48 : decode cX12_tellChild 48 = .ok (.getfield 252, 3) := by decide +kernel
theorem dX12_tellChild_51 : decode cX12_tellChild 51 = .ok (.imul, 1) := by decide +kernel
theorem dX12_tellChild_52 : decode cX12_tellChild 52 = .ok (.iconst 4, 1) := by decide +kernel
theorem dX12_tellChild_53 : decode cX12_tellChild 53 = .ok (.iload_n 1, 1) := by decide +kernel
theorem dX12_tellChild_54 : decode cX12_tellChild 54 = .ok (.imul, 1) := by decide +kernel
theorem dX12_tellChild_55 : decode cX12_tellChild 55 = .ok (.iadd, 1) := by decide +kernel
theorem dX12_tellChild_56 : decode cX12_tellChild 56 = .ok (.iload_n 2, 1) := by decide +kernel
theorem dX12_tellChild_57 : decode cX12_tellChild 57 = .ok (.iadd, 1) := by decide +kernel
theorem dX12_tellChild_58 : decode cX12_tellChild 58 = .ok (.iload_n 3, 1) := by decide +kernel
theorem dX12_tellChild_59 : decode cX12_tellChild 59 = .ok (.iastore, 1) := by decide +kernel
theorem dX12_tellChild_60 : decode cX12_tellChild 60 = .ok (.return_, 1) := by decide +kernel
def xX12_tellChild : zX := (RX12, cX12_tellChild, 4, none, false, { frames := 5, cells := 0, slots := 0, locals := 175 }, 0, 0, 0, 0)
theorem rmX12_tellChild : z_Rm xX12_tellChild := by unfold z_Rm xX12_tellChild; exact ⟨by decide, by decide⟩
theorem reX12_tellChild : z_Re xX12_tellChild := ⟨rfl, rfl⟩
theorem rlX12_tellChild : 1 ≤ xX12_tellChild.2.2.2.2.2.1.frames ∧ 21 ≤ xX12_tellChild.2.2.2.2.2.1.locals := by unfold xX12_tellChild; exact ⟨by decide, by decide⟩
theorem meX12_tellChild : z_Me yX12_tellChild xX12_tellChild 0 := ⟨wd977, wd848, by decide, by decide, by decide +kernel⟩
theorem fitX12_tellChild_1 : z_Fit xX12_colourTold xX12_tellChild := by unfold z_Fit; simp only [xX12_colourTold, xX12_tellChild]; exact ⟨by decide, by decide⟩
theorem fitX12_tellChild_6 : z_Fit xX12_colourTold xX12_tellChild := by unfold z_Fit; simp only [xX12_colourTold, xX12_tellChild]; exact ⟨by decide, by decide⟩
theorem fitX12_tellChild_11 : z_Fit xX12_colourTold xX12_tellChild := by unfold z_Fit; simp only [xX12_colourTold, xX12_tellChild]; exact ⟨by decide, by decide⟩
theorem fitX12_tellChild_17 : z_Fit xX12_must xX12_tellChild := by unfold z_Fit; simp only [xX12_must, xX12_tellChild]; exact ⟨by decide, by decide⟩
noncomputable def kX12_tellChild_0 : zK zR := (q_aload 0 (q_callV 12 fX12_colourTold 0 (q_istore 1 (q_aload 0 (q_callV 12 fX12_colourTold 0 (q_istore 2 (q_aload 0 (q_callV 12 fX12_colourTold 0 (q_istore 3 (q_aload 0 (q_push 4 (q_callV 12 fX12_must 1 (q_aload 0 (q_getI 12 13 (q_if_le (q_aload 0 (q_getR 12 23 (q_aload 0 (q_getI 12 19 (q_dup2 (q_iald (q_push 1 (q_iadd (q_iast (q_aload 0 (q_getR 12 24 (q_push 16 (q_aload 0 (q_getI 12 19 (q_imul (q_push 4 (q_iload 1 (q_imul (q_iadd (q_iload 2 (q_iadd (q_iload 3 (q_iast q_vret))))))))))))))))))))))) q_vret)))))))))))))))
set_option maxRecDepth 100000 in
theorem tX12_tellChild_0 {l : Launch} {D : zD} {B sz0 : Nat} {post : Option Value → zS → Prop} : zSnd l D B xX12_tellChild sz0 post 0 kX12_tellChild_0 (z_Jr post) := (s_aload_n dX12_tellChild_0 rfl (s_callV (r := (RX12, TX12, 74)) dX12_tellChild_1 mX12_colourTold meX12_colourTold wd971 wd972 rfl rfl reX12_colourTold rmX12_tellChild (fitX12_tellChild_1) wd973 (s_istore_n dX12_tellChild_4 rfl (s_aload_n dX12_tellChild_5 rfl (s_callV (r := (RX12, TX12, 74)) dX12_tellChild_6 mX12_colourTold meX12_colourTold wd971 wd972 rfl rfl reX12_colourTold rmX12_tellChild (fitX12_tellChild_6) wd973 (s_istore_n dX12_tellChild_9 rfl (s_aload_n dX12_tellChild_10 rfl (s_callV (r := (RX12, TX12, 74)) dX12_tellChild_11 mX12_colourTold meX12_colourTold wd971 wd972 rfl rfl reX12_colourTold rmX12_tellChild (fitX12_tellChild_11) wd973 (s_istore_n dX12_tellChild_14 rfl (s_aload_n dX12_tellChild_15 rfl (s_iconst dX12_tellChild_16 (by decide) (s_callV (r := (RX12, TX12, 74)) dX12_tellChild_17 mX12_must meX12_must wd974 wd975 rfl rfl reX12_must rmX12_tellChild (fitX12_tellChild_17) wd976 (s_aload_n dX12_tellChild_20 rfl (s_getI (f := 13) dX12_tellChild_21 clX12 (by decide) rfl wd942 (s_if_le (tgt := 28) dX12_tellChild_24 (by decide) (s_aload_n dX12_tellChild_28 rfl (s_getR (f := 23) dX12_tellChild_29 clX12 (by decide) rfl wd840 (s_aload_n dX12_tellChild_32 rfl (s_getI (f := 19) dX12_tellChild_33 clX12 (by decide) rfl wd969 (s_dup2 dX12_tellChild_36 (s_iald dX12_tellChild_37 (s_iconst dX12_tellChild_38 (by decide) (s_iadd dX12_tellChild_39 (s_iast dX12_tellChild_40 (s_aload_n dX12_tellChild_41 rfl (s_getR (f := 24) dX12_tellChild_42 clX12 (by decide) rfl wd846 (s_bipush dX12_tellChild_45 (by decide) (s_aload_n dX12_tellChild_47 rfl (s_getI (f := 19) dX12_tellChild_48 clX12 (by decide) rfl wd969 (s_imul dX12_tellChild_51 (s_iconst dX12_tellChild_52 (by decide) (s_iload_n dX12_tellChild_53 rfl (s_imul dX12_tellChild_54 (s_iadd dX12_tellChild_55 (s_iload_n dX12_tellChild_56 rfl (s_iadd dX12_tellChild_57 (s_iload_n dX12_tellChild_58 rfl (s_iast dX12_tellChild_59 (s_vret dX12_tellChild_60 rfl)))))))))))))))))))))))) (s_vret dX12_tellChild_27 rfl))))))))))))))))
noncomputable def fX12_tellChild : zF := z_fn 4 kX12_tellChild_0
theorem mX12_tellChild {l : Launch} {D : zD} {B : Nat} : z_MF l D B yX12_tellChild xX12_tellChild fX12_tellChild := z_mf (by decide) rfl (fun h => by cases h) rfl (fun as σ r h => ⟨z_fn_len h, kX12_tellChild_0, z_fn_run h, fun _ => tX12_tellChild_0⟩)
/-! ===== RowChildrenModel.tellRow ===== -/
theorem dX12_tellRow_0 : decode cX12_tellRow 0 = .ok (.iconst 4, 1) := by decide +kernel
theorem dX12_tellRow_1 : decode cX12_tellRow 1 = .ok (.aload_n 0, 1) := by decide +kernel
theorem dX12_tellRow_2 : decode cX12_tellRow 2 = .ok (.getfield 252, 3) := by decide +kernel
theorem dX12_tellRow_5 : decode cX12_tellRow 5 = .ok (.imul, 1) := by decide +kernel
theorem dX12_tellRow_6 : decode cX12_tellRow 6 = .ok (.aload_n 0, 1) := by decide +kernel
theorem dX12_tellRow_7 : decode cX12_tellRow 7 = .ok (.getfield 55, 3) := by decide +kernel
theorem dX12_tellRow_10 : decode cX12_tellRow 10 = .ok (.aload_n 0, 1) := by decide +kernel
theorem dX12_tellRow_11 : decode cX12_tellRow 11 = .ok (.getfield 252, 3) := by decide +kernel
theorem dX12_tellRow_14 : decode cX12_tellRow 14 = .ok (.iaload, 1) := by decide +kernel
theorem dX12_tellRow_15 : decode cX12_tellRow 15 = .ok (.iadd, 1) := by decide +kernel
theorem dX12_tellRow_16 : decode cX12_tellRow 16 = .ok (.istore_n 1, 1) := by decide +kernel
theorem dX12_tellRow_17 : decode cX12_tellRow 17 = .ok (.aload_n 0, 1) := by decide +kernel
theorem dX12_tellRow_18 : decode cX12_tellRow 18 = .ok (.getfield 222, 3) := by decide +kernel
theorem dX12_tellRow_21 : decode cX12_tellRow 21 = .ok (.istore_n 2, 1) := by decide +kernel
theorem dX12_tellRow_22 : decode cX12_tellRow 22 = .ok (.aload_n 0, 1) := by decide +kernel
theorem dX12_tellRow_23 : decode cX12_tellRow 23 = .ok (.iconst 1, 1) := by decide +kernel
theorem dX12_tellRow_24 : decode cX12_tellRow 24 = .ok (.invokevirtual 281, 3) := by decide +kernel
theorem dX12_tellRow_27 : decode cX12_tellRow 27 = .ok (.iconst 0, 1) := by decide +kernel
theorem dX12_tellRow_28 : decode cX12_tellRow 28 = .ok (.istore_n 3, 1) := by decide +kernel
theorem dX12_tellRow_29 : decode cX12_tellRow 29 = .ok (.iload_n 3, 1) := by decide +kernel
theorem dX12_tellRow_30 : decode cX12_tellRow 30 = .ok (.aload_n 0, 1) := by decide +kernel
theorem dX12_tellRow_31 : decode cX12_tellRow 31 = .ok (.getfield 255, 3) := by decide +kernel
theorem dX12_tellRow_34 : decode cX12_tellRow 34 = .ok (.if_icmp .ge 38, 3) := by decide +kernel
theorem dX12_tellRow_37 : decode cX12_tellRow 37 = .ok (.aload_n 0, 1) := by decide +kernel
theorem dX12_tellRow_38 : decode cX12_tellRow 38 = .ok (.getfield 219, 3) := by decide +kernel
theorem dX12_tellRow_41 : decode cX12_tellRow 41 = .ok (.ifCond .ne 31, 3) := by decide +kernel
theorem dX12_tellRow_44 : decode cX12_tellRow 44 = .ok (.aload_n 0, 1) := by decide +kernel
theorem dX12_tellRow_45 : decode cX12_tellRow 45 = .ok (.getfield 40, 3) := by decide +kernel
theorem dX12_tellRow_48 : decode cX12_tellRow 48 = .ok (.iload_n 3, 1) := by decide +kernel
theorem dX12_tellRow_49 : decode cX12_tellRow 49 = .ok (.laload, 1) := by decide +kernel
theorem dX12_tellRow_50 : decode cX12_tellRow 50 = .ok (.aload_n 0, 1) := by decide +kernel
theorem dX12_tellRow_51 : decode cX12_tellRow 51 = .ok (.getfield 30, 3) := by decide +kernel
theorem dX12_tellRow_54 : decode cX12_tellRow 54 = .ok (.iload_n 2, 1) := by decide +kernel
theorem dX12_tellRow_55 : decode cX12_tellRow 55 = .ok (.laload, 1) := by decide +kernel
theorem dX12_tellRow_56 : decode cX12_tellRow 56 = .ok (.lcmp, 1) := by decide +kernel
theorem dX12_tellRow_57 : decode cX12_tellRow 57 = .ok (.ifCond .ne 9, 3) := by decide +kernel
theorem dX12_tellRow_60 : decode cX12_tellRow 60 = .ok (.aload_n 0, 1) := by decide +kernel
theorem dX12_tellRow_61 : decode cX12_tellRow 61 = .ok (.iconst 3, 1) := by decide +kernel
theorem dX12_tellRow_62 : decode cX12_tellRow 62 = .ok (.iload_n 2, 1) := by decide +kernel
theorem dX12_tellRow_63 : decode cX12_tellRow 63 = .ok (.invokevirtual 267, 3) := by decide +kernel
theorem dX12_tellRow_66 : decode cX12_tellRow 66 = .ok (.iinc 3 1, 3) := by decide +kernel
theorem dX12_tellRow_69 : decode cX12_tellRow 69 = .ok (.goto (-40), 3) := by decide +kernel
theorem dX12_tellRow_72 : decode cX12_tellRow 72 = .ok (.iconst 0, 1) := by decide +kernel
theorem dX12_tellRow_73 : decode cX12_tellRow 73 = .ok (.istore_n 3, 1) := by decide +kernel
theorem dX12_tellRow_74 : decode cX12_tellRow 74 = .ok (.aload_n 0, 1) := by decide +kernel
theorem dX12_tellRow_75 : decode cX12_tellRow 75 = .ok (.getfield 219, 3) := by decide +kernel
theorem dX12_tellRow_78 : decode cX12_tellRow 78 = .ok (.ifCond .ne 55, 3) := by decide +kernel
theorem dX12_tellRow_81 : decode cX12_tellRow 81 = .ok (.iload_n 3, 1) := by decide +kernel
theorem dX12_tellRow_82 : decode cX12_tellRow 82 = .ok (.ifCond .eq 11, 3) := by decide +kernel
theorem dX12_tellRow_85 : decode cX12_tellRow 85 = .ok (.aload_n 0, 1) := by decide +kernel
theorem dX12_tellRow_86 : decode cX12_tellRow 86 = .ok (.iconst 2, 1) := by decide +kernel
theorem dX12_tellRow_87 : decode cX12_tellRow 87 = .ok (.invokevirtual 237, 3) := by decide +kernel
theorem dX12_tellRow_90 : decode cX12_tellRow 90 = .ok (.ifCond .eq 43, 3) := by decide +kernel
theorem dX12_tellRow_93 : decode cX12_tellRow 93 = .ok (.iload_n 3, 1) := by decide +kernel
theorem dX12_tellRow_94 : decode cX12_tellRow 94 = .ok (.bipush 8, 2) := by decide +kernel
theorem dX12_tellRow_96 : decode cX12_tellRow 96 = .ok (.if_icmp .ne 8, 3) := by decide +kernel
theorem dX12_tellRow_99 : decode cX12_tellRow 99 = .ok (.aload_n 0, 1) := by decide +kernel
theorem dX12_tellRow_100 : decode cX12_tellRow 100 = .ok (.iconst 2, 1) := by decide +kernel
theorem dX12_tellRow_101 : decode cX12_tellRow 101 = .ok (.invokevirtual 234, 3) := by decide +kernel
theorem dX12_tellRow_104 : decode cX12_tellRow 104 = .ok (.aload_n 0, 1) := by decide +kernel
theorem dX12_tellRow_105 : decode cX12_tellRow 105 = .ok (.getfield 219, 3) := by decide +kernel
theorem dX12_tellRow_108 : decode cX12_tellRow 108 = .ok (.ifCond .le 4, 3) := by decide +kernel
theorem dX12_tellRow_111 : decode cX12_tellRow 111 = .ok (.return_, 1) := by decide +kernel
theorem dX12_tellRow_112 : decode cX12_tellRow 112 = .ok (.aload_n 0, 1) := by decide +kernel
theorem dX12_tellRow_113 : decode cX12_tellRow 113 = .ok (.getfield 61, 3) := by decide +kernel
theorem dX12_tellRow_116 : decode cX12_tellRow 116 = .ok (.bipush 8, 2) := by decide +kernel
theorem dX12_tellRow_118 : decode cX12_tellRow 118 = .ok (.iload_n 1, 1) := by decide +kernel
theorem dX12_tellRow_119 : decode cX12_tellRow 119 = .ok (.imul, 1) := by decide +kernel
theorem dX12_tellRow_120 : decode cX12_tellRow 120 = .ok (.iload_n 3, 1) := by decide +kernel
theorem dX12_tellRow_121 : decode cX12_tellRow 121 = .ok (.iadd, 1) := by decide +kernel
theorem dX12_tellRow_122 : decode cX12_tellRow 122 = .ok (.aload_n 0, 1) := by decide +kernel
theorem dX12_tellRow_123 : decode cX12_tellRow 123 = .ok (.invokevirtual 296, 3) := by decide +kernel
theorem dX12_tellRow_126 : decode cX12_tellRow 126 = .ok (.iastore, 1) := by decide +kernel
theorem dX12_tellRow_127 : decode cX12_tellRow 127 = .ok (.iinc 3 1, 3) := by decide +kernel
theorem dX12_tellRow_130 : decode cX12_tellRow 130 = .ok (.goto (-56), 3) := by decide +kernel
theorem dX12_tellRow_133 : decode cX12_tellRow 133 = .ok (.aload_n 0, 1) := by decide +kernel
theorem dX12_tellRow_134 : decode cX12_tellRow 134 = .ok (.iconst 4, 1) := by decide +kernel
theorem dX12_tellRow_135 : decode cX12_tellRow 135 = .ok (.invokevirtual 281, 3) := by decide +kernel
theorem dX12_tellRow_138 : decode cX12_tellRow 138 = .ok (.aload_n 0, 1) := by decide +kernel
theorem dX12_tellRow_139 : decode cX12_tellRow 139 = .ok (.getfield 219, 3) := by decide +kernel
theorem dX12_tellRow_142 : decode cX12_tellRow 142 = .ok (.ifCond .le 4, 3) := by decide +kernel
theorem dX12_tellRow_145 : decode cX12_tellRow 145 = .ok (.return_, 1) := by decide +kernel
theorem dX12_tellRow_146 : decode cX12_tellRow 146 = .ok (.aload_n 0, 1) := by decide +kernel
theorem dX12_tellRow_147 : decode cX12_tellRow 147 = .ok (.getfield 58, 3) := by decide +kernel
theorem dX12_tellRow_150 : decode cX12_tellRow 150 = .ok (.iload_n 1, 1) := by decide +kernel
theorem dX12_tellRow_151 : decode cX12_tellRow 151 = .ok (.iload_n 3, 1) := by decide +kernel
theorem dX12_tellRow_152 : decode cX12_tellRow 152 = .ok (.iastore, 1) := by decide +kernel
theorem dX12_tellRow_153 : decode cX12_tellRow 153 = .ok (.aload_n 0, 1) := by decide +kernel
theorem dX12_tellRow_154 : decode cX12_tellRow 154 = .ok (.getfield 40, 3) := by decide +kernel
theorem dX12_tellRow_157 : decode cX12_tellRow 157 = .ok (.aload_n 0, 1) := by decide +kernel
theorem dX12_tellRow_158 : decode cX12_tellRow 158 = .ok (.getfield 255, 3) := by decide +kernel
theorem dX12_tellRow_161 : decode cX12_tellRow 161 = .ok (.aload_n 0, 1) := by decide +kernel
theorem dX12_tellRow_162 : decode cX12_tellRow 162 = .ok (.getfield 30, 3) := by decide +kernel
theorem dX12_tellRow_165 : decode cX12_tellRow 165 = .ok (.iload_n 2, 1) := by decide +kernel
theorem dX12_tellRow_166 : decode cX12_tellRow 166 = .ok (.laload, 1) := by decide +kernel
theorem dX12_tellRow_167 : decode cX12_tellRow 167 = .ok (.lastore, 1) := by decide +kernel
theorem dX12_tellRow_168 : decode cX12_tellRow 168 = .ok (.aload_n 0, 1) := by decide +kernel
theorem dX12_tellRow_169 : decode cX12_tellRow 169 = .ok (.dup, 1) := by decide +kernel
theorem dX12_tellRow_170 : decode cX12_tellRow 170 = .ok (.getfield 255, 3) := by decide +kernel
theorem dX12_tellRow_173 : decode cX12_tellRow 173 = .ok (.iconst 1, 1) := by decide +kernel
theorem dX12_tellRow_174 : decode cX12_tellRow 174 = .ok (.iadd, 1) := by decide +kernel
theorem dX12_tellRow_175 : decode cX12_tellRow 175 = .ok (.putfield 255, 3) := by decide +kernel
theorem dX12_tellRow_178 : decode cX12_tellRow 178 = .ok (.aload_n 0, 1) := by decide +kernel
theorem dX12_tellRow_179 : decode cX12_tellRow 179 = .ok (.getfield 55, 3) := by decide +kernel
theorem dX12_tellRow_182 : decode cX12_tellRow 182 = .ok (.aload_n 0, 1) := by decide +kernel
theorem dX12_tellRow_183 : decode cX12_tellRow 183 = .ok (.getfield 252, 3) := by decide +kernel
theorem dX12_tellRow_186 : decode cX12_tellRow 186 = .ok (.dup2, 1) := by decide +kernel
theorem dX12_tellRow_187 : decode cX12_tellRow 187 = .ok (.iaload, 1) := by decide +kernel
theorem dX12_tellRow_188 : decode cX12_tellRow 188 = .ok (.iconst 1, 1) := by decide +kernel
theorem dX12_tellRow_189 : decode cX12_tellRow 189 = .ok (.iadd, 1) := by decide +kernel
theorem dX12_tellRow_190 : decode cX12_tellRow 190 = .ok (.iastore, 1) := by decide +kernel
theorem dX12_tellRow_191 : decode cX12_tellRow 191 = .ok (.return_, 1) := by decide +kernel
def xX12_tellRow : zX := (RX12, cX12_tellRow, 4, none, false, { frames := 5, cells := 0, slots := 0, locals := 175 }, 0, 0, 0, 0)
theorem rmX12_tellRow : z_Rm xX12_tellRow := by unfold z_Rm xX12_tellRow; exact ⟨by decide, by decide⟩
theorem reX12_tellRow : z_Re xX12_tellRow := ⟨rfl, rfl⟩
theorem rlX12_tellRow : 1 ≤ xX12_tellRow.2.2.2.2.2.1.frames ∧ 21 ≤ xX12_tellRow.2.2.2.2.2.1.locals := by unfold xX12_tellRow; exact ⟨by decide, by decide⟩
theorem meX12_tellRow : z_Me yX12_tellRow xX12_tellRow 0 := ⟨wd979, wd848, by decide, by decide, by decide +kernel⟩
theorem fitX12_tellRow_24 : z_Fit xX12_must xX12_tellRow := by unfold z_Fit; simp only [xX12_must, xX12_tellRow]; exact ⟨by decide, by decide⟩
theorem fitX12_tellRow_135 : z_Fit xX12_must xX12_tellRow := by unfold z_Fit; simp only [xX12_must, xX12_tellRow]; exact ⟨by decide, by decide⟩
theorem fitX12_tellRow_123 : z_Fit xX12_colourTold xX12_tellRow := by unfold z_Fit; simp only [xX12_colourTold, xX12_tellRow]; exact ⟨by decide, by decide⟩
theorem fitX12_tellRow_101 : z_Fit xX12_fail xX12_tellRow := by unfold z_Fit; simp only [xX12_fail, xX12_tellRow]; exact ⟨by decide, by decide⟩
theorem fitX12_tellRow_87 : z_Fit xX12_is xX12_tellRow := by unfold z_Fit; simp only [xX12_is, xX12_tellRow]; exact ⟨by decide, by decide⟩
theorem fitX12_tellRow_63 : z_Fit xX12_wrong xX12_tellRow := by unfold z_Fit; simp only [xX12_wrong, xX12_tellRow]; exact ⟨by decide, by decide⟩
noncomputable def kX12_tellRow_133 : zK zR := (q_aload 0 (q_push 4 (q_callV 12 fX12_must 1 (q_aload 0 (q_getI 12 13 (q_if_le (q_aload 0 (q_getR 12 27 (q_iload 1 (q_iload 3 (q_iast (q_aload 0 (q_getR 12 21 (q_aload 0 (q_getI 12 20 (q_aload 0 (q_getR 12 8 (q_iload 2 (q_lald (q_last (q_aload 0 (q_dup (q_getI 12 20 (q_push 1 (q_iadd (q_putI 12 20 (q_aload 0 (q_getR 12 26 (q_aload 0 (q_getI 12 19 (q_dup2 (q_iald (q_push 1 (q_iadd (q_iast q_vret))))))))))))))))))))))))))))) q_vret))))))
noncomputable def kX12_tellRow_111 : zK zR := q_vret
noncomputable def kX12_tellRow_104 : zK ((zL × zS) ⊕ zR) := (q_aload 0 (q_getI 12 13 (q_if_le (q_aload 0 (q_getR 12 28 (q_push 8 (q_iload 1 (q_imul (q_iload 3 (q_iadd (q_aload 0 (q_callV 12 fX12_colourTold 0 (q_iast (q_iinc 3 1 q_ag))))))))))) (q_dn kX12_tellRow_111))))
noncomputable def kX12_tellRow_93 : zK ((zL × zS) ⊕ zR) := (q_iload 3 (q_push 8 (q_icmp_ne kX12_tellRow_104 (q_aload 0 (q_push 2 (q_callV 12 fX12_fail 1 kX12_tellRow_104))))))
noncomputable def bX12_tellRow_74 : zK ((zL × zS) ⊕ zR) := (q_aload 0 (q_getI 12 13 (q_if_ne (q_dn kX12_tellRow_133) (q_iload 3 (q_if_eq kX12_tellRow_93 (q_aload 0 (q_push 2 (q_callV 12 fX12_is 1 (q_if_eq (q_dn kX12_tellRow_133) kX12_tellRow_93)))))))))
noncomputable def kX12_tellRow_74 : zK zR := q_lp (bX12_tellRow_74)
noncomputable def kX12_tellRow_72 : zK zR := (q_push 0 (q_istore 3 kX12_tellRow_74))
noncomputable def kX12_tellRow_66 : zK ((zL × zS) ⊕ zR) := (q_iinc 3 1 q_ag)
noncomputable def bX12_tellRow_29 : zK ((zL × zS) ⊕ zR) := (q_iload 3 (q_aload 0 (q_getI 12 20 (q_icmp_ge (q_dn kX12_tellRow_72) (q_aload 0 (q_getI 12 13 (q_if_ne (q_dn kX12_tellRow_72) (q_aload 0 (q_getR 12 21 (q_iload 3 (q_lald (q_aload 0 (q_getR 12 8 (q_iload 2 (q_lald (q_lcmp (q_if_ne kX12_tellRow_66 (q_aload 0 (q_push 3 (q_iload 2 (q_callV 12 fX12_wrong 2 kX12_tellRow_66)))))))))))))))))))))
noncomputable def kX12_tellRow_29 : zK zR := q_lp (bX12_tellRow_29)
noncomputable def kX12_tellRow_0 : zK zR := (q_push 4 (q_aload 0 (q_getI 12 19 (q_imul (q_aload 0 (q_getR 12 26 (q_aload 0 (q_getI 12 19 (q_iald (q_iadd (q_istore 1 (q_aload 0 (q_getI 12 11 (q_istore 2 (q_aload 0 (q_push 1 (q_callV 12 fX12_must 1 (q_push 0 (q_istore 3 kX12_tellRow_29)))))))))))))))))))
set_option maxRecDepth 100000 in
theorem tX12_tellRow_133 {l : Launch} {D : zD} {B sz0 : Nat} {post : Option Value → zS → Prop} : zSnd l D B xX12_tellRow sz0 post 133 kX12_tellRow_133 (z_Jr post) := (s_aload_n dX12_tellRow_133 rfl (s_iconst dX12_tellRow_134 (by decide) (s_callV (r := (RX12, TX12, 74)) dX12_tellRow_135 mX12_must meX12_must wd974 wd975 rfl rfl reX12_must rmX12_tellRow (fitX12_tellRow_135) wd976 (s_aload_n dX12_tellRow_138 rfl (s_getI (f := 13) dX12_tellRow_139 clX12 (by decide) rfl wd942 (s_if_le (tgt := 146) dX12_tellRow_142 (by decide) (s_aload_n dX12_tellRow_146 rfl (s_getR (f := 27) dX12_tellRow_147 clX12 (by decide) rfl wd857 (s_iload_n dX12_tellRow_150 rfl (s_iload_n dX12_tellRow_151 rfl (s_iast dX12_tellRow_152 (s_aload_n dX12_tellRow_153 rfl (s_getR (f := 21) dX12_tellRow_154 clX12 (by decide) rfl wd871 (s_aload_n dX12_tellRow_157 rfl (s_getI (f := 20) dX12_tellRow_158 clX12 (by decide) rfl wd978 (s_aload_n dX12_tellRow_161 rfl (s_getR (f := 8) dX12_tellRow_162 clX12 (by decide) rfl wd868 (s_iload_n dX12_tellRow_165 rfl (s_lald dX12_tellRow_166 (s_last dX12_tellRow_167 (s_aload_n dX12_tellRow_168 rfl (s_dup dX12_tellRow_169 (s_getI (f := 20) dX12_tellRow_170 clX12 (by decide) rfl wd978 (s_iconst dX12_tellRow_173 (by decide) (s_iadd dX12_tellRow_174 (s_putI (f := 20) dX12_tellRow_175 clX12 (by decide) rfl rfl rfl wd978 (s_aload_n dX12_tellRow_178 rfl (s_getR (f := 26) dX12_tellRow_179 clX12 (by decide) rfl wd842 (s_aload_n dX12_tellRow_182 rfl (s_getI (f := 19) dX12_tellRow_183 clX12 (by decide) rfl wd969 (s_dup2 dX12_tellRow_186 (s_iald dX12_tellRow_187 (s_iconst dX12_tellRow_188 (by decide) (s_iadd dX12_tellRow_189 (s_iast dX12_tellRow_190 (s_vret dX12_tellRow_191 rfl)))))))))))))))))))))))))))))) (s_vret dX12_tellRow_145 rfl)))))))
set_option maxRecDepth 100000 in
theorem tX12_tellRow_111 {l : Launch} {D : zD} {B sz0 : Nat} {post : Option Value → zS → Prop} : zSnd l D B xX12_tellRow sz0 post 111 kX12_tellRow_111 (z_Jr post) := (s_vret dX12_tellRow_111 rfl)
set_option maxRecDepth 100000 in
theorem tX12_tellRow_104 {l : Launch} {D : zD} {B sz0 : Nat} {post : Option Value → zS → Prop} : zSnd l D B xX12_tellRow sz0 post 104 kX12_tellRow_104 (z_Jl l D B xX12_tellRow sz0 post 74 (z_Jr post)) := (s_aload_n dX12_tellRow_104 rfl (s_getI (f := 13) dX12_tellRow_105 clX12 (by decide) rfl wd942 (s_if_le (tgt := 112) dX12_tellRow_108 (by decide) (s_aload_n dX12_tellRow_112 rfl (s_getR (f := 28) dX12_tellRow_113 clX12 (by decide) rfl wd858 (s_bipush dX12_tellRow_116 (by decide) (s_iload_n dX12_tellRow_118 rfl (s_imul dX12_tellRow_119 (s_iload_n dX12_tellRow_120 rfl (s_iadd dX12_tellRow_121 (s_aload_n dX12_tellRow_122 rfl (s_callV (r := (RX12, TX12, 74)) dX12_tellRow_123 mX12_colourTold meX12_colourTold wd971 wd972 rfl rfl reX12_colourTold rmX12_tellRow (fitX12_tellRow_123) wd973 (s_iast dX12_tellRow_126 (s_iinc dX12_tellRow_127 (by decide) (s_goto (tgt := 74) dX12_tellRow_130 (by decide) s_ag)))))))))))) (s_dn tX12_tellRow_111))))
set_option maxRecDepth 100000 in
theorem tX12_tellRow_93 {l : Launch} {D : zD} {B sz0 : Nat} {post : Option Value → zS → Prop} : zSnd l D B xX12_tellRow sz0 post 93 kX12_tellRow_93 (z_Jl l D B xX12_tellRow sz0 post 74 (z_Jr post)) := (s_iload_n dX12_tellRow_93 rfl (s_bipush dX12_tellRow_94 (by decide) (s_icmp_ne (tgt := 104) dX12_tellRow_96 (by decide) tX12_tellRow_104 (s_aload_n dX12_tellRow_99 rfl (s_iconst dX12_tellRow_100 (by decide) (s_callV (r := (RX12, TX12, 74)) dX12_tellRow_101 mX12_fail meX12_fail wd950 wd951 rfl rfl reX12_fail rmX12_tellRow (fitX12_tellRow_101) wd952 tX12_tellRow_104))))))
set_option maxRecDepth 100000 in
theorem tX12_tellRow_74 {l : Launch} {D : zD} {B sz0 : Nat} {post : Option Value → zS → Prop} : zSnd l D B xX12_tellRow sz0 post 74 kX12_tellRow_74 (z_Jr post) := s_lp (body := bX12_tellRow_74) (s_aload_n dX12_tellRow_74 rfl (s_getI (f := 13) dX12_tellRow_75 clX12 (by decide) rfl wd942 (s_if_ne (tgt := 133) dX12_tellRow_78 (by decide) (s_dn tX12_tellRow_133) (s_iload_n dX12_tellRow_81 rfl (s_if_eq (tgt := 93) dX12_tellRow_82 (by decide) tX12_tellRow_93 (s_aload_n dX12_tellRow_85 rfl (s_iconst dX12_tellRow_86 (by decide) (s_callV (r := (RX12, TX12, 74)) dX12_tellRow_87 mX12_is meX12_is wd954 wd955 rfl rfl reX12_is rmX12_tellRow (fitX12_tellRow_87) wd956 (s_if_eq (tgt := 133) dX12_tellRow_90 (by decide) (s_dn tX12_tellRow_133) tX12_tellRow_93)))))))))
set_option maxRecDepth 100000 in
theorem tX12_tellRow_72 {l : Launch} {D : zD} {B sz0 : Nat} {post : Option Value → zS → Prop} : zSnd l D B xX12_tellRow sz0 post 72 kX12_tellRow_72 (z_Jr post) := (s_iconst dX12_tellRow_72 (by decide) (s_istore_n dX12_tellRow_73 rfl tX12_tellRow_74))
set_option maxRecDepth 100000 in
theorem tX12_tellRow_66 {l : Launch} {D : zD} {B sz0 : Nat} {post : Option Value → zS → Prop} : zSnd l D B xX12_tellRow sz0 post 66 kX12_tellRow_66 (z_Jl l D B xX12_tellRow sz0 post 29 (z_Jr post)) := (s_iinc dX12_tellRow_66 (by decide) (s_goto (tgt := 29) dX12_tellRow_69 (by decide) s_ag))
set_option maxRecDepth 100000 in
theorem tX12_tellRow_29 {l : Launch} {D : zD} {B sz0 : Nat} {post : Option Value → zS → Prop} : zSnd l D B xX12_tellRow sz0 post 29 kX12_tellRow_29 (z_Jr post) := s_lp (body := bX12_tellRow_29) (s_iload_n dX12_tellRow_29 rfl (s_aload_n dX12_tellRow_30 rfl (s_getI (f := 20) dX12_tellRow_31 clX12 (by decide) rfl wd978 (s_icmp_ge (tgt := 72) dX12_tellRow_34 (by decide) (s_dn tX12_tellRow_72) (s_aload_n dX12_tellRow_37 rfl (s_getI (f := 13) dX12_tellRow_38 clX12 (by decide) rfl wd942 (s_if_ne (tgt := 72) dX12_tellRow_41 (by decide) (s_dn tX12_tellRow_72) (s_aload_n dX12_tellRow_44 rfl (s_getR (f := 21) dX12_tellRow_45 clX12 (by decide) rfl wd871 (s_iload_n dX12_tellRow_48 rfl (s_lald dX12_tellRow_49 (s_aload_n dX12_tellRow_50 rfl (s_getR (f := 8) dX12_tellRow_51 clX12 (by decide) rfl wd868 (s_iload_n dX12_tellRow_54 rfl (s_lald dX12_tellRow_55 (s_lcmp dX12_tellRow_56 (s_if_ne (tgt := 66) dX12_tellRow_57 (by decide) tX12_tellRow_66 (s_aload_n dX12_tellRow_60 rfl (s_iconst dX12_tellRow_61 (by decide) (s_iload_n dX12_tellRow_62 rfl (s_callV (r := (RX12, TX12, 74)) dX12_tellRow_63 mX12_wrong meX12_wrong wd961 wd962 rfl rfl reX12_wrong rmX12_tellRow (fitX12_tellRow_63) wd963 tX12_tellRow_66)))))))))))))))))))))
set_option maxRecDepth 100000 in
theorem tX12_tellRow_0 {l : Launch} {D : zD} {B sz0 : Nat} {post : Option Value → zS → Prop} : zSnd l D B xX12_tellRow sz0 post 0 kX12_tellRow_0 (z_Jr post) := (s_iconst dX12_tellRow_0 (by decide) (s_aload_n dX12_tellRow_1 rfl (s_getI (f := 19) dX12_tellRow_2 clX12 (by decide) rfl wd969 (s_imul dX12_tellRow_5 (s_aload_n dX12_tellRow_6 rfl (s_getR (f := 26) dX12_tellRow_7 clX12 (by decide) rfl wd842 (s_aload_n dX12_tellRow_10 rfl (s_getI (f := 19) dX12_tellRow_11 clX12 (by decide) rfl wd969 (s_iald dX12_tellRow_14 (s_iadd dX12_tellRow_15 (s_istore_n dX12_tellRow_16 rfl (s_aload_n dX12_tellRow_17 rfl (s_getI (f := 11) dX12_tellRow_18 clX12 (by decide) rfl wd943 (s_istore_n dX12_tellRow_21 rfl (s_aload_n dX12_tellRow_22 rfl (s_iconst dX12_tellRow_23 (by decide) (s_callV (r := (RX12, TX12, 74)) dX12_tellRow_24 mX12_must meX12_must wd974 wd975 rfl rfl reX12_must rmX12_tellRow (fitX12_tellRow_24) wd976 (s_iconst dX12_tellRow_27 (by decide) (s_istore_n dX12_tellRow_28 rfl tX12_tellRow_29)))))))))))))))))))
noncomputable def fX12_tellRow : zF := z_fn 4 kX12_tellRow_0
theorem mX12_tellRow {l : Launch} {D : zD} {B : Nat} : z_MF l D B yX12_tellRow xX12_tellRow fX12_tellRow := z_mf (by decide) rfl (fun h => by cases h) rfl (fun as σ r h => ⟨z_fn_len h, kX12_tellRow_0, z_fn_run h, fun _ => tX12_tellRow_0⟩)
/-! ===== RowChildrenModel.emit ===== -/
theorem dX12_emit_0 : decode cX12_emit 0 = .ok (.aload_n 0, 1) := by decide +kernel
theorem dX12_emit_1 : decode cX12_emit 1 = .ok (.getfield 89, 3) := by decide +kernel
theorem dX12_emit_4 : decode cX12_emit 4 = .ok (.aload_n 0, 1) := by decide +kernel
theorem dX12_emit_5 : decode cX12_emit 5 = .ok (.getfield 261, 3) := by decide +kernel
theorem dX12_emit_8 : decode cX12_emit 8 = .ok (.iload_n 1, 1) := by decide +kernel
theorem dX12_emit_9 : decode cX12_emit 9 = .ok (.iastore, 1) := by decide +kernel
theorem dX12_emit_10 : decode cX12_emit 10 = .ok (.aload_n 0, 1) := by decide +kernel
theorem dX12_emit_11 : decode cX12_emit 11 = .ok (.getfield 92, 3) := by decide +kernel
theorem dX12_emit_14 : decode cX12_emit 14 = .ok (.aload_n 0, 1) := by decide +kernel
theorem dX12_emit_15 : decode cX12_emit 15 = .ok (.getfield 261, 3) := by decide +kernel
theorem dX12_emit_18 : decode cX12_emit 18 = .ok (.iload_n 2, 1) := by decide +kernel
theorem dX12_emit_19 : decode cX12_emit 19 = .ok (.iastore, 1) := by decide +kernel
theorem dX12_emit_20 : decode cX12_emit 20 = .ok (.aload_n 0, 1) := by decide +kernel
theorem dX12_emit_21 : decode cX12_emit 21 = .ok (.dup, 1) := by decide +kernel
theorem dX12_emit_22 : decode cX12_emit 22 = .ok (.getfield 261, 3) := by decide +kernel
theorem dX12_emit_25 : decode cX12_emit 25 = .ok (.iconst 1, 1) := by decide +kernel
theorem dX12_emit_26 : decode cX12_emit 26 = .ok (.iadd, 1) := by decide +kernel
theorem dX12_emit_27 : decode cX12_emit 27 = .ok (.putfield 261, 3) := by decide +kernel
theorem dX12_emit_30 : decode cX12_emit 30 = .ok (.return_, 1) := by decide +kernel
def xX12_emit : zX := (RX12, cX12_emit, 3, none, false, { frames := 1, cells := 0, slots := 0, locals := 90 }, 0, 0, 0, 0)
theorem rmX12_emit : z_Rm xX12_emit := by unfold z_Rm xX12_emit; exact ⟨by decide, by decide⟩
theorem reX12_emit : z_Re xX12_emit := ⟨rfl, rfl⟩
theorem rlX12_emit : 1 ≤ xX12_emit.2.2.2.2.2.1.frames ∧ 21 ≤ xX12_emit.2.2.2.2.2.1.locals := by unfold xX12_emit; exact ⟨by decide, by decide⟩
theorem meX12_emit : z_Me yX12_emit xX12_emit 2 := ⟨wd981, wd848, by decide, by decide, by decide +kernel⟩
noncomputable def kX12_emit_0 : zK zR := (q_aload 0 (q_getR 12 39 (q_aload 0 (q_getI 12 38 (q_iload 1 (q_iast (q_aload 0 (q_getR 12 40 (q_aload 0 (q_getI 12 38 (q_iload 2 (q_iast (q_aload 0 (q_dup (q_getI 12 38 (q_push 1 (q_iadd (q_putI 12 38 q_vret))))))))))))))))))
set_option maxRecDepth 100000 in
theorem tX12_emit_0 {l : Launch} {D : zD} {B sz0 : Nat} {post : Option Value → zS → Prop} : zSnd l D B xX12_emit sz0 post 0 kX12_emit_0 (z_Jr post) := (s_aload_n dX12_emit_0 rfl (s_getR (f := 39) dX12_emit_1 clX12 (by decide) rfl wd877 (s_aload_n dX12_emit_4 rfl (s_getI (f := 38) dX12_emit_5 clX12 (by decide) rfl wd980 (s_iload_n dX12_emit_8 rfl (s_iast dX12_emit_9 (s_aload_n dX12_emit_10 rfl (s_getR (f := 40) dX12_emit_11 clX12 (by decide) rfl wd878 (s_aload_n dX12_emit_14 rfl (s_getI (f := 38) dX12_emit_15 clX12 (by decide) rfl wd980 (s_iload_n dX12_emit_18 rfl (s_iast dX12_emit_19 (s_aload_n dX12_emit_20 rfl (s_dup dX12_emit_21 (s_getI (f := 38) dX12_emit_22 clX12 (by decide) rfl wd980 (s_iconst dX12_emit_25 (by decide) (s_iadd dX12_emit_26 (s_putI (f := 38) dX12_emit_27 clX12 (by decide) rfl rfl rfl wd980 (s_vret dX12_emit_30 rfl)))))))))))))))))))
noncomputable def fX12_emit : zF := z_fn 3 kX12_emit_0
theorem mX12_emit {l : Launch} {D : zD} {B : Nat} : z_MF l D B yX12_emit xX12_emit fX12_emit := z_mf (by decide) rfl (fun h => by cases h) rfl (fun as σ r h => ⟨z_fn_len h, kX12_emit_0, z_fn_run h, fun _ => tX12_emit_0⟩)
/-! ===== RowChildrenModel.unit ===== -/
theorem dX12_unit_0 : decode cX12_unit 0 = .ok (.aload_n 0, 1) := by decide +kernel
theorem dX12_unit_1 : decode cX12_unit 1 = .ok (.iconst 2, 1) := by decide +kernel
theorem dX12_unit_2 : decode cX12_unit 2 = .ok (.invokevirtual 237, 3) := by decide +kernel
theorem dX12_unit_5 : decode cX12_unit 5 = .ok (.ifCond .eq 24, 3) := by decide +kernel
theorem dX12_unit_8 : decode cX12_unit 8 = .ok (.aload_n 0, 1) := by decide +kernel
theorem dX12_unit_9 : decode cX12_unit 9 = .ok (.iconst 0, 1) := by decide +kernel
theorem dX12_unit_10 : decode cX12_unit 10 = .ok (.aload_n 0, 1) := by decide +kernel
theorem dX12_unit_11 : decode cX12_unit 11 = .ok (.getfield 27, 3) := by decide +kernel
theorem dX12_unit_14 : decode cX12_unit 14 = .ok (.aload_n 0, 1) := by decide +kernel
theorem dX12_unit_15 : decode cX12_unit 15 = .ok (.getfield 222, 3) := by decide +kernel
theorem dX12_unit_18 : decode cX12_unit 18 = .ok (.iaload, 1) := by decide +kernel
theorem dX12_unit_19 : decode cX12_unit 19 = .ok (.invokevirtual 309, 3) := by decide +kernel
theorem dX12_unit_22 : decode cX12_unit 22 = .ok (.aload_n 0, 1) := by decide +kernel
theorem dX12_unit_23 : decode cX12_unit 23 = .ok (.invokevirtual 240, 3) := by decide +kernel
theorem dX12_unit_26 : decode cX12_unit 26 = .ok (.goto 67, 3) := by decide +kernel
theorem dX12_unit_29 : decode cX12_unit 29 = .ok (.aload_n 0, 1) := by decide +kernel
theorem dX12_unit_30 : decode cX12_unit 30 = .ok (.getfield 219, 3) := by decide +kernel
theorem dX12_unit_33 : decode cX12_unit 33 = .ok (.ifCond .ne 55, 3) := by decide +kernel
theorem dX12_unit_36 : decode cX12_unit 36 = .ok (.aload_n 0, 1) := by decide +kernel
theorem dX12_unit_37 : decode cX12_unit 37 = .ok (.getfield 20, 3) := by decide +kernel
theorem dX12_unit_40 : decode cX12_unit 40 = .ok (.aload_n 0, 1) := by decide +kernel
theorem dX12_unit_41 : decode cX12_unit 41 = .ok (.getfield 222, 3) := by decide +kernel
theorem dX12_unit_44 : decode cX12_unit 44 = .ok (.iaload, 1) := by decide +kernel
theorem dX12_unit_45 : decode cX12_unit 45 = .ok (.bipush 31, 2) := by decide +kernel
theorem dX12_unit_47 : decode cX12_unit 47 = .ok (.if_icmp .lt 41, 3) := by decide +kernel
theorem dX12_unit_50 : decode cX12_unit 50 = .ok (.aload_n 0, 1) := by decide +kernel
theorem dX12_unit_51 : decode cX12_unit 51 = .ok (.getfield 20, 3) := by decide +kernel
theorem dX12_unit_54 : decode cX12_unit 54 = .ok (.aload_n 0, 1) := by decide +kernel
theorem dX12_unit_55 : decode cX12_unit 55 = .ok (.getfield 222, 3) := by decide +kernel
theorem dX12_unit_58 : decode cX12_unit 58 = .ok (.iaload, 1) := by decide +kernel
theorem dX12_unit_59 : decode cX12_unit 59 = .ok (.bipush 39, 2) := by decide +kernel
theorem dX12_unit_61 : decode cX12_unit 61 = .ok (.if_icmp .gt 27, 3) := by decide +kernel
theorem dX12_unit_64 : decode cX12_unit 64 = .ok (.aload_n 0, 1) := by decide +kernel
theorem dX12_unit_65 : decode cX12_unit 65 = .ok (.iconst 1, 1) := by decide +kernel
theorem dX12_unit_66 : decode cX12_unit 66 = .ok (.aload_n 0, 1) := by decide +kernel
theorem dX12_unit_67 : decode cX12_unit 67 = .ok (.getfield 20, 3) := by decide +kernel
theorem dX12_unit_70 : decode cX12_unit 70 = .ok (.aload_n 0, 1) := by decide +kernel
theorem dX12_unit_71 : decode cX12_unit 71 = .ok (.getfield 222, 3) := by decide +kernel
theorem dX12_unit_74 : decode cX12_unit 74 = .ok (.iaload, 1) := by decide +kernel
theorem dX12_unit_75 : decode cX12_unit 75 = .ok (.bipush 31, 2) := by decide +kernel
theorem dX12_unit_77 : decode cX12_unit 77 = .ok (.isub, 1) := by decide +kernel
theorem dX12_unit_78 : decode cX12_unit 78 = .ok (.invokevirtual 309, 3) := by decide +kernel
theorem dX12_unit_81 : decode cX12_unit 81 = .ok (.aload_n 0, 1) := by decide +kernel
theorem dX12_unit_82 : decode cX12_unit 82 = .ok (.invokevirtual 240, 3) := by decide +kernel
theorem dX12_unit_85 : decode cX12_unit 85 = .ok (.goto 8, 3) := by decide +kernel
theorem dX12_unit_88 : decode cX12_unit 88 = .ok (.aload_n 0, 1) := by decide +kernel
theorem dX12_unit_89 : decode cX12_unit 89 = .ok (.iconst 1, 1) := by decide +kernel
theorem dX12_unit_90 : decode cX12_unit 90 = .ok (.invokevirtual 234, 3) := by decide +kernel
theorem dX12_unit_93 : decode cX12_unit 93 = .ok (.return_, 1) := by decide +kernel
def xX12_unit : zX := (RX12, cX12_unit, 1, none, false, { frames := 3, cells := 0, slots := 0, locals := 131 }, 0, 0, 0, 0)
theorem rmX12_unit : z_Rm xX12_unit := by unfold z_Rm xX12_unit; exact ⟨by decide, by decide⟩
theorem reX12_unit : z_Re xX12_unit := ⟨rfl, rfl⟩
theorem rlX12_unit : 1 ≤ xX12_unit.2.2.2.2.2.1.frames ∧ 21 ≤ xX12_unit.2.2.2.2.2.1.locals := by unfold xX12_unit; exact ⟨by decide, by decide⟩
theorem meX12_unit : z_Me yX12_unit xX12_unit 0 := ⟨wd985, wd848, by decide, by decide, by decide +kernel⟩
theorem fitX12_unit_2 : z_Fit xX12_is xX12_unit := by unfold z_Fit; simp only [xX12_is, xX12_unit]; exact ⟨by decide, by decide⟩
theorem fitX12_unit_90 : z_Fit xX12_fail xX12_unit := by unfold z_Fit; simp only [xX12_fail, xX12_unit]; exact ⟨by decide, by decide⟩
theorem fitX12_unit_78 : z_Fit xX12_emit xX12_unit := by unfold z_Fit; simp only [xX12_emit, xX12_unit]; exact ⟨by decide, by decide⟩
theorem fitX12_unit_82 : z_Fit xX12_goesOn xX12_unit := by unfold z_Fit; simp only [xX12_goesOn, xX12_unit]; exact ⟨by decide, by decide⟩
theorem fitX12_unit_19 : z_Fit xX12_emit xX12_unit := by unfold z_Fit; simp only [xX12_emit, xX12_unit]; exact ⟨by decide, by decide⟩
theorem fitX12_unit_23 : z_Fit xX12_goesOn xX12_unit := by unfold z_Fit; simp only [xX12_goesOn, xX12_unit]; exact ⟨by decide, by decide⟩
noncomputable def kX12_unit_93 : zK zR := q_vret
noncomputable def kX12_unit_88 : zK zR := (q_aload 0 (q_push 1 (q_callV 12 fX12_fail 1 kX12_unit_93)))
noncomputable def kX12_unit_0 : zK zR := (q_aload 0 (q_push 2 (q_callV 12 fX12_is 1 (q_if_eq (q_aload 0 (q_getI 12 13 (q_if_ne kX12_unit_88 (q_aload 0 (q_getR 12 5 (q_aload 0 (q_getI 12 11 (q_iald (q_push 31 (q_icmp_lt kX12_unit_88 (q_aload 0 (q_getR 12 5 (q_aload 0 (q_getI 12 11 (q_iald (q_push 39 (q_icmp_gt kX12_unit_88 (q_aload 0 (q_push 1 (q_aload 0 (q_getR 12 5 (q_aload 0 (q_getI 12 11 (q_iald (q_push 31 (q_isub (q_callV 12 fX12_emit 2 (q_aload 0 (q_callV 12 fX12_goesOn 0 kX12_unit_93))))))))))))))))))))))))))))) (q_aload 0 (q_push 0 (q_aload 0 (q_getR 12 7 (q_aload 0 (q_getI 12 11 (q_iald (q_callV 12 fX12_emit 2 (q_aload 0 (q_callV 12 fX12_goesOn 0 kX12_unit_93))))))))))))))
set_option maxRecDepth 100000 in
theorem tX12_unit_93 {l : Launch} {D : zD} {B sz0 : Nat} {post : Option Value → zS → Prop} : zSnd l D B xX12_unit sz0 post 93 kX12_unit_93 (z_Jr post) := (s_vret dX12_unit_93 rfl)
set_option maxRecDepth 100000 in
theorem tX12_unit_88 {l : Launch} {D : zD} {B sz0 : Nat} {post : Option Value → zS → Prop} : zSnd l D B xX12_unit sz0 post 88 kX12_unit_88 (z_Jr post) := (s_aload_n dX12_unit_88 rfl (s_iconst dX12_unit_89 (by decide) (s_callV (r := (RX12, TX12, 74)) dX12_unit_90 mX12_fail meX12_fail wd950 wd951 rfl rfl reX12_fail rmX12_unit (fitX12_unit_90) wd952 tX12_unit_93)))
set_option maxRecDepth 100000 in
theorem tX12_unit_0 {l : Launch} {D : zD} {B sz0 : Nat} {post : Option Value → zS → Prop} : zSnd l D B xX12_unit sz0 post 0 kX12_unit_0 (z_Jr post) := (s_aload_n dX12_unit_0 rfl (s_iconst dX12_unit_1 (by decide) (s_callV (r := (RX12, TX12, 74)) dX12_unit_2 mX12_is meX12_is wd954 wd955 rfl rfl reX12_is rmX12_unit (fitX12_unit_2) wd956 (s_if_eq (tgt := 29) dX12_unit_5 (by decide) (s_aload_n dX12_unit_29 rfl (s_getI (f := 13) dX12_unit_30 clX12 (by decide) rfl wd942 (s_if_ne (tgt := 88) dX12_unit_33 (by decide) tX12_unit_88 (s_aload_n dX12_unit_36 rfl (s_getR (f := 5) dX12_unit_37 clX12 (by decide) rfl wd865 (s_aload_n dX12_unit_40 rfl (s_getI (f := 11) dX12_unit_41 clX12 (by decide) rfl wd943 (s_iald dX12_unit_44 (s_bipush dX12_unit_45 (by decide) (s_icmp_lt (tgt := 88) dX12_unit_47 (by decide) tX12_unit_88 (s_aload_n dX12_unit_50 rfl (s_getR (f := 5) dX12_unit_51 clX12 (by decide) rfl wd865 (s_aload_n dX12_unit_54 rfl (s_getI (f := 11) dX12_unit_55 clX12 (by decide) rfl wd943 (s_iald dX12_unit_58 (s_bipush dX12_unit_59 (by decide) (s_icmp_gt (tgt := 88) dX12_unit_61 (by decide) tX12_unit_88 (s_aload_n dX12_unit_64 rfl (s_iconst dX12_unit_65 (by decide) (s_aload_n dX12_unit_66 rfl (s_getR (f := 5) dX12_unit_67 clX12 (by decide) rfl wd865 (s_aload_n dX12_unit_70 rfl (s_getI (f := 11) dX12_unit_71 clX12 (by decide) rfl wd943 (s_iald dX12_unit_74 (s_bipush dX12_unit_75 (by decide) (s_isub dX12_unit_77 (s_callV (r := (RX12, TX12, 74)) dX12_unit_78 mX12_emit meX12_emit wd982 wd983 rfl rfl reX12_emit rmX12_unit (fitX12_unit_78) wd984 (s_aload_n dX12_unit_81 rfl (s_callV (r := (RX12, TX12, 74)) dX12_unit_82 mX12_goesOn meX12_goesOn wd957 wd958 rfl rfl reX12_goesOn rmX12_unit (fitX12_unit_82) wd959 (s_goto (tgt := 93) dX12_unit_85 (by decide) tX12_unit_93)))))))))))))))))))))))))))))) (s_aload_n dX12_unit_8 rfl (s_iconst dX12_unit_9 (by decide) (s_aload_n dX12_unit_10 rfl (s_getR (f := 7) dX12_unit_11 clX12 (by decide) rfl wd867 (s_aload_n dX12_unit_14 rfl (s_getI (f := 11) dX12_unit_15 clX12 (by decide) rfl wd943 (s_iald dX12_unit_18 (s_callV (r := (RX12, TX12, 74)) dX12_unit_19 mX12_emit meX12_emit wd982 wd983 rfl rfl reX12_emit rmX12_unit (fitX12_unit_19) wd984 (s_aload_n dX12_unit_22 rfl (s_callV (r := (RX12, TX12, 74)) dX12_unit_23 mX12_goesOn meX12_goesOn wd957 wd958 rfl rfl reX12_goesOn rmX12_unit (fitX12_unit_23) wd959 (s_goto (tgt := 93) dX12_unit_26 (by decide) tX12_unit_93)))))))))))))))
noncomputable def fX12_unit : zF := z_fn 1 kX12_unit_0
theorem mX12_unit {l : Launch} {D : zD} {B : Nat} : z_MF l D B yX12_unit xX12_unit fX12_unit := z_mf (by decide) rfl (fun h => by cases h) rfl (fun as σ r h => ⟨z_fn_len h, kX12_unit_0, z_fn_run h, fun _ => tX12_unit_0⟩)
/-! ===== RowChildrenModel.comesOut ===== -/
theorem dX12_comesOut_0 : decode cX12_comesOut 0 = .ok (.aload_n 0, 1) := by decide +kernel
theorem dX12_comesOut_1 : decode cX12_comesOut 1 = .ok (.getfield 306, 3) := by decide +kernel
theorem dX12_comesOut_4 : decode cX12_comesOut 4 = .ok (.ifCond .le 87, 3) := by decide +kernel
theorem dX12_comesOut_7 : decode cX12_comesOut 7 = .ok (.aload_n 0, 1) := by decide +kernel
theorem dX12_comesOut_8 : decode cX12_comesOut 8 = .ok (.getfield 95, 3) := by decide +kernel
theorem dX12_comesOut_11 : decode cX12_comesOut 11 = .ok (.aload_n 0, 1) := by decide +kernel
theorem dX12_comesOut_12 : decode cX12_comesOut 12 = .ok (.getfield 306, 3) := by decide +kernel
theorem dX12_comesOut_15 : decode cX12_comesOut 15 = .ok (.iconst 1, 1) := by decide +kernel
theorem dX12_comesOut_16 : decode cX12_comesOut 16 = .ok (.isub, 1) := by decide +kernel
theorem dX12_comesOut_17 : decode cX12_comesOut 17 = .ok (.iaload, 1) := by decide +kernel
theorem dX12_comesOut_18 : decode cX12_comesOut 18 = .ok (.istore_n 2, 1) := by decide +kernel
theorem dX12_comesOut_19 : decode cX12_comesOut 19 = .ok (.iload_n 2, 1) := by decide +kernel
theorem dX12_comesOut_20 : decode cX12_comesOut 20 = .ok (.bipush 6, 2) := by decide +kernel
theorem dX12_comesOut_22 : decode cX12_comesOut 22 = .ok (.if_icmp .eq 19, 3) := by decide +kernel
theorem dX12_comesOut_25 : decode cX12_comesOut 25 = .ok (.iload_n 1, 1) := by decide +kernel
theorem dX12_comesOut_26 : decode cX12_comesOut 26 = .ok (.ifCond .eq 16, 3) := by decide +kernel
theorem dX12_comesOut_29 : decode cX12_comesOut 29 = .ok (.iload_n 2, 1) := by decide +kernel
theorem dX12_comesOut_30 : decode cX12_comesOut 30 = .ok (.bipush 8, 2) := by decide +kernel
theorem dX12_comesOut_32 : decode cX12_comesOut 32 = .ok (.if_icmp .eq 9, 3) := by decide +kernel
theorem dX12_comesOut_35 : decode cX12_comesOut 35 = .ok (.iload_n 2, 1) := by decide +kernel
theorem dX12_comesOut_36 : decode cX12_comesOut 36 = .ok (.bipush 9, 2) := by decide +kernel
theorem dX12_comesOut_38 : decode cX12_comesOut 38 = .ok (.if_icmp .ne 4, 3) := by decide +kernel
theorem dX12_comesOut_41 : decode cX12_comesOut 41 = .ok (.return_, 1) := by decide +kernel
theorem dX12_comesOut_42 : decode cX12_comesOut 42 = .ok (.aload_n 0, 1) := by decide +kernel
theorem dX12_comesOut_43 : decode cX12_comesOut 43 = .ok (.dup, 1) := by decide +kernel
theorem dX12_comesOut_44 : decode cX12_comesOut 44 = .ok (.getfield 306, 3) := by decide +kernel
theorem dX12_comesOut_47 : decode cX12_comesOut 47 = .ok (.iconst 1, 1) := by decide +kernel
theorem dX12_comesOut_48 : decode cX12_comesOut 48 = .ok (.isub, 1) := by decide +kernel
theorem dX12_comesOut_49 : decode cX12_comesOut 49 = .ok (.putfield 306, 3) := by decide +kernel
theorem dX12_comesOut_52 : decode cX12_comesOut 52 = .ok (.aload_n 0, 1) := by decide +kernel
theorem dX12_comesOut_53 : decode cX12_comesOut 53 = .ok (.iload_n 2, 1) := by decide +kernel
theorem dX12_comesOut_54 : decode cX12_comesOut 54 = .ok (.bipush 8, 2) := by decide +kernel
theorem dX12_comesOut_56 : decode cX12_comesOut 56 = .ok (.if_icmp .ne 7, 3) := by decide +kernel
theorem dX12_comesOut_59 : decode cX12_comesOut 59 = .ok (.iconst 2, 1) := by decide +kernel
theorem dX12_comesOut_60 : decode cX12_comesOut 60 = .ok (.goto 24, 3) := by decide +kernel
theorem dX12_comesOut_63 : decode cX12_comesOut 63 = .ok (.iload_n 2, 1) := by decide +kernel
theorem dX12_comesOut_64 : decode cX12_comesOut 64 = .ok (.bipush 9, 2) := by decide +kernel
theorem dX12_comesOut_66 : decode cX12_comesOut 66 = .ok (.if_icmp .ne 7, 3) := by decide +kernel
theorem dX12_comesOut_69 : decode cX12_comesOut 69 = .ok (.iconst 3, 1) := by decide +kernel
theorem dX12_comesOut_70 : decode cX12_comesOut 70 = .ok (.goto 14, 3) := by decide +kernel
theorem dX12_comesOut_73 : decode cX12_comesOut 73 = .ok (.iload_n 2, 1) := by decide +kernel
theorem dX12_comesOut_74 : decode cX12_comesOut 74 = .ok (.bipush 10, 2) := by decide +kernel
theorem dX12_comesOut_76 : decode cX12_comesOut 76 = .ok (.if_icmp .ne 7, 3) := by decide +kernel
theorem dX12_comesOut_79 : decode cX12_comesOut 79 = .ok (.iconst 4, 1) := by decide +kernel
theorem dX12_comesOut_80 : decode cX12_comesOut 80 = .ok (.goto 4, 3) := by decide +kernel
theorem dX12_comesOut_83 : decode cX12_comesOut 83 = .ok (.iconst 5, 1) := by decide +kernel
theorem dX12_comesOut_84 : decode cX12_comesOut 84 = .ok (.iconst 0, 1) := by decide +kernel
theorem dX12_comesOut_85 : decode cX12_comesOut 85 = .ok (.invokevirtual 309, 3) := by decide +kernel
theorem dX12_comesOut_88 : decode cX12_comesOut 88 = .ok (.goto (-88), 3) := by decide +kernel
theorem dX12_comesOut_91 : decode cX12_comesOut 91 = .ok (.return_, 1) := by decide +kernel
def xX12_comesOut : zX := (RX12, cX12_comesOut, 3, none, false, { frames := 2, cells := 0, slots := 0, locals := 112 }, 0, 0, 0, 0)
theorem rmX12_comesOut : z_Rm xX12_comesOut := by unfold z_Rm xX12_comesOut; exact ⟨by decide, by decide⟩
theorem reX12_comesOut : z_Re xX12_comesOut := ⟨rfl, rfl⟩
theorem rlX12_comesOut : 1 ≤ xX12_comesOut.2.2.2.2.2.1.frames ∧ 21 ≤ xX12_comesOut.2.2.2.2.2.1.locals := by unfold xX12_comesOut; exact ⟨by decide, by decide⟩
theorem meX12_comesOut : z_Me yX12_comesOut xX12_comesOut 1 := ⟨wd987, wd848, by decide, by decide, by decide +kernel⟩
theorem fitX12_comesOut_85 : z_Fit xX12_emit xX12_comesOut := by unfold z_Fit; simp only [xX12_emit, xX12_comesOut]; exact ⟨by decide, by decide⟩
noncomputable def kX12_comesOut_91 : zK zR := q_vret
noncomputable def kX12_comesOut_41 : zK zR := q_vret
noncomputable def kX12_comesOut_84 : zK ((zL × zS) ⊕ zR) := (q_push 0 (q_callV 12 fX12_emit 2 q_ag))
noncomputable def kX12_comesOut_42 : zK ((zL × zS) ⊕ zR) := (q_aload 0 (q_dup (q_getI 12 42 (q_push 1 (q_isub (q_putI 12 42 (q_aload 0 (q_iload 2 (q_push 8 (q_icmp_ne (q_iload 2 (q_push 9 (q_icmp_ne (q_iload 2 (q_push 10 (q_icmp_ne (q_push 5 kX12_comesOut_84) (q_push 4 kX12_comesOut_84)))) (q_push 3 kX12_comesOut_84)))) (q_push 2 kX12_comesOut_84)))))))))))
noncomputable def bX12_comesOut_0 : zK ((zL × zS) ⊕ zR) := (q_aload 0 (q_getI 12 42 (q_if_le (q_dn kX12_comesOut_91) (q_aload 0 (q_getR 12 41 (q_aload 0 (q_getI 12 42 (q_push 1 (q_isub (q_iald (q_istore 2 (q_iload 2 (q_push 6 (q_icmp_eq (q_dn kX12_comesOut_41) (q_iload 1 (q_if_eq kX12_comesOut_42 (q_iload 2 (q_push 8 (q_icmp_eq (q_dn kX12_comesOut_41) (q_iload 2 (q_push 9 (q_icmp_ne kX12_comesOut_42 (q_dn kX12_comesOut_41)))))))))))))))))))))))
noncomputable def kX12_comesOut_0 : zK zR := q_lp (bX12_comesOut_0)
set_option maxRecDepth 100000 in
theorem tX12_comesOut_91 {l : Launch} {D : zD} {B sz0 : Nat} {post : Option Value → zS → Prop} : zSnd l D B xX12_comesOut sz0 post 91 kX12_comesOut_91 (z_Jr post) := (s_vret dX12_comesOut_91 rfl)
set_option maxRecDepth 100000 in
theorem tX12_comesOut_41 {l : Launch} {D : zD} {B sz0 : Nat} {post : Option Value → zS → Prop} : zSnd l D B xX12_comesOut sz0 post 41 kX12_comesOut_41 (z_Jr post) := (s_vret dX12_comesOut_41 rfl)
set_option maxRecDepth 100000 in
theorem tX12_comesOut_84 {l : Launch} {D : zD} {B sz0 : Nat} {post : Option Value → zS → Prop} : zSnd l D B xX12_comesOut sz0 post 84 kX12_comesOut_84 (z_Jl l D B xX12_comesOut sz0 post 0 (z_Jr post)) := (s_iconst dX12_comesOut_84 (by decide) (s_callV (r := (RX12, TX12, 74)) dX12_comesOut_85 mX12_emit meX12_emit wd982 wd983 rfl rfl reX12_emit rmX12_comesOut (fitX12_comesOut_85) wd984 (s_goto (tgt := 0) dX12_comesOut_88 (by decide) s_ag)))
set_option maxRecDepth 100000 in
theorem tX12_comesOut_42 {l : Launch} {D : zD} {B sz0 : Nat} {post : Option Value → zS → Prop} : zSnd l D B xX12_comesOut sz0 post 42 kX12_comesOut_42 (z_Jl l D B xX12_comesOut sz0 post 0 (z_Jr post)) := (s_aload_n dX12_comesOut_42 rfl (s_dup dX12_comesOut_43 (s_getI (f := 42) dX12_comesOut_44 clX12 (by decide) rfl wd986 (s_iconst dX12_comesOut_47 (by decide) (s_isub dX12_comesOut_48 (s_putI (f := 42) dX12_comesOut_49 clX12 (by decide) rfl rfl rfl wd986 (s_aload_n dX12_comesOut_52 rfl (s_iload_n dX12_comesOut_53 rfl (s_bipush dX12_comesOut_54 (by decide) (s_icmp_ne (tgt := 63) dX12_comesOut_56 (by decide) (s_iload_n dX12_comesOut_63 rfl (s_bipush dX12_comesOut_64 (by decide) (s_icmp_ne (tgt := 73) dX12_comesOut_66 (by decide) (s_iload_n dX12_comesOut_73 rfl (s_bipush dX12_comesOut_74 (by decide) (s_icmp_ne (tgt := 83) dX12_comesOut_76 (by decide) (s_iconst dX12_comesOut_83 (by decide) tX12_comesOut_84) (s_iconst dX12_comesOut_79 (by decide) (s_goto (tgt := 84) dX12_comesOut_80 (by decide) tX12_comesOut_84))))) (s_iconst dX12_comesOut_69 (by decide) (s_goto (tgt := 84) dX12_comesOut_70 (by decide) tX12_comesOut_84))))) (s_iconst dX12_comesOut_59 (by decide) (s_goto (tgt := 84) dX12_comesOut_60 (by decide) tX12_comesOut_84))))))))))))
set_option maxRecDepth 100000 in
theorem tX12_comesOut_0 {l : Launch} {D : zD} {B sz0 : Nat} {post : Option Value → zS → Prop} : zSnd l D B xX12_comesOut sz0 post 0 kX12_comesOut_0 (z_Jr post) := s_lp (body := bX12_comesOut_0) (s_aload_n dX12_comesOut_0 rfl (s_getI (f := 42) dX12_comesOut_1 clX12 (by decide) rfl wd986 (s_if_le (tgt := 91) dX12_comesOut_4 (by decide) (s_dn tX12_comesOut_91) (s_aload_n dX12_comesOut_7 rfl (s_getR (f := 41) dX12_comesOut_8 clX12 (by decide) rfl wd879 (s_aload_n dX12_comesOut_11 rfl (s_getI (f := 42) dX12_comesOut_12 clX12 (by decide) rfl wd986 (s_iconst dX12_comesOut_15 (by decide) (s_isub dX12_comesOut_16 (s_iald dX12_comesOut_17 (s_istore_n dX12_comesOut_18 rfl (s_iload_n dX12_comesOut_19 rfl (s_bipush dX12_comesOut_20 (by decide) (s_icmp_eq (tgt := 41) dX12_comesOut_22 (by decide) (s_dn tX12_comesOut_41) (s_iload_n dX12_comesOut_25 rfl (s_if_eq (tgt := 42) dX12_comesOut_26 (by decide) tX12_comesOut_42 (s_iload_n dX12_comesOut_29 rfl (s_bipush dX12_comesOut_30 (by decide) (s_icmp_eq (tgt := 41) dX12_comesOut_32 (by decide) (s_dn tX12_comesOut_41) (s_iload_n dX12_comesOut_35 rfl (s_bipush dX12_comesOut_36 (by decide) (s_icmp_ne (tgt := 42) dX12_comesOut_38 (by decide) tX12_comesOut_42 (s_dn tX12_comesOut_41)))))))))))))))))))))))
noncomputable def fX12_comesOut : zF := z_fn 3 kX12_comesOut_0
theorem mX12_comesOut {l : Launch} {D : zD} {B : Nat} : z_MF l D B yX12_comesOut xX12_comesOut fX12_comesOut := z_mf (by decide) rfl (fun h => by cases h) rfl (fun as σ r h => ⟨z_fn_len h, kX12_comesOut_0, z_fn_run h, fun _ => tX12_comesOut_0⟩)
/-! ===== RowChildrenModel.expression ===== -/
theorem dX12_expression_0 : decode cX12_expression 0 = .ok (.aload_n 0, 1) := by decide +kernel
theorem dX12_expression_1 : decode cX12_expression 1 = .ok (.iconst 0, 1) := by decide +kernel
theorem dX12_expression_2 : decode cX12_expression 2 = .ok (.putfield 306, 3) := by decide +kernel
theorem dX12_expression_5 : decode cX12_expression 5 = .ok (.aload_n 0, 1) := by decide +kernel
theorem dX12_expression_6 : decode cX12_expression 6 = .ok (.getfield 246, 3) := by decide +kernel
theorem dX12_expression_9 : decode cX12_expression 9 = .ok (.istore_n 1, 1) := by decide +kernel
theorem dX12_expression_10 : decode cX12_expression 10 = .ok (.iconst 1, 1) := by decide +kernel
theorem dX12_expression_11 : decode cX12_expression 11 = .ok (.istore_n 2, 1) := by decide +kernel
theorem dX12_expression_12 : decode cX12_expression 12 = .ok (.iload_n 2, 1) := by decide +kernel
theorem dX12_expression_13 : decode cX12_expression 13 = .ok (.ifCond .eq 259, 3) := by decide +kernel
theorem dX12_expression_16 : decode cX12_expression 16 = .ok (.aload_n 0, 1) := by decide +kernel
theorem dX12_expression_17 : decode cX12_expression 17 = .ok (.getfield 219, 3) := by decide +kernel
theorem dX12_expression_20 : decode cX12_expression 20 = .ok (.ifCond .ne 252, 3) := by decide +kernel
theorem dX12_expression_23 : decode cX12_expression 23 = .ok (.aload_n 0, 1) := by decide +kernel
theorem dX12_expression_24 : decode cX12_expression 24 = .ok (.bipush 6, 2) := by decide +kernel
theorem dX12_expression_26 : decode cX12_expression 26 = .ok (.invokevirtual 237, 3) := by decide +kernel
theorem dX12_expression_29 : decode cX12_expression 29 = .ok (.ifCond .eq 55, 3) := by decide +kernel
theorem dX12_expression_32 : decode cX12_expression 32 = .ok (.aload_n 0, 1) := by decide +kernel
theorem dX12_expression_33 : decode cX12_expression 33 = .ok (.getfield 246, 3) := by decide +kernel
theorem dX12_expression_36 : decode cX12_expression 36 = .ok (.bipush 6, 2) := by decide +kernel
theorem dX12_expression_38 : decode cX12_expression 38 = .ok (.if_icmp .ne 8, 3) := by decide +kernel
theorem dX12_expression_41 : decode cX12_expression 41 = .ok (.aload_n 0, 1) := by decide +kernel
theorem dX12_expression_42 : decode cX12_expression 42 = .ok (.iconst 2, 1) := by decide +kernel
theorem dX12_expression_43 : decode cX12_expression 43 = .ok (.invokevirtual 234, 3) := by decide +kernel
theorem dX12_expression_46 : decode cX12_expression 46 = .ok (.aload_n 0, 1) := by decide +kernel
theorem dX12_expression_47 : decode cX12_expression 47 = .ok (.dup, 1) := by decide +kernel
theorem dX12_expression_48 : decode cX12_expression 48 = .ok (.getfield 246, 3) := by decide +kernel
theorem dX12_expression_51 : decode cX12_expression 51 = .ok (.iconst 1, 1) := by decide +kernel
theorem dX12_expression_52 : decode cX12_expression 52 = .ok (.iadd, 1) := by decide +kernel
theorem dX12_expression_53 : decode cX12_expression 53 = .ok (.putfield 246, 3) := by decide +kernel
theorem dX12_expression_56 : decode cX12_expression 56 = .ok (.aload_n 0, 1) := by decide +kernel
theorem dX12_expression_57 : decode cX12_expression 57 = .ok (.invokevirtual 240, 3) := by decide +kernel
theorem dX12_expression_60 : decode cX12_expression 60 = .ok (.aload_n 0, 1) := by decide +kernel
theorem dX12_expression_61 : decode cX12_expression 61 = .ok (.getfield 95, 3) := by decide +kernel
theorem dX12_expression_64 : decode cX12_expression 64 = .ok (.aload_n 0, 1) := by decide +kernel
theorem dX12_expression_65 : decode cX12_expression 65 = .ok (.getfield 306, 3) := by decide +kernel
theorem dX12_expression_68 : decode cX12_expression 68 = .ok (.bipush 6, 2) := by decide +kernel
theorem dX12_expression_70 : decode cX12_expression 70 = .ok (.iastore, 1) := by decide +kernel
theorem dX12_expression_71 : decode cX12_expression 71 = .ok (.aload_n 0, 1) := by decide +kernel
theorem dX12_expression_72 : decode cX12_expression 72 = .ok (.dup, 1) := by decide +kernel
theorem dX12_expression_73 : decode cX12_expression 73 = .ok (.getfield 306, 3) := by decide +kernel
theorem dX12_expression_76 : decode cX12_expression 76 = .ok (.iconst 1, 1) := by decide +kernel
theorem dX12_expression_77 : decode cX12_expression 77 = .ok (.iadd, 1) := by decide +kernel
theorem dX12_expression_78 : decode cX12_expression 78 = .ok (.putfield 306, 3) := by decide +kernel
theorem dX12_expression_81 : decode cX12_expression 81 = .ok (.goto (-58), 3) := by decide +kernel
theorem dX12_expression_84 : decode cX12_expression 84 = .ok (.aload_n 0, 1) := by decide +kernel
theorem dX12_expression_85 : decode cX12_expression 85 = .ok (.invokevirtual 312, 3) := by decide +kernel
theorem dX12_expression_88 : decode cX12_expression 88 = .ok (.aload_n 0, 1) := by decide +kernel
theorem dX12_expression_89 : decode cX12_expression 89 = .ok (.getfield 219, 3) := by decide +kernel
theorem dX12_expression_92 : decode cX12_expression 92 = .ok (.ifCond .le 4, 3) := by decide +kernel
theorem dX12_expression_95 : decode cX12_expression 95 = .ok (.return_, 1) := by decide +kernel
theorem dX12_expression_96 : decode cX12_expression 96 = .ok (.aload_n 0, 1) := by decide +kernel
theorem dX12_expression_97 : decode cX12_expression 97 = .ok (.bipush 7, 2) := by decide +kernel
theorem dX12_expression_99 : decode cX12_expression 99 = .ok (.invokevirtual 237, 3) := by decide +kernel
theorem dX12_expression_102 : decode cX12_expression 102 = .ok (.ifCond .eq 43, 3) := by decide +kernel
theorem dX12_expression_105 : decode cX12_expression 105 = .ok (.aload_n 0, 1) := by decide +kernel
theorem dX12_expression_106 : decode cX12_expression 106 = .ok (.getfield 246, 3) := by decide +kernel
theorem dX12_expression_109 : decode cX12_expression 109 = .ok (.iload_n 1, 1) := by decide +kernel
theorem dX12_expression_110 : decode cX12_expression 110 = .ok (.if_icmp .le 35, 3) := by decide +kernel
theorem dX12_expression_113 : decode cX12_expression 113 = .ok (.aload_n 0, 1) := by decide +kernel
theorem dX12_expression_114 : decode cX12_expression 114 = .ok (.iconst 0, 1) := by decide +kernel
theorem dX12_expression_115 : decode cX12_expression 115 = .ok (.invokevirtual 315, 3) := by decide +kernel
theorem dX12_expression_118 : decode cX12_expression 118 = .ok (.aload_n 0, 1) := by decide +kernel
theorem dX12_expression_119 : decode cX12_expression 119 = .ok (.dup, 1) := by decide +kernel
theorem dX12_expression_120 : decode cX12_expression 120 = .ok (.getfield 306, 3) := by decide +kernel
theorem dX12_expression_123 : decode cX12_expression 123 = .ok (.iconst 1, 1) := by decide +kernel
theorem dX12_expression_124 : decode cX12_expression 124 = .ok (.isub, 1) := by decide +kernel
theorem dX12_expression_125 : decode cX12_expression 125 = .ok (.putfield 306, 3) := by decide +kernel
theorem dX12_expression_128 : decode cX12_expression 128 = .ok (.aload_n 0, 1) := by decide +kernel
theorem dX12_expression_129 : decode cX12_expression 129 = .ok (.dup, 1) := by decide +kernel
theorem dX12_expression_130 : decode cX12_expression 130 = .ok (.getfield 246, 3) := by decide +kernel
theorem dX12_expression_133 : decode cX12_expression 133 = .ok (.iconst 1, 1) := by decide +kernel
theorem dX12_expression_134 : decode cX12_expression 134 = .ok (.isub, 1) := by decide +kernel
theorem dX12_expression_135 : decode cX12_expression 135 = .ok (.putfield 246, 3) := by decide +kernel
theorem dX12_expression_138 : decode cX12_expression 138 = .ok (.aload_n 0, 1) := by decide +kernel
theorem dX12_expression_139 : decode cX12_expression 139 = .ok (.invokevirtual 240, 3) := by decide +kernel
theorem dX12_expression_142 : decode cX12_expression 142 = .ok (.goto (-46), 3) := by decide +kernel
theorem dX12_expression_145 : decode cX12_expression 145 = .ok (.aload_n 0, 1) := by decide +kernel
theorem dX12_expression_146 : decode cX12_expression 146 = .ok (.bipush 8, 2) := by decide +kernel
theorem dX12_expression_148 : decode cX12_expression 148 = .ok (.invokevirtual 237, 3) := by decide +kernel
theorem dX12_expression_151 : decode cX12_expression 151 = .ok (.ifCond .ne 30, 3) := by decide +kernel
theorem dX12_expression_154 : decode cX12_expression 154 = .ok (.aload_n 0, 1) := by decide +kernel
theorem dX12_expression_155 : decode cX12_expression 155 = .ok (.bipush 9, 2) := by decide +kernel
theorem dX12_expression_157 : decode cX12_expression 157 = .ok (.invokevirtual 237, 3) := by decide +kernel
theorem dX12_expression_160 : decode cX12_expression 160 = .ok (.ifCond .ne 21, 3) := by decide +kernel
theorem dX12_expression_163 : decode cX12_expression 163 = .ok (.aload_n 0, 1) := by decide +kernel
theorem dX12_expression_164 : decode cX12_expression 164 = .ok (.bipush 10, 2) := by decide +kernel
theorem dX12_expression_166 : decode cX12_expression 166 = .ok (.invokevirtual 237, 3) := by decide +kernel
theorem dX12_expression_169 : decode cX12_expression 169 = .ok (.ifCond .ne 12, 3) := by decide +kernel
theorem dX12_expression_172 : decode cX12_expression 172 = .ok (.aload_n 0, 1) := by decide +kernel
theorem dX12_expression_173 : decode cX12_expression 173 = .ok (.bipush 15, 2) := by decide +kernel
theorem dX12_expression_175 : decode cX12_expression 175 = .ok (.invokevirtual 237, 3) := by decide +kernel
theorem dX12_expression_178 : decode cX12_expression 178 = .ok (.ifCond .eq 7, 3) := by decide +kernel
theorem dX12_expression_181 : decode cX12_expression 181 = .ok (.iconst 1, 1) := by decide +kernel
theorem dX12_expression_182 : decode cX12_expression 182 = .ok (.goto 4, 3) := by decide +kernel
theorem dX12_expression_185 : decode cX12_expression 185 = .ok (.iconst 0, 1) := by decide +kernel
theorem dX12_expression_186 : decode cX12_expression 186 = .ok (.istore_n 2, 1) := by decide +kernel
theorem dX12_expression_187 : decode cX12_expression 187 = .ok (.iload_n 2, 1) := by decide +kernel
theorem dX12_expression_188 : decode cX12_expression 188 = .ok (.ifCond .ne 22, 3) := by decide +kernel
theorem dX12_expression_191 : decode cX12_expression 191 = .ok (.aload_n 0, 1) := by decide +kernel
theorem dX12_expression_192 : decode cX12_expression 192 = .ok (.getfield 246, 3) := by decide +kernel
theorem dX12_expression_195 : decode cX12_expression 195 = .ok (.iload_n 1, 1) := by decide +kernel
theorem dX12_expression_196 : decode cX12_expression 196 = .ok (.if_icmp .le 8, 3) := by decide +kernel
theorem dX12_expression_199 : decode cX12_expression 199 = .ok (.aload_n 0, 1) := by decide +kernel
theorem dX12_expression_200 : decode cX12_expression 200 = .ok (.iconst 1, 1) := by decide +kernel
theorem dX12_expression_201 : decode cX12_expression 201 = .ok (.invokevirtual 234, 3) := by decide +kernel
theorem dX12_expression_204 : decode cX12_expression 204 = .ok (.aload_n 0, 1) := by decide +kernel
theorem dX12_expression_205 : decode cX12_expression 205 = .ok (.iconst 0, 1) := by decide +kernel
theorem dX12_expression_206 : decode cX12_expression 206 = .ok (.invokevirtual 315, 3) := by decide +kernel
theorem dX12_expression_209 : decode cX12_expression 209 = .ok (.return_, 1) := by decide +kernel
theorem dX12_expression_210 : decode cX12_expression 210 = .ok (.aload_n 0, 1) := by decide +kernel
theorem dX12_expression_211 : decode cX12_expression 211 = .ok (.aload_n 0, 1) := by decide +kernel
theorem dX12_expression_212 : decode cX12_expression 212 = .ok (.bipush 10, 2) := by decide +kernel
theorem dX12_expression_214 : decode cX12_expression 214 = .ok (.invokevirtual 237, 3) := by decide +kernel
theorem dX12_expression_217 : decode cX12_expression 217 = .ok (.ifCond .ne 12, 3) := by decide +kernel
theorem dX12_expression_220 : decode cX12_expression 220 = .ok (.aload_n 0, 1) := by decide +kernel
theorem dX12_expression_221 : decode cX12_expression 221 = .ok (.bipush 15, 2) := by decide +kernel
theorem dX12_expression_223 : decode cX12_expression 223 = .ok (.invokevirtual 237, 3) := by decide +kernel
theorem dX12_expression_226 : decode cX12_expression 226 = .ok (.ifCond .eq 7, 3) := by decide +kernel
theorem dX12_expression_229 : decode cX12_expression 229 = .ok (.iconst 1, 1) := by decide +kernel
theorem dX12_expression_230 : decode cX12_expression 230 = .ok (.goto 4, 3) := by decide +kernel
theorem dX12_expression_233 : decode cX12_expression 233 = .ok (.iconst 0, 1) := by decide +kernel
theorem dX12_expression_234 : decode cX12_expression 234 = .ok (.invokevirtual 315, 3) := by decide +kernel
theorem dX12_expression_237 : decode cX12_expression 237 = .ok (.aload_n 0, 1) := by decide +kernel
theorem dX12_expression_238 : decode cX12_expression 238 = .ok (.getfield 95, 3) := by decide +kernel
theorem dX12_expression_241 : decode cX12_expression 241 = .ok (.aload_n 0, 1) := by decide +kernel
theorem dX12_expression_242 : decode cX12_expression 242 = .ok (.getfield 306, 3) := by decide +kernel
theorem dX12_expression_245 : decode cX12_expression 245 = .ok (.aload_n 0, 1) := by decide +kernel
theorem dX12_expression_246 : decode cX12_expression 246 = .ok (.getfield 20, 3) := by decide +kernel
theorem dX12_expression_249 : decode cX12_expression 249 = .ok (.aload_n 0, 1) := by decide +kernel
theorem dX12_expression_250 : decode cX12_expression 250 = .ok (.getfield 222, 3) := by decide +kernel
theorem dX12_expression_253 : decode cX12_expression 253 = .ok (.iaload, 1) := by decide +kernel
theorem dX12_expression_254 : decode cX12_expression 254 = .ok (.iastore, 1) := by decide +kernel
theorem dX12_expression_255 : decode cX12_expression 255 = .ok (.aload_n 0, 1) := by decide +kernel
theorem dX12_expression_256 : decode cX12_expression 256 = .ok (.dup, 1) := by decide +kernel
theorem dX12_expression_257 : decode cX12_expression 257 = .ok (.getfield 306, 3) := by decide +kernel
theorem dX12_expression_260 : decode cX12_expression 260 = .ok (.iconst 1, 1) := by decide +kernel
theorem dX12_expression_261 : decode cX12_expression 261 = .ok (.iadd, 1) := by decide +kernel
theorem dX12_expression_262 : decode cX12_expression 262 = .ok (.putfield 306, 3) := by decide +kernel
theorem dX12_expression_265 : decode cX12_expression 265 = .ok (.aload_n 0, 1) := by decide +kernel
theorem dX12_expression_266 : decode cX12_expression 266 = .ok (.invokevirtual 240, 3) := by decide +kernel
theorem dX12_expression_269 : decode cX12_expression 269 = .ok (.goto (-257), 3) := by decide +kernel
theorem dX12_expression_272 : decode cX12_expression 272 = .ok (.return_, 1) := by decide +kernel
def xX12_expression : zX := (RX12, cX12_expression, 3, none, false, { frames := 4, cells := 0, slots := 0, locals := 151 }, 0, 0, 0, 0)
theorem rmX12_expression : z_Rm xX12_expression := by unfold z_Rm xX12_expression; exact ⟨by decide, by decide⟩
theorem reX12_expression : z_Re xX12_expression := ⟨rfl, rfl⟩
theorem rlX12_expression : 1 ≤ xX12_expression.2.2.2.2.2.1.frames ∧ 21 ≤ xX12_expression.2.2.2.2.2.1.locals := by unfold xX12_expression; exact ⟨by decide, by decide⟩
theorem meX12_expression : z_Me yX12_expression xX12_expression 0 := ⟨wd995, wd848, by decide, by decide, by decide +kernel⟩
theorem fitX12_expression_26 : z_Fit xX12_is xX12_expression := by unfold z_Fit; simp only [xX12_is, xX12_expression]; exact ⟨by decide, by decide⟩
theorem fitX12_expression_85 : z_Fit xX12_unit xX12_expression := by unfold z_Fit; simp only [xX12_unit, xX12_expression]; exact ⟨by decide, by decide⟩
theorem fitX12_expression_99 : z_Fit xX12_is xX12_expression := by unfold z_Fit; simp only [xX12_is, xX12_expression]; exact ⟨by decide, by decide⟩
theorem fitX12_expression_148 : z_Fit xX12_is xX12_expression := by unfold z_Fit; simp only [xX12_is, xX12_expression]; exact ⟨by decide, by decide⟩
theorem fitX12_expression_214 : z_Fit xX12_is xX12_expression := by unfold z_Fit; simp only [xX12_is, xX12_expression]; exact ⟨by decide, by decide⟩
theorem fitX12_expression_234 : z_Fit xX12_comesOut xX12_expression := by unfold z_Fit; simp only [xX12_comesOut, xX12_expression]; exact ⟨by decide, by decide⟩
theorem fitX12_expression_266 : z_Fit xX12_goesOn xX12_expression := by unfold z_Fit; simp only [xX12_goesOn, xX12_expression]; exact ⟨by decide, by decide⟩
theorem fitX12_expression_223 : z_Fit xX12_is xX12_expression := by unfold z_Fit; simp only [xX12_is, xX12_expression]; exact ⟨by decide, by decide⟩
theorem fitX12_expression_206 : z_Fit xX12_comesOut xX12_expression := by unfold z_Fit; simp only [xX12_comesOut, xX12_expression]; exact ⟨by decide, by decide⟩
theorem fitX12_expression_201 : z_Fit xX12_fail xX12_expression := by unfold z_Fit; simp only [xX12_fail, xX12_expression]; exact ⟨by decide, by decide⟩
theorem fitX12_expression_157 : z_Fit xX12_is xX12_expression := by unfold z_Fit; simp only [xX12_is, xX12_expression]; exact ⟨by decide, by decide⟩
theorem fitX12_expression_166 : z_Fit xX12_is xX12_expression := by unfold z_Fit; simp only [xX12_is, xX12_expression]; exact ⟨by decide, by decide⟩
theorem fitX12_expression_175 : z_Fit xX12_is xX12_expression := by unfold z_Fit; simp only [xX12_is, xX12_expression]; exact ⟨by decide, by decide⟩
theorem fitX12_expression_115 : z_Fit xX12_comesOut xX12_expression := by unfold z_Fit; simp only [xX12_comesOut, xX12_expression]; exact ⟨by decide, by decide⟩
theorem fitX12_expression_139 : z_Fit xX12_goesOn xX12_expression := by unfold z_Fit; simp only [xX12_goesOn, xX12_expression]; exact ⟨by decide, by decide⟩
theorem fitX12_expression_57 : z_Fit xX12_goesOn xX12_expression := by unfold z_Fit; simp only [xX12_goesOn, xX12_expression]; exact ⟨by decide, by decide⟩
theorem fitX12_expression_43 : z_Fit xX12_fail xX12_expression := by unfold z_Fit; simp only [xX12_fail, xX12_expression]; exact ⟨by decide, by decide⟩
noncomputable def kX12_expression_272 : zK zR := q_vret
noncomputable def kX12_expression_234 : zK ((zL × zS) ⊕ zR) := (q_callV 12 fX12_comesOut 1 (q_aload 0 (q_getR 12 41 (q_aload 0 (q_getI 12 42 (q_aload 0 (q_getR 12 5 (q_aload 0 (q_getI 12 11 (q_iald (q_iast (q_aload 0 (q_dup (q_getI 12 42 (q_push 1 (q_iadd (q_putI 12 42 (q_aload 0 (q_callV 12 fX12_goesOn 0 q_ag)))))))))))))))))))
noncomputable def kX12_expression_229 : zK ((zL × zS) ⊕ zR) := (q_push 1 kX12_expression_234)
noncomputable def kX12_expression_204 : zK zR := (q_aload 0 (q_push 0 (q_callV 12 fX12_comesOut 1 q_vret)))
noncomputable def kX12_expression_191 : zK zR := (q_aload 0 (q_getI 12 12 (q_iload 1 (q_icmp_le kX12_expression_204 (q_aload 0 (q_push 1 (q_callV 12 fX12_fail 1 kX12_expression_204)))))))
noncomputable def kX12_expression_186 : zK ((zL × zS) ⊕ zR) := (q_istore 2 (q_iload 2 (q_if_ne (q_aload 0 (q_aload 0 (q_push 10 (q_callV 12 fX12_is 1 (q_if_ne kX12_expression_229 (q_aload 0 (q_push 15 (q_callV 12 fX12_is 1 (q_if_eq (q_push 0 kX12_expression_234) kX12_expression_229))))))))) (q_dn kX12_expression_191))))
noncomputable def kX12_expression_181 : zK ((zL × zS) ⊕ zR) := (q_push 1 kX12_expression_186)
noncomputable def kX12_expression_145 : zK ((zL × zS) ⊕ zR) := (q_aload 0 (q_push 8 (q_callV 12 fX12_is 1 (q_if_ne kX12_expression_181 (q_aload 0 (q_push 9 (q_callV 12 fX12_is 1 (q_if_ne kX12_expression_181 (q_aload 0 (q_push 10 (q_callV 12 fX12_is 1 (q_if_ne kX12_expression_181 (q_aload 0 (q_push 15 (q_callV 12 fX12_is 1 (q_if_eq (q_push 0 kX12_expression_186) kX12_expression_181))))))))))))))))
noncomputable def bX12_expression_96 : zK ((zL × zS) ⊕ ((zL × zS) ⊕ zR)) := (q_aload 0 (q_push 7 (q_callV 12 fX12_is 1 (q_if_eq (q_dn kX12_expression_145) (q_aload 0 (q_getI 12 12 (q_iload 1 (q_icmp_le (q_dn kX12_expression_145) (q_aload 0 (q_push 0 (q_callV 12 fX12_comesOut 1 (q_aload 0 (q_dup (q_getI 12 42 (q_push 1 (q_isub (q_putI 12 42 (q_aload 0 (q_dup (q_getI 12 12 (q_push 1 (q_isub (q_putI 12 12 (q_aload 0 (q_callV 12 fX12_goesOn 0 q_ag)))))))))))))))))))))))))
noncomputable def kX12_expression_96 : zK ((zL × zS) ⊕ zR) := q_lp (bX12_expression_96)
noncomputable def kX12_expression_95 : zK zR := q_vret
noncomputable def kX12_expression_84 : zK ((zL × zS) ⊕ zR) := (q_aload 0 (q_callV 12 fX12_unit 0 (q_aload 0 (q_getI 12 13 (q_if_le kX12_expression_96 (q_dn kX12_expression_95))))))
noncomputable def kX12_expression_46 : zK ((zL × zS) ⊕ ((zL × zS) ⊕ zR)) := (q_aload 0 (q_dup (q_getI 12 12 (q_push 1 (q_iadd (q_putI 12 12 (q_aload 0 (q_callV 12 fX12_goesOn 0 (q_aload 0 (q_getR 12 41 (q_aload 0 (q_getI 12 42 (q_push 6 (q_iast (q_aload 0 (q_dup (q_getI 12 42 (q_push 1 (q_iadd (q_putI 12 42 q_ag))))))))))))))))))))
noncomputable def bX12_expression_23 : zK ((zL × zS) ⊕ ((zL × zS) ⊕ zR)) := (q_aload 0 (q_push 6 (q_callV 12 fX12_is 1 (q_if_eq (q_dn kX12_expression_84) (q_aload 0 (q_getI 12 12 (q_push 6 (q_icmp_ne kX12_expression_46 (q_aload 0 (q_push 2 (q_callV 12 fX12_fail 1 kX12_expression_46)))))))))))
noncomputable def kX12_expression_23 : zK ((zL × zS) ⊕ zR) := q_lp (bX12_expression_23)
noncomputable def bX12_expression_12 : zK ((zL × zS) ⊕ zR) := (q_iload 2 (q_if_eq (q_dn kX12_expression_272) (q_aload 0 (q_getI 12 13 (q_if_ne (q_dn kX12_expression_272) kX12_expression_23)))))
noncomputable def kX12_expression_12 : zK zR := q_lp (bX12_expression_12)
noncomputable def kX12_expression_0 : zK zR := (q_aload 0 (q_push 0 (q_putI 12 42 (q_aload 0 (q_getI 12 12 (q_istore 1 (q_push 1 (q_istore 2 kX12_expression_12))))))))
set_option maxRecDepth 100000 in
theorem tX12_expression_272 {l : Launch} {D : zD} {B sz0 : Nat} {post : Option Value → zS → Prop} : zSnd l D B xX12_expression sz0 post 272 kX12_expression_272 (z_Jr post) := (s_vret dX12_expression_272 rfl)
set_option maxRecDepth 100000 in
theorem tX12_expression_234 {l : Launch} {D : zD} {B sz0 : Nat} {post : Option Value → zS → Prop} : zSnd l D B xX12_expression sz0 post 234 kX12_expression_234 (z_Jl l D B xX12_expression sz0 post 12 (z_Jr post)) := (s_callV (r := (RX12, TX12, 74)) dX12_expression_234 mX12_comesOut meX12_comesOut wd992 wd993 rfl rfl reX12_comesOut rmX12_expression (fitX12_expression_234) wd994 (s_aload_n dX12_expression_237 rfl (s_getR (f := 41) dX12_expression_238 clX12 (by decide) rfl wd879 (s_aload_n dX12_expression_241 rfl (s_getI (f := 42) dX12_expression_242 clX12 (by decide) rfl wd986 (s_aload_n dX12_expression_245 rfl (s_getR (f := 5) dX12_expression_246 clX12 (by decide) rfl wd865 (s_aload_n dX12_expression_249 rfl (s_getI (f := 11) dX12_expression_250 clX12 (by decide) rfl wd943 (s_iald dX12_expression_253 (s_iast dX12_expression_254 (s_aload_n dX12_expression_255 rfl (s_dup dX12_expression_256 (s_getI (f := 42) dX12_expression_257 clX12 (by decide) rfl wd986 (s_iconst dX12_expression_260 (by decide) (s_iadd dX12_expression_261 (s_putI (f := 42) dX12_expression_262 clX12 (by decide) rfl rfl rfl wd986 (s_aload_n dX12_expression_265 rfl (s_callV (r := (RX12, TX12, 74)) dX12_expression_266 mX12_goesOn meX12_goesOn wd957 wd958 rfl rfl reX12_goesOn rmX12_expression (fitX12_expression_266) wd959 (s_goto (tgt := 12) dX12_expression_269 (by decide) s_ag))))))))))))))))))))
set_option maxRecDepth 100000 in
theorem tX12_expression_229 {l : Launch} {D : zD} {B sz0 : Nat} {post : Option Value → zS → Prop} : zSnd l D B xX12_expression sz0 post 229 kX12_expression_229 (z_Jl l D B xX12_expression sz0 post 12 (z_Jr post)) := (s_iconst dX12_expression_229 (by decide) (s_goto (tgt := 234) dX12_expression_230 (by decide) tX12_expression_234))
set_option maxRecDepth 100000 in
theorem tX12_expression_204 {l : Launch} {D : zD} {B sz0 : Nat} {post : Option Value → zS → Prop} : zSnd l D B xX12_expression sz0 post 204 kX12_expression_204 (z_Jr post) := (s_aload_n dX12_expression_204 rfl (s_iconst dX12_expression_205 (by decide) (s_callV (r := (RX12, TX12, 74)) dX12_expression_206 mX12_comesOut meX12_comesOut wd992 wd993 rfl rfl reX12_comesOut rmX12_expression (fitX12_expression_206) wd994 (s_vret dX12_expression_209 rfl))))
set_option maxRecDepth 100000 in
theorem tX12_expression_191 {l : Launch} {D : zD} {B sz0 : Nat} {post : Option Value → zS → Prop} : zSnd l D B xX12_expression sz0 post 191 kX12_expression_191 (z_Jr post) := (s_aload_n dX12_expression_191 rfl (s_getI (f := 12) dX12_expression_192 clX12 (by decide) rfl wd988 (s_iload_n dX12_expression_195 rfl (s_icmp_le (tgt := 204) dX12_expression_196 (by decide) tX12_expression_204 (s_aload_n dX12_expression_199 rfl (s_iconst dX12_expression_200 (by decide) (s_callV (r := (RX12, TX12, 74)) dX12_expression_201 mX12_fail meX12_fail wd950 wd951 rfl rfl reX12_fail rmX12_expression (fitX12_expression_201) wd952 tX12_expression_204)))))))
set_option maxRecDepth 100000 in
theorem tX12_expression_186 {l : Launch} {D : zD} {B sz0 : Nat} {post : Option Value → zS → Prop} : zSnd l D B xX12_expression sz0 post 186 kX12_expression_186 (z_Jl l D B xX12_expression sz0 post 12 (z_Jr post)) := (s_istore_n dX12_expression_186 rfl (s_iload_n dX12_expression_187 rfl (s_if_ne (tgt := 210) dX12_expression_188 (by decide) (s_aload_n dX12_expression_210 rfl (s_aload_n dX12_expression_211 rfl (s_bipush dX12_expression_212 (by decide) (s_callV (r := (RX12, TX12, 74)) dX12_expression_214 mX12_is meX12_is wd954 wd955 rfl rfl reX12_is rmX12_expression (fitX12_expression_214) wd956 (s_if_ne (tgt := 229) dX12_expression_217 (by decide) tX12_expression_229 (s_aload_n dX12_expression_220 rfl (s_bipush dX12_expression_221 (by decide) (s_callV (r := (RX12, TX12, 74)) dX12_expression_223 mX12_is meX12_is wd954 wd955 rfl rfl reX12_is rmX12_expression (fitX12_expression_223) wd956 (s_if_eq (tgt := 233) dX12_expression_226 (by decide) (s_iconst dX12_expression_233 (by decide) tX12_expression_234) tX12_expression_229))))))))) (s_dn tX12_expression_191))))
set_option maxRecDepth 100000 in
theorem tX12_expression_181 {l : Launch} {D : zD} {B sz0 : Nat} {post : Option Value → zS → Prop} : zSnd l D B xX12_expression sz0 post 181 kX12_expression_181 (z_Jl l D B xX12_expression sz0 post 12 (z_Jr post)) := (s_iconst dX12_expression_181 (by decide) (s_goto (tgt := 186) dX12_expression_182 (by decide) tX12_expression_186))
set_option maxRecDepth 100000 in
theorem tX12_expression_145 {l : Launch} {D : zD} {B sz0 : Nat} {post : Option Value → zS → Prop} : zSnd l D B xX12_expression sz0 post 145 kX12_expression_145 (z_Jl l D B xX12_expression sz0 post 12 (z_Jr post)) := (s_aload_n dX12_expression_145 rfl (s_bipush dX12_expression_146 (by decide) (s_callV (r := (RX12, TX12, 74)) dX12_expression_148 mX12_is meX12_is wd954 wd955 rfl rfl reX12_is rmX12_expression (fitX12_expression_148) wd956 (s_if_ne (tgt := 181) dX12_expression_151 (by decide) tX12_expression_181 (s_aload_n dX12_expression_154 rfl (s_bipush dX12_expression_155 (by decide) (s_callV (r := (RX12, TX12, 74)) dX12_expression_157 mX12_is meX12_is wd954 wd955 rfl rfl reX12_is rmX12_expression (fitX12_expression_157) wd956 (s_if_ne (tgt := 181) dX12_expression_160 (by decide) tX12_expression_181 (s_aload_n dX12_expression_163 rfl (s_bipush dX12_expression_164 (by decide) (s_callV (r := (RX12, TX12, 74)) dX12_expression_166 mX12_is meX12_is wd954 wd955 rfl rfl reX12_is rmX12_expression (fitX12_expression_166) wd956 (s_if_ne (tgt := 181) dX12_expression_169 (by decide) tX12_expression_181 (s_aload_n dX12_expression_172 rfl (s_bipush dX12_expression_173 (by decide) (s_callV (r := (RX12, TX12, 74)) dX12_expression_175 mX12_is meX12_is wd954 wd955 rfl rfl reX12_is rmX12_expression (fitX12_expression_175) wd956 (s_if_eq (tgt := 185) dX12_expression_178 (by decide) (s_iconst dX12_expression_185 (by decide) tX12_expression_186) tX12_expression_181))))))))))))))))
set_option maxRecDepth 100000 in
theorem tX12_expression_96 {l : Launch} {D : zD} {B sz0 : Nat} {post : Option Value → zS → Prop} : zSnd l D B xX12_expression sz0 post 96 kX12_expression_96 (z_Jl l D B xX12_expression sz0 post 12 (z_Jr post)) := s_lp (body := bX12_expression_96) (s_aload_n dX12_expression_96 rfl (s_bipush dX12_expression_97 (by decide) (s_callV (r := (RX12, TX12, 74)) dX12_expression_99 mX12_is meX12_is wd954 wd955 rfl rfl reX12_is rmX12_expression (fitX12_expression_99) wd956 (s_if_eq (tgt := 145) dX12_expression_102 (by decide) (s_dn tX12_expression_145) (s_aload_n dX12_expression_105 rfl (s_getI (f := 12) dX12_expression_106 clX12 (by decide) rfl wd988 (s_iload_n dX12_expression_109 rfl (s_icmp_le (tgt := 145) dX12_expression_110 (by decide) (s_dn tX12_expression_145) (s_aload_n dX12_expression_113 rfl (s_iconst dX12_expression_114 (by decide) (s_callV (r := (RX12, TX12, 74)) dX12_expression_115 mX12_comesOut meX12_comesOut wd992 wd993 rfl rfl reX12_comesOut rmX12_expression (fitX12_expression_115) wd994 (s_aload_n dX12_expression_118 rfl (s_dup dX12_expression_119 (s_getI (f := 42) dX12_expression_120 clX12 (by decide) rfl wd986 (s_iconst dX12_expression_123 (by decide) (s_isub dX12_expression_124 (s_putI (f := 42) dX12_expression_125 clX12 (by decide) rfl rfl rfl wd986 (s_aload_n dX12_expression_128 rfl (s_dup dX12_expression_129 (s_getI (f := 12) dX12_expression_130 clX12 (by decide) rfl wd988 (s_iconst dX12_expression_133 (by decide) (s_isub dX12_expression_134 (s_putI (f := 12) dX12_expression_135 clX12 (by decide) rfl rfl rfl wd988 (s_aload_n dX12_expression_138 rfl (s_callV (r := (RX12, TX12, 74)) dX12_expression_139 mX12_goesOn meX12_goesOn wd957 wd958 rfl rfl reX12_goesOn rmX12_expression (fitX12_expression_139) wd959 (s_goto (tgt := 96) dX12_expression_142 (by decide) s_ag))))))))))))))))))))))))))
set_option maxRecDepth 100000 in
theorem tX12_expression_95 {l : Launch} {D : zD} {B sz0 : Nat} {post : Option Value → zS → Prop} : zSnd l D B xX12_expression sz0 post 95 kX12_expression_95 (z_Jr post) := (s_vret dX12_expression_95 rfl)
set_option maxRecDepth 100000 in
theorem tX12_expression_84 {l : Launch} {D : zD} {B sz0 : Nat} {post : Option Value → zS → Prop} : zSnd l D B xX12_expression sz0 post 84 kX12_expression_84 (z_Jl l D B xX12_expression sz0 post 12 (z_Jr post)) := (s_aload_n dX12_expression_84 rfl (s_callV (r := (RX12, TX12, 74)) dX12_expression_85 mX12_unit meX12_unit wd989 wd990 rfl rfl reX12_unit rmX12_expression (fitX12_expression_85) wd991 (s_aload_n dX12_expression_88 rfl (s_getI (f := 13) dX12_expression_89 clX12 (by decide) rfl wd942 (s_if_le (tgt := 96) dX12_expression_92 (by decide) tX12_expression_96 (s_dn tX12_expression_95))))))
set_option maxRecDepth 100000 in
theorem tX12_expression_46 {l : Launch} {D : zD} {B sz0 : Nat} {post : Option Value → zS → Prop} : zSnd l D B xX12_expression sz0 post 46 kX12_expression_46 (z_Jl l D B xX12_expression sz0 post 23 (z_Jl l D B xX12_expression sz0 post 12 (z_Jr post))) := (s_aload_n dX12_expression_46 rfl (s_dup dX12_expression_47 (s_getI (f := 12) dX12_expression_48 clX12 (by decide) rfl wd988 (s_iconst dX12_expression_51 (by decide) (s_iadd dX12_expression_52 (s_putI (f := 12) dX12_expression_53 clX12 (by decide) rfl rfl rfl wd988 (s_aload_n dX12_expression_56 rfl (s_callV (r := (RX12, TX12, 74)) dX12_expression_57 mX12_goesOn meX12_goesOn wd957 wd958 rfl rfl reX12_goesOn rmX12_expression (fitX12_expression_57) wd959 (s_aload_n dX12_expression_60 rfl (s_getR (f := 41) dX12_expression_61 clX12 (by decide) rfl wd879 (s_aload_n dX12_expression_64 rfl (s_getI (f := 42) dX12_expression_65 clX12 (by decide) rfl wd986 (s_bipush dX12_expression_68 (by decide) (s_iast dX12_expression_70 (s_aload_n dX12_expression_71 rfl (s_dup dX12_expression_72 (s_getI (f := 42) dX12_expression_73 clX12 (by decide) rfl wd986 (s_iconst dX12_expression_76 (by decide) (s_iadd dX12_expression_77 (s_putI (f := 42) dX12_expression_78 clX12 (by decide) rfl rfl rfl wd986 (s_goto (tgt := 23) dX12_expression_81 (by decide) s_ag)))))))))))))))))))))
set_option maxRecDepth 100000 in
theorem tX12_expression_23 {l : Launch} {D : zD} {B sz0 : Nat} {post : Option Value → zS → Prop} : zSnd l D B xX12_expression sz0 post 23 kX12_expression_23 (z_Jl l D B xX12_expression sz0 post 12 (z_Jr post)) := s_lp (body := bX12_expression_23) (s_aload_n dX12_expression_23 rfl (s_bipush dX12_expression_24 (by decide) (s_callV (r := (RX12, TX12, 74)) dX12_expression_26 mX12_is meX12_is wd954 wd955 rfl rfl reX12_is rmX12_expression (fitX12_expression_26) wd956 (s_if_eq (tgt := 84) dX12_expression_29 (by decide) (s_dn tX12_expression_84) (s_aload_n dX12_expression_32 rfl (s_getI (f := 12) dX12_expression_33 clX12 (by decide) rfl wd988 (s_bipush dX12_expression_36 (by decide) (s_icmp_ne (tgt := 46) dX12_expression_38 (by decide) tX12_expression_46 (s_aload_n dX12_expression_41 rfl (s_iconst dX12_expression_42 (by decide) (s_callV (r := (RX12, TX12, 74)) dX12_expression_43 mX12_fail meX12_fail wd950 wd951 rfl rfl reX12_fail rmX12_expression (fitX12_expression_43) wd952 tX12_expression_46)))))))))))
set_option maxRecDepth 100000 in
theorem tX12_expression_12 {l : Launch} {D : zD} {B sz0 : Nat} {post : Option Value → zS → Prop} : zSnd l D B xX12_expression sz0 post 12 kX12_expression_12 (z_Jr post) := s_lp (body := bX12_expression_12) (s_iload_n dX12_expression_12 rfl (s_if_eq (tgt := 272) dX12_expression_13 (by decide) (s_dn tX12_expression_272) (s_aload_n dX12_expression_16 rfl (s_getI (f := 13) dX12_expression_17 clX12 (by decide) rfl wd942 (s_if_ne (tgt := 272) dX12_expression_20 (by decide) (s_dn tX12_expression_272) tX12_expression_23)))))
set_option maxRecDepth 100000 in
theorem tX12_expression_0 {l : Launch} {D : zD} {B sz0 : Nat} {post : Option Value → zS → Prop} : zSnd l D B xX12_expression sz0 post 0 kX12_expression_0 (z_Jr post) := (s_aload_n dX12_expression_0 rfl (s_iconst dX12_expression_1 (by decide) (s_putI (f := 42) dX12_expression_2 clX12 (by decide) rfl rfl rfl wd986 (s_aload_n dX12_expression_5 rfl (s_getI (f := 12) dX12_expression_6 clX12 (by decide) rfl wd988 (s_istore_n dX12_expression_9 rfl (s_iconst dX12_expression_10 (by decide) (s_istore_n dX12_expression_11 rfl tX12_expression_12))))))))
noncomputable def fX12_expression : zF := z_fn 3 kX12_expression_0
theorem mX12_expression {l : Launch} {D : zD} {B : Nat} : z_MF l D B yX12_expression xX12_expression fX12_expression := z_mf (by decide) rfl (fun h => by cases h) rfl (fun as σ r h => ⟨z_fn_len h, kX12_expression_0, z_fn_run h, fun _ => tX12_expression_0⟩)
/-! ===== RowChildrenModel.term ===== -/
theorem dX12_term_0 : decode cX12_term 0 = .ok (.aload_n 0, 1) := by decide +kernel
theorem dX12_term_1 : decode cX12_term 1 = .ok (.getfield 83, 3) := by decide +kernel
theorem dX12_term_4 : decode cX12_term 4 = .ok (.aload_n 0, 1) := by decide +kernel
theorem dX12_term_5 : decode cX12_term 5 = .ok (.getfield 258, 3) := by decide +kernel
theorem dX12_term_8 : decode cX12_term 8 = .ok (.aload_n 0, 1) := by decide +kernel
theorem dX12_term_9 : decode cX12_term 9 = .ok (.getfield 261, 3) := by decide +kernel
theorem dX12_term_12 : decode cX12_term 12 = .ok (.iastore, 1) := by decide +kernel
theorem dX12_term_13 : decode cX12_term 13 = .ok (.aload_n 0, 1) := by decide +kernel
theorem dX12_term_14 : decode cX12_term 14 = .ok (.getfield 219, 3) := by decide +kernel
theorem dX12_term_17 : decode cX12_term 17 = .ok (.ifCond .ne 7, 3) := by decide +kernel
theorem dX12_term_20 : decode cX12_term 20 = .ok (.aload_n 0, 1) := by decide +kernel
theorem dX12_term_21 : decode cX12_term 21 = .ok (.invokevirtual 300, 3) := by decide +kernel
theorem dX12_term_24 : decode cX12_term 24 = .ok (.aload_n 0, 1) := by decide +kernel
theorem dX12_term_25 : decode cX12_term 25 = .ok (.getfield 86, 3) := by decide +kernel
theorem dX12_term_28 : decode cX12_term 28 = .ok (.aload_n 0, 1) := by decide +kernel
theorem dX12_term_29 : decode cX12_term 29 = .ok (.getfield 258, 3) := by decide +kernel
theorem dX12_term_32 : decode cX12_term 32 = .ok (.aload_n 0, 1) := by decide +kernel
theorem dX12_term_33 : decode cX12_term 33 = .ok (.getfield 261, 3) := by decide +kernel
theorem dX12_term_36 : decode cX12_term 36 = .ok (.iastore, 1) := by decide +kernel
theorem dX12_term_37 : decode cX12_term 37 = .ok (.aload_n 0, 1) := by decide +kernel
theorem dX12_term_38 : decode cX12_term 38 = .ok (.dup, 1) := by decide +kernel
theorem dX12_term_39 : decode cX12_term 39 = .ok (.getfield 258, 3) := by decide +kernel
theorem dX12_term_42 : decode cX12_term 42 = .ok (.iconst 1, 1) := by decide +kernel
theorem dX12_term_43 : decode cX12_term 43 = .ok (.iadd, 1) := by decide +kernel
theorem dX12_term_44 : decode cX12_term 44 = .ok (.putfield 258, 3) := by decide +kernel
theorem dX12_term_47 : decode cX12_term 47 = .ok (.return_, 1) := by decide +kernel
def xX12_term : zX := (RX12, cX12_term, 1, none, false, { frames := 5, cells := 0, slots := 0, locals := 173 }, 0, 0, 0, 0)
theorem rmX12_term : z_Rm xX12_term := by unfold z_Rm xX12_term; exact ⟨by decide, by decide⟩
theorem reX12_term : z_Re xX12_term := ⟨rfl, rfl⟩
theorem rlX12_term : 1 ≤ xX12_term.2.2.2.2.2.1.frames ∧ 21 ≤ xX12_term.2.2.2.2.2.1.locals := by unfold xX12_term; exact ⟨by decide, by decide⟩
theorem meX12_term : z_Me yX12_term xX12_term 0 := ⟨wd1000, wd848, by decide, by decide, by decide +kernel⟩
theorem fitX12_term_21 : z_Fit xX12_expression xX12_term := by unfold z_Fit; simp only [xX12_expression, xX12_term]; exact ⟨by decide, by decide⟩
noncomputable def kX12_term_24 : zK zR := (q_aload 0 (q_getR 12 37 (q_aload 0 (q_getI 12 32 (q_aload 0 (q_getI 12 38 (q_iast (q_aload 0 (q_dup (q_getI 12 32 (q_push 1 (q_iadd (q_putI 12 32 q_vret)))))))))))))
noncomputable def kX12_term_0 : zK zR := (q_aload 0 (q_getR 12 36 (q_aload 0 (q_getI 12 32 (q_aload 0 (q_getI 12 38 (q_iast (q_aload 0 (q_getI 12 13 (q_if_ne kX12_term_24 (q_aload 0 (q_callV 12 fX12_expression 0 kX12_term_24))))))))))))
set_option maxRecDepth 100000 in
theorem tX12_term_24 {l : Launch} {D : zD} {B sz0 : Nat} {post : Option Value → zS → Prop} : zSnd l D B xX12_term sz0 post 24 kX12_term_24 (z_Jr post) := (s_aload_n dX12_term_24 rfl (s_getR (f := 37) dX12_term_25 clX12 (by decide) rfl wd876 (s_aload_n dX12_term_28 rfl (s_getI (f := 32) dX12_term_29 clX12 (by decide) rfl wd996 (s_aload_n dX12_term_32 rfl (s_getI (f := 38) dX12_term_33 clX12 (by decide) rfl wd980 (s_iast dX12_term_36 (s_aload_n dX12_term_37 rfl (s_dup dX12_term_38 (s_getI (f := 32) dX12_term_39 clX12 (by decide) rfl wd996 (s_iconst dX12_term_42 (by decide) (s_iadd dX12_term_43 (s_putI (f := 32) dX12_term_44 clX12 (by decide) rfl rfl rfl wd996 (s_vret dX12_term_47 rfl))))))))))))))
set_option maxRecDepth 100000 in
theorem tX12_term_0 {l : Launch} {D : zD} {B sz0 : Nat} {post : Option Value → zS → Prop} : zSnd l D B xX12_term sz0 post 0 kX12_term_0 (z_Jr post) := (s_aload_n dX12_term_0 rfl (s_getR (f := 36) dX12_term_1 clX12 (by decide) rfl wd875 (s_aload_n dX12_term_4 rfl (s_getI (f := 32) dX12_term_5 clX12 (by decide) rfl wd996 (s_aload_n dX12_term_8 rfl (s_getI (f := 38) dX12_term_9 clX12 (by decide) rfl wd980 (s_iast dX12_term_12 (s_aload_n dX12_term_13 rfl (s_getI (f := 13) dX12_term_14 clX12 (by decide) rfl wd942 (s_if_ne (tgt := 24) dX12_term_17 (by decide) tX12_term_24 (s_aload_n dX12_term_20 rfl (s_callV (r := (RX12, TX12, 74)) dX12_term_21 mX12_expression meX12_expression wd997 wd998 rfl rfl reX12_expression rmX12_term (fitX12_term_21) wd999 tX12_term_24))))))))))))
noncomputable def fX12_term : zF := z_fn 1 kX12_term_0
theorem mX12_term {l : Launch} {D : zD} {B : Nat} : z_MF l D B yX12_term xX12_term fX12_term := z_mf (by decide) rfl (fun h => by cases h) rfl (fun as σ r h => ⟨z_fn_len h, kX12_term_0, z_fn_run h, fun _ => tX12_term_0⟩)
/-! ===== RowChildrenModel.tellLaw ===== -/
theorem dX12_tellLaw_0 : decode cX12_tellLaw 0 = .ok (.aload_n 0, 1) := by decide +kernel
theorem dX12_tellLaw_1 : decode cX12_tellLaw 1 = .ok (.iconst 5, 1) := by decide +kernel
theorem dX12_tellLaw_2 : decode cX12_tellLaw 2 = .ok (.invokevirtual 281, 3) := by decide +kernel
theorem dX12_tellLaw_5 : decode cX12_tellLaw 5 = .ok (.aload_n 0, 1) := by decide +kernel
theorem dX12_tellLaw_6 : decode cX12_tellLaw 6 = .ok (.getfield 258, 3) := by decide +kernel
theorem dX12_tellLaw_9 : decode cX12_tellLaw 9 = .ok (.istore_n 2, 1) := by decide +kernel
theorem dX12_tellLaw_10 : decode cX12_tellLaw 10 = .ok (.iconst 0, 1) := by decide +kernel
theorem dX12_tellLaw_11 : decode cX12_tellLaw 11 = .ok (.istore_n 3, 1) := by decide +kernel
theorem dX12_tellLaw_12 : decode cX12_tellLaw 12 = .ok (.aload_n 0, 1) := by decide +kernel
theorem dX12_tellLaw_13 : decode cX12_tellLaw 13 = .ok (.getfield 219, 3) := by decide +kernel
theorem dX12_tellLaw_16 : decode cX12_tellLaw 16 = .ok (.ifCond .ne 113, 3) := by decide +kernel
theorem dX12_tellLaw_19 : decode cX12_tellLaw 19 = .ok (.aload_n 0, 1) := by decide +kernel
theorem dX12_tellLaw_20 : decode cX12_tellLaw 20 = .ok (.bipush 28, 2) := by decide +kernel
theorem dX12_tellLaw_22 : decode cX12_tellLaw 22 = .ok (.invokevirtual 237, 3) := by decide +kernel
theorem dX12_tellLaw_25 : decode cX12_tellLaw 25 = .ok (.ifCond .eq 104, 3) := by decide +kernel
theorem dX12_tellLaw_28 : decode cX12_tellLaw 28 = .ok (.iload_n 3, 1) := by decide +kernel
theorem dX12_tellLaw_29 : decode cX12_tellLaw 29 = .ok (.iconst 4, 1) := by decide +kernel
theorem dX12_tellLaw_30 : decode cX12_tellLaw 30 = .ok (.if_icmp .ne 8, 3) := by decide +kernel
theorem dX12_tellLaw_33 : decode cX12_tellLaw 33 = .ok (.aload_n 0, 1) := by decide +kernel
theorem dX12_tellLaw_34 : decode cX12_tellLaw 34 = .ok (.iconst 2, 1) := by decide +kernel
theorem dX12_tellLaw_35 : decode cX12_tellLaw 35 = .ok (.invokevirtual 234, 3) := by decide +kernel
theorem dX12_tellLaw_38 : decode cX12_tellLaw 38 = .ok (.aload_n 0, 1) := by decide +kernel
theorem dX12_tellLaw_39 : decode cX12_tellLaw 39 = .ok (.getfield 219, 3) := by decide +kernel
theorem dX12_tellLaw_42 : decode cX12_tellLaw 42 = .ok (.ifCond .le 4, 3) := by decide +kernel
theorem dX12_tellLaw_45 : decode cX12_tellLaw 45 = .ok (.return_, 1) := by decide +kernel
theorem dX12_tellLaw_46 : decode cX12_tellLaw 46 = .ok (.iinc 3 1, 3) := by decide +kernel
theorem dX12_tellLaw_49 : decode cX12_tellLaw 49 = .ok (.aload_n 0, 1) := by decide +kernel
theorem dX12_tellLaw_50 : decode cX12_tellLaw 50 = .ok (.invokevirtual 240, 3) := by decide +kernel
theorem dX12_tellLaw_53 : decode cX12_tellLaw 53 = .ok (.aload_n 0, 1) := by decide +kernel
theorem dX12_tellLaw_54 : decode cX12_tellLaw 54 = .ok (.getfield 73, 3) := by decide +kernel
theorem dX12_tellLaw_57 : decode cX12_tellLaw 57 = .ok (.aload_n 0, 1) := by decide +kernel
theorem dX12_tellLaw_58 : decode cX12_tellLaw 58 = .ok (.getfield 258, 3) := by decide +kernel
theorem dX12_tellLaw_61 : decode cX12_tellLaw 61 = .ok (.iconst 1, 1) := by decide +kernel
theorem dX12_tellLaw_62 : decode cX12_tellLaw 62 = .ok (.bastore, 1) := by decide +kernel
theorem dX12_tellLaw_63 : decode cX12_tellLaw 63 = .ok (.aload_n 0, 1) := by decide +kernel
theorem dX12_tellLaw_64 : decode cX12_tellLaw 64 = .ok (.getfield 77, 3) := by decide +kernel
theorem dX12_tellLaw_67 : decode cX12_tellLaw 67 = .ok (.aload_n 0, 1) := by decide +kernel
theorem dX12_tellLaw_68 : decode cX12_tellLaw 68 = .ok (.getfield 258, 3) := by decide +kernel
theorem dX12_tellLaw_71 : decode cX12_tellLaw 71 = .ok (.aload_n 0, 1) := by decide +kernel
theorem dX12_tellLaw_72 : decode cX12_tellLaw 72 = .ok (.getfield 261, 3) := by decide +kernel
theorem dX12_tellLaw_75 : decode cX12_tellLaw 75 = .ok (.iastore, 1) := by decide +kernel
theorem dX12_tellLaw_76 : decode cX12_tellLaw 76 = .ok (.aload_n 0, 1) := by decide +kernel
theorem dX12_tellLaw_77 : decode cX12_tellLaw 77 = .ok (.invokevirtual 300, 3) := by decide +kernel
theorem dX12_tellLaw_80 : decode cX12_tellLaw 80 = .ok (.aload_n 0, 1) := by decide +kernel
theorem dX12_tellLaw_81 : decode cX12_tellLaw 81 = .ok (.bipush 13, 2) := by decide +kernel
theorem dX12_tellLaw_83 : decode cX12_tellLaw 83 = .ok (.invokevirtual 281, 3) := by decide +kernel
theorem dX12_tellLaw_86 : decode cX12_tellLaw 86 = .ok (.aload_n 0, 1) := by decide +kernel
theorem dX12_tellLaw_87 : decode cX12_tellLaw 87 = .ok (.getfield 80, 3) := by decide +kernel
theorem dX12_tellLaw_90 : decode cX12_tellLaw 90 = .ok (.aload_n 0, 1) := by decide +kernel
theorem dX12_tellLaw_91 : decode cX12_tellLaw 91 = .ok (.getfield 258, 3) := by decide +kernel
theorem dX12_tellLaw_94 : decode cX12_tellLaw 94 = .ok (.aload_n 0, 1) := by decide +kernel
theorem dX12_tellLaw_95 : decode cX12_tellLaw 95 = .ok (.getfield 261, 3) := by decide +kernel
theorem dX12_tellLaw_98 : decode cX12_tellLaw 98 = .ok (.iastore, 1) := by decide +kernel
theorem dX12_tellLaw_99 : decode cX12_tellLaw 99 = .ok (.aload_n 0, 1) := by decide +kernel
theorem dX12_tellLaw_100 : decode cX12_tellLaw 100 = .ok (.getfield 219, 3) := by decide +kernel
theorem dX12_tellLaw_103 : decode cX12_tellLaw 103 = .ok (.ifCond .ne 7, 3) := by decide +kernel
theorem dX12_tellLaw_106 : decode cX12_tellLaw 106 = .ok (.aload_n 0, 1) := by decide +kernel
theorem dX12_tellLaw_107 : decode cX12_tellLaw 107 = .ok (.invokevirtual 300, 3) := by decide +kernel
theorem dX12_tellLaw_110 : decode cX12_tellLaw 110 = .ok (.aload_n 0, 1) := by decide +kernel
theorem dX12_tellLaw_111 : decode cX12_tellLaw 111 = .ok (.bipush 29, 2) := by decide +kernel
theorem dX12_tellLaw_113 : decode cX12_tellLaw 113 = .ok (.invokevirtual 281, 3) := by decide +kernel
theorem dX12_tellLaw_116 : decode cX12_tellLaw 116 = .ok (.aload_n 0, 1) := by decide +kernel
theorem dX12_tellLaw_117 : decode cX12_tellLaw 117 = .ok (.invokevirtual 303, 3) := by decide +kernel
theorem dX12_tellLaw_120 : decode cX12_tellLaw 120 = .ok (.aload_n 0, 1) := by decide +kernel
theorem dX12_tellLaw_121 : decode cX12_tellLaw 121 = .ok (.bipush 30, 2) := by decide +kernel
theorem dX12_tellLaw_123 : decode cX12_tellLaw 123 = .ok (.invokevirtual 281, 3) := by decide +kernel
theorem dX12_tellLaw_126 : decode cX12_tellLaw 126 = .ok (.goto (-114), 3) := by decide +kernel
theorem dX12_tellLaw_129 : decode cX12_tellLaw 129 = .ok (.aload_n 0, 1) := by decide +kernel
theorem dX12_tellLaw_130 : decode cX12_tellLaw 130 = .ok (.getfield 73, 3) := by decide +kernel
theorem dX12_tellLaw_133 : decode cX12_tellLaw 133 = .ok (.aload_n 0, 1) := by decide +kernel
theorem dX12_tellLaw_134 : decode cX12_tellLaw 134 = .ok (.getfield 258, 3) := by decide +kernel
theorem dX12_tellLaw_137 : decode cX12_tellLaw 137 = .ok (.iconst 0, 1) := by decide +kernel
theorem dX12_tellLaw_138 : decode cX12_tellLaw 138 = .ok (.bastore, 1) := by decide +kernel
theorem dX12_tellLaw_139 : decode cX12_tellLaw 139 = .ok (.aload_n 0, 1) := by decide +kernel
theorem dX12_tellLaw_140 : decode cX12_tellLaw 140 = .ok (.invokevirtual 303, 3) := by decide +kernel
theorem dX12_tellLaw_143 : decode cX12_tellLaw 143 = .ok (.aload_n 0, 1) := by decide +kernel
theorem dX12_tellLaw_144 : decode cX12_tellLaw 144 = .ok (.iconst 4, 1) := by decide +kernel
theorem dX12_tellLaw_145 : decode cX12_tellLaw 145 = .ok (.invokevirtual 281, 3) := by decide +kernel
theorem dX12_tellLaw_148 : decode cX12_tellLaw 148 = .ok (.aload_n 0, 1) := by decide +kernel
theorem dX12_tellLaw_149 : decode cX12_tellLaw 149 = .ok (.getfield 219, 3) := by decide +kernel
theorem dX12_tellLaw_152 : decode cX12_tellLaw 152 = .ok (.ifCond .le 4, 3) := by decide +kernel
theorem dX12_tellLaw_155 : decode cX12_tellLaw 155 = .ok (.return_, 1) := by decide +kernel
theorem dX12_tellLaw_156 : decode cX12_tellLaw 156 = .ok (.aload_n 0, 1) := by decide +kernel
theorem dX12_tellLaw_157 : decode cX12_tellLaw 157 = .ok (.getfield 67, 3) := by decide +kernel
theorem dX12_tellLaw_160 : decode cX12_tellLaw 160 = .ok (.iconst 4, 1) := by decide +kernel
theorem dX12_tellLaw_161 : decode cX12_tellLaw 161 = .ok (.aload_n 0, 1) := by decide +kernel
theorem dX12_tellLaw_162 : decode cX12_tellLaw 162 = .ok (.getfield 252, 3) := by decide +kernel
theorem dX12_tellLaw_165 : decode cX12_tellLaw 165 = .ok (.imul, 1) := by decide +kernel
theorem dX12_tellLaw_166 : decode cX12_tellLaw 166 = .ok (.iload_n 1, 1) := by decide +kernel
theorem dX12_tellLaw_167 : decode cX12_tellLaw 167 = .ok (.iadd, 1) := by decide +kernel
theorem dX12_tellLaw_168 : decode cX12_tellLaw 168 = .ok (.iload_n 2, 1) := by decide +kernel
theorem dX12_tellLaw_169 : decode cX12_tellLaw 169 = .ok (.iastore, 1) := by decide +kernel
theorem dX12_tellLaw_170 : decode cX12_tellLaw 170 = .ok (.aload_n 0, 1) := by decide +kernel
theorem dX12_tellLaw_171 : decode cX12_tellLaw 171 = .ok (.getfield 70, 3) := by decide +kernel
theorem dX12_tellLaw_174 : decode cX12_tellLaw 174 = .ok (.iconst 4, 1) := by decide +kernel
theorem dX12_tellLaw_175 : decode cX12_tellLaw 175 = .ok (.aload_n 0, 1) := by decide +kernel
theorem dX12_tellLaw_176 : decode cX12_tellLaw 176 = .ok (.getfield 252, 3) := by decide +kernel
theorem dX12_tellLaw_179 : decode cX12_tellLaw 179 = .ok (.imul, 1) := by decide +kernel
theorem dX12_tellLaw_180 : decode cX12_tellLaw 180 = .ok (.iload_n 1, 1) := by decide +kernel
theorem dX12_tellLaw_181 : decode cX12_tellLaw 181 = .ok (.iadd, 1) := by decide +kernel
theorem dX12_tellLaw_182 : decode cX12_tellLaw 182 = .ok (.aload_n 0, 1) := by decide +kernel
theorem dX12_tellLaw_183 : decode cX12_tellLaw 183 = .ok (.getfield 258, 3) := by decide +kernel
theorem dX12_tellLaw_186 : decode cX12_tellLaw 186 = .ok (.iastore, 1) := by decide +kernel
theorem dX12_tellLaw_187 : decode cX12_tellLaw 187 = .ok (.return_, 1) := by decide +kernel
def xX12_tellLaw : zX := (RX12, cX12_tellLaw, 4, none, false, { frames := 6, cells := 0, slots := 0, locals := 193 }, 0, 0, 0, 0)
theorem rmX12_tellLaw : z_Rm xX12_tellLaw := by unfold z_Rm xX12_tellLaw; exact ⟨by decide, by decide⟩
theorem reX12_tellLaw : z_Re xX12_tellLaw := ⟨rfl, rfl⟩
theorem rlX12_tellLaw : 1 ≤ xX12_tellLaw.2.2.2.2.2.1.frames ∧ 21 ≤ xX12_tellLaw.2.2.2.2.2.1.locals := by unfold xX12_tellLaw; exact ⟨by decide, by decide⟩
theorem meX12_tellLaw : z_Me yX12_tellLaw xX12_tellLaw 1 := ⟨wd1004, wd848, by decide, by decide, by decide +kernel⟩
theorem fitX12_tellLaw_2 : z_Fit xX12_must xX12_tellLaw := by unfold z_Fit; simp only [xX12_must, xX12_tellLaw]; exact ⟨by decide, by decide⟩
theorem fitX12_tellLaw_140 : z_Fit xX12_term xX12_tellLaw := by unfold z_Fit; simp only [xX12_term, xX12_tellLaw]; exact ⟨by decide, by decide⟩
theorem fitX12_tellLaw_145 : z_Fit xX12_must xX12_tellLaw := by unfold z_Fit; simp only [xX12_must, xX12_tellLaw]; exact ⟨by decide, by decide⟩
theorem fitX12_tellLaw_22 : z_Fit xX12_is xX12_tellLaw := by unfold z_Fit; simp only [xX12_is, xX12_tellLaw]; exact ⟨by decide, by decide⟩
theorem fitX12_tellLaw_50 : z_Fit xX12_goesOn xX12_tellLaw := by unfold z_Fit; simp only [xX12_goesOn, xX12_tellLaw]; exact ⟨by decide, by decide⟩
theorem fitX12_tellLaw_77 : z_Fit xX12_expression xX12_tellLaw := by unfold z_Fit; simp only [xX12_expression, xX12_tellLaw]; exact ⟨by decide, by decide⟩
theorem fitX12_tellLaw_83 : z_Fit xX12_must xX12_tellLaw := by unfold z_Fit; simp only [xX12_must, xX12_tellLaw]; exact ⟨by decide, by decide⟩
theorem fitX12_tellLaw_113 : z_Fit xX12_must xX12_tellLaw := by unfold z_Fit; simp only [xX12_must, xX12_tellLaw]; exact ⟨by decide, by decide⟩
theorem fitX12_tellLaw_117 : z_Fit xX12_term xX12_tellLaw := by unfold z_Fit; simp only [xX12_term, xX12_tellLaw]; exact ⟨by decide, by decide⟩
theorem fitX12_tellLaw_123 : z_Fit xX12_must xX12_tellLaw := by unfold z_Fit; simp only [xX12_must, xX12_tellLaw]; exact ⟨by decide, by decide⟩
theorem fitX12_tellLaw_107 : z_Fit xX12_expression xX12_tellLaw := by unfold z_Fit; simp only [xX12_expression, xX12_tellLaw]; exact ⟨by decide, by decide⟩
theorem fitX12_tellLaw_35 : z_Fit xX12_fail xX12_tellLaw := by unfold z_Fit; simp only [xX12_fail, xX12_tellLaw]; exact ⟨by decide, by decide⟩
noncomputable def kX12_tellLaw_129 : zK zR := (q_aload 0 (q_getR 12 33 (q_aload 0 (q_getI 12 32 (q_push 0 (q_zast (q_aload 0 (q_callV 12 fX12_term 0 (q_aload 0 (q_push 4 (q_callV 12 fX12_must 1 (q_aload 0 (q_getI 12 13 (q_if_le (q_aload 0 (q_getR 12 30 (q_push 4 (q_aload 0 (q_getI 12 19 (q_imul (q_iload 1 (q_iadd (q_iload 2 (q_iast (q_aload 0 (q_getR 12 31 (q_push 4 (q_aload 0 (q_getI 12 19 (q_imul (q_iload 1 (q_iadd (q_aload 0 (q_getI 12 32 (q_iast q_vret))))))))))))))))))))) q_vret))))))))))))))
noncomputable def kX12_tellLaw_110 : zK ((zL × zS) ⊕ zR) := (q_aload 0 (q_push 29 (q_callV 12 fX12_must 1 (q_aload 0 (q_callV 12 fX12_term 0 (q_aload 0 (q_push 30 (q_callV 12 fX12_must 1 q_ag))))))))
noncomputable def kX12_tellLaw_45 : zK zR := q_vret
noncomputable def kX12_tellLaw_38 : zK ((zL × zS) ⊕ zR) := (q_aload 0 (q_getI 12 13 (q_if_le (q_iinc 3 1 (q_aload 0 (q_callV 12 fX12_goesOn 0 (q_aload 0 (q_getR 12 33 (q_aload 0 (q_getI 12 32 (q_push 1 (q_zast (q_aload 0 (q_getR 12 34 (q_aload 0 (q_getI 12 32 (q_aload 0 (q_getI 12 38 (q_iast (q_aload 0 (q_callV 12 fX12_expression 0 (q_aload 0 (q_push 13 (q_callV 12 fX12_must 1 (q_aload 0 (q_getR 12 35 (q_aload 0 (q_getI 12 32 (q_aload 0 (q_getI 12 38 (q_iast (q_aload 0 (q_getI 12 13 (q_if_ne kX12_tellLaw_110 (q_aload 0 (q_callV 12 fX12_expression 0 kX12_tellLaw_110))))))))))))))))))))))))))))))))) (q_dn kX12_tellLaw_45))))
noncomputable def bX12_tellLaw_12 : zK ((zL × zS) ⊕ zR) := (q_aload 0 (q_getI 12 13 (q_if_ne (q_dn kX12_tellLaw_129) (q_aload 0 (q_push 28 (q_callV 12 fX12_is 1 (q_if_eq (q_dn kX12_tellLaw_129) (q_iload 3 (q_push 4 (q_icmp_ne kX12_tellLaw_38 (q_aload 0 (q_push 2 (q_callV 12 fX12_fail 1 kX12_tellLaw_38)))))))))))))
noncomputable def kX12_tellLaw_12 : zK zR := q_lp (bX12_tellLaw_12)
noncomputable def kX12_tellLaw_0 : zK zR := (q_aload 0 (q_push 5 (q_callV 12 fX12_must 1 (q_aload 0 (q_getI 12 32 (q_istore 2 (q_push 0 (q_istore 3 kX12_tellLaw_12))))))))
set_option maxRecDepth 100000 in
theorem tX12_tellLaw_129 {l : Launch} {D : zD} {B sz0 : Nat} {post : Option Value → zS → Prop} : zSnd l D B xX12_tellLaw sz0 post 129 kX12_tellLaw_129 (z_Jr post) := (s_aload_n dX12_tellLaw_129 rfl (s_getR (f := 33) dX12_tellLaw_130 clX12 (by decide) rfl wd872 (s_aload_n dX12_tellLaw_133 rfl (s_getI (f := 32) dX12_tellLaw_134 clX12 (by decide) rfl wd996 (s_iconst dX12_tellLaw_137 (by decide) (s_zast dX12_tellLaw_138 (s_aload_n dX12_tellLaw_139 rfl (s_callV (r := (RX12, TX12, 74)) dX12_tellLaw_140 mX12_term meX12_term wd1001 wd1002 rfl rfl reX12_term rmX12_tellLaw (fitX12_tellLaw_140) wd1003 (s_aload_n dX12_tellLaw_143 rfl (s_iconst dX12_tellLaw_144 (by decide) (s_callV (r := (RX12, TX12, 74)) dX12_tellLaw_145 mX12_must meX12_must wd974 wd975 rfl rfl reX12_must rmX12_tellLaw (fitX12_tellLaw_145) wd976 (s_aload_n dX12_tellLaw_148 rfl (s_getI (f := 13) dX12_tellLaw_149 clX12 (by decide) rfl wd942 (s_if_le (tgt := 156) dX12_tellLaw_152 (by decide) (s_aload_n dX12_tellLaw_156 rfl (s_getR (f := 30) dX12_tellLaw_157 clX12 (by decide) rfl wd844 (s_iconst dX12_tellLaw_160 (by decide) (s_aload_n dX12_tellLaw_161 rfl (s_getI (f := 19) dX12_tellLaw_162 clX12 (by decide) rfl wd969 (s_imul dX12_tellLaw_165 (s_iload_n dX12_tellLaw_166 rfl (s_iadd dX12_tellLaw_167 (s_iload_n dX12_tellLaw_168 rfl (s_iast dX12_tellLaw_169 (s_aload_n dX12_tellLaw_170 rfl (s_getR (f := 31) dX12_tellLaw_171 clX12 (by decide) rfl wd845 (s_iconst dX12_tellLaw_174 (by decide) (s_aload_n dX12_tellLaw_175 rfl (s_getI (f := 19) dX12_tellLaw_176 clX12 (by decide) rfl wd969 (s_imul dX12_tellLaw_179 (s_iload_n dX12_tellLaw_180 rfl (s_iadd dX12_tellLaw_181 (s_aload_n dX12_tellLaw_182 rfl (s_getI (f := 32) dX12_tellLaw_183 clX12 (by decide) rfl wd996 (s_iast dX12_tellLaw_186 (s_vret dX12_tellLaw_187 rfl)))))))))))))))))))))) (s_vret dX12_tellLaw_155 rfl)))))))))))))))
set_option maxRecDepth 100000 in
theorem tX12_tellLaw_110 {l : Launch} {D : zD} {B sz0 : Nat} {post : Option Value → zS → Prop} : zSnd l D B xX12_tellLaw sz0 post 110 kX12_tellLaw_110 (z_Jl l D B xX12_tellLaw sz0 post 12 (z_Jr post)) := (s_aload_n dX12_tellLaw_110 rfl (s_bipush dX12_tellLaw_111 (by decide) (s_callV (r := (RX12, TX12, 74)) dX12_tellLaw_113 mX12_must meX12_must wd974 wd975 rfl rfl reX12_must rmX12_tellLaw (fitX12_tellLaw_113) wd976 (s_aload_n dX12_tellLaw_116 rfl (s_callV (r := (RX12, TX12, 74)) dX12_tellLaw_117 mX12_term meX12_term wd1001 wd1002 rfl rfl reX12_term rmX12_tellLaw (fitX12_tellLaw_117) wd1003 (s_aload_n dX12_tellLaw_120 rfl (s_bipush dX12_tellLaw_121 (by decide) (s_callV (r := (RX12, TX12, 74)) dX12_tellLaw_123 mX12_must meX12_must wd974 wd975 rfl rfl reX12_must rmX12_tellLaw (fitX12_tellLaw_123) wd976 (s_goto (tgt := 12) dX12_tellLaw_126 (by decide) s_ag)))))))))
set_option maxRecDepth 100000 in
theorem tX12_tellLaw_45 {l : Launch} {D : zD} {B sz0 : Nat} {post : Option Value → zS → Prop} : zSnd l D B xX12_tellLaw sz0 post 45 kX12_tellLaw_45 (z_Jr post) := (s_vret dX12_tellLaw_45 rfl)
set_option maxRecDepth 100000 in
theorem tX12_tellLaw_38 {l : Launch} {D : zD} {B sz0 : Nat} {post : Option Value → zS → Prop} : zSnd l D B xX12_tellLaw sz0 post 38 kX12_tellLaw_38 (z_Jl l D B xX12_tellLaw sz0 post 12 (z_Jr post)) := (s_aload_n dX12_tellLaw_38 rfl (s_getI (f := 13) dX12_tellLaw_39 clX12 (by decide) rfl wd942 (s_if_le (tgt := 46) dX12_tellLaw_42 (by decide) (s_iinc dX12_tellLaw_46 (by decide) (s_aload_n dX12_tellLaw_49 rfl (s_callV (r := (RX12, TX12, 74)) dX12_tellLaw_50 mX12_goesOn meX12_goesOn wd957 wd958 rfl rfl reX12_goesOn rmX12_tellLaw (fitX12_tellLaw_50) wd959 (s_aload_n dX12_tellLaw_53 rfl (s_getR (f := 33) dX12_tellLaw_54 clX12 (by decide) rfl wd872 (s_aload_n dX12_tellLaw_57 rfl (s_getI (f := 32) dX12_tellLaw_58 clX12 (by decide) rfl wd996 (s_iconst dX12_tellLaw_61 (by decide) (s_zast dX12_tellLaw_62 (s_aload_n dX12_tellLaw_63 rfl (s_getR (f := 34) dX12_tellLaw_64 clX12 (by decide) rfl wd873 (s_aload_n dX12_tellLaw_67 rfl (s_getI (f := 32) dX12_tellLaw_68 clX12 (by decide) rfl wd996 (s_aload_n dX12_tellLaw_71 rfl (s_getI (f := 38) dX12_tellLaw_72 clX12 (by decide) rfl wd980 (s_iast dX12_tellLaw_75 (s_aload_n dX12_tellLaw_76 rfl (s_callV (r := (RX12, TX12, 74)) dX12_tellLaw_77 mX12_expression meX12_expression wd997 wd998 rfl rfl reX12_expression rmX12_tellLaw (fitX12_tellLaw_77) wd999 (s_aload_n dX12_tellLaw_80 rfl (s_bipush dX12_tellLaw_81 (by decide) (s_callV (r := (RX12, TX12, 74)) dX12_tellLaw_83 mX12_must meX12_must wd974 wd975 rfl rfl reX12_must rmX12_tellLaw (fitX12_tellLaw_83) wd976 (s_aload_n dX12_tellLaw_86 rfl (s_getR (f := 35) dX12_tellLaw_87 clX12 (by decide) rfl wd874 (s_aload_n dX12_tellLaw_90 rfl (s_getI (f := 32) dX12_tellLaw_91 clX12 (by decide) rfl wd996 (s_aload_n dX12_tellLaw_94 rfl (s_getI (f := 38) dX12_tellLaw_95 clX12 (by decide) rfl wd980 (s_iast dX12_tellLaw_98 (s_aload_n dX12_tellLaw_99 rfl (s_getI (f := 13) dX12_tellLaw_100 clX12 (by decide) rfl wd942 (s_if_ne (tgt := 110) dX12_tellLaw_103 (by decide) tX12_tellLaw_110 (s_aload_n dX12_tellLaw_106 rfl (s_callV (r := (RX12, TX12, 74)) dX12_tellLaw_107 mX12_expression meX12_expression wd997 wd998 rfl rfl reX12_expression rmX12_tellLaw (fitX12_tellLaw_107) wd999 tX12_tellLaw_110))))))))))))))))))))))))))))))))) (s_dn tX12_tellLaw_45))))
set_option maxRecDepth 100000 in
theorem tX12_tellLaw_12 {l : Launch} {D : zD} {B sz0 : Nat} {post : Option Value → zS → Prop} : zSnd l D B xX12_tellLaw sz0 post 12 kX12_tellLaw_12 (z_Jr post) := s_lp (body := bX12_tellLaw_12) (s_aload_n dX12_tellLaw_12 rfl (s_getI (f := 13) dX12_tellLaw_13 clX12 (by decide) rfl wd942 (s_if_ne (tgt := 129) dX12_tellLaw_16 (by decide) (s_dn tX12_tellLaw_129) (s_aload_n dX12_tellLaw_19 rfl (s_bipush dX12_tellLaw_20 (by decide) (s_callV (r := (RX12, TX12, 74)) dX12_tellLaw_22 mX12_is meX12_is wd954 wd955 rfl rfl reX12_is rmX12_tellLaw (fitX12_tellLaw_22) wd956 (s_if_eq (tgt := 129) dX12_tellLaw_25 (by decide) (s_dn tX12_tellLaw_129) (s_iload_n dX12_tellLaw_28 rfl (s_iconst dX12_tellLaw_29 (by decide) (s_icmp_ne (tgt := 38) dX12_tellLaw_30 (by decide) tX12_tellLaw_38 (s_aload_n dX12_tellLaw_33 rfl (s_iconst dX12_tellLaw_34 (by decide) (s_callV (r := (RX12, TX12, 74)) dX12_tellLaw_35 mX12_fail meX12_fail wd950 wd951 rfl rfl reX12_fail rmX12_tellLaw (fitX12_tellLaw_35) wd952 tX12_tellLaw_38)))))))))))))
set_option maxRecDepth 100000 in
theorem tX12_tellLaw_0 {l : Launch} {D : zD} {B sz0 : Nat} {post : Option Value → zS → Prop} : zSnd l D B xX12_tellLaw sz0 post 0 kX12_tellLaw_0 (z_Jr post) := (s_aload_n dX12_tellLaw_0 rfl (s_iconst dX12_tellLaw_1 (by decide) (s_callV (r := (RX12, TX12, 74)) dX12_tellLaw_2 mX12_must meX12_must wd974 wd975 rfl rfl reX12_must rmX12_tellLaw (fitX12_tellLaw_2) wd976 (s_aload_n dX12_tellLaw_5 rfl (s_getI (f := 32) dX12_tellLaw_6 clX12 (by decide) rfl wd996 (s_istore_n dX12_tellLaw_9 rfl (s_iconst dX12_tellLaw_10 (by decide) (s_istore_n dX12_tellLaw_11 rfl tX12_tellLaw_12))))))))
noncomputable def fX12_tellLaw : zF := z_fn 4 kX12_tellLaw_0
theorem mX12_tellLaw {l : Launch} {D : zD} {B : Nat} : z_MF l D B yX12_tellLaw xX12_tellLaw fX12_tellLaw := z_mf (by decide) rfl (fun h => by cases h) rfl (fun as σ r h => ⟨z_fn_len h, kX12_tellLaw_0, z_fn_run h, fun _ => tX12_tellLaw_0⟩)
