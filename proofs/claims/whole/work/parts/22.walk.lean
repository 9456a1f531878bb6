/-! ===== RowChildrenModel.byteAt ===== -/
theorem dX12_byteAt_0 : decode cX12_byteAt 0 = .ok (.iload_n 1, 1) := by decide +kernel
theorem dX12_byteAt_1 : decode cX12_byteAt 1 = .ok (.aload_n 0, 1) := by decide +kernel
theorem dX12_byteAt_2 : decode cX12_byteAt 2 = .ok (.getfield 188, 3) := by decide +kernel
theorem dX12_byteAt_5 : decode cX12_byteAt 5 = .ok (.if_icmp .ge 16, 3) := by decide +kernel
theorem dX12_byteAt_8 : decode cX12_byteAt 8 = .ok (.aload_n 0, 1) := by decide +kernel
theorem dX12_byteAt_9 : decode cX12_byteAt 9 = .ok (.getfield 17, 3) := by decide +kernel
theorem dX12_byteAt_12 : decode cX12_byteAt 12 = .ok (.iload_n 1, 1) := by decide +kernel
theorem dX12_byteAt_13 : decode cX12_byteAt 13 = .ok (.baload, 1) := by decide +kernel
theorem dX12_byteAt_14 : decode cX12_byteAt 14 = .ok (.sipush 255, 3) := by decide +kernel
theorem dX12_byteAt_17 : decode cX12_byteAt 17 = .ok (.iand, 1) := by decide +kernel
theorem dX12_byteAt_18 : decode cX12_byteAt 18 = .ok (.goto 4, 3) := by decide +kernel
theorem dX12_byteAt_21 : decode cX12_byteAt 21 = .ok (.iconst 0, 1) := by decide +kernel
theorem dX12_byteAt_22 : decode cX12_byteAt 22 = .ok (.ireturn, 1) := by decide +kernel
def xX12_byteAt : zX := (RX12, cX12_byteAt, 2, (some .int), false, { frames := 1, cells := 0, slots := 0, locals := 90 }, 0, 0, 0, 0)
theorem rmX12_byteAt : z_Rm xX12_byteAt := by unfold z_Rm xX12_byteAt; exact ⟨by decide, by decide⟩
theorem reX12_byteAt : z_Re xX12_byteAt := ⟨rfl, rfl⟩
theorem rlX12_byteAt : 1 ≤ xX12_byteAt.2.2.2.2.2.1.frames ∧ 21 ≤ xX12_byteAt.2.2.2.2.2.1.locals := by unfold xX12_byteAt; exact ⟨by decide, by decide⟩
theorem meX12_byteAt : z_Me yX12_byteAt xX12_byteAt 1 := ⟨wd967, wd893, by decide, by decide, by decide +kernel⟩
noncomputable def kX12_byteAt_22 : zK zR := q_iret
noncomputable def kX12_byteAt_0 : zK zR := (q_iload 1 (q_aload 0 (q_getI 12 4 (q_icmp_ge (q_push 0 kX12_byteAt_22) (q_aload 0 (q_getR 12 3 (q_iload 1 (q_bald (q_push 255 (q_iand kX12_byteAt_22))))))))))
set_option maxRecDepth 100000 in
theorem tX12_byteAt_22 {l : Launch} {D : zD} {B sz0 : Nat} {post : Option Value → zS → Prop} : zSnd l D B xX12_byteAt sz0 post 22 kX12_byteAt_22 (z_Jr post) := (s_iret dX12_byteAt_22 rfl)
set_option maxRecDepth 100000 in
theorem tX12_byteAt_0 {l : Launch} {D : zD} {B sz0 : Nat} {post : Option Value → zS → Prop} : zSnd l D B xX12_byteAt sz0 post 0 kX12_byteAt_0 (z_Jr post) := (s_iload_n dX12_byteAt_0 rfl (s_aload_n dX12_byteAt_1 rfl (s_getI (f := 4) dX12_byteAt_2 clX12 (by decide) rfl wd966 (s_icmp_ge (tgt := 21) dX12_byteAt_5 (by decide) (s_iconst dX12_byteAt_21 (by decide) tX12_byteAt_22) (s_aload_n dX12_byteAt_8 rfl (s_getR (f := 3) dX12_byteAt_9 clX12 (by decide) rfl wd909 (s_iload_n dX12_byteAt_12 rfl (s_bald dX12_byteAt_13 (s_sipush dX12_byteAt_14 (by decide) (s_iand dX12_byteAt_17 (s_goto (tgt := 22) dX12_byteAt_18 (by decide) tX12_byteAt_22)))))))))))
noncomputable def fX12_byteAt : zF := z_fn 2 kX12_byteAt_0
theorem mX12_byteAt {l : Launch} {D : zD} {B : Nat} : z_MF l D B yX12_byteAt xX12_byteAt fX12_byteAt := z_mf (by decide) rfl (fun h => by cases h) rfl (fun as σ r h => ⟨z_fn_len h, kX12_byteAt_0, z_fn_run h, fun _ => tX12_byteAt_0⟩)
/-! ===== RowChildrenModel.isDigit ===== -/
theorem dX12_isDigit_0 : decode cX12_isDigit 0 = .ok (.iload_n 0, 1) := by decide +kernel
theorem dX12_isDigit_1 : decode cX12_isDigit 1 = .ok (.bipush 48, 2) := by decide +kernel
theorem dX12_isDigit_3 : decode cX12_isDigit 3 = .ok (.if_icmp .lt 13, 3) := by decide +kernel
theorem dX12_isDigit_6 : decode cX12_isDigit 6 = .ok (.iload_n 0, 1) := by decide +kernel
theorem dX12_isDigit_7 : decode cX12_isDigit 7 = .ok (.bipush 57, 2) := by decide +kernel
theorem dX12_isDigit_9 : decode cX12_isDigit 9 = .ok (.if_icmp .gt 7, 3) := by decide +kernel
theorem dX12_isDigit_12 : decode cX12_isDigit 12 = .ok (.iconst 1, 1) := by decide +kernel
theorem dX12_isDigit_13 : decode cX12_isDigit 13 = .ok (.goto 4, 3) := by decide +kernel
theorem dX12_isDigit_16 : decode cX12_isDigit 16 = .ok (.iconst 0, 1) := by decide +kernel
theorem dX12_isDigit_17 : decode cX12_isDigit 17 = .ok (.ireturn, 1) := by decide +kernel
def xX12_isDigit : zX := (RX12, cX12_isDigit, 1, (some .boolean), false, { frames := 1, cells := 0, slots := 0, locals := 90 }, 0, 0, 0, 0)
theorem rmX12_isDigit : z_Rm xX12_isDigit := by unfold z_Rm xX12_isDigit; exact ⟨by decide, by decide⟩
theorem reX12_isDigit : z_Re xX12_isDigit := ⟨rfl, rfl⟩
theorem rlX12_isDigit : 1 ≤ xX12_isDigit.2.2.2.2.2.1.frames ∧ 21 ≤ xX12_isDigit.2.2.2.2.2.1.locals := by unfold xX12_isDigit; exact ⟨by decide, by decide⟩
theorem meX12_isDigit : z_Me yX12_isDigit xX12_isDigit 1 := ⟨wd968, wd893, by decide, by decide, by decide +kernel⟩
noncomputable def kX12_isDigit_17 : zK zR := q_zret
noncomputable def kX12_isDigit_16 : zK zR := (q_push 0 kX12_isDigit_17)
noncomputable def kX12_isDigit_0 : zK zR := (q_iload 0 (q_push 48 (q_icmp_lt kX12_isDigit_16 (q_iload 0 (q_push 57 (q_icmp_gt kX12_isDigit_16 (q_push 1 kX12_isDigit_17)))))))
set_option maxRecDepth 100000 in
theorem tX12_isDigit_17 {l : Launch} {D : zD} {B sz0 : Nat} {post : Option Value → zS → Prop} : zSnd l D B xX12_isDigit sz0 post 17 kX12_isDigit_17 (z_Jr post) := (s_zret dX12_isDigit_17 rfl)
set_option maxRecDepth 100000 in
theorem tX12_isDigit_16 {l : Launch} {D : zD} {B sz0 : Nat} {post : Option Value → zS → Prop} : zSnd l D B xX12_isDigit sz0 post 16 kX12_isDigit_16 (z_Jr post) := (s_iconst dX12_isDigit_16 (by decide) tX12_isDigit_17)
set_option maxRecDepth 100000 in
theorem tX12_isDigit_0 {l : Launch} {D : zD} {B sz0 : Nat} {post : Option Value → zS → Prop} : zSnd l D B xX12_isDigit sz0 post 0 kX12_isDigit_0 (z_Jr post) := (s_iload_n dX12_isDigit_0 rfl (s_bipush dX12_isDigit_1 (by decide) (s_icmp_lt (tgt := 16) dX12_isDigit_3 (by decide) tX12_isDigit_16 (s_iload_n dX12_isDigit_6 rfl (s_bipush dX12_isDigit_7 (by decide) (s_icmp_gt (tgt := 16) dX12_isDigit_9 (by decide) tX12_isDigit_16 (s_iconst dX12_isDigit_12 (by decide) (s_goto (tgt := 17) dX12_isDigit_13 (by decide) tX12_isDigit_17))))))))
noncomputable def fX12_isDigit : zF := z_fn 1 kX12_isDigit_0
theorem mX12_isDigit {l : Launch} {D : zD} {B : Nat} : z_MF l D B yX12_isDigit xX12_isDigit fX12_isDigit := z_mf (by decide) rfl (fun h => by cases h) rfl (fun as σ r h => ⟨z_fn_len h, kX12_isDigit_0, z_fn_run h, fun _ => tX12_isDigit_0⟩)
/-! ===== RowChildrenModel.isLetter ===== -/
theorem dX12_isLetter_0 : decode cX12_isLetter 0 = .ok (.iload_n 0, 1) := by decide +kernel
theorem dX12_isLetter_1 : decode cX12_isLetter 1 = .ok (.bipush 97, 2) := by decide +kernel
theorem dX12_isLetter_3 : decode cX12_isLetter 3 = .ok (.if_icmp .lt 13, 3) := by decide +kernel
theorem dX12_isLetter_6 : decode cX12_isLetter 6 = .ok (.iload_n 0, 1) := by decide +kernel
theorem dX12_isLetter_7 : decode cX12_isLetter 7 = .ok (.bipush 122, 2) := by decide +kernel
theorem dX12_isLetter_9 : decode cX12_isLetter 9 = .ok (.if_icmp .gt 7, 3) := by decide +kernel
theorem dX12_isLetter_12 : decode cX12_isLetter 12 = .ok (.iconst 1, 1) := by decide +kernel
theorem dX12_isLetter_13 : decode cX12_isLetter 13 = .ok (.goto 4, 3) := by decide +kernel
theorem dX12_isLetter_16 : decode cX12_isLetter 16 = .ok (.iconst 0, 1) := by decide +kernel
theorem dX12_isLetter_17 : decode cX12_isLetter 17 = .ok (.ireturn, 1) := by decide +kernel
def xX12_isLetter : zX := (RX12, cX12_isLetter, 1, (some .boolean), false, { frames := 1, cells := 0, slots := 0, locals := 90 }, 0, 0, 0, 0)
theorem rmX12_isLetter : z_Rm xX12_isLetter := by unfold z_Rm xX12_isLetter; exact ⟨by decide, by decide⟩
theorem reX12_isLetter : z_Re xX12_isLetter := ⟨rfl, rfl⟩
theorem rlX12_isLetter : 1 ≤ xX12_isLetter.2.2.2.2.2.1.frames ∧ 21 ≤ xX12_isLetter.2.2.2.2.2.1.locals := by unfold xX12_isLetter; exact ⟨by decide, by decide⟩
theorem meX12_isLetter : z_Me yX12_isLetter xX12_isLetter 1 := ⟨wd969, wd893, by decide, by decide, by decide +kernel⟩
noncomputable def kX12_isLetter_17 : zK zR := q_zret
noncomputable def kX12_isLetter_16 : zK zR := (q_push 0 kX12_isLetter_17)
noncomputable def kX12_isLetter_0 : zK zR := (q_iload 0 (q_push 97 (q_icmp_lt kX12_isLetter_16 (q_iload 0 (q_push 122 (q_icmp_gt kX12_isLetter_16 (q_push 1 kX12_isLetter_17)))))))
set_option maxRecDepth 100000 in
theorem tX12_isLetter_17 {l : Launch} {D : zD} {B sz0 : Nat} {post : Option Value → zS → Prop} : zSnd l D B xX12_isLetter sz0 post 17 kX12_isLetter_17 (z_Jr post) := (s_zret dX12_isLetter_17 rfl)
set_option maxRecDepth 100000 in
theorem tX12_isLetter_16 {l : Launch} {D : zD} {B sz0 : Nat} {post : Option Value → zS → Prop} : zSnd l D B xX12_isLetter sz0 post 16 kX12_isLetter_16 (z_Jr post) := (s_iconst dX12_isLetter_16 (by decide) tX12_isLetter_17)
set_option maxRecDepth 100000 in
theorem tX12_isLetter_0 {l : Launch} {D : zD} {B sz0 : Nat} {post : Option Value → zS → Prop} : zSnd l D B xX12_isLetter sz0 post 0 kX12_isLetter_0 (z_Jr post) := (s_iload_n dX12_isLetter_0 rfl (s_bipush dX12_isLetter_1 (by decide) (s_icmp_lt (tgt := 16) dX12_isLetter_3 (by decide) tX12_isLetter_16 (s_iload_n dX12_isLetter_6 rfl (s_bipush dX12_isLetter_7 (by decide) (s_icmp_gt (tgt := 16) dX12_isLetter_9 (by decide) tX12_isLetter_16 (s_iconst dX12_isLetter_12 (by decide) (s_goto (tgt := 17) dX12_isLetter_13 (by decide) tX12_isLetter_17))))))))
noncomputable def fX12_isLetter : zF := z_fn 1 kX12_isLetter_0
theorem mX12_isLetter {l : Launch} {D : zD} {B : Nat} : z_MF l D B yX12_isLetter xX12_isLetter fX12_isLetter := z_mf (by decide) rfl (fun h => by cases h) rfl (fun as σ r h => ⟨z_fn_len h, kX12_isLetter_0, z_fn_run h, fun _ => tX12_isLetter_0⟩)
/-! ===== RowChildrenModel.token ===== -/
theorem dX12_token_0 : decode cX12_token 0 = .ok (.aload_n 0, 1) := by decide +kernel
theorem dX12_token_1 : decode cX12_token 1 = .ok (.getfield 20, 3) := by decide +kernel
theorem dX12_token_4 : decode cX12_token 4 = .ok (.aload_n 0, 1) := by decide +kernel
theorem dX12_token_5 : decode cX12_token 5 = .ok (.getfield 197, 3) := by decide +kernel
theorem dX12_token_8 : decode cX12_token 8 = .ok (.iload_n 1, 1) := by decide +kernel
theorem dX12_token_9 : decode cX12_token 9 = .ok (.iastore, 1) := by decide +kernel
theorem dX12_token_10 : decode cX12_token 10 = .ok (.aload_n 0, 1) := by decide +kernel
theorem dX12_token_11 : decode cX12_token 11 = .ok (.getfield 24, 3) := by decide +kernel
theorem dX12_token_14 : decode cX12_token 14 = .ok (.aload_n 0, 1) := by decide +kernel
theorem dX12_token_15 : decode cX12_token 15 = .ok (.getfield 197, 3) := by decide +kernel
theorem dX12_token_18 : decode cX12_token 18 = .ok (.iload_n 2, 1) := by decide +kernel
theorem dX12_token_19 : decode cX12_token 19 = .ok (.iastore, 1) := by decide +kernel
theorem dX12_token_20 : decode cX12_token 20 = .ok (.aload_n 0, 1) := by decide +kernel
theorem dX12_token_21 : decode cX12_token 21 = .ok (.getfield 27, 3) := by decide +kernel
theorem dX12_token_24 : decode cX12_token 24 = .ok (.aload_n 0, 1) := by decide +kernel
theorem dX12_token_25 : decode cX12_token 25 = .ok (.getfield 197, 3) := by decide +kernel
theorem dX12_token_28 : decode cX12_token 28 = .ok (.iload_n 3, 1) := by decide +kernel
theorem dX12_token_29 : decode cX12_token 29 = .ok (.iastore, 1) := by decide +kernel
theorem dX12_token_30 : decode cX12_token 30 = .ok (.aload_n 0, 1) := by decide +kernel
theorem dX12_token_31 : decode cX12_token 31 = .ok (.getfield 30, 3) := by decide +kernel
theorem dX12_token_34 : decode cX12_token 34 = .ok (.aload_n 0, 1) := by decide +kernel
theorem dX12_token_35 : decode cX12_token 35 = .ok (.getfield 197, 3) := by decide +kernel
theorem dX12_token_38 : decode cX12_token 38 = .ok (.lload 4, 2) := by decide +kernel
theorem dX12_token_40 : decode cX12_token 40 = .ok (.lastore, 1) := by decide +kernel
theorem dX12_token_41 : decode cX12_token 41 = .ok (.aload_n 0, 1) := by decide +kernel
theorem dX12_token_42 : decode cX12_token 42 = .ok (.dup, 1) := by decide +kernel
theorem dX12_token_43 : decode cX12_token 43 = .ok (.getfield 197, 3) := by decide +kernel
theorem dX12_token_46 : decode cX12_token 46 = .ok (.iconst 1, 1) := by decide +kernel
theorem dX12_token_47 : decode cX12_token 47 = .ok (.iadd, 1) := by decide +kernel
theorem dX12_token_48 : decode cX12_token 48 = .ok (.putfield 197, 3) := by decide +kernel
theorem dX12_token_51 : decode cX12_token 51 = .ok (.return_, 1) := by decide +kernel
def xX12_token : zX := (RX12, cX12_token, 6, none, false, { frames := 1, cells := 0, slots := 0, locals := 90 }, 0, 0, 0, 0)
theorem rmX12_token : z_Rm xX12_token := by unfold z_Rm xX12_token; exact ⟨by decide, by decide⟩
theorem reX12_token : z_Re xX12_token := ⟨rfl, rfl⟩
theorem rlX12_token : 1 ≤ xX12_token.2.2.2.2.2.1.frames ∧ 21 ≤ xX12_token.2.2.2.2.2.1.locals := by unfold xX12_token; exact ⟨by decide, by decide⟩
theorem meX12_token : z_Me yX12_token xX12_token 4 := ⟨wd971, wd893, by decide, by decide, by decide +kernel⟩
noncomputable def kX12_token_0 : zK zR := (q_aload 0 (q_getR 12 5 (q_aload 0 (q_getI 12 10 (q_iload 1 (q_iast (q_aload 0 (q_getR 12 6 (q_aload 0 (q_getI 12 10 (q_iload 2 (q_iast (q_aload 0 (q_getR 12 7 (q_aload 0 (q_getI 12 10 (q_iload 3 (q_iast (q_aload 0 (q_getR 12 8 (q_aload 0 (q_getI 12 10 (q_lload 4 (q_last (q_aload 0 (q_dup (q_getI 12 10 (q_push 1 (q_iadd (q_putI 12 10 q_vret))))))))))))))))))))))))))))))
set_option maxRecDepth 100000 in
theorem tX12_token_0 {l : Launch} {D : zD} {B sz0 : Nat} {post : Option Value → zS → Prop} : zSnd l D B xX12_token sz0 post 0 kX12_token_0 (z_Jr post) := (s_aload_n dX12_token_0 rfl (s_getR (f := 5) dX12_token_1 clX12 (by decide) rfl wd910 (s_aload_n dX12_token_4 rfl (s_getI (f := 10) dX12_token_5 clX12 (by decide) rfl wd970 (s_iload_n dX12_token_8 rfl (s_iast dX12_token_9 (s_aload_n dX12_token_10 rfl (s_getR (f := 6) dX12_token_11 clX12 (by decide) rfl wd911 (s_aload_n dX12_token_14 rfl (s_getI (f := 10) dX12_token_15 clX12 (by decide) rfl wd970 (s_iload_n dX12_token_18 rfl (s_iast dX12_token_19 (s_aload_n dX12_token_20 rfl (s_getR (f := 7) dX12_token_21 clX12 (by decide) rfl wd912 (s_aload_n dX12_token_24 rfl (s_getI (f := 10) dX12_token_25 clX12 (by decide) rfl wd970 (s_iload_n dX12_token_28 rfl (s_iast dX12_token_29 (s_aload_n dX12_token_30 rfl (s_getR (f := 8) dX12_token_31 clX12 (by decide) rfl wd913 (s_aload_n dX12_token_34 rfl (s_getI (f := 10) dX12_token_35 clX12 (by decide) rfl wd970 (s_lload dX12_token_38 (s_last dX12_token_40 (s_aload_n dX12_token_41 rfl (s_dup dX12_token_42 (s_getI (f := 10) dX12_token_43 clX12 (by decide) rfl wd970 (s_iconst dX12_token_46 (by decide) (s_iadd dX12_token_47 (s_putI (f := 10) dX12_token_48 clX12 (by decide) rfl rfl rfl wd970 (s_vret dX12_token_51 rfl)))))))))))))))))))))))))))))))
noncomputable def fX12_token : zF := z_fn 6 kX12_token_0
theorem mX12_token {l : Launch} {D : zD} {B : Nat} : z_MF l D B yX12_token xX12_token fX12_token := z_mf (by decide) rfl (fun h => by cases h) rfl (fun as σ r h => ⟨z_fn_len h, kX12_token_0, z_fn_run h, fun _ => tX12_token_0⟩)
/-! ===== RowChildrenModel.sign ===== -/
theorem dX12_sign_0 : decode cX12_sign 0 = .ok (.iload_n 2, 1) := by decide +kernel
theorem dX12_sign_1 : decode cX12_sign 1 = .ok (.bipush 59, 2) := by decide +kernel
theorem dX12_sign_3 : decode cX12_sign 3 = .ok (.if_icmp .ne 7, 3) := by decide +kernel
theorem dX12_sign_6 : decode cX12_sign 6 = .ok (.iconst 4, 1) := by decide +kernel
theorem dX12_sign_7 : decode cX12_sign 7 = .ok (.goto 36, 3) := by decide +kernel
theorem dX12_sign_10 : decode cX12_sign 10 = .ok (.iload_n 2, 1) := by decide +kernel
theorem dX12_sign_11 : decode cX12_sign 11 = .ok (.bipush 61, 2) := by decide +kernel
theorem dX12_sign_13 : decode cX12_sign 13 = .ok (.if_icmp .ne 7, 3) := by decide +kernel
theorem dX12_sign_16 : decode cX12_sign 16 = .ok (.iconst 5, 1) := by decide +kernel
theorem dX12_sign_17 : decode cX12_sign 17 = .ok (.goto 26, 3) := by decide +kernel
theorem dX12_sign_20 : decode cX12_sign 20 = .ok (.iload_n 2, 1) := by decide +kernel
theorem dX12_sign_21 : decode cX12_sign 21 = .ok (.bipush 40, 2) := by decide +kernel
theorem dX12_sign_23 : decode cX12_sign 23 = .ok (.if_icmp .ne 8, 3) := by decide +kernel
theorem dX12_sign_26 : decode cX12_sign 26 = .ok (.bipush 6, 2) := by decide +kernel
theorem dX12_sign_28 : decode cX12_sign 28 = .ok (.goto 15, 3) := by decide +kernel
theorem dX12_sign_31 : decode cX12_sign 31 = .ok (.iload_n 2, 1) := by decide +kernel
theorem dX12_sign_32 : decode cX12_sign 32 = .ok (.bipush 41, 2) := by decide +kernel
theorem dX12_sign_34 : decode cX12_sign 34 = .ok (.if_icmp .ne 8, 3) := by decide +kernel
theorem dX12_sign_37 : decode cX12_sign 37 = .ok (.bipush 7, 2) := by decide +kernel
theorem dX12_sign_39 : decode cX12_sign 39 = .ok (.goto 4, 3) := by decide +kernel
theorem dX12_sign_42 : decode cX12_sign 42 = .ok (.iconst 3, 1) := by decide +kernel
theorem dX12_sign_43 : decode cX12_sign 43 = .ok (.istore 4, 2) := by decide +kernel
theorem dX12_sign_45 : decode cX12_sign 45 = .ok (.iload_n 2, 1) := by decide +kernel
theorem dX12_sign_46 : decode cX12_sign 46 = .ok (.bipush 43, 2) := by decide +kernel
theorem dX12_sign_48 : decode cX12_sign 48 = .ok (.if_icmp .ne 7, 3) := by decide +kernel
theorem dX12_sign_51 : decode cX12_sign 51 = .ok (.bipush 8, 2) := by decide +kernel
theorem dX12_sign_53 : decode cX12_sign 53 = .ok (.istore 4, 2) := by decide +kernel
theorem dX12_sign_55 : decode cX12_sign 55 = .ok (.iload_n 2, 1) := by decide +kernel
theorem dX12_sign_56 : decode cX12_sign 56 = .ok (.bipush 45, 2) := by decide +kernel
theorem dX12_sign_58 : decode cX12_sign 58 = .ok (.if_icmp .ne 7, 3) := by decide +kernel
theorem dX12_sign_61 : decode cX12_sign 61 = .ok (.bipush 9, 2) := by decide +kernel
theorem dX12_sign_63 : decode cX12_sign 63 = .ok (.istore 4, 2) := by decide +kernel
theorem dX12_sign_65 : decode cX12_sign 65 = .ok (.iload_n 2, 1) := by decide +kernel
theorem dX12_sign_66 : decode cX12_sign 66 = .ok (.bipush 42, 2) := by decide +kernel
theorem dX12_sign_68 : decode cX12_sign 68 = .ok (.if_icmp .ne 7, 3) := by decide +kernel
theorem dX12_sign_71 : decode cX12_sign 71 = .ok (.bipush 10, 2) := by decide +kernel
theorem dX12_sign_73 : decode cX12_sign 73 = .ok (.istore 4, 2) := by decide +kernel
theorem dX12_sign_75 : decode cX12_sign 75 = .ok (.iload_n 2, 1) := by decide +kernel
theorem dX12_sign_76 : decode cX12_sign 76 = .ok (.bipush 47, 2) := by decide +kernel
theorem dX12_sign_78 : decode cX12_sign 78 = .ok (.if_icmp .ne 7, 3) := by decide +kernel
theorem dX12_sign_81 : decode cX12_sign 81 = .ok (.bipush 15, 2) := by decide +kernel
theorem dX12_sign_83 : decode cX12_sign 83 = .ok (.istore 4, 2) := by decide +kernel
theorem dX12_sign_85 : decode cX12_sign 85 = .ok (.iload_n 2, 1) := by decide +kernel
theorem dX12_sign_86 : decode cX12_sign 86 = .ok (.bipush 60, 2) := by decide +kernel
theorem dX12_sign_88 : decode cX12_sign 88 = .ok (.if_icmp .ne 7, 3) := by decide +kernel
theorem dX12_sign_91 : decode cX12_sign 91 = .ok (.bipush 13, 2) := by decide +kernel
theorem dX12_sign_93 : decode cX12_sign 93 = .ok (.istore 4, 2) := by decide +kernel
theorem dX12_sign_95 : decode cX12_sign 95 = .ok (.aload_n 0, 1) := by decide +kernel
theorem dX12_sign_96 : decode cX12_sign 96 = .ok (.iload 4, 2) := by decide +kernel
theorem dX12_sign_98 : decode cX12_sign 98 = .ok (.iload_n 1, 1) := by decide +kernel
theorem dX12_sign_99 : decode cX12_sign 99 = .ok (.iconst 0, 1) := by decide +kernel
theorem dX12_sign_100 : decode cX12_sign 100 = .ok (.lconst 0, 1) := by decide +kernel
theorem dX12_sign_101 : decode cX12_sign 101 = .ok (.invokevirtual 204, 3) := by decide +kernel
theorem dX12_sign_104 : decode cX12_sign 104 = .ok (.iconst 1, 1) := by decide +kernel
theorem dX12_sign_105 : decode cX12_sign 105 = .ok (.ireturn, 1) := by decide +kernel
def xX12_sign : zX := (RX12, cX12_sign, 5, (some .int), false, { frames := 2, cells := 0, slots := 0, locals := 115 }, 0, 0, 0, 0)
theorem rmX12_sign : z_Rm xX12_sign := by unfold z_Rm xX12_sign; exact ⟨by decide, by decide⟩
theorem reX12_sign : z_Re xX12_sign := ⟨rfl, rfl⟩
theorem rlX12_sign : 1 ≤ xX12_sign.2.2.2.2.2.1.frames ∧ 21 ≤ xX12_sign.2.2.2.2.2.1.locals := by unfold xX12_sign; exact ⟨by decide, by decide⟩
theorem meX12_sign : z_Me yX12_sign xX12_sign 3 := ⟨wd975, wd893, by decide, by decide, by decide +kernel⟩
theorem fitX12_sign_101 : z_Fit xX12_token xX12_sign := by unfold z_Fit; simp only [xX12_token, xX12_sign]; exact ⟨by decide, by decide⟩
noncomputable def kX12_sign_95 : zK zR := (q_aload 0 (q_iload 4 (q_iload 1 (q_push 0 (q_pushl 0 (q_callV 12 fX12_token 4 (q_push 1 q_iret)))))))
noncomputable def kX12_sign_85 : zK zR := (q_iload 2 (q_push 60 (q_icmp_ne kX12_sign_95 (q_push 13 (q_istore 4 kX12_sign_95)))))
noncomputable def kX12_sign_75 : zK zR := (q_iload 2 (q_push 47 (q_icmp_ne kX12_sign_85 (q_push 15 (q_istore 4 kX12_sign_85)))))
noncomputable def kX12_sign_65 : zK zR := (q_iload 2 (q_push 42 (q_icmp_ne kX12_sign_75 (q_push 10 (q_istore 4 kX12_sign_75)))))
noncomputable def kX12_sign_55 : zK zR := (q_iload 2 (q_push 45 (q_icmp_ne kX12_sign_65 (q_push 9 (q_istore 4 kX12_sign_65)))))
noncomputable def kX12_sign_43 : zK zR := (q_istore 4 (q_iload 2 (q_push 43 (q_icmp_ne kX12_sign_55 (q_push 8 (q_istore 4 kX12_sign_55))))))
noncomputable def kX12_sign_0 : zK zR := (q_iload 2 (q_push 59 (q_icmp_ne (q_iload 2 (q_push 61 (q_icmp_ne (q_iload 2 (q_push 40 (q_icmp_ne (q_iload 2 (q_push 41 (q_icmp_ne (q_push 3 kX12_sign_43) (q_push 7 kX12_sign_43)))) (q_push 6 kX12_sign_43)))) (q_push 5 kX12_sign_43)))) (q_push 4 kX12_sign_43))))
set_option maxRecDepth 100000 in
theorem tX12_sign_95 {l : Launch} {D : zD} {B sz0 : Nat} {post : Option Value → zS → Prop} : zSnd l D B xX12_sign sz0 post 95 kX12_sign_95 (z_Jr post) := (s_aload_n dX12_sign_95 rfl (s_iload dX12_sign_96 (s_iload_n dX12_sign_98 rfl (s_iconst dX12_sign_99 (by decide) (s_lconst dX12_sign_100 (by decide) (s_callV (r := (RX12, TX12, 74)) dX12_sign_101 mX12_token meX12_token wd972 wd973 rfl rfl reX12_token rmX12_sign (fitX12_sign_101) wd974 (s_iconst dX12_sign_104 (by decide) (s_iret dX12_sign_105 rfl))))))))
set_option maxRecDepth 100000 in
theorem tX12_sign_85 {l : Launch} {D : zD} {B sz0 : Nat} {post : Option Value → zS → Prop} : zSnd l D B xX12_sign sz0 post 85 kX12_sign_85 (z_Jr post) := (s_iload_n dX12_sign_85 rfl (s_bipush dX12_sign_86 (by decide) (s_icmp_ne (tgt := 95) dX12_sign_88 (by decide) tX12_sign_95 (s_bipush dX12_sign_91 (by decide) (s_istore dX12_sign_93 tX12_sign_95)))))
set_option maxRecDepth 100000 in
theorem tX12_sign_75 {l : Launch} {D : zD} {B sz0 : Nat} {post : Option Value → zS → Prop} : zSnd l D B xX12_sign sz0 post 75 kX12_sign_75 (z_Jr post) := (s_iload_n dX12_sign_75 rfl (s_bipush dX12_sign_76 (by decide) (s_icmp_ne (tgt := 85) dX12_sign_78 (by decide) tX12_sign_85 (s_bipush dX12_sign_81 (by decide) (s_istore dX12_sign_83 tX12_sign_85)))))
set_option maxRecDepth 100000 in
theorem tX12_sign_65 {l : Launch} {D : zD} {B sz0 : Nat} {post : Option Value → zS → Prop} : zSnd l D B xX12_sign sz0 post 65 kX12_sign_65 (z_Jr post) := (s_iload_n dX12_sign_65 rfl (s_bipush dX12_sign_66 (by decide) (s_icmp_ne (tgt := 75) dX12_sign_68 (by decide) tX12_sign_75 (s_bipush dX12_sign_71 (by decide) (s_istore dX12_sign_73 tX12_sign_75)))))
set_option maxRecDepth 100000 in
theorem tX12_sign_55 {l : Launch} {D : zD} {B sz0 : Nat} {post : Option Value → zS → Prop} : zSnd l D B xX12_sign sz0 post 55 kX12_sign_55 (z_Jr post) := (s_iload_n dX12_sign_55 rfl (s_bipush dX12_sign_56 (by decide) (s_icmp_ne (tgt := 65) dX12_sign_58 (by decide) tX12_sign_65 (s_bipush dX12_sign_61 (by decide) (s_istore dX12_sign_63 tX12_sign_65)))))
set_option maxRecDepth 100000 in
theorem tX12_sign_43 {l : Launch} {D : zD} {B sz0 : Nat} {post : Option Value → zS → Prop} : zSnd l D B xX12_sign sz0 post 43 kX12_sign_43 (z_Jr post) := (s_istore dX12_sign_43 (s_iload_n dX12_sign_45 rfl (s_bipush dX12_sign_46 (by decide) (s_icmp_ne (tgt := 55) dX12_sign_48 (by decide) tX12_sign_55 (s_bipush dX12_sign_51 (by decide) (s_istore dX12_sign_53 tX12_sign_55))))))
set_option maxRecDepth 100000 in
theorem tX12_sign_0 {l : Launch} {D : zD} {B sz0 : Nat} {post : Option Value → zS → Prop} : zSnd l D B xX12_sign sz0 post 0 kX12_sign_0 (z_Jr post) := (s_iload_n dX12_sign_0 rfl (s_bipush dX12_sign_1 (by decide) (s_icmp_ne (tgt := 10) dX12_sign_3 (by decide) (s_iload_n dX12_sign_10 rfl (s_bipush dX12_sign_11 (by decide) (s_icmp_ne (tgt := 20) dX12_sign_13 (by decide) (s_iload_n dX12_sign_20 rfl (s_bipush dX12_sign_21 (by decide) (s_icmp_ne (tgt := 31) dX12_sign_23 (by decide) (s_iload_n dX12_sign_31 rfl (s_bipush dX12_sign_32 (by decide) (s_icmp_ne (tgt := 42) dX12_sign_34 (by decide) (s_iconst dX12_sign_42 (by decide) tX12_sign_43) (s_bipush dX12_sign_37 (by decide) (s_goto (tgt := 43) dX12_sign_39 (by decide) tX12_sign_43))))) (s_bipush dX12_sign_26 (by decide) (s_goto (tgt := 43) dX12_sign_28 (by decide) tX12_sign_43))))) (s_iconst dX12_sign_16 (by decide) (s_goto (tgt := 43) dX12_sign_17 (by decide) tX12_sign_43))))) (s_iconst dX12_sign_6 (by decide) (s_goto (tgt := 43) dX12_sign_7 (by decide) tX12_sign_43)))))
noncomputable def fX12_sign : zF := z_fn 5 kX12_sign_0
theorem mX12_sign {l : Launch} {D : zD} {B : Nat} : z_MF l D B yX12_sign xX12_sign fX12_sign := z_mf (by decide) rfl (fun h => by cases h) rfl (fun as σ r h => ⟨z_fn_len h, kX12_sign_0, z_fn_run h, fun _ => tX12_sign_0⟩)
/-! ===== RowChildrenModel.cut ===== -/
theorem dX12_cut_0 : decode cX12_cut 0 = .ok (.aload_n 0, 1) := by decide +kernel
theorem dX12_cut_1 : decode cX12_cut 1 = .ok (.iconst 0, 1) := by decide +kernel
theorem dX12_cut_2 : decode cX12_cut 2 = .ok (.putfield 197, 3) := by decide +kernel
theorem dX12_cut_5 : decode cX12_cut 5 = .ok (.iconst 0, 1) := by decide +kernel
theorem dX12_cut_6 : decode cX12_cut 6 = .ok (.istore_n 1, 1) := by decide +kernel
theorem dX12_cut_7 : decode cX12_cut 7 = .ok (.aload_n 0, 1) := by decide +kernel
theorem dX12_cut_8 : decode cX12_cut 8 = .ok (.getfield 197, 3) := by decide +kernel
theorem dX12_cut_11 : decode cX12_cut 11 = .ok (.sipush 400, 3) := by decide +kernel
theorem dX12_cut_14 : decode cX12_cut 14 = .ok (.if_icmp .gt 280, 3) := by decide +kernel
theorem dX12_cut_17 : decode cX12_cut 17 = .ok (.aload_n 0, 1) := by decide +kernel
theorem dX12_cut_18 : decode cX12_cut 18 = .ok (.iload_n 1, 1) := by decide +kernel
theorem dX12_cut_19 : decode cX12_cut 19 = .ok (.invokevirtual 200, 3) := by decide +kernel
theorem dX12_cut_22 : decode cX12_cut 22 = .ok (.istore_n 2, 1) := by decide +kernel
theorem dX12_cut_23 : decode cX12_cut 23 = .ok (.iload_n 1, 1) := by decide +kernel
theorem dX12_cut_24 : decode cX12_cut 24 = .ok (.aload_n 0, 1) := by decide +kernel
theorem dX12_cut_25 : decode cX12_cut 25 = .ok (.getfield 188, 3) := by decide +kernel
theorem dX12_cut_28 : decode cX12_cut 28 = .ok (.if_icmp .lt 15, 3) := by decide +kernel
theorem dX12_cut_31 : decode cX12_cut 31 = .ok (.aload_n 0, 1) := by decide +kernel
theorem dX12_cut_32 : decode cX12_cut 32 = .ok (.iconst 0, 1) := by decide +kernel
theorem dX12_cut_33 : decode cX12_cut 33 = .ok (.aload_n 0, 1) := by decide +kernel
theorem dX12_cut_34 : decode cX12_cut 34 = .ok (.getfield 188, 3) := by decide +kernel
theorem dX12_cut_37 : decode cX12_cut 37 = .ok (.iconst 0, 1) := by decide +kernel
theorem dX12_cut_38 : decode cX12_cut 38 = .ok (.lconst 0, 1) := by decide +kernel
theorem dX12_cut_39 : decode cX12_cut 39 = .ok (.invokevirtual 204, 3) := by decide +kernel
theorem dX12_cut_42 : decode cX12_cut 42 = .ok (.return_, 1) := by decide +kernel
theorem dX12_cut_43 : decode cX12_cut 43 = .ok (.iload_n 2, 1) := by decide +kernel
theorem dX12_cut_44 : decode cX12_cut 44 = .ok (.bipush 9, 2) := by decide +kernel
theorem dX12_cut_46 : decode cX12_cut 46 = .ok (.if_icmp .eq 21, 3) := by decide +kernel
theorem dX12_cut_49 : decode cX12_cut 49 = .ok (.iload_n 2, 1) := by decide +kernel
theorem dX12_cut_50 : decode cX12_cut 50 = .ok (.bipush 10, 2) := by decide +kernel
theorem dX12_cut_52 : decode cX12_cut 52 = .ok (.if_icmp .eq 15, 3) := by decide +kernel
theorem dX12_cut_55 : decode cX12_cut 55 = .ok (.iload_n 2, 1) := by decide +kernel
theorem dX12_cut_56 : decode cX12_cut 56 = .ok (.bipush 13, 2) := by decide +kernel
theorem dX12_cut_58 : decode cX12_cut 58 = .ok (.if_icmp .eq 9, 3) := by decide +kernel
theorem dX12_cut_61 : decode cX12_cut 61 = .ok (.iload_n 2, 1) := by decide +kernel
theorem dX12_cut_62 : decode cX12_cut 62 = .ok (.bipush 32, 2) := by decide +kernel
theorem dX12_cut_64 : decode cX12_cut 64 = .ok (.if_icmp .ne 9, 3) := by decide +kernel
theorem dX12_cut_67 : decode cX12_cut 67 = .ok (.iinc 1 1, 3) := by decide +kernel
theorem dX12_cut_70 : decode cX12_cut 70 = .ok (.goto 221, 3) := by decide +kernel
theorem dX12_cut_73 : decode cX12_cut 73 = .ok (.iload_n 2, 1) := by decide +kernel
theorem dX12_cut_74 : decode cX12_cut 74 = .ok (.invokestatic 208, 3) := by decide +kernel
theorem dX12_cut_77 : decode cX12_cut 77 = .ok (.ifCond .eq 119, 3) := by decide +kernel
theorem dX12_cut_80 : decode cX12_cut 80 = .ok (.iconst 0, 1) := by decide +kernel
theorem dX12_cut_81 : decode cX12_cut 81 = .ok (.istore_n 3, 1) := by decide +kernel
theorem dX12_cut_82 : decode cX12_cut 82 = .ok (.lconst 0, 1) := by decide +kernel
theorem dX12_cut_83 : decode cX12_cut 83 = .ok (.lstore 4, 2) := by decide +kernel
theorem dX12_cut_85 : decode cX12_cut 85 = .ok (.aload_n 0, 1) := by decide +kernel
theorem dX12_cut_86 : decode cX12_cut 86 = .ok (.iload_n 1, 1) := by decide +kernel
theorem dX12_cut_87 : decode cX12_cut 87 = .ok (.iload_n 3, 1) := by decide +kernel
theorem dX12_cut_88 : decode cX12_cut 88 = .ok (.iadd, 1) := by decide +kernel
theorem dX12_cut_89 : decode cX12_cut 89 = .ok (.invokevirtual 200, 3) := by decide +kernel
theorem dX12_cut_92 : decode cX12_cut 92 = .ok (.invokestatic 208, 3) := by decide +kernel
theorem dX12_cut_95 : decode cX12_cut 95 = .ok (.ifCond .eq 29, 3) := by decide +kernel
theorem dX12_cut_98 : decode cX12_cut 98 = .ok (.iload_n 3, 1) := by decide +kernel
theorem dX12_cut_99 : decode cX12_cut 99 = .ok (.bipush 8, 2) := by decide +kernel
theorem dX12_cut_101 : decode cX12_cut 101 = .ok (.if_icmp .ge 17, 3) := by decide +kernel
theorem dX12_cut_104 : decode cX12_cut 104 = .ok (.lload 4, 2) := by decide +kernel
theorem dX12_cut_106 : decode cX12_cut 106 = .ok (.aload_n 0, 1) := by decide +kernel
theorem dX12_cut_107 : decode cX12_cut 107 = .ok (.iload_n 1, 1) := by decide +kernel
theorem dX12_cut_108 : decode cX12_cut 108 = .ok (.iload_n 3, 1) := by decide +kernel
theorem dX12_cut_109 : decode cX12_cut 109 = .ok (.iadd, 1) := by decide +kernel
theorem dX12_cut_110 : decode cX12_cut 110 = .ok (.invokevirtual 200, 3) := by decide +kernel
theorem dX12_cut_113 : decode cX12_cut 113 = .ok (.invokestatic 193, 3) := by decide +kernel
theorem dX12_cut_116 : decode cX12_cut 116 = .ok (.lstore 4, 2) := by decide +kernel
theorem dX12_cut_118 : decode cX12_cut 118 = .ok (.iinc 3 1, 3) := by decide +kernel
theorem dX12_cut_121 : decode cX12_cut 121 = .ok (.goto (-36), 3) := by decide +kernel
theorem dX12_cut_124 : decode cX12_cut 124 = .ok (.iload_n 3, 1) := by decide +kernel
theorem dX12_cut_125 : decode cX12_cut 125 = .ok (.bipush 8, 2) := by decide +kernel
theorem dX12_cut_127 : decode cX12_cut 127 = .ok (.if_icmp .le 7, 3) := by decide +kernel
theorem dX12_cut_130 : decode cX12_cut 130 = .ok (.iconst 3, 1) := by decide +kernel
theorem dX12_cut_131 : decode cX12_cut 131 = .ok (.goto 4, 3) := by decide +kernel
theorem dX12_cut_134 : decode cX12_cut 134 = .ok (.iconst 1, 1) := by decide +kernel
theorem dX12_cut_135 : decode cX12_cut 135 = .ok (.istore 6, 2) := by decide +kernel
theorem dX12_cut_137 : decode cX12_cut 137 = .ok (.iload_n 3, 1) := by decide +kernel
theorem dX12_cut_138 : decode cX12_cut 138 = .ok (.bipush 8, 2) := by decide +kernel
theorem dX12_cut_140 : decode cX12_cut 140 = .ok (.if_icmp .gt 39, 3) := by decide +kernel
theorem dX12_cut_143 : decode cX12_cut 143 = .ok (.iconst 0, 1) := by decide +kernel
theorem dX12_cut_144 : decode cX12_cut 144 = .ok (.istore 7, 2) := by decide +kernel
theorem dX12_cut_146 : decode cX12_cut 146 = .ok (.iload 7, 2) := by decide +kernel
theorem dX12_cut_148 : decode cX12_cut 148 = .ok (.bipush 20, 2) := by decide +kernel
theorem dX12_cut_150 : decode cX12_cut 150 = .ok (.if_icmp .ge 29, 3) := by decide +kernel
theorem dX12_cut_153 : decode cX12_cut 153 = .ok (.aload_n 0, 1) := by decide +kernel
theorem dX12_cut_154 : decode cX12_cut 154 = .ok (.getfield 34, 3) := by decide +kernel
theorem dX12_cut_157 : decode cX12_cut 157 = .ok (.iload 7, 2) := by decide +kernel
theorem dX12_cut_159 : decode cX12_cut 159 = .ok (.laload, 1) := by decide +kernel
theorem dX12_cut_160 : decode cX12_cut 160 = .ok (.lload 4, 2) := by decide +kernel
theorem dX12_cut_162 : decode cX12_cut 162 = .ok (.lcmp, 1) := by decide +kernel
theorem dX12_cut_163 : decode cX12_cut 163 = .ok (.ifCond .ne 10, 3) := by decide +kernel
theorem dX12_cut_166 : decode cX12_cut 166 = .ok (.bipush 20, 2) := by decide +kernel
theorem dX12_cut_168 : decode cX12_cut 168 = .ok (.iload 7, 2) := by decide +kernel
theorem dX12_cut_170 : decode cX12_cut 170 = .ok (.iadd, 1) := by decide +kernel
theorem dX12_cut_171 : decode cX12_cut 171 = .ok (.istore 6, 2) := by decide +kernel
theorem dX12_cut_173 : decode cX12_cut 173 = .ok (.iinc 7 1, 3) := by decide +kernel
theorem dX12_cut_176 : decode cX12_cut 176 = .ok (.goto (-30), 3) := by decide +kernel
theorem dX12_cut_179 : decode cX12_cut 179 = .ok (.aload_n 0, 1) := by decide +kernel
theorem dX12_cut_180 : decode cX12_cut 180 = .ok (.iload 6, 2) := by decide +kernel
theorem dX12_cut_182 : decode cX12_cut 182 = .ok (.iload_n 1, 1) := by decide +kernel
theorem dX12_cut_183 : decode cX12_cut 183 = .ok (.iconst 0, 1) := by decide +kernel
theorem dX12_cut_184 : decode cX12_cut 184 = .ok (.lload 4, 2) := by decide +kernel
theorem dX12_cut_186 : decode cX12_cut 186 = .ok (.invokevirtual 204, 3) := by decide +kernel
theorem dX12_cut_189 : decode cX12_cut 189 = .ok (.iload_n 1, 1) := by decide +kernel
theorem dX12_cut_190 : decode cX12_cut 190 = .ok (.iload_n 3, 1) := by decide +kernel
theorem dX12_cut_191 : decode cX12_cut 191 = .ok (.iadd, 1) := by decide +kernel
theorem dX12_cut_192 : decode cX12_cut 192 = .ok (.istore_n 1, 1) := by decide +kernel
theorem dX12_cut_193 : decode cX12_cut 193 = .ok (.goto 98, 3) := by decide +kernel
theorem dX12_cut_196 : decode cX12_cut 196 = .ok (.iload_n 2, 1) := by decide +kernel
theorem dX12_cut_197 : decode cX12_cut 197 = .ok (.invokestatic 212, 3) := by decide +kernel
theorem dX12_cut_200 : decode cX12_cut 200 = .ok (.ifCond .eq 75, 3) := by decide +kernel
theorem dX12_cut_203 : decode cX12_cut 203 = .ok (.iconst 0, 1) := by decide +kernel
theorem dX12_cut_204 : decode cX12_cut 204 = .ok (.istore_n 3, 1) := by decide +kernel
theorem dX12_cut_205 : decode cX12_cut 205 = .ok (.iconst 0, 1) := by decide +kernel
theorem dX12_cut_206 : decode cX12_cut 206 = .ok (.istore 4, 2) := by decide +kernel
theorem dX12_cut_208 : decode cX12_cut 208 = .ok (.aload_n 0, 1) := by decide +kernel
theorem dX12_cut_209 : decode cX12_cut 209 = .ok (.iload_n 1, 1) := by decide +kernel
theorem dX12_cut_210 : decode cX12_cut 210 = .ok (.iload_n 3, 1) := by decide +kernel
theorem dX12_cut_211 : decode cX12_cut 211 = .ok (.iadd, 1) := by decide +kernel
theorem dX12_cut_212 : decode cX12_cut 212 = .ok (.invokevirtual 200, 3) := by decide +kernel
theorem dX12_cut_215 : decode cX12_cut 215 = .ok (.invokestatic 212, 3) := by decide +kernel
theorem dX12_cut_218 : decode cX12_cut 218 = .ok (.ifCond .eq 32, 3) := by decide +kernel
theorem dX12_cut_221 : decode cX12_cut 221 = .ok (.iload_n 3, 1) := by decide +kernel
theorem dX12_cut_222 : decode cX12_cut 222 = .ok (.iconst 4, 1) := by decide +kernel
theorem dX12_cut_223 : decode cX12_cut 223 = .ok (.if_icmp .ge 21, 3) := by decide +kernel
theorem dX12_cut_226 : decode cX12_cut 226 = .ok (.bipush 10, 2) := by decide +kernel
theorem dX12_cut_228 : decode cX12_cut 228 = .ok (.iload 4, 2) := by decide +kernel
theorem dX12_cut_230 : decode cX12_cut 230 = .ok (.imul, 1) := by decide +kernel
theorem dX12_cut_231 : decode cX12_cut 231 = .ok (.aload_n 0, 1) := by decide +kernel
theorem dX12_cut_232 : decode cX12_cut 232 = .ok (.iload_n 1, 1) := by decide +kernel
theorem dX12_cut_233 : decode cX12_cut 233 = .ok (.iload_n 3, 1) := by decide +kernel
theorem dX12_cut_234 : decode cX12_cut 234 = .ok (.iadd, 1) := by decide +kernel
theorem dX12_cut_235 : decode cX12_cut 235 = .ok (.invokevirtual 200, 3) := by decide +kernel
theorem dX12_cut_238 : decode cX12_cut 238 = .ok (.iadd, 1) := by decide +kernel
theorem dX12_cut_239 : decode cX12_cut 239 = .ok (.bipush 48, 2) := by decide +kernel
theorem dX12_cut_241 : decode cX12_cut 241 = .ok (.isub, 1) := by decide +kernel
theorem dX12_cut_242 : decode cX12_cut 242 = .ok (.istore 4, 2) := by decide +kernel
theorem dX12_cut_244 : decode cX12_cut 244 = .ok (.iinc 3 1, 3) := by decide +kernel
theorem dX12_cut_247 : decode cX12_cut 247 = .ok (.goto (-39), 3) := by decide +kernel
theorem dX12_cut_250 : decode cX12_cut 250 = .ok (.aload_n 0, 1) := by decide +kernel
theorem dX12_cut_251 : decode cX12_cut 251 = .ok (.iload_n 3, 1) := by decide +kernel
theorem dX12_cut_252 : decode cX12_cut 252 = .ok (.iconst 4, 1) := by decide +kernel
theorem dX12_cut_253 : decode cX12_cut 253 = .ok (.if_icmp .le 7, 3) := by decide +kernel
theorem dX12_cut_256 : decode cX12_cut 256 = .ok (.iconst 3, 1) := by decide +kernel
theorem dX12_cut_257 : decode cX12_cut 257 = .ok (.goto 4, 3) := by decide +kernel
theorem dX12_cut_260 : decode cX12_cut 260 = .ok (.iconst 2, 1) := by decide +kernel
theorem dX12_cut_261 : decode cX12_cut 261 = .ok (.iload_n 1, 1) := by decide +kernel
theorem dX12_cut_262 : decode cX12_cut 262 = .ok (.iload 4, 2) := by decide +kernel
theorem dX12_cut_264 : decode cX12_cut 264 = .ok (.lconst 0, 1) := by decide +kernel
theorem dX12_cut_265 : decode cX12_cut 265 = .ok (.invokevirtual 204, 3) := by decide +kernel
theorem dX12_cut_268 : decode cX12_cut 268 = .ok (.iload_n 1, 1) := by decide +kernel
theorem dX12_cut_269 : decode cX12_cut 269 = .ok (.iload_n 3, 1) := by decide +kernel
theorem dX12_cut_270 : decode cX12_cut 270 = .ok (.iadd, 1) := by decide +kernel
theorem dX12_cut_271 : decode cX12_cut 271 = .ok (.istore_n 1, 1) := by decide +kernel
theorem dX12_cut_272 : decode cX12_cut 272 = .ok (.goto 19, 3) := by decide +kernel
theorem dX12_cut_275 : decode cX12_cut 275 = .ok (.iload_n 1, 1) := by decide +kernel
theorem dX12_cut_276 : decode cX12_cut 276 = .ok (.aload_n 0, 1) := by decide +kernel
theorem dX12_cut_277 : decode cX12_cut 277 = .ok (.iload_n 1, 1) := by decide +kernel
theorem dX12_cut_278 : decode cX12_cut 278 = .ok (.iload_n 2, 1) := by decide +kernel
theorem dX12_cut_279 : decode cX12_cut 279 = .ok (.aload_n 0, 1) := by decide +kernel
theorem dX12_cut_280 : decode cX12_cut 280 = .ok (.iload_n 1, 1) := by decide +kernel
theorem dX12_cut_281 : decode cX12_cut 281 = .ok (.iconst 1, 1) := by decide +kernel
theorem dX12_cut_282 : decode cX12_cut 282 = .ok (.iadd, 1) := by decide +kernel
theorem dX12_cut_283 : decode cX12_cut 283 = .ok (.invokevirtual 200, 3) := by decide +kernel
theorem dX12_cut_286 : decode cX12_cut 286 = .ok (.invokevirtual 215, 3) := by decide +kernel
theorem dX12_cut_289 : decode cX12_cut 289 = .ok (.iadd, 1) := by decide +kernel
theorem dX12_cut_290 : decode cX12_cut 290 = .ok (.istore_n 1, 1) := by decide +kernel
theorem dX12_cut_291 : decode cX12_cut 291 = .ok (.goto (-284), 3) := by decide +kernel
theorem dX12_cut_294 : decode cX12_cut 294 = .ok (.return_, 1) := by decide +kernel
def xX12_cut : zX := (RX12, cX12_cut, 8, none, false, { frames := 3, cells := 0, slots := 0, locals := 139 }, 0, 0, 0, 0)
theorem rmX12_cut : z_Rm xX12_cut := by unfold z_Rm xX12_cut; exact ⟨by decide, by decide⟩
theorem reX12_cut : z_Re xX12_cut := ⟨rfl, rfl⟩
theorem rlX12_cut : 1 ≤ xX12_cut.2.2.2.2.2.1.frames ∧ 21 ≤ xX12_cut.2.2.2.2.2.1.locals := by unfold xX12_cut; exact ⟨by decide, by decide⟩
theorem meX12_cut : z_Me yX12_cut xX12_cut 0 := ⟨wd986, wd893, by decide, by decide, by decide +kernel⟩
theorem fitX12_cut_19 : z_Fit xX12_byteAt xX12_cut := by unfold z_Fit; simp only [xX12_byteAt, xX12_cut]; exact ⟨by decide, by decide⟩
theorem fitX12_cut_74 : z_Fit xX12_isLetter xX12_cut := by unfold z_Fit; simp only [xX12_isLetter, xX12_cut]; exact ⟨by decide, by decide⟩
theorem fitX12_cut_197 : z_Fit xX12_isDigit xX12_cut := by unfold z_Fit; simp only [xX12_isDigit, xX12_cut]; exact ⟨by decide, by decide⟩
theorem fitX12_cut_283 : z_Fit xX12_byteAt xX12_cut := by unfold z_Fit; simp only [xX12_byteAt, xX12_cut]; exact ⟨by decide, by decide⟩
theorem fitX12_cut_286 : z_Fit xX12_sign xX12_cut := by unfold z_Fit; simp only [xX12_sign, xX12_cut]; exact ⟨by decide, by decide⟩
theorem fitX12_cut_212 : z_Fit xX12_byteAt xX12_cut := by unfold z_Fit; simp only [xX12_byteAt, xX12_cut]; exact ⟨by decide, by decide⟩
theorem fitX12_cut_215 : z_Fit xX12_isDigit xX12_cut := by unfold z_Fit; simp only [xX12_isDigit, xX12_cut]; exact ⟨by decide, by decide⟩
theorem fitX12_cut_265 : z_Fit xX12_token xX12_cut := by unfold z_Fit; simp only [xX12_token, xX12_cut]; exact ⟨by decide, by decide⟩
theorem fitX12_cut_235 : z_Fit xX12_byteAt xX12_cut := by unfold z_Fit; simp only [xX12_byteAt, xX12_cut]; exact ⟨by decide, by decide⟩
theorem fitX12_cut_89 : z_Fit xX12_byteAt xX12_cut := by unfold z_Fit; simp only [xX12_byteAt, xX12_cut]; exact ⟨by decide, by decide⟩
theorem fitX12_cut_92 : z_Fit xX12_isLetter xX12_cut := by unfold z_Fit; simp only [xX12_isLetter, xX12_cut]; exact ⟨by decide, by decide⟩
theorem fitX12_cut_186 : z_Fit xX12_token xX12_cut := by unfold z_Fit; simp only [xX12_token, xX12_cut]; exact ⟨by decide, by decide⟩
theorem fitX12_cut_110 : z_Fit xX12_byteAt xX12_cut := by unfold z_Fit; simp only [xX12_byteAt, xX12_cut]; exact ⟨by decide, by decide⟩
theorem fitX12_cut_113 : z_Fit xX12_appends xX12_cut := by unfold z_Fit; simp only [xX12_appends, xX12_cut]; exact ⟨by decide, by decide⟩
theorem fitX12_cut_39 : z_Fit xX12_token xX12_cut := by unfold z_Fit; simp only [xX12_token, xX12_cut]; exact ⟨by decide, by decide⟩
noncomputable def kX12_cut_294 : zK zR := q_vret
noncomputable def kX12_cut_291 : zK ((zL × zS) ⊕ zR) := q_ag
noncomputable def kX12_cut_67 : zK ((zL × zS) ⊕ zR) := (q_iinc 1 1 kX12_cut_291)
noncomputable def kX12_cut_261 : zK ((zL × zS) ⊕ zR) := (q_iload 1 (q_iload 4 (q_pushl 0 (q_callV 12 fX12_token 4 (q_iload 1 (q_iload 3 (q_iadd (q_istore 1 kX12_cut_291))))))))
noncomputable def kX12_cut_250 : zK ((zL × zS) ⊕ zR) := (q_aload 0 (q_iload 3 (q_push 4 (q_icmp_le (q_push 2 kX12_cut_261) (q_push 3 kX12_cut_261)))))
noncomputable def kX12_cut_244 : zK ((zL × zS) ⊕ ((zL × zS) ⊕ zR)) := (q_iinc 3 1 q_ag)
noncomputable def bX12_cut_208 : zK ((zL × zS) ⊕ ((zL × zS) ⊕ zR)) := (q_aload 0 (q_iload 1 (q_iload 3 (q_iadd (q_callV 12 fX12_byteAt 1 (q_callS fX12_isDigit 1 (q_if_eq (q_dn kX12_cut_250) (q_iload 3 (q_push 4 (q_icmp_ge kX12_cut_244 (q_push 10 (q_iload 4 (q_imul (q_aload 0 (q_iload 1 (q_iload 3 (q_iadd (q_callV 12 fX12_byteAt 1 (q_iadd (q_push 48 (q_isub (q_istore 4 kX12_cut_244))))))))))))))))))))))
noncomputable def kX12_cut_208 : zK ((zL × zS) ⊕ zR) := q_lp (bX12_cut_208)
noncomputable def kX12_cut_179 : zK ((zL × zS) ⊕ zR) := (q_aload 0 (q_iload 6 (q_iload 1 (q_push 0 (q_lload 4 (q_callV 12 fX12_token 4 (q_iload 1 (q_iload 3 (q_iadd (q_istore 1 kX12_cut_291))))))))))
noncomputable def kX12_cut_173 : zK ((zL × zS) ⊕ ((zL × zS) ⊕ zR)) := (q_iinc 7 1 q_ag)
noncomputable def bX12_cut_146 : zK ((zL × zS) ⊕ ((zL × zS) ⊕ zR)) := (q_iload 7 (q_push 20 (q_icmp_ge (q_dn kX12_cut_179) (q_aload 0 (q_getR 12 9 (q_iload 7 (q_lald (q_lload 4 (q_lcmp (q_if_ne kX12_cut_173 (q_push 20 (q_iload 7 (q_iadd (q_istore 6 kX12_cut_173))))))))))))))
noncomputable def kX12_cut_146 : zK ((zL × zS) ⊕ zR) := q_lp (bX12_cut_146)
noncomputable def kX12_cut_135 : zK ((zL × zS) ⊕ zR) := (q_istore 6 (q_iload 3 (q_push 8 (q_icmp_gt kX12_cut_179 (q_push 0 (q_istore 7 kX12_cut_146))))))
noncomputable def kX12_cut_124 : zK ((zL × zS) ⊕ zR) := (q_iload 3 (q_push 8 (q_icmp_le (q_push 1 kX12_cut_135) (q_push 3 kX12_cut_135))))
noncomputable def kX12_cut_118 : zK ((zL × zS) ⊕ ((zL × zS) ⊕ zR)) := (q_iinc 3 1 q_ag)
noncomputable def bX12_cut_85 : zK ((zL × zS) ⊕ ((zL × zS) ⊕ zR)) := (q_aload 0 (q_iload 1 (q_iload 3 (q_iadd (q_callV 12 fX12_byteAt 1 (q_callS fX12_isLetter 1 (q_if_eq (q_dn kX12_cut_124) (q_iload 3 (q_push 8 (q_icmp_ge kX12_cut_118 (q_lload 4 (q_aload 0 (q_iload 1 (q_iload 3 (q_iadd (q_callV 12 fX12_byteAt 1 (q_callS fX12_appends 2 (q_lstore 4 kX12_cut_118))))))))))))))))))
noncomputable def kX12_cut_85 : zK ((zL × zS) ⊕ zR) := q_lp (bX12_cut_85)
noncomputable def kX12_cut_31 : zK zR := (q_aload 0 (q_push 0 (q_aload 0 (q_getI 12 4 (q_push 0 (q_pushl 0 (q_callV 12 fX12_token 4 q_vret)))))))
noncomputable def bX12_cut_7 : zK ((zL × zS) ⊕ zR) := (q_aload 0 (q_getI 12 10 (q_push 400 (q_icmp_gt (q_dn kX12_cut_294) (q_aload 0 (q_iload 1 (q_callV 12 fX12_byteAt 1 (q_istore 2 (q_iload 1 (q_aload 0 (q_getI 12 4 (q_icmp_lt (q_iload 2 (q_push 9 (q_icmp_eq kX12_cut_67 (q_iload 2 (q_push 10 (q_icmp_eq kX12_cut_67 (q_iload 2 (q_push 13 (q_icmp_eq kX12_cut_67 (q_iload 2 (q_push 32 (q_icmp_ne (q_iload 2 (q_callS fX12_isLetter 1 (q_if_eq (q_iload 2 (q_callS fX12_isDigit 1 (q_if_eq (q_iload 1 (q_aload 0 (q_iload 1 (q_iload 2 (q_aload 0 (q_iload 1 (q_push 1 (q_iadd (q_callV 12 fX12_byteAt 1 (q_callV 12 fX12_sign 3 (q_iadd (q_istore 1 kX12_cut_291)))))))))))) (q_push 0 (q_istore 3 (q_push 0 (q_istore 4 kX12_cut_208))))))) (q_push 0 (q_istore 3 (q_pushl 0 (q_lstore 4 kX12_cut_85))))))) kX12_cut_67)))))))))))) (q_dn kX12_cut_31)))))))))))))
noncomputable def kX12_cut_7 : zK zR := q_lp (bX12_cut_7)
noncomputable def kX12_cut_0 : zK zR := (q_aload 0 (q_push 0 (q_putI 12 10 (q_push 0 (q_istore 1 kX12_cut_7)))))
set_option maxRecDepth 100000 in
theorem tX12_cut_294 {l : Launch} {D : zD} {B sz0 : Nat} {post : Option Value → zS → Prop} : zSnd l D B xX12_cut sz0 post 294 kX12_cut_294 (z_Jr post) := (s_vret dX12_cut_294 rfl)
set_option maxRecDepth 100000 in
theorem tX12_cut_291 {l : Launch} {D : zD} {B sz0 : Nat} {post : Option Value → zS → Prop} : zSnd l D B xX12_cut sz0 post 291 kX12_cut_291 (z_Jl l D B xX12_cut sz0 post 7 (z_Jr post)) := (s_goto (tgt := 7) dX12_cut_291 (by decide) s_ag)
set_option maxRecDepth 100000 in
theorem tX12_cut_67 {l : Launch} {D : zD} {B sz0 : Nat} {post : Option Value → zS → Prop} : zSnd l D B xX12_cut sz0 post 67 kX12_cut_67 (z_Jl l D B xX12_cut sz0 post 7 (z_Jr post)) := (s_iinc dX12_cut_67 (by decide) (s_goto (tgt := 291) dX12_cut_70 (by decide) tX12_cut_291))
set_option maxRecDepth 100000 in
theorem tX12_cut_261 {l : Launch} {D : zD} {B sz0 : Nat} {post : Option Value → zS → Prop} : zSnd l D B xX12_cut sz0 post 261 kX12_cut_261 (z_Jl l D B xX12_cut sz0 post 7 (z_Jr post)) := (s_iload_n dX12_cut_261 rfl (s_iload dX12_cut_262 (s_lconst dX12_cut_264 (by decide) (s_callV (r := (RX12, TX12, 74)) dX12_cut_265 mX12_token meX12_token wd972 wd973 rfl rfl reX12_token rmX12_cut (fitX12_cut_265) wd974 (s_iload_n dX12_cut_268 rfl (s_iload_n dX12_cut_269 rfl (s_iadd dX12_cut_270 (s_istore_n dX12_cut_271 rfl (s_goto (tgt := 291) dX12_cut_272 (by decide) tX12_cut_291)))))))))
set_option maxRecDepth 100000 in
theorem tX12_cut_250 {l : Launch} {D : zD} {B sz0 : Nat} {post : Option Value → zS → Prop} : zSnd l D B xX12_cut sz0 post 250 kX12_cut_250 (z_Jl l D B xX12_cut sz0 post 7 (z_Jr post)) := (s_aload_n dX12_cut_250 rfl (s_iload_n dX12_cut_251 rfl (s_iconst dX12_cut_252 (by decide) (s_icmp_le (tgt := 260) dX12_cut_253 (by decide) (s_iconst dX12_cut_260 (by decide) tX12_cut_261) (s_iconst dX12_cut_256 (by decide) (s_goto (tgt := 261) dX12_cut_257 (by decide) tX12_cut_261))))))
set_option maxRecDepth 100000 in
theorem tX12_cut_244 {l : Launch} {D : zD} {B sz0 : Nat} {post : Option Value → zS → Prop} : zSnd l D B xX12_cut sz0 post 244 kX12_cut_244 (z_Jl l D B xX12_cut sz0 post 208 (z_Jl l D B xX12_cut sz0 post 7 (z_Jr post))) := (s_iinc dX12_cut_244 (by decide) (s_goto (tgt := 208) dX12_cut_247 (by decide) s_ag))
set_option maxRecDepth 100000 in
theorem tX12_cut_208 {l : Launch} {D : zD} {B sz0 : Nat} {post : Option Value → zS → Prop} : zSnd l D B xX12_cut sz0 post 208 kX12_cut_208 (z_Jl l D B xX12_cut sz0 post 7 (z_Jr post)) := s_lp (body := bX12_cut_208) (s_aload_n dX12_cut_208 rfl (s_iload_n dX12_cut_209 rfl (s_iload_n dX12_cut_210 rfl (s_iadd dX12_cut_211 (s_callV (r := (RX12, TX12, 74)) dX12_cut_212 mX12_byteAt meX12_byteAt wd976 wd977 rfl rfl reX12_byteAt rmX12_cut (fitX12_cut_212) wd978 (s_callS dX12_cut_215 mX12_isDigit meX12_isDigit wd981 rfl reX12_isDigit rmX12_cut (fitX12_cut_215) wd982 (s_if_eq (tgt := 250) dX12_cut_218 (by decide) (s_dn tX12_cut_250) (s_iload_n dX12_cut_221 rfl (s_iconst dX12_cut_222 (by decide) (s_icmp_ge (tgt := 244) dX12_cut_223 (by decide) tX12_cut_244 (s_bipush dX12_cut_226 (by decide) (s_iload dX12_cut_228 (s_imul dX12_cut_230 (s_aload_n dX12_cut_231 rfl (s_iload_n dX12_cut_232 rfl (s_iload_n dX12_cut_233 rfl (s_iadd dX12_cut_234 (s_callV (r := (RX12, TX12, 74)) dX12_cut_235 mX12_byteAt meX12_byteAt wd976 wd977 rfl rfl reX12_byteAt rmX12_cut (fitX12_cut_235) wd978 (s_iadd dX12_cut_238 (s_bipush dX12_cut_239 (by decide) (s_isub dX12_cut_241 (s_istore dX12_cut_242 tX12_cut_244))))))))))))))))))))))
set_option maxRecDepth 100000 in
theorem tX12_cut_179 {l : Launch} {D : zD} {B sz0 : Nat} {post : Option Value → zS → Prop} : zSnd l D B xX12_cut sz0 post 179 kX12_cut_179 (z_Jl l D B xX12_cut sz0 post 7 (z_Jr post)) := (s_aload_n dX12_cut_179 rfl (s_iload dX12_cut_180 (s_iload_n dX12_cut_182 rfl (s_iconst dX12_cut_183 (by decide) (s_lload dX12_cut_184 (s_callV (r := (RX12, TX12, 74)) dX12_cut_186 mX12_token meX12_token wd972 wd973 rfl rfl reX12_token rmX12_cut (fitX12_cut_186) wd974 (s_iload_n dX12_cut_189 rfl (s_iload_n dX12_cut_190 rfl (s_iadd dX12_cut_191 (s_istore_n dX12_cut_192 rfl (s_goto (tgt := 291) dX12_cut_193 (by decide) tX12_cut_291)))))))))))
set_option maxRecDepth 100000 in
theorem tX12_cut_173 {l : Launch} {D : zD} {B sz0 : Nat} {post : Option Value → zS → Prop} : zSnd l D B xX12_cut sz0 post 173 kX12_cut_173 (z_Jl l D B xX12_cut sz0 post 146 (z_Jl l D B xX12_cut sz0 post 7 (z_Jr post))) := (s_iinc dX12_cut_173 (by decide) (s_goto (tgt := 146) dX12_cut_176 (by decide) s_ag))
set_option maxRecDepth 100000 in
theorem tX12_cut_146 {l : Launch} {D : zD} {B sz0 : Nat} {post : Option Value → zS → Prop} : zSnd l D B xX12_cut sz0 post 146 kX12_cut_146 (z_Jl l D B xX12_cut sz0 post 7 (z_Jr post)) := s_lp (body := bX12_cut_146) (s_iload dX12_cut_146 (s_bipush dX12_cut_148 (by decide) (s_icmp_ge (tgt := 179) dX12_cut_150 (by decide) (s_dn tX12_cut_179) (s_aload_n dX12_cut_153 rfl (s_getR (f := 9) dX12_cut_154 clX12 (by decide) rfl wd914 (s_iload dX12_cut_157 (s_lald dX12_cut_159 (s_lload dX12_cut_160 (s_lcmp dX12_cut_162 (s_if_ne (tgt := 173) dX12_cut_163 (by decide) tX12_cut_173 (s_bipush dX12_cut_166 (by decide) (s_iload dX12_cut_168 (s_iadd dX12_cut_170 (s_istore dX12_cut_171 tX12_cut_173))))))))))))))
set_option maxRecDepth 100000 in
theorem tX12_cut_135 {l : Launch} {D : zD} {B sz0 : Nat} {post : Option Value → zS → Prop} : zSnd l D B xX12_cut sz0 post 135 kX12_cut_135 (z_Jl l D B xX12_cut sz0 post 7 (z_Jr post)) := (s_istore dX12_cut_135 (s_iload_n dX12_cut_137 rfl (s_bipush dX12_cut_138 (by decide) (s_icmp_gt (tgt := 179) dX12_cut_140 (by decide) tX12_cut_179 (s_iconst dX12_cut_143 (by decide) (s_istore dX12_cut_144 tX12_cut_146))))))
set_option maxRecDepth 100000 in
theorem tX12_cut_124 {l : Launch} {D : zD} {B sz0 : Nat} {post : Option Value → zS → Prop} : zSnd l D B xX12_cut sz0 post 124 kX12_cut_124 (z_Jl l D B xX12_cut sz0 post 7 (z_Jr post)) := (s_iload_n dX12_cut_124 rfl (s_bipush dX12_cut_125 (by decide) (s_icmp_le (tgt := 134) dX12_cut_127 (by decide) (s_iconst dX12_cut_134 (by decide) tX12_cut_135) (s_iconst dX12_cut_130 (by decide) (s_goto (tgt := 135) dX12_cut_131 (by decide) tX12_cut_135)))))
set_option maxRecDepth 100000 in
theorem tX12_cut_118 {l : Launch} {D : zD} {B sz0 : Nat} {post : Option Value → zS → Prop} : zSnd l D B xX12_cut sz0 post 118 kX12_cut_118 (z_Jl l D B xX12_cut sz0 post 85 (z_Jl l D B xX12_cut sz0 post 7 (z_Jr post))) := (s_iinc dX12_cut_118 (by decide) (s_goto (tgt := 85) dX12_cut_121 (by decide) s_ag))
set_option maxRecDepth 100000 in
theorem tX12_cut_85 {l : Launch} {D : zD} {B sz0 : Nat} {post : Option Value → zS → Prop} : zSnd l D B xX12_cut sz0 post 85 kX12_cut_85 (z_Jl l D B xX12_cut sz0 post 7 (z_Jr post)) := s_lp (body := bX12_cut_85) (s_aload_n dX12_cut_85 rfl (s_iload_n dX12_cut_86 rfl (s_iload_n dX12_cut_87 rfl (s_iadd dX12_cut_88 (s_callV (r := (RX12, TX12, 74)) dX12_cut_89 mX12_byteAt meX12_byteAt wd976 wd977 rfl rfl reX12_byteAt rmX12_cut (fitX12_cut_89) wd978 (s_callS dX12_cut_92 mX12_isLetter meX12_isLetter wd979 rfl reX12_isLetter rmX12_cut (fitX12_cut_92) wd980 (s_if_eq (tgt := 124) dX12_cut_95 (by decide) (s_dn tX12_cut_124) (s_iload_n dX12_cut_98 rfl (s_bipush dX12_cut_99 (by decide) (s_icmp_ge (tgt := 118) dX12_cut_101 (by decide) tX12_cut_118 (s_lload dX12_cut_104 (s_aload_n dX12_cut_106 rfl (s_iload_n dX12_cut_107 rfl (s_iload_n dX12_cut_108 rfl (s_iadd dX12_cut_109 (s_callV (r := (RX12, TX12, 74)) dX12_cut_110 mX12_byteAt meX12_byteAt wd976 wd977 rfl rfl reX12_byteAt rmX12_cut (fitX12_cut_110) wd978 (s_callS dX12_cut_113 mX12_appends meX12_appends wd896 rfl reX12_appends rmX12_cut (fitX12_cut_113) wd897 (s_lstore dX12_cut_116 tX12_cut_118))))))))))))))))))
set_option maxRecDepth 100000 in
theorem tX12_cut_31 {l : Launch} {D : zD} {B sz0 : Nat} {post : Option Value → zS → Prop} : zSnd l D B xX12_cut sz0 post 31 kX12_cut_31 (z_Jr post) := (s_aload_n dX12_cut_31 rfl (s_iconst dX12_cut_32 (by decide) (s_aload_n dX12_cut_33 rfl (s_getI (f := 4) dX12_cut_34 clX12 (by decide) rfl wd966 (s_iconst dX12_cut_37 (by decide) (s_lconst dX12_cut_38 (by decide) (s_callV (r := (RX12, TX12, 74)) dX12_cut_39 mX12_token meX12_token wd972 wd973 rfl rfl reX12_token rmX12_cut (fitX12_cut_39) wd974 (s_vret dX12_cut_42 rfl))))))))
set_option maxRecDepth 100000 in
theorem tX12_cut_7 {l : Launch} {D : zD} {B sz0 : Nat} {post : Option Value → zS → Prop} : zSnd l D B xX12_cut sz0 post 7 kX12_cut_7 (z_Jr post) := s_lp (body := bX12_cut_7) (s_aload_n dX12_cut_7 rfl (s_getI (f := 10) dX12_cut_8 clX12 (by decide) rfl wd970 (s_sipush dX12_cut_11 (by decide) (s_icmp_gt (tgt := 294) dX12_cut_14 (by decide) (s_dn tX12_cut_294) (s_aload_n dX12_cut_17 rfl (s_iload_n dX12_cut_18 rfl (s_callV (r := (RX12, TX12, 74)) dX12_cut_19 mX12_byteAt meX12_byteAt wd976 wd977 rfl rfl reX12_byteAt rmX12_cut (fitX12_cut_19) wd978 (s_istore_n dX12_cut_22 rfl (s_iload_n dX12_cut_23 rfl (s_aload_n dX12_cut_24 rfl (s_getI (f := 4) dX12_cut_25 clX12 (by decide) rfl wd966 (s_icmp_lt (tgt := 43) dX12_cut_28 (by decide) (s_iload_n dX12_cut_43 rfl (s_bipush dX12_cut_44 (by decide) (s_icmp_eq (tgt := 67) dX12_cut_46 (by decide) tX12_cut_67 (s_iload_n dX12_cut_49 rfl (s_bipush dX12_cut_50 (by decide) (s_icmp_eq (tgt := 67) dX12_cut_52 (by decide) tX12_cut_67 (s_iload_n dX12_cut_55 rfl (s_bipush dX12_cut_56 (by decide) (s_icmp_eq (tgt := 67) dX12_cut_58 (by decide) tX12_cut_67 (s_iload_n dX12_cut_61 rfl (s_bipush dX12_cut_62 (by decide) (s_icmp_ne (tgt := 73) dX12_cut_64 (by decide) (s_iload_n dX12_cut_73 rfl (s_callS dX12_cut_74 mX12_isLetter meX12_isLetter wd979 rfl reX12_isLetter rmX12_cut (fitX12_cut_74) wd980 (s_if_eq (tgt := 196) dX12_cut_77 (by decide) (s_iload_n dX12_cut_196 rfl (s_callS dX12_cut_197 mX12_isDigit meX12_isDigit wd981 rfl reX12_isDigit rmX12_cut (fitX12_cut_197) wd982 (s_if_eq (tgt := 275) dX12_cut_200 (by decide) (s_iload_n dX12_cut_275 rfl (s_aload_n dX12_cut_276 rfl (s_iload_n dX12_cut_277 rfl (s_iload_n dX12_cut_278 rfl (s_aload_n dX12_cut_279 rfl (s_iload_n dX12_cut_280 rfl (s_iconst dX12_cut_281 (by decide) (s_iadd dX12_cut_282 (s_callV (r := (RX12, TX12, 74)) dX12_cut_283 mX12_byteAt meX12_byteAt wd976 wd977 rfl rfl reX12_byteAt rmX12_cut (fitX12_cut_283) wd978 (s_callV (r := (RX12, TX12, 74)) dX12_cut_286 mX12_sign meX12_sign wd983 wd984 rfl rfl reX12_sign rmX12_cut (fitX12_cut_286) wd985 (s_iadd dX12_cut_289 (s_istore_n dX12_cut_290 rfl tX12_cut_291)))))))))))) (s_iconst dX12_cut_203 (by decide) (s_istore_n dX12_cut_204 rfl (s_iconst dX12_cut_205 (by decide) (s_istore dX12_cut_206 tX12_cut_208))))))) (s_iconst dX12_cut_80 (by decide) (s_istore_n dX12_cut_81 rfl (s_lconst dX12_cut_82 (by decide) (s_lstore dX12_cut_83 tX12_cut_85))))))) tX12_cut_67)))))))))))) (s_dn tX12_cut_31)))))))))))))
set_option maxRecDepth 100000 in
theorem tX12_cut_0 {l : Launch} {D : zD} {B sz0 : Nat} {post : Option Value → zS → Prop} : zSnd l D B xX12_cut sz0 post 0 kX12_cut_0 (z_Jr post) := (s_aload_n dX12_cut_0 rfl (s_iconst dX12_cut_1 (by decide) (s_putI (f := 10) dX12_cut_2 clX12 (by decide) rfl rfl rfl wd970 (s_iconst dX12_cut_5 (by decide) (s_istore_n dX12_cut_6 rfl tX12_cut_7)))))
noncomputable def fX12_cut : zF := z_fn 8 kX12_cut_0
theorem mX12_cut {l : Launch} {D : zD} {B : Nat} : z_MF l D B yX12_cut xX12_cut fX12_cut := z_mf (by decide) rfl (fun h => by cases h) rfl (fun as σ r h => ⟨z_fn_len h, kX12_cut_0, z_fn_run h, fun _ => tX12_cut_0⟩)
/-! ===== RowChildrenModel.is ===== -/
theorem dX12_is_0 : decode cX12_is 0 = .ok (.aload_n 0, 1) := by decide +kernel
theorem dX12_is_1 : decode cX12_is 1 = .ok (.getfield 219, 3) := by decide +kernel
theorem dX12_is_4 : decode cX12_is 4 = .ok (.ifCond .ne 20, 3) := by decide +kernel
theorem dX12_is_7 : decode cX12_is 7 = .ok (.aload_n 0, 1) := by decide +kernel
theorem dX12_is_8 : decode cX12_is 8 = .ok (.getfield 20, 3) := by decide +kernel
theorem dX12_is_11 : decode cX12_is 11 = .ok (.aload_n 0, 1) := by decide +kernel
theorem dX12_is_12 : decode cX12_is 12 = .ok (.getfield 222, 3) := by decide +kernel
theorem dX12_is_15 : decode cX12_is 15 = .ok (.iaload, 1) := by decide +kernel
theorem dX12_is_16 : decode cX12_is 16 = .ok (.iload_n 1, 1) := by decide +kernel
theorem dX12_is_17 : decode cX12_is 17 = .ok (.if_icmp .ne 7, 3) := by decide +kernel
theorem dX12_is_20 : decode cX12_is 20 = .ok (.iconst 1, 1) := by decide +kernel
theorem dX12_is_21 : decode cX12_is 21 = .ok (.goto 4, 3) := by decide +kernel
theorem dX12_is_24 : decode cX12_is 24 = .ok (.iconst 0, 1) := by decide +kernel
theorem dX12_is_25 : decode cX12_is 25 = .ok (.ireturn, 1) := by decide +kernel
def xX12_is : zX := (RX12, cX12_is, 2, (some .boolean), false, { frames := 1, cells := 0, slots := 0, locals := 90 }, 0, 0, 0, 0)
theorem rmX12_is : z_Rm xX12_is := by unfold z_Rm xX12_is; exact ⟨by decide, by decide⟩
theorem reX12_is : z_Re xX12_is := ⟨rfl, rfl⟩
theorem rlX12_is : 1 ≤ xX12_is.2.2.2.2.2.1.frames ∧ 21 ≤ xX12_is.2.2.2.2.2.1.locals := by unfold xX12_is; exact ⟨by decide, by decide⟩
theorem meX12_is : z_Me yX12_is xX12_is 1 := ⟨wd989, wd893, by decide, by decide, by decide +kernel⟩
noncomputable def kX12_is_25 : zK zR := q_zret
noncomputable def kX12_is_24 : zK zR := (q_push 0 kX12_is_25)
noncomputable def kX12_is_0 : zK zR := (q_aload 0 (q_getI 12 13 (q_if_ne kX12_is_24 (q_aload 0 (q_getR 12 5 (q_aload 0 (q_getI 12 11 (q_iald (q_iload 1 (q_icmp_ne kX12_is_24 (q_push 1 kX12_is_25)))))))))))
set_option maxRecDepth 100000 in
theorem tX12_is_25 {l : Launch} {D : zD} {B sz0 : Nat} {post : Option Value → zS → Prop} : zSnd l D B xX12_is sz0 post 25 kX12_is_25 (z_Jr post) := (s_zret dX12_is_25 rfl)
set_option maxRecDepth 100000 in
theorem tX12_is_24 {l : Launch} {D : zD} {B sz0 : Nat} {post : Option Value → zS → Prop} : zSnd l D B xX12_is sz0 post 24 kX12_is_24 (z_Jr post) := (s_iconst dX12_is_24 (by decide) tX12_is_25)
set_option maxRecDepth 100000 in
theorem tX12_is_0 {l : Launch} {D : zD} {B sz0 : Nat} {post : Option Value → zS → Prop} : zSnd l D B xX12_is sz0 post 0 kX12_is_0 (z_Jr post) := (s_aload_n dX12_is_0 rfl (s_getI (f := 13) dX12_is_1 clX12 (by decide) rfl wd987 (s_if_ne (tgt := 24) dX12_is_4 (by decide) tX12_is_24 (s_aload_n dX12_is_7 rfl (s_getR (f := 5) dX12_is_8 clX12 (by decide) rfl wd910 (s_aload_n dX12_is_11 rfl (s_getI (f := 11) dX12_is_12 clX12 (by decide) rfl wd988 (s_iald dX12_is_15 (s_iload_n dX12_is_16 rfl (s_icmp_ne (tgt := 24) dX12_is_17 (by decide) tX12_is_24 (s_iconst dX12_is_20 (by decide) (s_goto (tgt := 25) dX12_is_21 (by decide) tX12_is_25))))))))))))
noncomputable def fX12_is : zF := z_fn 2 kX12_is_0
theorem mX12_is {l : Launch} {D : zD} {B : Nat} : z_MF l D B yX12_is xX12_is fX12_is := z_mf (by decide) rfl (fun h => by cases h) rfl (fun as σ r h => ⟨z_fn_len h, kX12_is_0, z_fn_run h, fun _ => tX12_is_0⟩)
/-! ===== RowChildrenModel.fail ===== -/
theorem dX12_fail_0 : decode cX12_fail 0 = .ok (.aload_n 0, 1) := by decide +kernel
theorem dX12_fail_1 : decode cX12_fail 1 = .ok (.getfield 219, 3) := by decide +kernel
theorem dX12_fail_4 : decode cX12_fail 4 = .ok (.ifCond .le 4, 3) := by decide +kernel
theorem dX12_fail_7 : decode cX12_fail 7 = .ok (.return_, 1) := by decide +kernel
theorem dX12_fail_8 : decode cX12_fail 8 = .ok (.aload_n 0, 1) := by decide +kernel
theorem dX12_fail_9 : decode cX12_fail 9 = .ok (.iload_n 1, 1) := by decide +kernel
theorem dX12_fail_10 : decode cX12_fail 10 = .ok (.putfield 219, 3) := by decide +kernel
theorem dX12_fail_13 : decode cX12_fail 13 = .ok (.aload_n 0, 1) := by decide +kernel
theorem dX12_fail_14 : decode cX12_fail 14 = .ok (.aload_n 0, 1) := by decide +kernel
theorem dX12_fail_15 : decode cX12_fail 15 = .ok (.getfield 24, 3) := by decide +kernel
theorem dX12_fail_18 : decode cX12_fail 18 = .ok (.aload_n 0, 1) := by decide +kernel
theorem dX12_fail_19 : decode cX12_fail 19 = .ok (.getfield 222, 3) := by decide +kernel
theorem dX12_fail_22 : decode cX12_fail 22 = .ok (.iaload, 1) := by decide +kernel
theorem dX12_fail_23 : decode cX12_fail 23 = .ok (.putfield 225, 3) := by decide +kernel
theorem dX12_fail_26 : decode cX12_fail 26 = .ok (.return_, 1) := by decide +kernel
def xX12_fail : zX := (RX12, cX12_fail, 2, none, false, { frames := 1, cells := 0, slots := 0, locals := 90 }, 0, 0, 0, 0)
theorem rmX12_fail : z_Rm xX12_fail := by unfold z_Rm xX12_fail; exact ⟨by decide, by decide⟩
theorem reX12_fail : z_Re xX12_fail := ⟨rfl, rfl⟩
theorem rlX12_fail : 1 ≤ xX12_fail.2.2.2.2.2.1.frames ∧ 21 ≤ xX12_fail.2.2.2.2.2.1.locals := by unfold xX12_fail; exact ⟨by decide, by decide⟩
theorem meX12_fail : z_Me yX12_fail xX12_fail 1 := ⟨wd991, wd893, by decide, by decide, by decide +kernel⟩
noncomputable def kX12_fail_0 : zK zR := (q_aload 0 (q_getI 12 13 (q_if_le (q_aload 0 (q_iload 1 (q_putI 12 13 (q_aload 0 (q_aload 0 (q_getR 12 6 (q_aload 0 (q_getI 12 11 (q_iald (q_putI 12 14 q_vret)))))))))) q_vret)))
set_option maxRecDepth 100000 in
theorem tX12_fail_0 {l : Launch} {D : zD} {B sz0 : Nat} {post : Option Value → zS → Prop} : zSnd l D B xX12_fail sz0 post 0 kX12_fail_0 (z_Jr post) := (s_aload_n dX12_fail_0 rfl (s_getI (f := 13) dX12_fail_1 clX12 (by decide) rfl wd987 (s_if_le (tgt := 8) dX12_fail_4 (by decide) (s_aload_n dX12_fail_8 rfl (s_iload_n dX12_fail_9 rfl (s_putI (f := 13) dX12_fail_10 clX12 (by decide) rfl rfl rfl wd987 (s_aload_n dX12_fail_13 rfl (s_aload_n dX12_fail_14 rfl (s_getR (f := 6) dX12_fail_15 clX12 (by decide) rfl wd911 (s_aload_n dX12_fail_18 rfl (s_getI (f := 11) dX12_fail_19 clX12 (by decide) rfl wd988 (s_iald dX12_fail_22 (s_putI (f := 14) dX12_fail_23 clX12 (by decide) rfl rfl rfl wd990 (s_vret dX12_fail_26 rfl))))))))))) (s_vret dX12_fail_7 rfl))))
noncomputable def fX12_fail : zF := z_fn 2 kX12_fail_0
theorem mX12_fail {l : Launch} {D : zD} {B : Nat} : z_MF l D B yX12_fail xX12_fail fX12_fail := z_mf (by decide) rfl (fun h => by cases h) rfl (fun as σ r h => ⟨z_fn_len h, kX12_fail_0, z_fn_run h, fun _ => tX12_fail_0⟩)
/-! ===== RowChildrenModel.wrong ===== -/
theorem dX12_wrong_0 : decode cX12_wrong 0 = .ok (.aload_n 0, 1) := by decide +kernel
theorem dX12_wrong_1 : decode cX12_wrong 1 = .ok (.getfield 24, 3) := by decide +kernel
theorem dX12_wrong_4 : decode cX12_wrong 4 = .ok (.iload_n 2, 1) := by decide +kernel
theorem dX12_wrong_5 : decode cX12_wrong 5 = .ok (.iaload, 1) := by decide +kernel
theorem dX12_wrong_6 : decode cX12_wrong 6 = .ok (.istore_n 3, 1) := by decide +kernel
theorem dX12_wrong_7 : decode cX12_wrong 7 = .ok (.aload_n 0, 1) := by decide +kernel
theorem dX12_wrong_8 : decode cX12_wrong 8 = .ok (.getfield 219, 3) := by decide +kernel
theorem dX12_wrong_11 : decode cX12_wrong 11 = .ok (.ifCond .gt 34, 3) := by decide +kernel
theorem dX12_wrong_14 : decode cX12_wrong 14 = .ok (.aload_n 0, 1) := by decide +kernel
theorem dX12_wrong_15 : decode cX12_wrong 15 = .ok (.getfield 228, 3) := by decide +kernel
theorem dX12_wrong_18 : decode cX12_wrong 18 = .ok (.ifCond .eq 28, 3) := by decide +kernel
theorem dX12_wrong_21 : decode cX12_wrong 21 = .ok (.iload_n 3, 1) := by decide +kernel
theorem dX12_wrong_22 : decode cX12_wrong 22 = .ok (.aload_n 0, 1) := by decide +kernel
theorem dX12_wrong_23 : decode cX12_wrong 23 = .ok (.getfield 231, 3) := by decide +kernel
theorem dX12_wrong_26 : decode cX12_wrong 26 = .ok (.if_icmp .gt 19, 3) := by decide +kernel
theorem dX12_wrong_29 : decode cX12_wrong 29 = .ok (.iload_n 3, 1) := by decide +kernel
theorem dX12_wrong_30 : decode cX12_wrong 30 = .ok (.aload_n 0, 1) := by decide +kernel
theorem dX12_wrong_31 : decode cX12_wrong 31 = .ok (.getfield 231, 3) := by decide +kernel
theorem dX12_wrong_34 : decode cX12_wrong 34 = .ok (.if_icmp .ne 12, 3) := by decide +kernel
theorem dX12_wrong_37 : decode cX12_wrong 37 = .ok (.iload_n 1, 1) := by decide +kernel
theorem dX12_wrong_38 : decode cX12_wrong 38 = .ok (.aload_n 0, 1) := by decide +kernel
theorem dX12_wrong_39 : decode cX12_wrong 39 = .ok (.getfield 228, 3) := by decide +kernel
theorem dX12_wrong_42 : decode cX12_wrong 42 = .ok (.if_icmp .lt 4, 3) := by decide +kernel
theorem dX12_wrong_45 : decode cX12_wrong 45 = .ok (.return_, 1) := by decide +kernel
theorem dX12_wrong_46 : decode cX12_wrong 46 = .ok (.aload_n 0, 1) := by decide +kernel
theorem dX12_wrong_47 : decode cX12_wrong 47 = .ok (.iload_n 1, 1) := by decide +kernel
theorem dX12_wrong_48 : decode cX12_wrong 48 = .ok (.putfield 228, 3) := by decide +kernel
theorem dX12_wrong_51 : decode cX12_wrong 51 = .ok (.aload_n 0, 1) := by decide +kernel
theorem dX12_wrong_52 : decode cX12_wrong 52 = .ok (.iload_n 3, 1) := by decide +kernel
theorem dX12_wrong_53 : decode cX12_wrong 53 = .ok (.putfield 231, 3) := by decide +kernel
theorem dX12_wrong_56 : decode cX12_wrong 56 = .ok (.return_, 1) := by decide +kernel
def xX12_wrong : zX := (RX12, cX12_wrong, 4, none, false, { frames := 1, cells := 0, slots := 0, locals := 90 }, 0, 0, 0, 0)
theorem rmX12_wrong : z_Rm xX12_wrong := by unfold z_Rm xX12_wrong; exact ⟨by decide, by decide⟩
theorem reX12_wrong : z_Re xX12_wrong := ⟨rfl, rfl⟩
theorem rlX12_wrong : 1 ≤ xX12_wrong.2.2.2.2.2.1.frames ∧ 21 ≤ xX12_wrong.2.2.2.2.2.1.locals := by unfold xX12_wrong; exact ⟨by decide, by decide⟩
theorem meX12_wrong : z_Me yX12_wrong xX12_wrong 2 := ⟨wd994, wd893, by decide, by decide, by decide +kernel⟩
noncomputable def kX12_wrong_45 : zK zR := q_vret
noncomputable def kX12_wrong_46 : zK zR := (q_aload 0 (q_iload 1 (q_putI 12 15 (q_aload 0 (q_iload 3 (q_putI 12 16 q_vret))))))
noncomputable def kX12_wrong_0 : zK zR := (q_aload 0 (q_getR 12 6 (q_iload 2 (q_iald (q_istore 3 (q_aload 0 (q_getI 12 13 (q_if_gt kX12_wrong_45 (q_aload 0 (q_getI 12 15 (q_if_eq kX12_wrong_46 (q_iload 3 (q_aload 0 (q_getI 12 16 (q_icmp_gt kX12_wrong_45 (q_iload 3 (q_aload 0 (q_getI 12 16 (q_icmp_ne kX12_wrong_46 (q_iload 1 (q_aload 0 (q_getI 12 15 (q_icmp_lt kX12_wrong_46 kX12_wrong_45)))))))))))))))))))))))
set_option maxRecDepth 100000 in
theorem tX12_wrong_45 {l : Launch} {D : zD} {B sz0 : Nat} {post : Option Value → zS → Prop} : zSnd l D B xX12_wrong sz0 post 45 kX12_wrong_45 (z_Jr post) := (s_vret dX12_wrong_45 rfl)
set_option maxRecDepth 100000 in
theorem tX12_wrong_46 {l : Launch} {D : zD} {B sz0 : Nat} {post : Option Value → zS → Prop} : zSnd l D B xX12_wrong sz0 post 46 kX12_wrong_46 (z_Jr post) := (s_aload_n dX12_wrong_46 rfl (s_iload_n dX12_wrong_47 rfl (s_putI (f := 15) dX12_wrong_48 clX12 (by decide) rfl rfl rfl wd992 (s_aload_n dX12_wrong_51 rfl (s_iload_n dX12_wrong_52 rfl (s_putI (f := 16) dX12_wrong_53 clX12 (by decide) rfl rfl rfl wd993 (s_vret dX12_wrong_56 rfl)))))))
set_option maxRecDepth 100000 in
theorem tX12_wrong_0 {l : Launch} {D : zD} {B sz0 : Nat} {post : Option Value → zS → Prop} : zSnd l D B xX12_wrong sz0 post 0 kX12_wrong_0 (z_Jr post) := (s_aload_n dX12_wrong_0 rfl (s_getR (f := 6) dX12_wrong_1 clX12 (by decide) rfl wd911 (s_iload_n dX12_wrong_4 rfl (s_iald dX12_wrong_5 (s_istore_n dX12_wrong_6 rfl (s_aload_n dX12_wrong_7 rfl (s_getI (f := 13) dX12_wrong_8 clX12 (by decide) rfl wd987 (s_if_gt (tgt := 45) dX12_wrong_11 (by decide) tX12_wrong_45 (s_aload_n dX12_wrong_14 rfl (s_getI (f := 15) dX12_wrong_15 clX12 (by decide) rfl wd992 (s_if_eq (tgt := 46) dX12_wrong_18 (by decide) tX12_wrong_46 (s_iload_n dX12_wrong_21 rfl (s_aload_n dX12_wrong_22 rfl (s_getI (f := 16) dX12_wrong_23 clX12 (by decide) rfl wd993 (s_icmp_gt (tgt := 45) dX12_wrong_26 (by decide) tX12_wrong_45 (s_iload_n dX12_wrong_29 rfl (s_aload_n dX12_wrong_30 rfl (s_getI (f := 16) dX12_wrong_31 clX12 (by decide) rfl wd993 (s_icmp_ne (tgt := 46) dX12_wrong_34 (by decide) tX12_wrong_46 (s_iload_n dX12_wrong_37 rfl (s_aload_n dX12_wrong_38 rfl (s_getI (f := 15) dX12_wrong_39 clX12 (by decide) rfl wd992 (s_icmp_lt (tgt := 46) dX12_wrong_42 (by decide) tX12_wrong_46 tX12_wrong_45)))))))))))))))))))))))
noncomputable def fX12_wrong : zF := z_fn 4 kX12_wrong_0
theorem mX12_wrong {l : Launch} {D : zD} {B : Nat} : z_MF l D B yX12_wrong xX12_wrong fX12_wrong := z_mf (by decide) rfl (fun h => by cases h) rfl (fun as σ r h => ⟨z_fn_len h, kX12_wrong_0, z_fn_run h, fun _ => tX12_wrong_0⟩)
/-! ===== RowChildrenModel.goesOn ===== -/
theorem dX12_goesOn_0 : decode cX12_goesOn 0 = .ok (.aload_n 0, 1) := by decide +kernel
theorem dX12_goesOn_1 : decode cX12_goesOn 1 = .ok (.getfield 222, 3) := by decide +kernel
theorem dX12_goesOn_4 : decode cX12_goesOn 4 = .ok (.sipush 400, 3) := by decide +kernel
theorem dX12_goesOn_7 : decode cX12_goesOn 7 = .ok (.if_icmp .ne 11, 3) := by decide +kernel
theorem dX12_goesOn_10 : decode cX12_goesOn 10 = .ok (.aload_n 0, 1) := by decide +kernel
theorem dX12_goesOn_11 : decode cX12_goesOn 11 = .ok (.iconst 2, 1) := by decide +kernel
theorem dX12_goesOn_12 : decode cX12_goesOn 12 = .ok (.invokevirtual 234, 3) := by decide +kernel
theorem dX12_goesOn_15 : decode cX12_goesOn 15 = .ok (.goto 13, 3) := by decide +kernel
theorem dX12_goesOn_18 : decode cX12_goesOn 18 = .ok (.aload_n 0, 1) := by decide +kernel
theorem dX12_goesOn_19 : decode cX12_goesOn 19 = .ok (.dup, 1) := by decide +kernel
theorem dX12_goesOn_20 : decode cX12_goesOn 20 = .ok (.getfield 222, 3) := by decide +kernel
theorem dX12_goesOn_23 : decode cX12_goesOn 23 = .ok (.iconst 1, 1) := by decide +kernel
theorem dX12_goesOn_24 : decode cX12_goesOn 24 = .ok (.iadd, 1) := by decide +kernel
theorem dX12_goesOn_25 : decode cX12_goesOn 25 = .ok (.putfield 222, 3) := by decide +kernel
theorem dX12_goesOn_28 : decode cX12_goesOn 28 = .ok (.return_, 1) := by decide +kernel
def xX12_goesOn : zX := (RX12, cX12_goesOn, 1, none, false, { frames := 2, cells := 0, slots := 0, locals := 111 }, 0, 0, 0, 0)
theorem rmX12_goesOn : z_Rm xX12_goesOn := by unfold z_Rm xX12_goesOn; exact ⟨by decide, by decide⟩
theorem reX12_goesOn : z_Re xX12_goesOn := ⟨rfl, rfl⟩
theorem rlX12_goesOn : 1 ≤ xX12_goesOn.2.2.2.2.2.1.frames ∧ 21 ≤ xX12_goesOn.2.2.2.2.2.1.locals := by unfold xX12_goesOn; exact ⟨by decide, by decide⟩
theorem meX12_goesOn : z_Me yX12_goesOn xX12_goesOn 0 := ⟨wd998, wd893, by decide, by decide, by decide +kernel⟩
theorem fitX12_goesOn_12 : z_Fit xX12_fail xX12_goesOn := by unfold z_Fit; simp only [xX12_fail, xX12_goesOn]; exact ⟨by decide, by decide⟩
noncomputable def kX12_goesOn_28 : zK zR := q_vret
noncomputable def kX12_goesOn_0 : zK zR := (q_aload 0 (q_getI 12 11 (q_push 400 (q_icmp_ne (q_aload 0 (q_dup (q_getI 12 11 (q_push 1 (q_iadd (q_putI 12 11 kX12_goesOn_28)))))) (q_aload 0 (q_push 2 (q_callV 12 fX12_fail 1 kX12_goesOn_28)))))))
set_option maxRecDepth 100000 in
theorem tX12_goesOn_28 {l : Launch} {D : zD} {B sz0 : Nat} {post : Option Value → zS → Prop} : zSnd l D B xX12_goesOn sz0 post 28 kX12_goesOn_28 (z_Jr post) := (s_vret dX12_goesOn_28 rfl)
set_option maxRecDepth 100000 in
theorem tX12_goesOn_0 {l : Launch} {D : zD} {B sz0 : Nat} {post : Option Value → zS → Prop} : zSnd l D B xX12_goesOn sz0 post 0 kX12_goesOn_0 (z_Jr post) := (s_aload_n dX12_goesOn_0 rfl (s_getI (f := 11) dX12_goesOn_1 clX12 (by decide) rfl wd988 (s_sipush dX12_goesOn_4 (by decide) (s_icmp_ne (tgt := 18) dX12_goesOn_7 (by decide) (s_aload_n dX12_goesOn_18 rfl (s_dup dX12_goesOn_19 (s_getI (f := 11) dX12_goesOn_20 clX12 (by decide) rfl wd988 (s_iconst dX12_goesOn_23 (by decide) (s_iadd dX12_goesOn_24 (s_putI (f := 11) dX12_goesOn_25 clX12 (by decide) rfl rfl rfl wd988 tX12_goesOn_28)))))) (s_aload_n dX12_goesOn_10 rfl (s_iconst dX12_goesOn_11 (by decide) (s_callV (r := (RX12, TX12, 74)) dX12_goesOn_12 mX12_fail meX12_fail wd995 wd996 rfl rfl reX12_fail rmX12_goesOn (fitX12_goesOn_12) wd997 (s_goto (tgt := 28) dX12_goesOn_15 (by decide) tX12_goesOn_28))))))))
noncomputable def fX12_goesOn : zF := z_fn 1 kX12_goesOn_0
theorem mX12_goesOn {l : Launch} {D : zD} {B : Nat} : z_MF l D B yX12_goesOn xX12_goesOn fX12_goesOn := z_mf (by decide) rfl (fun h => by cases h) rfl (fun as σ r h => ⟨z_fn_len h, kX12_goesOn_0, z_fn_run h, fun _ => tX12_goesOn_0⟩)
/-! ===== RowChildrenModel.must ===== -/
theorem dX12_must_0 : decode cX12_must 0 = .ok (.aload_n 0, 1) := by decide +kernel
theorem dX12_must_1 : decode cX12_must 1 = .ok (.iload_n 1, 1) := by decide +kernel
theorem dX12_must_2 : decode cX12_must 2 = .ok (.invokevirtual 237, 3) := by decide +kernel
theorem dX12_must_5 : decode cX12_must 5 = .ok (.ifCond .eq 10, 3) := by decide +kernel
theorem dX12_must_8 : decode cX12_must 8 = .ok (.aload_n 0, 1) := by decide +kernel
theorem dX12_must_9 : decode cX12_must 9 = .ok (.invokevirtual 240, 3) := by decide +kernel
theorem dX12_must_12 : decode cX12_must 12 = .ok (.goto 8, 3) := by decide +kernel
theorem dX12_must_15 : decode cX12_must 15 = .ok (.aload_n 0, 1) := by decide +kernel
theorem dX12_must_16 : decode cX12_must 16 = .ok (.iconst 1, 1) := by decide +kernel
theorem dX12_must_17 : decode cX12_must 17 = .ok (.invokevirtual 234, 3) := by decide +kernel
theorem dX12_must_20 : decode cX12_must 20 = .ok (.return_, 1) := by decide +kernel
def xX12_must : zX := (RX12, cX12_must, 2, none, false, { frames := 3, cells := 0, slots := 0, locals := 131 }, 0, 0, 0, 0)
theorem rmX12_must : z_Rm xX12_must := by unfold z_Rm xX12_must; exact ⟨by decide, by decide⟩
theorem reX12_must : z_Re xX12_must := ⟨rfl, rfl⟩
theorem rlX12_must : 1 ≤ xX12_must.2.2.2.2.2.1.frames ∧ 21 ≤ xX12_must.2.2.2.2.2.1.locals := by unfold xX12_must; exact ⟨by decide, by decide⟩
theorem meX12_must : z_Me yX12_must xX12_must 1 := ⟨wd1005, wd893, by decide, by decide, by decide +kernel⟩
theorem fitX12_must_2 : z_Fit xX12_is xX12_must := by unfold z_Fit; simp only [xX12_is, xX12_must]; exact ⟨by decide, by decide⟩
theorem fitX12_must_17 : z_Fit xX12_fail xX12_must := by unfold z_Fit; simp only [xX12_fail, xX12_must]; exact ⟨by decide, by decide⟩
theorem fitX12_must_9 : z_Fit xX12_goesOn xX12_must := by unfold z_Fit; simp only [xX12_goesOn, xX12_must]; exact ⟨by decide, by decide⟩
noncomputable def kX12_must_20 : zK zR := q_vret
noncomputable def kX12_must_0 : zK zR := (q_aload 0 (q_iload 1 (q_callV 12 fX12_is 1 (q_if_eq (q_aload 0 (q_push 1 (q_callV 12 fX12_fail 1 kX12_must_20))) (q_aload 0 (q_callV 12 fX12_goesOn 0 kX12_must_20))))))
set_option maxRecDepth 100000 in
theorem tX12_must_20 {l : Launch} {D : zD} {B sz0 : Nat} {post : Option Value → zS → Prop} : zSnd l D B xX12_must sz0 post 20 kX12_must_20 (z_Jr post) := (s_vret dX12_must_20 rfl)
set_option maxRecDepth 100000 in
theorem tX12_must_0 {l : Launch} {D : zD} {B sz0 : Nat} {post : Option Value → zS → Prop} : zSnd l D B xX12_must sz0 post 0 kX12_must_0 (z_Jr post) := (s_aload_n dX12_must_0 rfl (s_iload_n dX12_must_1 rfl (s_callV (r := (RX12, TX12, 74)) dX12_must_2 mX12_is meX12_is wd999 wd1000 rfl rfl reX12_is rmX12_must (fitX12_must_2) wd1001 (s_if_eq (tgt := 15) dX12_must_5 (by decide) (s_aload_n dX12_must_15 rfl (s_iconst dX12_must_16 (by decide) (s_callV (r := (RX12, TX12, 74)) dX12_must_17 mX12_fail meX12_fail wd995 wd996 rfl rfl reX12_fail rmX12_must (fitX12_must_17) wd997 tX12_must_20))) (s_aload_n dX12_must_8 rfl (s_callV (r := (RX12, TX12, 74)) dX12_must_9 mX12_goesOn meX12_goesOn wd1002 wd1003 rfl rfl reX12_goesOn rmX12_must (fitX12_must_9) wd1004 (s_goto (tgt := 20) dX12_must_12 (by decide) tX12_must_20)))))))
noncomputable def fX12_must : zF := z_fn 2 kX12_must_0
theorem mX12_must {l : Launch} {D : zD} {B : Nat} : z_MF l D B yX12_must xX12_must fX12_must := z_mf (by decide) rfl (fun h => by cases h) rfl (fun as σ r h => ⟨z_fn_len h, kX12_must_0, z_fn_run h, fun _ => tX12_must_0⟩)
/-! ===== RowChildrenModel.bounded ===== -/
theorem dX12_bounded_0 : decode cX12_bounded 0 = .ok (.aload_n 0, 1) := by decide +kernel
theorem dX12_bounded_1 : decode cX12_bounded 1 = .ok (.getfield 219, 3) := by decide +kernel
theorem dX12_bounded_4 : decode cX12_bounded 4 = .ok (.ifCond .gt 11, 3) := by decide +kernel
theorem dX12_bounded_7 : decode cX12_bounded 7 = .ok (.aload_n 0, 1) := by decide +kernel
theorem dX12_bounded_8 : decode cX12_bounded 8 = .ok (.iconst 2, 1) := by decide +kernel
theorem dX12_bounded_9 : decode cX12_bounded 9 = .ok (.invokevirtual 237, 3) := by decide +kernel
theorem dX12_bounded_12 : decode cX12_bounded 12 = .ok (.ifCond .ne 10, 3) := by decide +kernel
theorem dX12_bounded_15 : decode cX12_bounded 15 = .ok (.aload_n 0, 1) := by decide +kernel
theorem dX12_bounded_16 : decode cX12_bounded 16 = .ok (.iconst 1, 1) := by decide +kernel
theorem dX12_bounded_17 : decode cX12_bounded 17 = .ok (.invokevirtual 234, 3) := by decide +kernel
theorem dX12_bounded_20 : decode cX12_bounded 20 = .ok (.iload_n 1, 1) := by decide +kernel
theorem dX12_bounded_21 : decode cX12_bounded 21 = .ok (.ireturn, 1) := by decide +kernel
theorem dX12_bounded_22 : decode cX12_bounded 22 = .ok (.aload_n 0, 1) := by decide +kernel
theorem dX12_bounded_23 : decode cX12_bounded 23 = .ok (.getfield 27, 3) := by decide +kernel
theorem dX12_bounded_26 : decode cX12_bounded 26 = .ok (.aload_n 0, 1) := by decide +kernel
theorem dX12_bounded_27 : decode cX12_bounded 27 = .ok (.getfield 222, 3) := by decide +kernel
theorem dX12_bounded_30 : decode cX12_bounded 30 = .ok (.iaload, 1) := by decide +kernel
theorem dX12_bounded_31 : decode cX12_bounded 31 = .ok (.istore_n 3, 1) := by decide +kernel
theorem dX12_bounded_32 : decode cX12_bounded 32 = .ok (.iload_n 3, 1) := by decide +kernel
theorem dX12_bounded_33 : decode cX12_bounded 33 = .ok (.iload_n 1, 1) := by decide +kernel
theorem dX12_bounded_34 : decode cX12_bounded 34 = .ok (.if_icmp .lt 8, 3) := by decide +kernel
theorem dX12_bounded_37 : decode cX12_bounded 37 = .ok (.iload_n 3, 1) := by decide +kernel
theorem dX12_bounded_38 : decode cX12_bounded 38 = .ok (.iload_n 2, 1) := by decide +kernel
theorem dX12_bounded_39 : decode cX12_bounded 39 = .ok (.if_icmp .le 12, 3) := by decide +kernel
theorem dX12_bounded_42 : decode cX12_bounded 42 = .ok (.aload_n 0, 1) := by decide +kernel
theorem dX12_bounded_43 : decode cX12_bounded 43 = .ok (.iconst 5, 1) := by decide +kernel
theorem dX12_bounded_44 : decode cX12_bounded 44 = .ok (.aload_n 0, 1) := by decide +kernel
theorem dX12_bounded_45 : decode cX12_bounded 45 = .ok (.getfield 222, 3) := by decide +kernel
theorem dX12_bounded_48 : decode cX12_bounded 48 = .ok (.invokevirtual 267, 3) := by decide +kernel
theorem dX12_bounded_51 : decode cX12_bounded 51 = .ok (.aload_n 0, 1) := by decide +kernel
theorem dX12_bounded_52 : decode cX12_bounded 52 = .ok (.invokevirtual 240, 3) := by decide +kernel
theorem dX12_bounded_55 : decode cX12_bounded 55 = .ok (.iload_n 3, 1) := by decide +kernel
theorem dX12_bounded_56 : decode cX12_bounded 56 = .ok (.ireturn, 1) := by decide +kernel
def xX12_bounded : zX := (RX12, cX12_bounded, 4, (some .int), false, { frames := 3, cells := 0, slots := 0, locals := 131 }, 0, 0, 0, 0)
theorem rmX12_bounded : z_Rm xX12_bounded := by unfold z_Rm xX12_bounded; exact ⟨by decide, by decide⟩
theorem reX12_bounded : z_Re xX12_bounded := ⟨rfl, rfl⟩
theorem rlX12_bounded : 1 ≤ xX12_bounded.2.2.2.2.2.1.frames ∧ 21 ≤ xX12_bounded.2.2.2.2.2.1.locals := by unfold xX12_bounded; exact ⟨by decide, by decide⟩
theorem meX12_bounded : z_Me yX12_bounded xX12_bounded 2 := ⟨wd1009, wd893, by decide, by decide, by decide +kernel⟩
theorem fitX12_bounded_17 : z_Fit xX12_fail xX12_bounded := by unfold z_Fit; simp only [xX12_fail, xX12_bounded]; exact ⟨by decide, by decide⟩
theorem fitX12_bounded_9 : z_Fit xX12_is xX12_bounded := by unfold z_Fit; simp only [xX12_is, xX12_bounded]; exact ⟨by decide, by decide⟩
theorem fitX12_bounded_48 : z_Fit xX12_wrong xX12_bounded := by unfold z_Fit; simp only [xX12_wrong, xX12_bounded]; exact ⟨by decide, by decide⟩
theorem fitX12_bounded_52 : z_Fit xX12_goesOn xX12_bounded := by unfold z_Fit; simp only [xX12_goesOn, xX12_bounded]; exact ⟨by decide, by decide⟩
noncomputable def kX12_bounded_15 : zK zR := (q_aload 0 (q_push 1 (q_callV 12 fX12_fail 1 (q_iload 1 q_iret))))
noncomputable def kX12_bounded_51 : zK zR := (q_aload 0 (q_callV 12 fX12_goesOn 0 (q_iload 3 q_iret)))
noncomputable def kX12_bounded_42 : zK zR := (q_aload 0 (q_push 5 (q_aload 0 (q_getI 12 11 (q_callV 12 fX12_wrong 2 kX12_bounded_51)))))
noncomputable def kX12_bounded_0 : zK zR := (q_aload 0 (q_getI 12 13 (q_if_gt kX12_bounded_15 (q_aload 0 (q_push 2 (q_callV 12 fX12_is 1 (q_if_ne (q_aload 0 (q_getR 12 7 (q_aload 0 (q_getI 12 11 (q_iald (q_istore 3 (q_iload 3 (q_iload 1 (q_icmp_lt kX12_bounded_42 (q_iload 3 (q_iload 2 (q_icmp_le kX12_bounded_51 kX12_bounded_42)))))))))))) kX12_bounded_15)))))))
set_option maxRecDepth 100000 in
theorem tX12_bounded_15 {l : Launch} {D : zD} {B sz0 : Nat} {post : Option Value → zS → Prop} : zSnd l D B xX12_bounded sz0 post 15 kX12_bounded_15 (z_Jr post) := (s_aload_n dX12_bounded_15 rfl (s_iconst dX12_bounded_16 (by decide) (s_callV (r := (RX12, TX12, 74)) dX12_bounded_17 mX12_fail meX12_fail wd995 wd996 rfl rfl reX12_fail rmX12_bounded (fitX12_bounded_17) wd997 (s_iload_n dX12_bounded_20 rfl (s_iret dX12_bounded_21 rfl)))))
set_option maxRecDepth 100000 in
theorem tX12_bounded_51 {l : Launch} {D : zD} {B sz0 : Nat} {post : Option Value → zS → Prop} : zSnd l D B xX12_bounded sz0 post 51 kX12_bounded_51 (z_Jr post) := (s_aload_n dX12_bounded_51 rfl (s_callV (r := (RX12, TX12, 74)) dX12_bounded_52 mX12_goesOn meX12_goesOn wd1002 wd1003 rfl rfl reX12_goesOn rmX12_bounded (fitX12_bounded_52) wd1004 (s_iload_n dX12_bounded_55 rfl (s_iret dX12_bounded_56 rfl))))
set_option maxRecDepth 100000 in
theorem tX12_bounded_42 {l : Launch} {D : zD} {B sz0 : Nat} {post : Option Value → zS → Prop} : zSnd l D B xX12_bounded sz0 post 42 kX12_bounded_42 (z_Jr post) := (s_aload_n dX12_bounded_42 rfl (s_iconst dX12_bounded_43 (by decide) (s_aload_n dX12_bounded_44 rfl (s_getI (f := 11) dX12_bounded_45 clX12 (by decide) rfl wd988 (s_callV (r := (RX12, TX12, 74)) dX12_bounded_48 mX12_wrong meX12_wrong wd1006 wd1007 rfl rfl reX12_wrong rmX12_bounded (fitX12_bounded_48) wd1008 tX12_bounded_51)))))
set_option maxRecDepth 100000 in
theorem tX12_bounded_0 {l : Launch} {D : zD} {B sz0 : Nat} {post : Option Value → zS → Prop} : zSnd l D B xX12_bounded sz0 post 0 kX12_bounded_0 (z_Jr post) := (s_aload_n dX12_bounded_0 rfl (s_getI (f := 13) dX12_bounded_1 clX12 (by decide) rfl wd987 (s_if_gt (tgt := 15) dX12_bounded_4 (by decide) tX12_bounded_15 (s_aload_n dX12_bounded_7 rfl (s_iconst dX12_bounded_8 (by decide) (s_callV (r := (RX12, TX12, 74)) dX12_bounded_9 mX12_is meX12_is wd999 wd1000 rfl rfl reX12_is rmX12_bounded (fitX12_bounded_9) wd1001 (s_if_ne (tgt := 22) dX12_bounded_12 (by decide) (s_aload_n dX12_bounded_22 rfl (s_getR (f := 7) dX12_bounded_23 clX12 (by decide) rfl wd912 (s_aload_n dX12_bounded_26 rfl (s_getI (f := 11) dX12_bounded_27 clX12 (by decide) rfl wd988 (s_iald dX12_bounded_30 (s_istore_n dX12_bounded_31 rfl (s_iload_n dX12_bounded_32 rfl (s_iload_n dX12_bounded_33 rfl (s_icmp_lt (tgt := 42) dX12_bounded_34 (by decide) tX12_bounded_42 (s_iload_n dX12_bounded_37 rfl (s_iload_n dX12_bounded_38 rfl (s_icmp_le (tgt := 51) dX12_bounded_39 (by decide) tX12_bounded_51 tX12_bounded_42)))))))))))) tX12_bounded_15)))))))
noncomputable def fX12_bounded : zF := z_fn 4 kX12_bounded_0
theorem mX12_bounded {l : Launch} {D : zD} {B : Nat} : z_MF l D B yX12_bounded xX12_bounded fX12_bounded := z_mf (by decide) rfl (fun h => by cases h) rfl (fun as σ r h => ⟨z_fn_len h, kX12_bounded_0, z_fn_run h, fun _ => tX12_bounded_0⟩)
/-! ===== RowChildrenModel.roomFor ===== -/
theorem dX12_roomFor_0 : decode cX12_roomFor 0 = .ok (.iload_n 1, 1) := by decide +kernel
theorem dX12_roomFor_1 : decode cX12_roomFor 1 = .ok (.iload_n 2, 1) := by decide +kernel
theorem dX12_roomFor_2 : decode cX12_roomFor 2 = .ok (.if_icmp .ne 8, 3) := by decide +kernel
theorem dX12_roomFor_5 : decode cX12_roomFor 5 = .ok (.aload_n 0, 1) := by decide +kernel
theorem dX12_roomFor_6 : decode cX12_roomFor 6 = .ok (.iconst 2, 1) := by decide +kernel
theorem dX12_roomFor_7 : decode cX12_roomFor 7 = .ok (.invokevirtual 234, 3) := by decide +kernel
theorem dX12_roomFor_10 : decode cX12_roomFor 10 = .ok (.aload_n 0, 1) := by decide +kernel
theorem dX12_roomFor_11 : decode cX12_roomFor 11 = .ok (.getfield 219, 3) := by decide +kernel
theorem dX12_roomFor_14 : decode cX12_roomFor 14 = .ok (.ifCond .ne 7, 3) := by decide +kernel
theorem dX12_roomFor_17 : decode cX12_roomFor 17 = .ok (.aload_n 0, 1) := by decide +kernel
theorem dX12_roomFor_18 : decode cX12_roomFor 18 = .ok (.invokevirtual 240, 3) := by decide +kernel
theorem dX12_roomFor_21 : decode cX12_roomFor 21 = .ok (.return_, 1) := by decide +kernel
def xX12_roomFor : zX := (RX12, cX12_roomFor, 3, none, false, { frames := 3, cells := 0, slots := 0, locals := 131 }, 0, 0, 0, 0)
theorem rmX12_roomFor : z_Rm xX12_roomFor := by unfold z_Rm xX12_roomFor; exact ⟨by decide, by decide⟩
theorem reX12_roomFor : z_Re xX12_roomFor := ⟨rfl, rfl⟩
theorem rlX12_roomFor : 1 ≤ xX12_roomFor.2.2.2.2.2.1.frames ∧ 21 ≤ xX12_roomFor.2.2.2.2.2.1.locals := by unfold xX12_roomFor; exact ⟨by decide, by decide⟩
theorem meX12_roomFor : z_Me yX12_roomFor xX12_roomFor 2 := ⟨wd1010, wd893, by decide, by decide, by decide +kernel⟩
theorem fitX12_roomFor_18 : z_Fit xX12_goesOn xX12_roomFor := by unfold z_Fit; simp only [xX12_goesOn, xX12_roomFor]; exact ⟨by decide, by decide⟩
theorem fitX12_roomFor_7 : z_Fit xX12_fail xX12_roomFor := by unfold z_Fit; simp only [xX12_fail, xX12_roomFor]; exact ⟨by decide, by decide⟩
noncomputable def kX12_roomFor_21 : zK zR := q_vret
noncomputable def kX12_roomFor_10 : zK zR := (q_aload 0 (q_getI 12 13 (q_if_ne kX12_roomFor_21 (q_aload 0 (q_callV 12 fX12_goesOn 0 kX12_roomFor_21)))))
noncomputable def kX12_roomFor_0 : zK zR := (q_iload 1 (q_iload 2 (q_icmp_ne kX12_roomFor_10 (q_aload 0 (q_push 2 (q_callV 12 fX12_fail 1 kX12_roomFor_10))))))
set_option maxRecDepth 100000 in
theorem tX12_roomFor_21 {l : Launch} {D : zD} {B sz0 : Nat} {post : Option Value → zS → Prop} : zSnd l D B xX12_roomFor sz0 post 21 kX12_roomFor_21 (z_Jr post) := (s_vret dX12_roomFor_21 rfl)
set_option maxRecDepth 100000 in
theorem tX12_roomFor_10 {l : Launch} {D : zD} {B sz0 : Nat} {post : Option Value → zS → Prop} : zSnd l D B xX12_roomFor sz0 post 10 kX12_roomFor_10 (z_Jr post) := (s_aload_n dX12_roomFor_10 rfl (s_getI (f := 13) dX12_roomFor_11 clX12 (by decide) rfl wd987 (s_if_ne (tgt := 21) dX12_roomFor_14 (by decide) tX12_roomFor_21 (s_aload_n dX12_roomFor_17 rfl (s_callV (r := (RX12, TX12, 74)) dX12_roomFor_18 mX12_goesOn meX12_goesOn wd1002 wd1003 rfl rfl reX12_goesOn rmX12_roomFor (fitX12_roomFor_18) wd1004 tX12_roomFor_21)))))
set_option maxRecDepth 100000 in
theorem tX12_roomFor_0 {l : Launch} {D : zD} {B sz0 : Nat} {post : Option Value → zS → Prop} : zSnd l D B xX12_roomFor sz0 post 0 kX12_roomFor_0 (z_Jr post) := (s_iload_n dX12_roomFor_0 rfl (s_iload_n dX12_roomFor_1 rfl (s_icmp_ne (tgt := 10) dX12_roomFor_2 (by decide) tX12_roomFor_10 (s_aload_n dX12_roomFor_5 rfl (s_iconst dX12_roomFor_6 (by decide) (s_callV (r := (RX12, TX12, 74)) dX12_roomFor_7 mX12_fail meX12_fail wd995 wd996 rfl rfl reX12_fail rmX12_roomFor (fitX12_roomFor_7) wd997 tX12_roomFor_10))))))
noncomputable def fX12_roomFor : zF := z_fn 3 kX12_roomFor_0
theorem mX12_roomFor {l : Launch} {D : zD} {B : Nat} : z_MF l D B yX12_roomFor xX12_roomFor fX12_roomFor := z_mf (by decide) rfl (fun h => by cases h) rfl (fun as σ r h => ⟨z_fn_len h, kX12_roomFor_0, z_fn_run h, fun _ => tX12_roomFor_0⟩)
/-! ===== RowChildrenModel.colourTold ===== -/
theorem dX12_colourTold_0 : decode cX12_colourTold 0 = .ok (.aload_n 0, 1) := by decide +kernel
theorem dX12_colourTold_1 : decode cX12_colourTold 1 = .ok (.iconst 0, 1) := by decide +kernel
theorem dX12_colourTold_2 : decode cX12_colourTold 2 = .ok (.iconst 3, 1) := by decide +kernel
theorem dX12_colourTold_3 : decode cX12_colourTold 3 = .ok (.invokevirtual 277, 3) := by decide +kernel
theorem dX12_colourTold_6 : decode cX12_colourTold 6 = .ok (.istore_n 1, 1) := by decide +kernel
theorem dX12_colourTold_7 : decode cX12_colourTold 7 = .ok (.iload_n 1, 1) := by decide +kernel
theorem dX12_colourTold_8 : decode cX12_colourTold 8 = .ok (.aload_n 0, 1) := by decide +kernel
theorem dX12_colourTold_9 : decode cX12_colourTold 9 = .ok (.getfield 52, 3) := by decide +kernel
theorem dX12_colourTold_12 : decode cX12_colourTold 12 = .ok (.aload_n 0, 1) := by decide +kernel
theorem dX12_colourTold_13 : decode cX12_colourTold 13 = .ok (.getfield 252, 3) := by decide +kernel
theorem dX12_colourTold_16 : decode cX12_colourTold 16 = .ok (.iaload, 1) := by decide +kernel
theorem dX12_colourTold_17 : decode cX12_colourTold 17 = .ok (.if_icmp .le 13, 3) := by decide +kernel
theorem dX12_colourTold_20 : decode cX12_colourTold 20 = .ok (.aload_n 0, 1) := by decide +kernel
theorem dX12_colourTold_21 : decode cX12_colourTold 21 = .ok (.getfield 52, 3) := by decide +kernel
theorem dX12_colourTold_24 : decode cX12_colourTold 24 = .ok (.aload_n 0, 1) := by decide +kernel
theorem dX12_colourTold_25 : decode cX12_colourTold 25 = .ok (.getfield 252, 3) := by decide +kernel
theorem dX12_colourTold_28 : decode cX12_colourTold 28 = .ok (.iload_n 1, 1) := by decide +kernel
theorem dX12_colourTold_29 : decode cX12_colourTold 29 = .ok (.iastore, 1) := by decide +kernel
theorem dX12_colourTold_30 : decode cX12_colourTold 30 = .ok (.iload_n 1, 1) := by decide +kernel
theorem dX12_colourTold_31 : decode cX12_colourTold 31 = .ok (.ifCond .lt 8, 3) := by decide +kernel
theorem dX12_colourTold_34 : decode cX12_colourTold 34 = .ok (.iload_n 1, 1) := by decide +kernel
theorem dX12_colourTold_35 : decode cX12_colourTold 35 = .ok (.iconst 3, 1) := by decide +kernel
theorem dX12_colourTold_36 : decode cX12_colourTold 36 = .ok (.if_icmp .le 7, 3) := by decide +kernel
theorem dX12_colourTold_39 : decode cX12_colourTold 39 = .ok (.iconst 0, 1) := by decide +kernel
theorem dX12_colourTold_40 : decode cX12_colourTold 40 = .ok (.goto 4, 3) := by decide +kernel
theorem dX12_colourTold_43 : decode cX12_colourTold 43 = .ok (.iload_n 1, 1) := by decide +kernel
theorem dX12_colourTold_44 : decode cX12_colourTold 44 = .ok (.ireturn, 1) := by decide +kernel
def xX12_colourTold : zX := (RX12, cX12_colourTold, 2, (some .int), false, { frames := 4, cells := 0, slots := 0, locals := 154 }, 0, 0, 0, 0)
theorem rmX12_colourTold : z_Rm xX12_colourTold := by unfold z_Rm xX12_colourTold; exact ⟨by decide, by decide⟩
theorem reX12_colourTold : z_Re xX12_colourTold := ⟨rfl, rfl⟩
theorem rlX12_colourTold : 1 ≤ xX12_colourTold.2.2.2.2.2.1.frames ∧ 21 ≤ xX12_colourTold.2.2.2.2.2.1.locals := by unfold xX12_colourTold; exact ⟨by decide, by decide⟩
theorem meX12_colourTold : z_Me yX12_colourTold xX12_colourTold 0 := ⟨wd1015, wd893, by decide, by decide, by decide +kernel⟩
theorem fitX12_colourTold_3 : z_Fit xX12_bounded xX12_colourTold := by unfold z_Fit; simp only [xX12_bounded, xX12_colourTold]; exact ⟨by decide, by decide⟩
noncomputable def kX12_colourTold_44 : zK zR := q_iret
noncomputable def kX12_colourTold_39 : zK zR := (q_push 0 kX12_colourTold_44)
noncomputable def kX12_colourTold_30 : zK zR := (q_iload 1 (q_if_lt kX12_colourTold_39 (q_iload 1 (q_push 3 (q_icmp_le (q_iload 1 kX12_colourTold_44) kX12_colourTold_39)))))
noncomputable def kX12_colourTold_0 : zK zR := (q_aload 0 (q_push 0 (q_push 3 (q_callV 12 fX12_bounded 2 (q_istore 1 (q_iload 1 (q_aload 0 (q_getR 12 25 (q_aload 0 (q_getI 12 19 (q_iald (q_icmp_le kX12_colourTold_30 (q_aload 0 (q_getR 12 25 (q_aload 0 (q_getI 12 19 (q_iload 1 (q_iast kX12_colourTold_30))))))))))))))))))
set_option maxRecDepth 100000 in
theorem tX12_colourTold_44 {l : Launch} {D : zD} {B sz0 : Nat} {post : Option Value → zS → Prop} : zSnd l D B xX12_colourTold sz0 post 44 kX12_colourTold_44 (z_Jr post) := (s_iret dX12_colourTold_44 rfl)
set_option maxRecDepth 100000 in
theorem tX12_colourTold_39 {l : Launch} {D : zD} {B sz0 : Nat} {post : Option Value → zS → Prop} : zSnd l D B xX12_colourTold sz0 post 39 kX12_colourTold_39 (z_Jr post) := (s_iconst dX12_colourTold_39 (by decide) (s_goto (tgt := 44) dX12_colourTold_40 (by decide) tX12_colourTold_44))
set_option maxRecDepth 100000 in
theorem tX12_colourTold_30 {l : Launch} {D : zD} {B sz0 : Nat} {post : Option Value → zS → Prop} : zSnd l D B xX12_colourTold sz0 post 30 kX12_colourTold_30 (z_Jr post) := (s_iload_n dX12_colourTold_30 rfl (s_if_lt (tgt := 39) dX12_colourTold_31 (by decide) tX12_colourTold_39 (s_iload_n dX12_colourTold_34 rfl (s_iconst dX12_colourTold_35 (by decide) (s_icmp_le (tgt := 43) dX12_colourTold_36 (by decide) (s_iload_n dX12_colourTold_43 rfl tX12_colourTold_44) tX12_colourTold_39)))))
set_option maxRecDepth 100000 in
theorem tX12_colourTold_0 {l : Launch} {D : zD} {B sz0 : Nat} {post : Option Value → zS → Prop} : zSnd l D B xX12_colourTold sz0 post 0 kX12_colourTold_0 (z_Jr post) := (s_aload_n dX12_colourTold_0 rfl (s_iconst dX12_colourTold_1 (by decide) (s_iconst dX12_colourTold_2 (by decide) (s_callV (r := (RX12, TX12, 74)) dX12_colourTold_3 mX12_bounded meX12_bounded wd1011 wd1012 rfl rfl reX12_bounded rmX12_colourTold (fitX12_colourTold_3) wd1013 (s_istore_n dX12_colourTold_6 rfl (s_iload_n dX12_colourTold_7 rfl (s_aload_n dX12_colourTold_8 rfl (s_getR (f := 25) dX12_colourTold_9 clX12 (by decide) rfl wd886 (s_aload_n dX12_colourTold_12 rfl (s_getI (f := 19) dX12_colourTold_13 clX12 (by decide) rfl wd1014 (s_iald dX12_colourTold_16 (s_icmp_le (tgt := 30) dX12_colourTold_17 (by decide) tX12_colourTold_30 (s_aload_n dX12_colourTold_20 rfl (s_getR (f := 25) dX12_colourTold_21 clX12 (by decide) rfl wd886 (s_aload_n dX12_colourTold_24 rfl (s_getI (f := 19) dX12_colourTold_25 clX12 (by decide) rfl wd1014 (s_iload_n dX12_colourTold_28 rfl (s_iast dX12_colourTold_29 tX12_colourTold_30))))))))))))))))))
noncomputable def fX12_colourTold : zF := z_fn 2 kX12_colourTold_0
theorem mX12_colourTold {l : Launch} {D : zD} {B : Nat} : z_MF l D B yX12_colourTold xX12_colourTold fX12_colourTold := z_mf (by decide) rfl (fun h => by cases h) rfl (fun as σ r h => ⟨z_fn_len h, kX12_colourTold_0, z_fn_run h, fun _ => tX12_colourTold_0⟩)
/-! ===== RowChildrenModel.tellChild ===== -/
theorem dX12_tellChild_0 : decode cX12_tellChild 0 = .ok (.aload_n 0, 1) := by decide +kernel
theorem dX12_tellChild_1 : decode cX12_tellChild 1 = .ok (.invokevirtual 296, 3) := by decide +kernel
theorem dX12_tellChild_4 : decode cX12_tellChild 4 = .ok (.istore_n 1, 1) := by decide +kernel
theorem dX12_tellChild_5 : decode cX12_tellChild 5 = .ok (.aload_n 0, 1) := by decide +kernel
theorem dX12_tellChild_6 : decode cX12_tellChild 6 = .ok (.invokevirtual 296, 3) := by decide +kernel
theorem dX12_tellChild_9 : decode cX12_tellChild 9 = .ok (.istore_n 2, 1) := by decide +kernel
theorem dX12_tellChild_10 : decode cX12_tellChild 10 = .ok (.aload_n 0, 1) := by decide +kernel
theorem dX12_tellChild_11 : decode cX12_tellChild 11 = .ok (.invokevirtual 296, 3) := by decide +kernel
theorem dX12_tellChild_14 : decode cX12_tellChild 14 = .ok (.istore_n 3, 1) := by decide +kernel
theorem dX12_tellChild_15 : decode cX12_tellChild 15 = .ok (.aload_n 0, 1) := by decide +kernel
theorem dX12_tellChild_16 : decode cX12_tellChild 16 = .ok (.iconst 4, 1) := by decide +kernel
theorem dX12_tellChild_17 : decode cX12_tellChild 17 = .ok (.invokevirtual 281, 3) := by decide +kernel
theorem dX12_tellChild_20 : decode cX12_tellChild 20 = .ok (.aload_n 0, 1) := by decide +kernel
theorem dX12_tellChild_21 : decode cX12_tellChild 21 = .ok (.getfield 219, 3) := by decide +kernel
theorem dX12_tellChild_24 : decode cX12_tellChild 24 = .ok (.ifCond .le 4, 3) := by decide +kernel
theorem dX12_tellChild_27 : decode cX12_tellChild 27 = .ok (.return_, 1) := by decide +kernel
theorem dX12_tellChild_28 : decode cX12_tellChild 28 = .ok (.aload_n 0, 1) := by decide +kernel
theorem dX12_tellChild_29 : decode cX12_tellChild 29 = .ok (.getfield 46, 3) := by decide +kernel
theorem dX12_tellChild_32 : decode cX12_tellChild 32 = .ok (.aload_n 0, 1) := by decide +kernel
theorem dX12_tellChild_33 : decode cX12_tellChild 33 = .ok (.getfield 252, 3) := by decide +kernel
theorem dX12_tellChild_36 : decode cX12_tellChild 36 = .ok (.dup2, 1) := by decide +kernel
theorem dX12_tellChild_37 : decode cX12_tellChild 37 = .ok (.iaload, 1) := by decide +kernel
theorem dX12_tellChild_38 : decode cX12_tellChild 38 = .ok (.iconst 1, 1) := by decide +kernel
theorem dX12_tellChild_39 : decode cX12_tellChild 39 = .ok (.iadd, 1) := by decide +kernel
theorem dX12_tellChild_40 : decode cX12_tellChild 40 = .ok (.iastore, 1) := by decide +kernel
theorem dX12_tellChild_41 : decode cX12_tellChild 41 = .ok (.aload_n 0, 1) := by decide +kernel
theorem dX12_tellChild_42 : decode cX12_tellChild 42 = .ok (.getfield 49, 3) := by decide +kernel
theorem dX12_tellChild_45 : decode cX12_tellChild 45 = .ok (.bipush 16, 2) := by decide +kernel
theorem dX12_tellChild_47 : decode cX12_tellChild 47 = .ok (.aload_n 0, 1) := by decide +kernel
theorem dX12_tellChild_48 : decode cX12_tellChild 48 = .ok (.getfield 252, 3) := by decide +kernel
theorem dX12_tellChild_51 : decode cX12_tellChild 51 = .ok (.imul, 1) := by decide +kernel
theorem dX12_tellChild_52 : decode cX12_tellChild 52 = .ok (.iconst 4, 1) := by decide +kernel
theorem dX12_tellChild_53 : decode cX12_tellChild 53 = .ok (.iload_n 1, 1) := by decide +kernel
theorem dX12_tellChild_54 : decode cX12_tellChild 54 = .ok (.imul, 1) := by decide +kernel
theorem dX12_tellChild_55 : decode cX12_tellChild 55 = .ok (.iadd, 1) := by decide +kernel
theorem dX12_tellChild_56 : decode cX12_tellChild 56 = .ok (.iload_n 2, 1) := by decide +kernel
theorem dX12_tellChild_57 : decode cX12_tellChild 57 = .ok (.iadd, 1) := by decide +kernel
theorem dX12_tellChild_58 : decode cX12_tellChild 58 = .ok (.iload_n 3, 1) := by decide +kernel
theorem dX12_tellChild_59 : decode cX12_tellChild 59 = .ok (.iastore, 1) := by decide +kernel
theorem dX12_tellChild_60 : decode cX12_tellChild 60 = .ok (.return_, 1) := by decide +kernel
def xX12_tellChild : zX := (RX12, cX12_tellChild, 4, none, false, { frames := 5, cells := 0, slots := 0, locals := 175 }, 0, 0, 0, 0)
theorem rmX12_tellChild : z_Rm xX12_tellChild := by unfold z_Rm xX12_tellChild; exact ⟨by decide, by decide⟩
theorem reX12_tellChild : z_Re xX12_tellChild := ⟨rfl, rfl⟩
theorem rlX12_tellChild : 1 ≤ xX12_tellChild.2.2.2.2.2.1.frames ∧ 21 ≤ xX12_tellChild.2.2.2.2.2.1.locals := by unfold xX12_tellChild; exact ⟨by decide, by decide⟩
theorem meX12_tellChild : z_Me yX12_tellChild xX12_tellChild 0 := ⟨wd1022, wd893, by decide, by decide, by decide +kernel⟩
theorem fitX12_tellChild_1 : z_Fit xX12_colourTold xX12_tellChild := by unfold z_Fit; simp only [xX12_colourTold, xX12_tellChild]; exact ⟨by decide, by decide⟩
theorem fitX12_tellChild_6 : z_Fit xX12_colourTold xX12_tellChild := by unfold z_Fit; simp only [xX12_colourTold, xX12_tellChild]; exact ⟨by decide, by decide⟩
theorem fitX12_tellChild_11 : z_Fit xX12_colourTold xX12_tellChild := by unfold z_Fit; simp only [xX12_colourTold, xX12_tellChild]; exact ⟨by decide, by decide⟩
theorem fitX12_tellChild_17 : z_Fit xX12_must xX12_tellChild := by unfold z_Fit; simp only [xX12_must, xX12_tellChild]; exact ⟨by decide, by decide⟩
noncomputable def kX12_tellChild_0 : zK zR := (q_aload 0 (q_callV 12 fX12_colourTold 0 (q_istore 1 (q_aload 0 (q_callV 12 fX12_colourTold 0 (q_istore 2 (q_aload 0 (q_callV 12 fX12_colourTold 0 (q_istore 3 (q_aload 0 (q_push 4 (q_callV 12 fX12_must 1 (q_aload 0 (q_getI 12 13 (q_if_le (q_aload 0 (q_getR 12 23 (q_aload 0 (q_getI 12 19 (q_dup2 (q_iald (q_push 1 (q_iadd (q_iast (q_aload 0 (q_getR 12 24 (q_push 16 (q_aload 0 (q_getI 12 19 (q_imul (q_push 4 (q_iload 1 (q_imul (q_iadd (q_iload 2 (q_iadd (q_iload 3 (q_iast q_vret))))))))))))))))))))))) q_vret)))))))))))))))
set_option maxRecDepth 100000 in
theorem tX12_tellChild_0 {l : Launch} {D : zD} {B sz0 : Nat} {post : Option Value → zS → Prop} : zSnd l D B xX12_tellChild sz0 post 0 kX12_tellChild_0 (z_Jr post) := (s_aload_n dX12_tellChild_0 rfl (s_callV (r := (RX12, TX12, 74)) dX12_tellChild_1 mX12_colourTold meX12_colourTold wd1016 wd1017 rfl rfl reX12_colourTold rmX12_tellChild (fitX12_tellChild_1) wd1018 (s_istore_n dX12_tellChild_4 rfl (s_aload_n dX12_tellChild_5 rfl (s_callV (r := (RX12, TX12, 74)) dX12_tellChild_6 mX12_colourTold meX12_colourTold wd1016 wd1017 rfl rfl reX12_colourTold rmX12_tellChild (fitX12_tellChild_6) wd1018 (s_istore_n dX12_tellChild_9 rfl (s_aload_n dX12_tellChild_10 rfl (s_callV (r := (RX12, TX12, 74)) dX12_tellChild_11 mX12_colourTold meX12_colourTold wd1016 wd1017 rfl rfl reX12_colourTold rmX12_tellChild (fitX12_tellChild_11) wd1018 (s_istore_n dX12_tellChild_14 rfl (s_aload_n dX12_tellChild_15 rfl (s_iconst dX12_tellChild_16 (by decide) (s_callV (r := (RX12, TX12, 74)) dX12_tellChild_17 mX12_must meX12_must wd1019 wd1020 rfl rfl reX12_must rmX12_tellChild (fitX12_tellChild_17) wd1021 (s_aload_n dX12_tellChild_20 rfl (s_getI (f := 13) dX12_tellChild_21 clX12 (by decide) rfl wd987 (s_if_le (tgt := 28) dX12_tellChild_24 (by decide) (s_aload_n dX12_tellChild_28 rfl (s_getR (f := 23) dX12_tellChild_29 clX12 (by decide) rfl wd885 (s_aload_n dX12_tellChild_32 rfl (s_getI (f := 19) dX12_tellChild_33 clX12 (by decide) rfl wd1014 (s_dup2 dX12_tellChild_36 (s_iald dX12_tellChild_37 (s_iconst dX12_tellChild_38 (by decide) (s_iadd dX12_tellChild_39 (s_iast dX12_tellChild_40 (s_aload_n dX12_tellChild_41 rfl (s_getR (f := 24) dX12_tellChild_42 clX12 (by decide) rfl wd891 (s_bipush dX12_tellChild_45 (by decide) (s_aload_n dX12_tellChild_47 rfl (s_getI (f := 19) dX12_tellChild_48 clX12 (by decide) rfl wd1014 (s_imul dX12_tellChild_51 (s_iconst dX12_tellChild_52 (by decide) (s_iload_n dX12_tellChild_53 rfl (s_imul dX12_tellChild_54 (s_iadd dX12_tellChild_55 (s_iload_n dX12_tellChild_56 rfl (s_iadd dX12_tellChild_57 (s_iload_n dX12_tellChild_58 rfl (s_iast dX12_tellChild_59 (s_vret dX12_tellChild_60 rfl)))))))))))))))))))))))) (s_vret dX12_tellChild_27 rfl))))))))))))))))
noncomputable def fX12_tellChild : zF := z_fn 4 kX12_tellChild_0
theorem mX12_tellChild {l : Launch} {D : zD} {B : Nat} : z_MF l D B yX12_tellChild xX12_tellChild fX12_tellChild := z_mf (by decide) rfl (fun h => by cases h) rfl (fun as σ r h => ⟨z_fn_len h, kX12_tellChild_0, z_fn_run h, fun _ => tX12_tellChild_0⟩)
/-! ===== RowChildrenModel.tellRow ===== -/
theorem dX12_tellRow_0 : decode cX12_tellRow 0 = .ok (.iconst 4, 1) := by decide +kernel
theorem dX12_tellRow_1 : decode cX12_tellRow 1 = .ok (.aload_n 0, 1) := by decide +kernel
theorem dX12_tellRow_2 : decode cX12_tellRow 2 = .ok (.getfield 252, 3) := by decide +kernel
theorem dX12_tellRow_5 : decode cX12_tellRow 5 = .ok (.imul, 1) := by decide +kernel
theorem dX12_tellRow_6 : decode cX12_tellRow 6 = .ok (.aload_n 0, 1) := by decide +kernel
theorem dX12_tellRow_7 : decode cX12_tellRow 7 = .ok (.getfield 55, 3) := by decide +kernel
theorem dX12_tellRow_10 : decode cX12_tellRow 10 = .ok (.aload_n 0, 1) := by decide +kernel
theorem dX12_tellRow_11 : decode cX12_tellRow 11 = .ok (.getfield 252, 3) := by decide +kernel
theorem dX12_tellRow_14 : decode cX12_tellRow 14 = .ok (.iaload, 1) := by decide +kernel
theorem dX12_tellRow_15 : decode cX12_tellRow 15 = .ok (.iadd, 1) := by decide +kernel
theorem dX12_tellRow_16 : decode cX12_tellRow 16 = .ok (.istore_n 1, 1) := by decide +kernel
theorem dX12_tellRow_17 : decode cX12_tellRow 17 = .ok (.aload_n 0, 1) := by decide +kernel
theorem dX12_tellRow_18 : decode cX12_tellRow 18 = .ok (.getfield 222, 3) := by decide +kernel
theorem dX12_tellRow_21 : decode cX12_tellRow 21 = .ok (.istore_n 2, 1) := by decide +kernel
theorem dX12_tellRow_22 : decode cX12_tellRow 22 = .ok (.aload_n 0, 1) := by decide +kernel
theorem dX12_tellRow_23 : decode cX12_tellRow 23 = .ok (.iconst 1, 1) := by decide +kernel
theorem dX12_tellRow_24 : decode cX12_tellRow 24 = .ok (.invokevirtual 281, 3) := by decide +kernel
theorem dX12_tellRow_27 : decode cX12_tellRow 27 = .ok (.iconst 0, 1) := by decide +kernel
theorem dX12_tellRow_28 : decode cX12_tellRow 28 = .ok (.istore_n 3, 1) := by decide +kernel
theorem dX12_tellRow_29 : decode cX12_tellRow 29 = .ok (.iload_n 3, 1) := by decide +kernel
theorem dX12_tellRow_30 : decode cX12_tellRow 30 = .ok (.aload_n 0, 1) := by decide +kernel
theorem dX12_tellRow_31 : decode cX12_tellRow 31 = .ok (.getfield 255, 3) := by decide +kernel
theorem dX12_tellRow_34 : decode cX12_tellRow 34 = .ok (.if_icmp .ge 38, 3) := by decide +kernel
theorem dX12_tellRow_37 : decode cX12_tellRow 37 = .ok (.aload_n 0, 1) := by decide +kernel
theorem dX12_tellRow_38 : decode cX12_tellRow 38 = .ok (.getfield 219, 3) := by decide +kernel
theorem dX12_tellRow_41 : decode cX12_tellRow 41 = .ok (.ifCond .ne 31, 3) := by decide +kernel
theorem dX12_tellRow_44 : decode cX12_tellRow 44 = .ok (.aload_n 0, 1) := by decide +kernel
theorem dX12_tellRow_45 : decode cX12_tellRow 45 = .ok (.getfield 40, 3) := by decide +kernel
theorem dX12_tellRow_48 : decode cX12_tellRow 48 = .ok (.iload_n 3, 1) := by decide +kernel
theorem dX12_tellRow_49 : decode cX12_tellRow 49 = .ok (.laload, 1) := by decide +kernel
theorem dX12_tellRow_50 : decode cX12_tellRow 50 = .ok (.aload_n 0, 1) := by decide +kernel
theorem dX12_tellRow_51 : decode cX12_tellRow 51 = .ok (.getfield 30, 3) := by decide +kernel
theorem dX12_tellRow_54 : decode cX12_tellRow 54 = .ok (.iload_n 2, 1) := by decide +kernel
theorem dX12_tellRow_55 : decode cX12_tellRow 55 = .ok (.laload, 1) := by decide +kernel
theorem dX12_tellRow_56 : decode cX12_tellRow 56 = .ok (.lcmp, 1) := by decide +kernel
theorem dX12_tellRow_57 : decode cX12_tellRow 57 = .ok (.ifCond .ne 9, 3) := by decide +kernel
theorem dX12_tellRow_60 : decode cX12_tellRow 60 = .ok (.aload_n 0, 1) := by decide +kernel
theorem dX12_tellRow_61 : decode cX12_tellRow 61 = .ok (.iconst 3, 1) := by decide +kernel
theorem dX12_tellRow_62 : decode cX12_tellRow 62 = .ok (.iload_n 2, 1) := by decide +kernel
theorem dX12_tellRow_63 : decode cX12_tellRow 63 = .ok (.invokevirtual 267, 3) := by decide +kernel
theorem dX12_tellRow_66 : decode cX12_tellRow 66 = .ok (.iinc 3 1, 3) := by decide +kernel
theorem dX12_tellRow_69 : decode cX12_tellRow 69 = .ok (.goto (-40), 3) := by decide +kernel
theorem dX12_tellRow_72 : decode cX12_tellRow 72 = .ok (.iconst 0, 1) := by decide +kernel
theorem dX12_tellRow_73 : decode cX12_tellRow 73 = .ok (.istore_n 3, 1) := by decide +kernel
theorem dX12_tellRow_74 : decode cX12_tellRow 74 = .ok (.aload_n 0, 1) := by decide +kernel
theorem dX12_tellRow_75 : decode cX12_tellRow 75 = .ok (.getfield 219, 3) := by decide +kernel
theorem dX12_tellRow_78 : decode cX12_tellRow 78 = .ok (.ifCond .ne 55, 3) := by decide +kernel
theorem dX12_tellRow_81 : decode cX12_tellRow 81 = .ok (.iload_n 3, 1) := by decide +kernel
theorem dX12_tellRow_82 : decode cX12_tellRow 82 = .ok (.ifCond .eq 11, 3) := by decide +kernel
theorem dX12_tellRow_85 : decode cX12_tellRow 85 = .ok (.aload_n 0, 1) := by decide +kernel
theorem dX12_tellRow_86 : decode cX12_tellRow 86 = .ok (.iconst 2, 1) := by decide +kernel
theorem dX12_tellRow_87 : decode cX12_tellRow 87 = .ok (.invokevirtual 237, 3) := by decide +kernel
theorem dX12_tellRow_90 : decode cX12_tellRow 90 = .ok (.ifCond .eq 43, 3) := by decide +kernel
theorem dX12_tellRow_93 : decode cX12_tellRow 93 = .ok (.iload_n 3, 1) := by decide +kernel
theorem dX12_tellRow_94 : decode cX12_tellRow 94 = .ok (.bipush 8, 2) := by decide +kernel
theorem dX12_tellRow_96 : decode cX12_tellRow 96 = .ok (.if_icmp .ne 8, 3) := by decide +kernel
theorem dX12_tellRow_99 : decode cX12_tellRow 99 = .ok (.aload_n 0, 1) := by decide +kernel
theorem dX12_tellRow_100 : decode cX12_tellRow 100 = .ok (.iconst 2, 1) := by decide +kernel
theorem dX12_tellRow_101 : decode cX12_tellRow 101 = .ok (.invokevirtual 234, 3) := by decide +kernel
theorem dX12_tellRow_104 : decode cX12_tellRow 104 = .ok (.aload_n 0, 1) := by decide +kernel
theorem dX12_tellRow_105 : decode cX12_tellRow 105 = .ok (.getfield 219, 3) := by decide +kernel
theorem dX12_tellRow_108 : decode cX12_tellRow 108 = .ok (.ifCond .le 4, 3) := by decide +kernel
theorem dX12_tellRow_111 : decode cX12_tellRow 111 = .ok (.return_, 1) := by decide +kernel
theorem dX12_tellRow_112 : decode cX12_tellRow 112 = .ok (.aload_n 0, 1) := by decide +kernel
theorem dX12_tellRow_113 : decode cX12_tellRow 113 = .ok (.getfield 61, 3) := by decide +kernel
theorem dX12_tellRow_116 : decode cX12_tellRow 116 = .ok (.bipush 8, 2) := by decide +kernel
theorem dX12_tellRow_118 : decode cX12_tellRow 118 = .ok (.iload_n 1, 1) := by decide +kernel
theorem dX12_tellRow_119 : decode cX12_tellRow 119 = .ok (.imul, 1) := by decide +kernel
theorem dX12_tellRow_120 : decode cX12_tellRow 120 = .ok (.iload_n 3, 1) := by decide +kernel
theorem dX12_tellRow_121 : decode cX12_tellRow 121 = .ok (.iadd, 1) := by decide +kernel
theorem dX12_tellRow_122 : decode cX12_tellRow 122 = .ok (.aload_n 0, 1) := by decide +kernel
theorem dX12_tellRow_123 : decode cX12_tellRow 123 = .ok (.invokevirtual 296, 3) := by decide +kernel
theorem dX12_tellRow_126 : decode cX12_tellRow 126 = .ok (.iastore, 1) := by decide +kernel
theorem dX12_tellRow_127 : decode cX12_tellRow 127 = .ok (.iinc 3 1, 3) := by decide +kernel
theorem dX12_tellRow_130 : decode cX12_tellRow 130 = .ok (.goto (-56), 3) := by decide +kernel
theorem dX12_tellRow_133 : decode cX12_tellRow 133 = .ok (.aload_n 0, 1) := by decide +kernel
theorem dX12_tellRow_134 : decode cX12_tellRow 134 = .ok (.iconst 4, 1) := by decide +kernel
theorem dX12_tellRow_135 : decode cX12_tellRow 135 = .ok (.invokevirtual 281, 3) := by decide +kernel
theorem dX12_tellRow_138 : decode cX12_tellRow 138 = .ok (.aload_n 0, 1) := by decide +kernel
theorem dX12_tellRow_139 : decode cX12_tellRow 139 = .ok (.getfield 219, 3) := by decide +kernel
theorem dX12_tellRow_142 : decode cX12_tellRow 142 = .ok (.ifCond .le 4, 3) := by decide +kernel
theorem dX12_tellRow_145 : decode cX12_tellRow 145 = .ok (.return_, 1) := by decide +kernel
theorem dX12_tellRow_146 : decode cX12_tellRow 146 = .ok (.aload_n 0, 1) := by decide +kernel
theorem dX12_tellRow_147 : decode cX12_tellRow 147 = .ok (.getfield 58, 3) := by decide +kernel
theorem dX12_tellRow_150 : decode cX12_tellRow 150 = .ok (.iload_n 1, 1) := by decide +kernel
theorem dX12_tellRow_151 : decode cX12_tellRow 151 = .ok (.iload_n 3, 1) := by decide +kernel
theorem dX12_tellRow_152 : decode cX12_tellRow 152 = .ok (.iastore, 1) := by decide +kernel
theorem dX12_tellRow_153 : decode cX12_tellRow 153 = .ok (.aload_n 0, 1) := by decide +kernel
theorem dX12_tellRow_154 : decode cX12_tellRow 154 = .ok (.getfield 40, 3) := by decide +kernel
theorem dX12_tellRow_157 : decode cX12_tellRow 157 = .ok (.aload_n 0, 1) := by decide +kernel
theorem dX12_tellRow_158 : decode cX12_tellRow 158 = .ok (.getfield 255, 3) := by decide +kernel
theorem dX12_tellRow_161 : decode cX12_tellRow 161 = .ok (.aload_n 0, 1) := by decide +kernel
theorem dX12_tellRow_162 : decode cX12_tellRow 162 = .ok (.getfield 30, 3) := by decide +kernel
theorem dX12_tellRow_165 : decode cX12_tellRow 165 = .ok (.iload_n 2, 1) := by decide +kernel
theorem dX12_tellRow_166 : decode cX12_tellRow 166 = .ok (.laload, 1) := by decide +kernel
theorem dX12_tellRow_167 : decode cX12_tellRow 167 = .ok (.lastore, 1) := by decide +kernel
theorem dX12_tellRow_168 : decode cX12_tellRow 168 = .ok (.aload_n 0, 1) := by decide +kernel
theorem dX12_tellRow_169 : decode cX12_tellRow 169 = .ok (.dup, 1) := by decide +kernel
theorem dX12_tellRow_170 : decode cX12_tellRow 170 = .ok (.getfield 255, 3) := by decide +kernel
theorem dX12_tellRow_173 : decode cX12_tellRow 173 = .ok (.iconst 1, 1) := by decide +kernel
theorem dX12_tellRow_174 : decode cX12_tellRow 174 = .ok (.iadd, 1) := by decide +kernel
theorem dX12_tellRow_175 : decode cX12_tellRow 175 = .ok (.putfield 255, 3) := by decide +kernel
theorem dX12_tellRow_178 : decode cX12_tellRow 178 = .ok (.aload_n 0, 1) := by decide +kernel
theorem dX12_tellRow_179 : decode cX12_tellRow 179 = .ok (.getfield 55, 3) := by decide +kernel
theorem dX12_tellRow_182 : decode cX12_tellRow 182 = .ok (.aload_n 0, 1) := by decide +kernel
theorem dX12_tellRow_183 : decode cX12_tellRow 183 = .ok (.getfield 252, 3) := by decide +kernel
theorem dX12_tellRow_186 : decode cX12_tellRow 186 = .ok (.dup2, 1) := by decide +kernel
theorem dX12_tellRow_187 : decode cX12_tellRow 187 = .ok (.iaload, 1) := by decide +kernel
theorem dX12_tellRow_188 : decode cX12_tellRow 188 = .ok (.iconst 1, 1) := by decide +kernel
theorem dX12_tellRow_189 : decode cX12_tellRow 189 = .ok (.iadd, 1) := by decide +kernel
theorem dX12_tellRow_190 : decode cX12_tellRow 190 = .ok (.iastore, 1) := by decide +kernel
theorem dX12_tellRow_191 : decode cX12_tellRow 191 = .ok (.return_, 1) := by decide +kernel
def xX12_tellRow : zX := (RX12, cX12_tellRow, 4, none, false, { frames := 5, cells := 0, slots := 0, locals := 175 }, 0, 0, 0, 0)
theorem rmX12_tellRow : z_Rm xX12_tellRow := by unfold z_Rm xX12_tellRow; exact ⟨by decide, by decide⟩
theorem reX12_tellRow : z_Re xX12_tellRow := ⟨rfl, rfl⟩
theorem rlX12_tellRow : 1 ≤ xX12_tellRow.2.2.2.2.2.1.frames ∧ 21 ≤ xX12_tellRow.2.2.2.2.2.1.locals := by unfold xX12_tellRow; exact ⟨by decide, by decide⟩
theorem meX12_tellRow : z_Me yX12_tellRow xX12_tellRow 0 := ⟨wd1024, wd893, by decide, by decide, by decide +kernel⟩
theorem fitX12_tellRow_24 : z_Fit xX12_must xX12_tellRow := by unfold z_Fit; simp only [xX12_must, xX12_tellRow]; exact ⟨by decide, by decide⟩
theorem fitX12_tellRow_135 : z_Fit xX12_must xX12_tellRow := by unfold z_Fit; simp only [xX12_must, xX12_tellRow]; exact ⟨by decide, by decide⟩
theorem fitX12_tellRow_123 : z_Fit xX12_colourTold xX12_tellRow := by unfold z_Fit; simp only [xX12_colourTold, xX12_tellRow]; exact ⟨by decide, by decide⟩
theorem fitX12_tellRow_101 : z_Fit xX12_fail xX12_tellRow := by unfold z_Fit; simp only [xX12_fail, xX12_tellRow]; exact ⟨by decide, by decide⟩
theorem fitX12_tellRow_87 : z_Fit xX12_is xX12_tellRow := by unfold z_Fit; simp only [xX12_is, xX12_tellRow]; exact ⟨by decide, by decide⟩
theorem fitX12_tellRow_63 : z_Fit xX12_wrong xX12_tellRow := by unfold z_Fit; simp only [xX12_wrong, xX12_tellRow]; exact ⟨by decide, by decide⟩
noncomputable def kX12_tellRow_133 : zK zR := (q_aload 0 (q_push 4 (q_callV 12 fX12_must 1 (q_aload 0 (q_getI 12 13 (q_if_le (q_aload 0 (q_getR 12 27 (q_iload 1 (q_iload 3 (q_iast (q_aload 0 (q_getR 12 21 (q_aload 0 (q_getI 12 20 (q_aload 0 (q_getR 12 8 (q_iload 2 (q_lald (q_last (q_aload 0 (q_dup (q_getI 12 20 (q_push 1 (q_iadd (q_putI 12 20 (q_aload 0 (q_getR 12 26 (q_aload 0 (q_getI 12 19 (q_dup2 (q_iald (q_push 1 (q_iadd (q_iast q_vret))))))))))))))))))))))))))))) q_vret))))))
noncomputable def kX12_tellRow_111 : zK zR := q_vret
noncomputable def kX12_tellRow_104 : zK ((zL × zS) ⊕ zR) := (q_aload 0 (q_getI 12 13 (q_if_le (q_aload 0 (q_getR 12 28 (q_push 8 (q_iload 1 (q_imul (q_iload 3 (q_iadd (q_aload 0 (q_callV 12 fX12_colourTold 0 (q_iast (q_iinc 3 1 q_ag))))))))))) (q_dn kX12_tellRow_111))))
noncomputable def kX12_tellRow_93 : zK ((zL × zS) ⊕ zR) := (q_iload 3 (q_push 8 (q_icmp_ne kX12_tellRow_104 (q_aload 0 (q_push 2 (q_callV 12 fX12_fail 1 kX12_tellRow_104))))))
noncomputable def bX12_tellRow_74 : zK ((zL × zS) ⊕ zR) := (q_aload 0 (q_getI 12 13 (q_if_ne (q_dn kX12_tellRow_133) (q_iload 3 (q_if_eq kX12_tellRow_93 (q_aload 0 (q_push 2 (q_callV 12 fX12_is 1 (q_if_eq (q_dn kX12_tellRow_133) kX12_tellRow_93)))))))))
noncomputable def kX12_tellRow_74 : zK zR := q_lp (bX12_tellRow_74)
noncomputable def kX12_tellRow_72 : zK zR := (q_push 0 (q_istore 3 kX12_tellRow_74))
noncomputable def kX12_tellRow_66 : zK ((zL × zS) ⊕ zR) := (q_iinc 3 1 q_ag)
noncomputable def bX12_tellRow_29 : zK ((zL × zS) ⊕ zR) := (q_iload 3 (q_aload 0 (q_getI 12 20 (q_icmp_ge (q_dn kX12_tellRow_72) (q_aload 0 (q_getI 12 13 (q_if_ne (q_dn kX12_tellRow_72) (q_aload 0 (q_getR 12 21 (q_iload 3 (q_lald (q_aload 0 (q_getR 12 8 (q_iload 2 (q_lald (q_lcmp (q_if_ne kX12_tellRow_66 (q_aload 0 (q_push 3 (q_iload 2 (q_callV 12 fX12_wrong 2 kX12_tellRow_66)))))))))))))))))))))
noncomputable def kX12_tellRow_29 : zK zR := q_lp (bX12_tellRow_29)
noncomputable def kX12_tellRow_0 : zK zR := (q_push 4 (q_aload 0 (q_getI 12 19 (q_imul (q_aload 0 (q_getR 12 26 (q_aload 0 (q_getI 12 19 (q_iald (q_iadd (q_istore 1 (q_aload 0 (q_getI 12 11 (q_istore 2 (q_aload 0 (q_push 1 (q_callV 12 fX12_must 1 (q_push 0 (q_istore 3 kX12_tellRow_29)))))))))))))))))))
set_option maxRecDepth 100000 in
theorem tX12_tellRow_133 {l : Launch} {D : zD} {B sz0 : Nat} {post : Option Value → zS → Prop} : zSnd l D B xX12_tellRow sz0 post 133 kX12_tellRow_133 (z_Jr post) := (s_aload_n dX12_tellRow_133 rfl (s_iconst dX12_tellRow_134 (by decide) (s_callV (r := (RX12, TX12, 74)) dX12_tellRow_135 mX12_must meX12_must wd1019 wd1020 rfl rfl reX12_must rmX12_tellRow (fitX12_tellRow_135) wd1021 (s_aload_n dX12_tellRow_138 rfl (s_getI (f := 13) dX12_tellRow_139 clX12 (by decide) rfl wd987 (s_if_le (tgt := 146) dX12_tellRow_142 (by decide) (s_aload_n dX12_tellRow_146 rfl (s_getR (f := 27) dX12_tellRow_147 clX12 (by decide) rfl wd902 (s_iload_n dX12_tellRow_150 rfl (s_iload_n dX12_tellRow_151 rfl (s_iast dX12_tellRow_152 (s_aload_n dX12_tellRow_153 rfl (s_getR (f := 21) dX12_tellRow_154 clX12 (by decide) rfl wd916 (s_aload_n dX12_tellRow_157 rfl (s_getI (f := 20) dX12_tellRow_158 clX12 (by decide) rfl wd1023 (s_aload_n dX12_tellRow_161 rfl (s_getR (f := 8) dX12_tellRow_162 clX12 (by decide) rfl wd913 (s_iload_n dX12_tellRow_165 rfl (s_lald dX12_tellRow_166 (s_last dX12_tellRow_167 (s_aload_n dX12_tellRow_168 rfl (s_dup dX12_tellRow_169 (s_getI (f := 20) dX12_tellRow_170 clX12 (by decide) rfl wd1023 (s_iconst dX12_tellRow_173 (by decide) (s_iadd dX12_tellRow_174 (s_putI (f := 20) dX12_tellRow_175 clX12 (by decide) rfl rfl rfl wd1023 (s_aload_n dX12_tellRow_178 rfl (s_getR (f := 26) dX12_tellRow_179 clX12 (by decide) rfl wd887 (s_aload_n dX12_tellRow_182 rfl (s_getI (f := 19) dX12_tellRow_183 clX12 (by decide) rfl wd1014 (s_dup2 dX12_tellRow_186 (s_iald dX12_tellRow_187 (s_iconst dX12_tellRow_188 (by decide) (s_iadd dX12_tellRow_189 (s_iast dX12_tellRow_190 (s_vret dX12_tellRow_191 rfl)))))))))))))))))))))))))))))) (s_vret dX12_tellRow_145 rfl)))))))
set_option maxRecDepth 100000 in
theorem tX12_tellRow_111 {l : Launch} {D : zD} {B sz0 : Nat} {post : Option Value → zS → Prop} : zSnd l D B xX12_tellRow sz0 post 111 kX12_tellRow_111 (z_Jr post) := (s_vret dX12_tellRow_111 rfl)
set_option maxRecDepth 100000 in
theorem tX12_tellRow_104 {l : Launch} {D : zD} {B sz0 : Nat} {post : Option Value → zS → Prop} : zSnd l D B xX12_tellRow sz0 post 104 kX12_tellRow_104 (z_Jl l D B xX12_tellRow sz0 post 74 (z_Jr post)) := (s_aload_n dX12_tellRow_104 rfl (s_getI (f := 13) dX12_tellRow_105 clX12 (by decide) rfl wd987 (s_if_le (tgt := 112) dX12_tellRow_108 (by decide) (s_aload_n dX12_tellRow_112 rfl (s_getR (f := 28) dX12_tellRow_113 clX12 (by decide) rfl wd903 (s_bipush dX12_tellRow_116 (by decide) (s_iload_n dX12_tellRow_118 rfl (s_imul dX12_tellRow_119 (s_iload_n dX12_tellRow_120 rfl (s_iadd dX12_tellRow_121 (s_aload_n dX12_tellRow_122 rfl (s_callV (r := (RX12, TX12, 74)) dX12_tellRow_123 mX12_colourTold meX12_colourTold wd1016 wd1017 rfl rfl reX12_colourTold rmX12_tellRow (fitX12_tellRow_123) wd1018 (s_iast dX12_tellRow_126 (s_iinc dX12_tellRow_127 (by decide) (s_goto (tgt := 74) dX12_tellRow_130 (by decide) s_ag)))))))))))) (s_dn tX12_tellRow_111))))
set_option maxRecDepth 100000 in
theorem tX12_tellRow_93 {l : Launch} {D : zD} {B sz0 : Nat} {post : Option Value → zS → Prop} : zSnd l D B xX12_tellRow sz0 post 93 kX12_tellRow_93 (z_Jl l D B xX12_tellRow sz0 post 74 (z_Jr post)) := (s_iload_n dX12_tellRow_93 rfl (s_bipush dX12_tellRow_94 (by decide) (s_icmp_ne (tgt := 104) dX12_tellRow_96 (by decide) tX12_tellRow_104 (s_aload_n dX12_tellRow_99 rfl (s_iconst dX12_tellRow_100 (by decide) (s_callV (r := (RX12, TX12, 74)) dX12_tellRow_101 mX12_fail meX12_fail wd995 wd996 rfl rfl reX12_fail rmX12_tellRow (fitX12_tellRow_101) wd997 tX12_tellRow_104))))))
set_option maxRecDepth 100000 in
theorem tX12_tellRow_74 {l : Launch} {D : zD} {B sz0 : Nat} {post : Option Value → zS → Prop} : zSnd l D B xX12_tellRow sz0 post 74 kX12_tellRow_74 (z_Jr post) := s_lp (body := bX12_tellRow_74) (s_aload_n dX12_tellRow_74 rfl (s_getI (f := 13) dX12_tellRow_75 clX12 (by decide) rfl wd987 (s_if_ne (tgt := 133) dX12_tellRow_78 (by decide) (s_dn tX12_tellRow_133) (s_iload_n dX12_tellRow_81 rfl (s_if_eq (tgt := 93) dX12_tellRow_82 (by decide) tX12_tellRow_93 (s_aload_n dX12_tellRow_85 rfl (s_iconst dX12_tellRow_86 (by decide) (s_callV (r := (RX12, TX12, 74)) dX12_tellRow_87 mX12_is meX12_is wd999 wd1000 rfl rfl reX12_is rmX12_tellRow (fitX12_tellRow_87) wd1001 (s_if_eq (tgt := 133) dX12_tellRow_90 (by decide) (s_dn tX12_tellRow_133) tX12_tellRow_93)))))))))
set_option maxRecDepth 100000 in
theorem tX12_tellRow_72 {l : Launch} {D : zD} {B sz0 : Nat} {post : Option Value → zS → Prop} : zSnd l D B xX12_tellRow sz0 post 72 kX12_tellRow_72 (z_Jr post) := (s_iconst dX12_tellRow_72 (by decide) (s_istore_n dX12_tellRow_73 rfl tX12_tellRow_74))
set_option maxRecDepth 100000 in
theorem tX12_tellRow_66 {l : Launch} {D : zD} {B sz0 : Nat} {post : Option Value → zS → Prop} : zSnd l D B xX12_tellRow sz0 post 66 kX12_tellRow_66 (z_Jl l D B xX12_tellRow sz0 post 29 (z_Jr post)) := (s_iinc dX12_tellRow_66 (by decide) (s_goto (tgt := 29) dX12_tellRow_69 (by decide) s_ag))
set_option maxRecDepth 100000 in
theorem tX12_tellRow_29 {l : Launch} {D : zD} {B sz0 : Nat} {post : Option Value → zS → Prop} : zSnd l D B xX12_tellRow sz0 post 29 kX12_tellRow_29 (z_Jr post) := s_lp (body := bX12_tellRow_29) (s_iload_n dX12_tellRow_29 rfl (s_aload_n dX12_tellRow_30 rfl (s_getI (f := 20) dX12_tellRow_31 clX12 (by decide) rfl wd1023 (s_icmp_ge (tgt := 72) dX12_tellRow_34 (by decide) (s_dn tX12_tellRow_72) (s_aload_n dX12_tellRow_37 rfl (s_getI (f := 13) dX12_tellRow_38 clX12 (by decide) rfl wd987 (s_if_ne (tgt := 72) dX12_tellRow_41 (by decide) (s_dn tX12_tellRow_72) (s_aload_n dX12_tellRow_44 rfl (s_getR (f := 21) dX12_tellRow_45 clX12 (by decide) rfl wd916 (s_iload_n dX12_tellRow_48 rfl (s_lald dX12_tellRow_49 (s_aload_n dX12_tellRow_50 rfl (s_getR (f := 8) dX12_tellRow_51 clX12 (by decide) rfl wd913 (s_iload_n dX12_tellRow_54 rfl (s_lald dX12_tellRow_55 (s_lcmp dX12_tellRow_56 (s_if_ne (tgt := 66) dX12_tellRow_57 (by decide) tX12_tellRow_66 (s_aload_n dX12_tellRow_60 rfl (s_iconst dX12_tellRow_61 (by decide) (s_iload_n dX12_tellRow_62 rfl (s_callV (r := (RX12, TX12, 74)) dX12_tellRow_63 mX12_wrong meX12_wrong wd1006 wd1007 rfl rfl reX12_wrong rmX12_tellRow (fitX12_tellRow_63) wd1008 tX12_tellRow_66)))))))))))))))))))))
set_option maxRecDepth 100000 in
theorem tX12_tellRow_0 {l : Launch} {D : zD} {B sz0 : Nat} {post : Option Value → zS → Prop} : zSnd l D B xX12_tellRow sz0 post 0 kX12_tellRow_0 (z_Jr post) := (s_iconst dX12_tellRow_0 (by decide) (s_aload_n dX12_tellRow_1 rfl (s_getI (f := 19) dX12_tellRow_2 clX12 (by decide) rfl wd1014 (s_imul dX12_tellRow_5 (s_aload_n dX12_tellRow_6 rfl (s_getR (f := 26) dX12_tellRow_7 clX12 (by decide) rfl wd887 (s_aload_n dX12_tellRow_10 rfl (s_getI (f := 19) dX12_tellRow_11 clX12 (by decide) rfl wd1014 (s_iald dX12_tellRow_14 (s_iadd dX12_tellRow_15 (s_istore_n dX12_tellRow_16 rfl (s_aload_n dX12_tellRow_17 rfl (s_getI (f := 11) dX12_tellRow_18 clX12 (by decide) rfl wd988 (s_istore_n dX12_tellRow_21 rfl (s_aload_n dX12_tellRow_22 rfl (s_iconst dX12_tellRow_23 (by decide) (s_callV (r := (RX12, TX12, 74)) dX12_tellRow_24 mX12_must meX12_must wd1019 wd1020 rfl rfl reX12_must rmX12_tellRow (fitX12_tellRow_24) wd1021 (s_iconst dX12_tellRow_27 (by decide) (s_istore_n dX12_tellRow_28 rfl tX12_tellRow_29)))))))))))))))))))
noncomputable def fX12_tellRow : zF := z_fn 4 kX12_tellRow_0
theorem mX12_tellRow {l : Launch} {D : zD} {B : Nat} : z_MF l D B yX12_tellRow xX12_tellRow fX12_tellRow := z_mf (by decide) rfl (fun h => by cases h) rfl (fun as σ r h => ⟨z_fn_len h, kX12_tellRow_0, z_fn_run h, fun _ => tX12_tellRow_0⟩)
/-! ===== RowChildrenModel.emit ===== -/
theorem dX12_emit_0 : decode cX12_emit 0 = .ok (.aload_n 0, 1) := by decide +kernel
theorem dX12_emit_1 : decode cX12_emit 1 = .ok (.getfield 89, 3) := by decide +kernel
theorem dX12_emit_4 : decode cX12_emit 4 = .ok (.aload_n 0, 1) := by decide +kernel
theorem dX12_emit_5 : decode cX12_emit 5 = .ok (.getfield 261, 3) := by decide +kernel
theorem dX12_emit_8 : decode cX12_emit 8 = .ok (.iload_n 1, 1) := by decide +kernel
theorem dX12_emit_9 : decode cX12_emit 9 = .ok (.iastore, 1) := by decide +kernel
theorem dX12_emit_10 : decode cX12_emit 10 = .ok (.aload_n 0, 1) := by decide +kernel
theorem dX12_emit_11 : decode cX12_emit 11 = .ok (.getfield 92, 3) := by decide +kernel
theorem dX12_emit_14 : decode cX12_emit 14 = .ok (.aload_n 0, 1) := by decide +kernel
theorem dX12_emit_15 : decode cX12_emit 15 = .ok (.getfield 261, 3) := by decide +kernel
theorem dX12_emit_18 : decode cX12_emit 18 = .ok (.iload_n 2, 1) := by decide +kernel
theorem dX12_emit_19 : decode cX12_emit 19 = .ok (.iastore, 1) := by decide +kernel
theorem dX12_emit_20 : decode cX12_emit 20 = .ok (.aload_n 0, 1) := by decide +kernel
theorem dX12_emit_21 : decode cX12_emit 21 = .ok (.dup, 1) := by decide +kernel
theorem dX12_emit_22 : decode cX12_emit 22 = .ok (.getfield 261, 3) := by decide +kernel
theorem dX12_emit_25 : decode cX12_emit 25 = .ok (.iconst 1, 1) := by decide +kernel
theorem dX12_emit_26 : decode cX12_emit 26 = .ok (.iadd, 1) := by decide +kernel
theorem dX12_emit_27 : decode cX12_emit 27 = .ok (.putfield 261, 3) := by decide +kernel
theorem dX12_emit_30 : decode cX12_emit 30 = .ok (.return_, 1) := by decide +kernel
def xX12_emit : zX := (RX12, cX12_emit, 3, none, false, { frames := 1, cells := 0, slots := 0, locals := 90 }, 0, 0, 0, 0)
theorem rmX12_emit : z_Rm xX12_emit := by unfold z_Rm xX12_emit; exact ⟨by decide, by decide⟩
theorem reX12_emit : z_Re xX12_emit := ⟨rfl, rfl⟩
theorem rlX12_emit : 1 ≤ xX12_emit.2.2.2.2.2.1.frames ∧ 21 ≤ xX12_emit.2.2.2.2.2.1.locals := by unfold xX12_emit; exact ⟨by decide, by decide⟩
theorem meX12_emit : z_Me yX12_emit xX12_emit 2 := ⟨wd1026, wd893, by decide, by decide, by decide +kernel⟩
noncomputable def kX12_emit_0 : zK zR := (q_aload 0 (q_getR 12 39 (q_aload 0 (q_getI 12 38 (q_iload 1 (q_iast (q_aload 0 (q_getR 12 40 (q_aload 0 (q_getI 12 38 (q_iload 2 (q_iast (q_aload 0 (q_dup (q_getI 12 38 (q_push 1 (q_iadd (q_putI 12 38 q_vret))))))))))))))))))
set_option maxRecDepth 100000 in
theorem tX12_emit_0 {l : Launch} {D : zD} {B sz0 : Nat} {post : Option Value → zS → Prop} : zSnd l D B xX12_emit sz0 post 0 kX12_emit_0 (z_Jr post) := (s_aload_n dX12_emit_0 rfl (s_getR (f := 39) dX12_emit_1 clX12 (by decide) rfl wd922 (s_aload_n dX12_emit_4 rfl (s_getI (f := 38) dX12_emit_5 clX12 (by decide) rfl wd1025 (s_iload_n dX12_emit_8 rfl (s_iast dX12_emit_9 (s_aload_n dX12_emit_10 rfl (s_getR (f := 40) dX12_emit_11 clX12 (by decide) rfl wd923 (s_aload_n dX12_emit_14 rfl (s_getI (f := 38) dX12_emit_15 clX12 (by decide) rfl wd1025 (s_iload_n dX12_emit_18 rfl (s_iast dX12_emit_19 (s_aload_n dX12_emit_20 rfl (s_dup dX12_emit_21 (s_getI (f := 38) dX12_emit_22 clX12 (by decide) rfl wd1025 (s_iconst dX12_emit_25 (by decide) (s_iadd dX12_emit_26 (s_putI (f := 38) dX12_emit_27 clX12 (by decide) rfl rfl rfl wd1025 (s_vret dX12_emit_30 rfl)))))))))))))))))))
noncomputable def fX12_emit : zF := z_fn 3 kX12_emit_0
theorem mX12_emit {l : Launch} {D : zD} {B : Nat} : z_MF l D B yX12_emit xX12_emit fX12_emit := z_mf (by decide) rfl (fun h => by cases h) rfl (fun as σ r h => ⟨z_fn_len h, kX12_emit_0, z_fn_run h, fun _ => tX12_emit_0⟩)
/-! ===== RowChildrenModel.unit ===== -/
theorem dX12_unit_0 : decode cX12_unit 0 = .ok (.aload_n 0, 1) := by decide +kernel
theorem dX12_unit_1 : decode cX12_unit 1 = .ok (.iconst 2, 1) := by decide +kernel
theorem dX12_unit_2 : decode cX12_unit 2 = .ok (.invokevirtual 237, 3) := by decide +kernel
theorem dX12_unit_5 : decode cX12_unit 5 = .ok (.ifCond .eq 24, 3) := by decide +kernel
theorem dX12_unit_8 : decode cX12_unit 8 = .ok (.aload_n 0, 1) := by decide +kernel
theorem dX12_unit_9 : decode cX12_unit 9 = .ok (.iconst 0, 1) := by decide +kernel
theorem dX12_unit_10 : decode cX12_unit 10 = .ok (.aload_n 0, 1) := by decide +kernel
theorem dX12_unit_11 : decode cX12_unit 11 = .ok (.getfield 27, 3) := by decide +kernel
theorem dX12_unit_14 : decode cX12_unit 14 = .ok (.aload_n 0, 1) := by decide +kernel
theorem dX12_unit_15 : decode cX12_unit 15 = .ok (.getfield 222, 3) := by decide +kernel
theorem dX12_unit_18 : decode cX12_unit 18 = .ok (.iaload, 1) := by decide +kernel
theorem dX12_unit_19 : decode cX12_unit 19 = .ok (.invokevirtual 309, 3) := by decide +kernel
theorem dX12_unit_22 : decode cX12_unit 22 = .ok (.aload_n 0, 1) := by decide +kernel
theorem dX12_unit_23 : decode cX12_unit 23 = .ok (.invokevirtual 240, 3) := by decide +kernel
theorem dX12_unit_26 : decode cX12_unit 26 = .ok (.goto 67, 3) := by decide +kernel
theorem dX12_unit_29 : decode cX12_unit 29 = .ok (.aload_n 0, 1) := by decide +kernel
theorem dX12_unit_30 : decode cX12_unit 30 = .ok (.getfield 219, 3) := by decide +kernel
theorem dX12_unit_33 : decode cX12_unit 33 = .ok (.ifCond .ne 55, 3) := by decide +kernel
theorem dX12_unit_36 : decode cX12_unit 36 = .ok (.aload_n 0, 1) := by decide +kernel
theorem dX12_unit_37 : decode cX12_unit 37 = .ok (.getfield 20, 3) := by decide +kernel
theorem dX12_unit_40 : decode cX12_unit 40 = .ok (.aload_n 0, 1) := by decide +kernel
theorem dX12_unit_41 : decode cX12_unit 41 = .ok (.getfield 222, 3) := by decide +kernel
theorem dX12_unit_44 : decode cX12_unit 44 = .ok (.iaload, 1) := by decide +kernel
theorem dX12_unit_45 : decode cX12_unit 45 = .ok (.bipush 31, 2) := by decide +kernel
theorem dX12_unit_47 : decode cX12_unit 47 = .ok (.if_icmp .lt 41, 3) := by decide +kernel
theorem dX12_unit_50 : decode cX12_unit 50 = .ok (.aload_n 0, 1) := by decide +kernel
theorem dX12_unit_51 : decode cX12_unit 51 = .ok (.getfield 20, 3) := by decide +kernel
theorem dX12_unit_54 : decode cX12_unit 54 = .ok (.aload_n 0, 1) := by decide +kernel
theorem dX12_unit_55 : decode cX12_unit 55 = .ok (.getfield 222, 3) := by decide +kernel
theorem dX12_unit_58 : decode cX12_unit 58 = .ok (.iaload, 1) := by decide +kernel
theorem dX12_unit_59 : decode cX12_unit 59 = .ok (.bipush 39, 2) := by decide +kernel
theorem dX12_unit_61 : decode cX12_unit 61 = .ok (.if_icmp .gt 27, 3) := by decide +kernel
theorem dX12_unit_64 : decode cX12_unit 64 = .ok (.aload_n 0, 1) := by decide +kernel
theorem dX12_unit_65 : decode cX12_unit 65 = .ok (.iconst 1, 1) := by decide +kernel
theorem dX12_unit_66 : decode cX12_unit 66 = .ok (.aload_n 0, 1) := by decide +kernel
theorem dX12_unit_67 : decode cX12_unit 67 = .ok (.getfield 20, 3) := by decide +kernel
theorem dX12_unit_70 : decode cX12_unit 70 = .ok (.aload_n 0, 1) := by decide +kernel
theorem dX12_unit_71 : decode cX12_unit 71 = .ok (.getfield 222, 3) := by decide +kernel
theorem dX12_unit_74 : decode cX12_unit 74 = .ok (.iaload, 1) := by decide +kernel
theorem dX12_unit_75 : decode cX12_unit 75 = .ok (.bipush 31, 2) := by decide +kernel
theorem dX12_unit_77 : decode cX12_unit 77 = .ok (.isub, 1) := by decide +kernel
theorem dX12_unit_78 : decode cX12_unit 78 = .ok (.invokevirtual 309, 3) := by decide +kernel
theorem dX12_unit_81 : decode cX12_unit 81 = .ok (.aload_n 0, 1) := by decide +kernel
theorem dX12_unit_82 : decode cX12_unit 82 = .ok (.invokevirtual 240, 3) := by decide +kernel
theorem dX12_unit_85 : decode cX12_unit 85 = .ok (.goto 8, 3) := by decide +kernel
theorem dX12_unit_88 : decode cX12_unit 88 = .ok (.aload_n 0, 1) := by decide +kernel
theorem dX12_unit_89 : decode cX12_unit 89 = .ok (.iconst 1, 1) := by decide +kernel
theorem dX12_unit_90 : decode cX12_unit 90 = .ok (.invokevirtual 234, 3) := by decide +kernel
theorem dX12_unit_93 : decode cX12_unit 93 = .ok (.return_, 1) := by decide +kernel
def xX12_unit : zX := (RX12, cX12_unit, 1, none, false, { frames := 3, cells := 0, slots := 0, locals := 131 }, 0, 0, 0, 0)
theorem rmX12_unit : z_Rm xX12_unit := by unfold z_Rm xX12_unit; exact ⟨by decide, by decide⟩
theorem reX12_unit : z_Re xX12_unit := ⟨rfl, rfl⟩
theorem rlX12_unit : 1 ≤ xX12_unit.2.2.2.2.2.1.frames ∧ 21 ≤ xX12_unit.2.2.2.2.2.1.locals := by unfold xX12_unit; exact ⟨by decide, by decide⟩
theorem meX12_unit : z_Me yX12_unit xX12_unit 0 := ⟨wd1030, wd893, by decide, by decide, by decide +kernel⟩
theorem fitX12_unit_2 : z_Fit xX12_is xX12_unit := by unfold z_Fit; simp only [xX12_is, xX12_unit]; exact ⟨by decide, by decide⟩
theorem fitX12_unit_90 : z_Fit xX12_fail xX12_unit := by unfold z_Fit; simp only [xX12_fail, xX12_unit]; exact ⟨by decide, by decide⟩
theorem fitX12_unit_78 : z_Fit xX12_emit xX12_unit := by unfold z_Fit; simp only [xX12_emit, xX12_unit]; exact ⟨by decide, by decide⟩
theorem fitX12_unit_82 : z_Fit xX12_goesOn xX12_unit := by unfold z_Fit; simp only [xX12_goesOn, xX12_unit]; exact ⟨by decide, by decide⟩
theorem fitX12_unit_19 : z_Fit xX12_emit xX12_unit := by unfold z_Fit; simp only [xX12_emit, xX12_unit]; exact ⟨by decide, by decide⟩
theorem fitX12_unit_23 : z_Fit xX12_goesOn xX12_unit := by unfold z_Fit; simp only [xX12_goesOn, xX12_unit]; exact ⟨by decide, by decide⟩
noncomputable def kX12_unit_93 : zK zR := q_vret
noncomputable def kX12_unit_88 : zK zR := (q_aload 0 (q_push 1 (q_callV 12 fX12_fail 1 kX12_unit_93)))
noncomputable def kX12_unit_0 : zK zR := (q_aload 0 (q_push 2 (q_callV 12 fX12_is 1 (q_if_eq (q_aload 0 (q_getI 12 13 (q_if_ne kX12_unit_88 (q_aload 0 (q_getR 12 5 (q_aload 0 (q_getI 12 11 (q_iald (q_push 31 (q_icmp_lt kX12_unit_88 (q_aload 0 (q_getR 12 5 (q_aload 0 (q_getI 12 11 (q_iald (q_push 39 (q_icmp_gt kX12_unit_88 (q_aload 0 (q_push 1 (q_aload 0 (q_getR 12 5 (q_aload 0 (q_getI 12 11 (q_iald (q_push 31 (q_isub (q_callV 12 fX12_emit 2 (q_aload 0 (q_callV 12 fX12_goesOn 0 kX12_unit_93))))))))))))))))))))))))))))) (q_aload 0 (q_push 0 (q_aload 0 (q_getR 12 7 (q_aload 0 (q_getI 12 11 (q_iald (q_callV 12 fX12_emit 2 (q_aload 0 (q_callV 12 fX12_goesOn 0 kX12_unit_93))))))))))))))
set_option maxRecDepth 100000 in
theorem tX12_unit_93 {l : Launch} {D : zD} {B sz0 : Nat} {post : Option Value → zS → Prop} : zSnd l D B xX12_unit sz0 post 93 kX12_unit_93 (z_Jr post) := (s_vret dX12_unit_93 rfl)
set_option maxRecDepth 100000 in
theorem tX12_unit_88 {l : Launch} {D : zD} {B sz0 : Nat} {post : Option Value → zS → Prop} : zSnd l D B xX12_unit sz0 post 88 kX12_unit_88 (z_Jr post) := (s_aload_n dX12_unit_88 rfl (s_iconst dX12_unit_89 (by decide) (s_callV (r := (RX12, TX12, 74)) dX12_unit_90 mX12_fail meX12_fail wd995 wd996 rfl rfl reX12_fail rmX12_unit (fitX12_unit_90) wd997 tX12_unit_93)))
set_option maxRecDepth 100000 in
theorem tX12_unit_0 {l : Launch} {D : zD} {B sz0 : Nat} {post : Option Value → zS → Prop} : zSnd l D B xX12_unit sz0 post 0 kX12_unit_0 (z_Jr post) := (s_aload_n dX12_unit_0 rfl (s_iconst dX12_unit_1 (by decide) (s_callV (r := (RX12, TX12, 74)) dX12_unit_2 mX12_is meX12_is wd999 wd1000 rfl rfl reX12_is rmX12_unit (fitX12_unit_2) wd1001 (s_if_eq (tgt := 29) dX12_unit_5 (by decide) (s_aload_n dX12_unit_29 rfl (s_getI (f := 13) dX12_unit_30 clX12 (by decide) rfl wd987 (s_if_ne (tgt := 88) dX12_unit_33 (by decide) tX12_unit_88 (s_aload_n dX12_unit_36 rfl (s_getR (f := 5) dX12_unit_37 clX12 (by decide) rfl wd910 (s_aload_n dX12_unit_40 rfl (s_getI (f := 11) dX12_unit_41 clX12 (by decide) rfl wd988 (s_iald dX12_unit_44 (s_bipush dX12_unit_45 (by decide) (s_icmp_lt (tgt := 88) dX12_unit_47 (by decide) tX12_unit_88 (s_aload_n dX12_unit_50 rfl (s_getR (f := 5) dX12_unit_51 clX12 (by decide) rfl wd910 (s_aload_n dX12_unit_54 rfl (s_getI (f := 11) dX12_unit_55 clX12 (by decide) rfl wd988 (s_iald dX12_unit_58 (s_bipush dX12_unit_59 (by decide) (s_icmp_gt (tgt := 88) dX12_unit_61 (by decide) tX12_unit_88 (s_aload_n dX12_unit_64 rfl (s_iconst dX12_unit_65 (by decide) (s_aload_n dX12_unit_66 rfl (s_getR (f := 5) dX12_unit_67 clX12 (by decide) rfl wd910 (s_aload_n dX12_unit_70 rfl (s_getI (f := 11) dX12_unit_71 clX12 (by decide) rfl wd988 (s_iald dX12_unit_74 (s_bipush dX12_unit_75 (by decide) (s_isub dX12_unit_77 (s_callV (r := (RX12, TX12, 74)) dX12_unit_78 mX12_emit meX12_emit wd1027 wd1028 rfl rfl reX12_emit rmX12_unit (fitX12_unit_78) wd1029 (s_aload_n dX12_unit_81 rfl (s_callV (r := (RX12, TX12, 74)) dX12_unit_82 mX12_goesOn meX12_goesOn wd1002 wd1003 rfl rfl reX12_goesOn rmX12_unit (fitX12_unit_82) wd1004 (s_goto (tgt := 93) dX12_unit_85 (by decide) tX12_unit_93)))))))))))))))))))))))))))))) (s_aload_n dX12_unit_8 rfl (s_iconst dX12_unit_9 (by decide) (s_aload_n dX12_unit_10 rfl (s_getR (f := 7) dX12_unit_11 clX12 (by decide) rfl wd912 (s_aload_n dX12_unit_14 rfl (s_getI (f := 11) dX12_unit_15 clX12 (by decide) rfl wd988 (s_iald dX12_unit_18 (s_callV (r := (RX12, TX12, 74)) dX12_unit_19 mX12_emit meX12_emit wd1027 wd1028 rfl rfl reX12_emit rmX12_unit (fitX12_unit_19) wd1029 (s_aload_n dX12_unit_22 rfl (s_callV (r := (RX12, TX12, 74)) dX12_unit_23 mX12_goesOn meX12_goesOn wd1002 wd1003 rfl rfl reX12_goesOn rmX12_unit (fitX12_unit_23) wd1004 (s_goto (tgt := 93) dX12_unit_26 (by decide) tX12_unit_93)))))))))))))))
noncomputable def fX12_unit : zF := z_fn 1 kX12_unit_0
theorem mX12_unit {l : Launch} {D : zD} {B : Nat} : z_MF l D B yX12_unit xX12_unit fX12_unit := z_mf (by decide) rfl (fun h => by cases h) rfl (fun as σ r h => ⟨z_fn_len h, kX12_unit_0, z_fn_run h, fun _ => tX12_unit_0⟩)
/-! ===== RowChildrenModel.comesOut ===== -/
theorem dX12_comesOut_0 : decode cX12_comesOut 0 = .ok (.aload_n 0, 1) := by decide +kernel
theorem dX12_comesOut_1 : decode cX12_comesOut 1 = .ok (.getfield 306, 3) := by decide +kernel
theorem dX12_comesOut_4 : decode cX12_comesOut 4 = .ok (.ifCond .le 87, 3) := by decide +kernel
theorem dX12_comesOut_7 : decode cX12_comesOut 7 = .ok (.aload_n 0, 1) := by decide +kernel
theorem dX12_comesOut_8 : decode cX12_comesOut 8 = .ok (.getfield 95, 3) := by decide +kernel
theorem dX12_comesOut_11 : decode cX12_comesOut 11 = .ok (.aload_n 0, 1) := by decide +kernel
theorem dX12_comesOut_12 : decode cX12_comesOut 12 = .ok (.getfield 306, 3) := by decide +kernel
theorem dX12_comesOut_15 : decode cX12_comesOut 15 = .ok (.iconst 1, 1) := by decide +kernel
theorem dX12_comesOut_16 : decode cX12_comesOut 16 = .ok (.isub, 1) := by decide +kernel
theorem dX12_comesOut_17 : decode cX12_comesOut 17 = .ok (.iaload, 1) := by decide +kernel
theorem dX12_comesOut_18 : decode cX12_comesOut 18 = .ok (.istore_n 2, 1) := by decide +kernel
theorem dX12_comesOut_19 : decode cX12_comesOut 19 = .ok (.iload_n 2, 1) := by decide +kernel
theorem dX12_comesOut_20 : decode cX12_comesOut 20 = .ok (.bipush 6, 2) := by decide +kernel
theorem dX12_comesOut_22 : decode cX12_comesOut 22 = .ok (.if_icmp .eq 19, 3) := by decide +kernel
theorem dX12_comesOut_25 : decode cX12_comesOut 25 = .ok (.iload_n 1, 1) := by decide +kernel
theorem dX12_comesOut_26 : decode cX12_comesOut 26 = .ok (.ifCond .eq 16, 3) := by decide +kernel
theorem dX12_comesOut_29 : decode cX12_comesOut 29 = .ok (.iload_n 2, 1) := by decide +kernel
theorem dX12_comesOut_30 : decode cX12_comesOut 30 = .ok (.bipush 8, 2) := by decide +kernel
theorem dX12_comesOut_32 : decode cX12_comesOut 32 = .ok (.if_icmp .eq 9, 3) := by decide +kernel
theorem dX12_comesOut_35 : decode cX12_comesOut 35 = .ok (.iload_n 2, 1) := by decide +kernel
theorem dX12_comesOut_36 : decode cX12_comesOut 36 = .ok (.bipush 9, 2) := by decide +kernel
theorem dX12_comesOut_38 : decode cX12_comesOut 38 = .ok (.if_icmp .ne 4, 3) := by decide +kernel
theorem dX12_comesOut_41 : decode cX12_comesOut 41 = .ok (.return_, 1) := by decide +kernel
theorem dX12_comesOut_42 : decode cX12_comesOut 42 = .ok (.aload_n 0, 1) := by decide +kernel
theorem dX12_comesOut_43 : decode cX12_comesOut 43 = .ok (.dup, 1) := by decide +kernel
theorem dX12_comesOut_44 : decode cX12_comesOut 44 = .ok (.getfield 306, 3) := by decide +kernel
theorem dX12_comesOut_47 : decode cX12_comesOut 47 = .ok (.iconst 1, 1) := by decide +kernel
theorem dX12_comesOut_48 : decode cX12_comesOut 48 = .ok (.isub, 1) := by decide +kernel
theorem dX12_comesOut_49 : decode cX12_comesOut 49 = .ok (.putfield 306, 3) := by decide +kernel
theorem dX12_comesOut_52 : decode cX12_comesOut 52 = .ok (.aload_n 0, 1) := by decide +kernel
theorem dX12_comesOut_53 : decode cX12_comesOut 53 = .ok (.iload_n 2, 1) := by decide +kernel
theorem dX12_comesOut_54 : decode cX12_comesOut 54 = .ok (.bipush 8, 2) := by decide +kernel
theorem dX12_comesOut_56 : decode cX12_comesOut 56 = .ok (.if_icmp .ne 7, 3) := by decide +kernel
theorem dX12_comesOut_59 : decode cX12_comesOut 59 = .ok (.iconst 2, 1) := by decide +kernel
theorem dX12_comesOut_60 : decode cX12_comesOut 60 = .ok (.goto 24, 3) := by decide +kernel
theorem dX12_comesOut_63 : decode cX12_comesOut 63 = .ok (.iload_n 2, 1) := by decide +kernel
theorem dX12_comesOut_64 : decode cX12_comesOut 64 = .ok (.bipush 9, 2) := by decide +kernel
theorem dX12_comesOut_66 : decode cX12_comesOut 66 = .ok (.if_icmp .ne 7, 3) := by decide +kernel
theorem dX12_comesOut_69 : decode cX12_comesOut 69 = .ok (.iconst 3, 1) := by decide +kernel
theorem dX12_comesOut_70 : decode cX12_comesOut 70 = .ok (.goto 14, 3) := by decide +kernel
theorem dX12_comesOut_73 : decode cX12_comesOut 73 = .ok (.iload_n 2, 1) := by decide +kernel
theorem dX12_comesOut_74 : decode cX12_comesOut 74 = .ok (.bipush 10, 2) := by decide +kernel
theorem dX12_comesOut_76 : decode cX12_comesOut 76 = .ok (.if_icmp .ne 7, 3) := by decide +kernel
theorem dX12_comesOut_79 : decode cX12_comesOut 79 = .ok (.iconst 4, 1) := by decide +kernel
theorem dX12_comesOut_80 : decode cX12_comesOut 80 = .ok (.goto 4, 3) := by decide +kernel
theorem dX12_comesOut_83 : decode cX12_comesOut 83 = .ok (.iconst 5, 1) := by decide +kernel
theorem dX12_comesOut_84 : decode cX12_comesOut 84 = .ok (.iconst 0, 1) := by decide +kernel
theorem dX12_comesOut_85 : decode cX12_comesOut 85 = .ok (.invokevirtual 309, 3) := by decide +kernel
theorem dX12_comesOut_88 : decode cX12_comesOut 88 = .ok (.goto (-88), 3) := by decide +kernel
theorem dX12_comesOut_91 : decode cX12_comesOut 91 = .ok (.return_, 1) := by decide +kernel
def xX12_comesOut : zX := (RX12, cX12_comesOut, 3, none, false, { frames := 2, cells := 0, slots := 0, locals := 112 }, 0, 0, 0, 0)
theorem rmX12_comesOut : z_Rm xX12_comesOut := by unfold z_Rm xX12_comesOut; exact ⟨by decide, by decide⟩
theorem reX12_comesOut : z_Re xX12_comesOut := ⟨rfl, rfl⟩
theorem rlX12_comesOut : 1 ≤ xX12_comesOut.2.2.2.2.2.1.frames ∧ 21 ≤ xX12_comesOut.2.2.2.2.2.1.locals := by unfold xX12_comesOut; exact ⟨by decide, by decide⟩
theorem meX12_comesOut : z_Me yX12_comesOut xX12_comesOut 1 := ⟨wd1032, wd893, by decide, by decide, by decide +kernel⟩
theorem fitX12_comesOut_85 : z_Fit xX12_emit xX12_comesOut := by unfold z_Fit; simp only [xX12_emit, xX12_comesOut]; exact ⟨by decide, by decide⟩
noncomputable def kX12_comesOut_91 : zK zR := q_vret
noncomputable def kX12_comesOut_41 : zK zR := q_vret
noncomputable def kX12_comesOut_84 : zK ((zL × zS) ⊕ zR) := (q_push 0 (q_callV 12 fX12_emit 2 q_ag))
noncomputable def kX12_comesOut_42 : zK ((zL × zS) ⊕ zR) := (q_aload 0 (q_dup (q_getI 12 42 (q_push 1 (q_isub (q_putI 12 42 (q_aload 0 (q_iload 2 (q_push 8 (q_icmp_ne (q_iload 2 (q_push 9 (q_icmp_ne (q_iload 2 (q_push 10 (q_icmp_ne (q_push 5 kX12_comesOut_84) (q_push 4 kX12_comesOut_84)))) (q_push 3 kX12_comesOut_84)))) (q_push 2 kX12_comesOut_84)))))))))))
noncomputable def bX12_comesOut_0 : zK ((zL × zS) ⊕ zR) := (q_aload 0 (q_getI 12 42 (q_if_le (q_dn kX12_comesOut_91) (q_aload 0 (q_getR 12 41 (q_aload 0 (q_getI 12 42 (q_push 1 (q_isub (q_iald (q_istore 2 (q_iload 2 (q_push 6 (q_icmp_eq (q_dn kX12_comesOut_41) (q_iload 1 (q_if_eq kX12_comesOut_42 (q_iload 2 (q_push 8 (q_icmp_eq (q_dn kX12_comesOut_41) (q_iload 2 (q_push 9 (q_icmp_ne kX12_comesOut_42 (q_dn kX12_comesOut_41)))))))))))))))))))))))
noncomputable def kX12_comesOut_0 : zK zR := q_lp (bX12_comesOut_0)
set_option maxRecDepth 100000 in
theorem tX12_comesOut_91 {l : Launch} {D : zD} {B sz0 : Nat} {post : Option Value → zS → Prop} : zSnd l D B xX12_comesOut sz0 post 91 kX12_comesOut_91 (z_Jr post) := (s_vret dX12_comesOut_91 rfl)
set_option maxRecDepth 100000 in
theorem tX12_comesOut_41 {l : Launch} {D : zD} {B sz0 : Nat} {post : Option Value → zS → Prop} : zSnd l D B xX12_comesOut sz0 post 41 kX12_comesOut_41 (z_Jr post) := (s_vret dX12_comesOut_41 rfl)
set_option maxRecDepth 100000 in
theorem tX12_comesOut_84 {l : Launch} {D : zD} {B sz0 : Nat} {post : Option Value → zS → Prop} : zSnd l D B xX12_comesOut sz0 post 84 kX12_comesOut_84 (z_Jl l D B xX12_comesOut sz0 post 0 (z_Jr post)) := (s_iconst dX12_comesOut_84 (by decide) (s_callV (r := (RX12, TX12, 74)) dX12_comesOut_85 mX12_emit meX12_emit wd1027 wd1028 rfl rfl reX12_emit rmX12_comesOut (fitX12_comesOut_85) wd1029 (s_goto (tgt := 0) dX12_comesOut_88 (by decide) s_ag)))
set_option maxRecDepth 100000 in
theorem tX12_comesOut_42 {l : Launch} {D : zD} {B sz0 : Nat} {post : Option Value → zS → Prop} : zSnd l D B xX12_comesOut sz0 post 42 kX12_comesOut_42 (z_Jl l D B xX12_comesOut sz0 post 0 (z_Jr post)) := (s_aload_n dX12_comesOut_42 rfl (s_dup dX12_comesOut_43 (s_getI (f := 42) dX12_comesOut_44 clX12 (by decide) rfl wd1031 (s_iconst dX12_comesOut_47 (by decide) (s_isub dX12_comesOut_48 (s_putI (f := 42) dX12_comesOut_49 clX12 (by decide) rfl rfl rfl wd1031 (s_aload_n dX12_comesOut_52 rfl (s_iload_n dX12_comesOut_53 rfl (s_bipush dX12_comesOut_54 (by decide) (s_icmp_ne (tgt := 63) dX12_comesOut_56 (by decide) (s_iload_n dX12_comesOut_63 rfl (s_bipush dX12_comesOut_64 (by decide) (s_icmp_ne (tgt := 73) dX12_comesOut_66 (by decide) (s_iload_n dX12_comesOut_73 rfl (s_bipush dX12_comesOut_74 (by decide) (s_icmp_ne (tgt := 83) dX12_comesOut_76 (by decide) (s_iconst dX12_comesOut_83 (by decide) tX12_comesOut_84) (s_iconst dX12_comesOut_79 (by decide) (s_goto (tgt := 84) dX12_comesOut_80 (by decide) tX12_comesOut_84))))) (s_iconst dX12_comesOut_69 (by decide) (s_goto (tgt := 84) dX12_comesOut_70 (by decide) tX12_comesOut_84))))) (s_iconst dX12_comesOut_59 (by decide) (s_goto (tgt := 84) dX12_comesOut_60 (by decide) tX12_comesOut_84))))))))))))
set_option maxRecDepth 100000 in
theorem tX12_comesOut_0 {l : Launch} {D : zD} {B sz0 : Nat} {post : Option Value → zS → Prop} : zSnd l D B xX12_comesOut sz0 post 0 kX12_comesOut_0 (z_Jr post) := s_lp (body := bX12_comesOut_0) (s_aload_n dX12_comesOut_0 rfl (s_getI (f := 42) dX12_comesOut_1 clX12 (by decide) rfl wd1031 (s_if_le (tgt := 91) dX12_comesOut_4 (by decide) (s_dn tX12_comesOut_91) (s_aload_n dX12_comesOut_7 rfl (s_getR (f := 41) dX12_comesOut_8 clX12 (by decide) rfl wd924 (s_aload_n dX12_comesOut_11 rfl (s_getI (f := 42) dX12_comesOut_12 clX12 (by decide) rfl wd1031 (s_iconst dX12_comesOut_15 (by decide) (s_isub dX12_comesOut_16 (s_iald dX12_comesOut_17 (s_istore_n dX12_comesOut_18 rfl (s_iload_n dX12_comesOut_19 rfl (s_bipush dX12_comesOut_20 (by decide) (s_icmp_eq (tgt := 41) dX12_comesOut_22 (by decide) (s_dn tX12_comesOut_41) (s_iload_n dX12_comesOut_25 rfl (s_if_eq (tgt := 42) dX12_comesOut_26 (by decide) tX12_comesOut_42 (s_iload_n dX12_comesOut_29 rfl (s_bipush dX12_comesOut_30 (by decide) (s_icmp_eq (tgt := 41) dX12_comesOut_32 (by decide) (s_dn tX12_comesOut_41) (s_iload_n dX12_comesOut_35 rfl (s_bipush dX12_comesOut_36 (by decide) (s_icmp_ne (tgt := 42) dX12_comesOut_38 (by decide) tX12_comesOut_42 (s_dn tX12_comesOut_41)))))))))))))))))))))))
noncomputable def fX12_comesOut : zF := z_fn 3 kX12_comesOut_0
theorem mX12_comesOut {l : Launch} {D : zD} {B : Nat} : z_MF l D B yX12_comesOut xX12_comesOut fX12_comesOut := z_mf (by decide) rfl (fun h => by cases h) rfl (fun as σ r h => ⟨z_fn_len h, kX12_comesOut_0, z_fn_run h, fun _ => tX12_comesOut_0⟩)
