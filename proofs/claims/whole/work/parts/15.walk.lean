/-! ===== RowChildren$Repainting.search ===== -/
theorem dX4_search_0 : decode cX4_search 0 = .ok (.aload_n 0, 1) := by decide +kernel
theorem dX4_search_1 : decode cX4_search 1 = .ok (.iload_n 2, 1) := by decide +kernel
theorem dX4_search_2 : decode cX4_search 2 = .ok (.bipush 8, 2) := by decide +kernel
theorem dX4_search_4 : decode cX4_search 4 = .ok (.invokestatic 44, 3) := by decide +kernel
theorem dX4_search_7 : decode cX4_search 7 = .ok (.putfield 50, 3) := by decide +kernel
theorem dX4_search_10 : decode cX4_search 10 = .ok (.aload_n 0, 1) := by decide +kernel
theorem dX4_search_11 : decode cX4_search 11 = .ok (.ldc 53, 2) := by decide +kernel
theorem dX4_search_13 : decode cX4_search 13 = .ok (.putfield 41, 3) := by decide +kernel
theorem dX4_search_16 : decode cX4_search 16 = .ok (.aload_n 0, 1) := by decide +kernel
theorem dX4_search_17 : decode cX4_search 17 = .ok (.bipush (-2), 2) := by decide +kernel
theorem dX4_search_19 : decode cX4_search 19 = .ok (.putfield 38, 3) := by decide +kernel
theorem dX4_search_22 : decode cX4_search 22 = .ok (.aload_n 0, 1) := by decide +kernel
theorem dX4_search_23 : decode cX4_search 23 = .ok (.aload_n 1, 1) := by decide +kernel
theorem dX4_search_24 : decode cX4_search 24 = .ok (.iconst 0, 1) := by decide +kernel
theorem dX4_search_25 : decode cX4_search 25 = .ok (.iconst 0, 1) := by decide +kernel
theorem dX4_search_26 : decode cX4_search 26 = .ok (.iconst 0, 1) := by decide +kernel
theorem dX4_search_27 : decode cX4_search 27 = .ok (.invokestatic 54, 3) := by decide +kernel
theorem dX4_search_30 : decode cX4_search 30 = .ok (.return_, 1) := by decide +kernel
def xX4_search : zX := (RX4, cX4_search, 3, none, false, { frames := 15, cells := 0, slots := 0, locals := 446 }, 0, 0, 0, 0)
theorem rmX4_search : z_Rm xX4_search := by unfold z_Rm xX4_search; exact ⟨by decide, by decide⟩
theorem reX4_search : z_Re xX4_search := ⟨rfl, rfl⟩
theorem rlX4_search : 1 ≤ xX4_search.2.2.2.2.2.1.frames ∧ 21 ≤ xX4_search.2.2.2.2.2.1.locals := by unfold xX4_search; exact ⟨by decide, by decide⟩
theorem meX4_search : z_Me yX4_search xX4_search 2 := ⟨wd223, wd185, by decide, by decide, by decide +kernel⟩
theorem fitX4_search_27 : z_Fit (xX4_goThrough 10) xX4_search := by unfold z_Fit; simp only [xX4_goThrough, xX4_search]; exact ⟨by decide, by decide⟩
noncomputable def kX4_search_0 : zK zR := (q_aload 0 (q_iload 2 (q_push 8 (q_mmin (q_putI 4 2 (q_aload 0 (q_push 1000000000 (q_putI 4 5 (q_aload 0 (q_push (-2) (q_putI 4 6 (q_aload 0 (q_aload 1 (q_push 0 (q_push 0 (q_push 0 (q_callS (fX4_goThrough 10) 5 q_vret)))))))))))))))))
set_option maxRecDepth 100000 in
theorem tX4_search_0 {l : Launch} {D : zD} {B sz0 : Nat} {post : Option Value → zS → Prop} : zSnd l D B xX4_search sz0 post 0 kX4_search_0 (z_Jr post) := (s_aload_n dX4_search_0 rfl (s_iload_n dX4_search_1 rfl (s_bipush dX4_search_2 (by decide) (s_mmin dX4_search_4 wd221 wd148 wd149 wd150 (rlX4_search) rmX4_search (s_putI (f := 2) dX4_search_7 clX4 (by decide) rfl rfl rfl wd210 (s_aload_n dX4_search_10 rfl (s_ldc dX4_search_11 wd222 (s_putI (f := 5) dX4_search_13 clX4 (by decide) rfl rfl rfl wd196 (s_aload_n dX4_search_16 rfl (s_bipush dX4_search_17 (by decide) (s_putI (f := 6) dX4_search_19 clX4 (by decide) rfl rfl rfl wd197 (s_aload_n dX4_search_22 rfl (s_aload_n dX4_search_23 rfl (s_iconst dX4_search_24 (by decide) (s_iconst dX4_search_25 (by decide) (s_iconst dX4_search_26 (by decide) (s_callS dX4_search_27 (mX4_goThrough 10) (meX4_goThrough 10) wd215 rfl (reX4_goThrough 10) rmX4_search (fitX4_search_27) wd216 (s_vret dX4_search_30 rfl))))))))))))))))))
noncomputable def fX4_search : zF := z_fn 3 kX4_search_0
theorem mX4_search {l : Launch} {D : zD} {B : Nat} : z_MF l D B yX4_search xX4_search fX4_search := z_mf (by decide) rfl (fun h => by cases h) rfl (fun as σ r h => ⟨z_fn_len h, kX4_search_0, z_fn_run h, fun _ => tX4_search_0⟩)
/-! ===== RowChildren$Repainting.towardsLast ===== -/
theorem dX4_towardsLast_0 : decode cX4_towardsLast 0 = .ok (.aload_n 0, 1) := by decide +kernel
theorem dX4_towardsLast_1 : decode cX4_towardsLast 1 = .ok (.iload_n 3, 1) := by decide +kernel
theorem dX4_towardsLast_2 : decode cX4_towardsLast 2 = .ok (.putfield 22, 3) := by decide +kernel
theorem dX4_towardsLast_5 : decode cX4_towardsLast 5 = .ok (.aload_n 0, 1) := by decide +kernel
theorem dX4_towardsLast_6 : decode cX4_towardsLast 6 = .ok (.aload_n 1, 1) := by decide +kernel
theorem dX4_towardsLast_7 : decode cX4_towardsLast 7 = .ok (.iload_n 2, 1) := by decide +kernel
theorem dX4_towardsLast_8 : decode cX4_towardsLast 8 = .ok (.invokevirtual 26, 3) := by decide +kernel
theorem dX4_towardsLast_11 : decode cX4_towardsLast 11 = .ok (.return_, 1) := by decide +kernel
def xX4_towardsLast : zX := (RX4, cX4_towardsLast, 4, none, false, { frames := 16, cells := 0, slots := 0, locals := 468 }, 0, 0, 0, 0)
theorem rmX4_towardsLast : z_Rm xX4_towardsLast := by unfold z_Rm xX4_towardsLast; exact ⟨by decide, by decide⟩
theorem reX4_towardsLast : z_Re xX4_towardsLast := ⟨rfl, rfl⟩
theorem rlX4_towardsLast : 1 ≤ xX4_towardsLast.2.2.2.2.2.1.frames ∧ 21 ≤ xX4_towardsLast.2.2.2.2.2.1.locals := by unfold xX4_towardsLast; exact ⟨by decide, by decide⟩
theorem meX4_towardsLast : z_Me yX4_towardsLast xX4_towardsLast 3 := ⟨wd227, wd185, by decide, by decide, by decide +kernel⟩
theorem fitX4_towardsLast_8 : z_Fit xX4_search xX4_towardsLast := by unfold z_Fit; simp only [xX4_search, xX4_towardsLast]; exact ⟨by decide, by decide⟩
noncomputable def kX4_towardsLast_0 : zK zR := (q_aload 0 (q_iload 3 (q_putI 4 3 (q_aload 0 (q_aload 1 (q_iload 2 (q_callV 4 fX4_search 2 q_vret)))))))
set_option maxRecDepth 100000 in
theorem tX4_towardsLast_0 {l : Launch} {D : zD} {B sz0 : Nat} {post : Option Value → zS → Prop} : zSnd l D B xX4_towardsLast sz0 post 0 kX4_towardsLast_0 (z_Jr post) := (s_aload_n dX4_towardsLast_0 rfl (s_iload_n dX4_towardsLast_1 rfl (s_putI (f := 3) dX4_towardsLast_2 clX4 (by decide) rfl rfl rfl wd194 (s_aload_n dX4_towardsLast_5 rfl (s_aload_n dX4_towardsLast_6 rfl (s_iload_n dX4_towardsLast_7 rfl (s_callV (r := (RX4, TX4, 7)) dX4_towardsLast_8 mX4_search meX4_search wd224 wd225 rfl rfl reX4_search rmX4_towardsLast (fitX4_towardsLast_8) wd226 (s_vret dX4_towardsLast_11 rfl))))))))
noncomputable def fX4_towardsLast : zF := z_fn 4 kX4_towardsLast_0
theorem mX4_towardsLast {l : Launch} {D : zD} {B : Nat} : z_MF l D B yX4_towardsLast xX4_towardsLast fX4_towardsLast := z_mf (by decide) rfl (fun h => by cases h) rfl (fun as σ r h => ⟨z_fn_len h, kX4_towardsLast_0, z_fn_run h, fun _ => tX4_towardsLast_0⟩)
/-! ===== RowChildren$Repainting.towardsFair ===== -/
theorem dX4_towardsFair_0 : decode cX4_towardsFair 0 = .ok (.iload_n 2, 1) := by decide +kernel
theorem dX4_towardsFair_1 : decode cX4_towardsFair 1 = .ok (.iload_n 2, 1) := by decide +kernel
theorem dX4_towardsFair_2 : decode cX4_towardsFair 2 = .ok (.iconst 1, 1) := by decide +kernel
theorem dX4_towardsFair_3 : decode cX4_towardsFair 3 = .ok (.iadd, 1) := by decide +kernel
theorem dX4_towardsFair_4 : decode cX4_towardsFair 4 = .ok (.imul, 1) := by decide +kernel
theorem dX4_towardsFair_5 : decode cX4_towardsFair 5 = .ok (.iconst 2, 1) := by decide +kernel
theorem dX4_towardsFair_6 : decode cX4_towardsFair 6 = .ok (.idiv, 1) := by decide +kernel
theorem dX4_towardsFair_7 : decode cX4_towardsFair 7 = .ok (.istore_n 3, 1) := by decide +kernel
theorem dX4_towardsFair_8 : decode cX4_towardsFair 8 = .ok (.aload_n 0, 1) := by decide +kernel
theorem dX4_towardsFair_9 : decode cX4_towardsFair 9 = .ok (.iconst (-1), 1) := by decide +kernel
theorem dX4_towardsFair_10 : decode cX4_towardsFair 10 = .ok (.putfield 22, 3) := by decide +kernel
theorem dX4_towardsFair_13 : decode cX4_towardsFair 13 = .ok (.aload_n 0, 1) := by decide +kernel
theorem dX4_towardsFair_14 : decode cX4_towardsFair 14 = .ok (.aload_n 1, 1) := by decide +kernel
theorem dX4_towardsFair_15 : decode cX4_towardsFair 15 = .ok (.getfield 30, 3) := by decide +kernel
theorem dX4_towardsFair_18 : decode cX4_towardsFair 18 = .ok (.ifCond .le 19, 3) := by decide +kernel
theorem dX4_towardsFair_21 : decode cX4_towardsFair 21 = .ok (.iload_n 3, 1) := by decide +kernel
theorem dX4_towardsFair_22 : decode cX4_towardsFair 22 = .ok (.aload_n 1, 1) := by decide +kernel
theorem dX4_towardsFair_23 : decode cX4_towardsFair 23 = .ok (.getfield 30, 3) := by decide +kernel
theorem dX4_towardsFair_26 : decode cX4_towardsFair 26 = .ok (.iadd, 1) := by decide +kernel
theorem dX4_towardsFair_27 : decode cX4_towardsFair 27 = .ok (.iconst 1, 1) := by decide +kernel
theorem dX4_towardsFair_28 : decode cX4_towardsFair 28 = .ok (.isub, 1) := by decide +kernel
theorem dX4_towardsFair_29 : decode cX4_towardsFair 29 = .ok (.aload_n 1, 1) := by decide +kernel
theorem dX4_towardsFair_30 : decode cX4_towardsFair 30 = .ok (.getfield 30, 3) := by decide +kernel
theorem dX4_towardsFair_33 : decode cX4_towardsFair 33 = .ok (.idiv, 1) := by decide +kernel
theorem dX4_towardsFair_34 : decode cX4_towardsFair 34 = .ok (.goto 4, 3) := by decide +kernel
theorem dX4_towardsFair_37 : decode cX4_towardsFair 37 = .ok (.iload_n 3, 1) := by decide +kernel
theorem dX4_towardsFair_38 : decode cX4_towardsFair 38 = .ok (.putfield 35, 3) := by decide +kernel
theorem dX4_towardsFair_41 : decode cX4_towardsFair 41 = .ok (.aload_n 0, 1) := by decide +kernel
theorem dX4_towardsFair_42 : decode cX4_towardsFair 42 = .ok (.aload_n 1, 1) := by decide +kernel
theorem dX4_towardsFair_43 : decode cX4_towardsFair 43 = .ok (.iload_n 2, 1) := by decide +kernel
theorem dX4_towardsFair_44 : decode cX4_towardsFair 44 = .ok (.invokevirtual 26, 3) := by decide +kernel
theorem dX4_towardsFair_47 : decode cX4_towardsFair 47 = .ok (.return_, 1) := by decide +kernel
def xX4_towardsFair : zX := (RX4, cX4_towardsFair, 4, none, false, { frames := 16, cells := 0, slots := 0, locals := 468 }, 0, 0, 0, 0)
theorem rmX4_towardsFair : z_Rm xX4_towardsFair := by unfold z_Rm xX4_towardsFair; exact ⟨by decide, by decide⟩
theorem reX4_towardsFair : z_Re xX4_towardsFair := ⟨rfl, rfl⟩
theorem rlX4_towardsFair : 1 ≤ xX4_towardsFair.2.2.2.2.2.1.frames ∧ 21 ≤ xX4_towardsFair.2.2.2.2.2.1.locals := by unfold xX4_towardsFair; exact ⟨by decide, by decide⟩
theorem meX4_towardsFair : z_Me yX4_towardsFair xX4_towardsFair 2 := ⟨wd228, wd185, by decide, by decide, by decide +kernel⟩
theorem fitX4_towardsFair_44 : z_Fit xX4_search xX4_towardsFair := by unfold z_Fit; simp only [xX4_search, xX4_towardsFair]; exact ⟨by decide, by decide⟩
noncomputable def kX4_towardsFair_38 : zK zR := (q_putI 4 4 (q_aload 0 (q_aload 1 (q_iload 2 (q_callV 4 fX4_search 2 q_vret)))))
noncomputable def kX4_towardsFair_0 : zK zR := (q_iload 2 (q_iload 2 (q_push 1 (q_iadd (q_imul (q_push 2 (q_idiv (q_istore 3 (q_aload 0 (q_push (-1) (q_putI 4 3 (q_aload 0 (q_aload 1 (q_getI 5 0 (q_if_le (q_iload 3 kX4_towardsFair_38) (q_iload 3 (q_aload 1 (q_getI 5 0 (q_iadd (q_push 1 (q_isub (q_aload 1 (q_getI 5 0 (q_idiv kX4_towardsFair_38))))))))))))))))))))))))
set_option maxRecDepth 100000 in
theorem tX4_towardsFair_38 {l : Launch} {D : zD} {B sz0 : Nat} {post : Option Value → zS → Prop} : zSnd l D B xX4_towardsFair sz0 post 38 kX4_towardsFair_38 (z_Jr post) := (s_putI (f := 4) dX4_towardsFair_38 clX4 (by decide) rfl rfl rfl wd208 (s_aload_n dX4_towardsFair_41 rfl (s_aload_n dX4_towardsFair_42 rfl (s_iload_n dX4_towardsFair_43 rfl (s_callV (r := (RX4, TX4, 7)) dX4_towardsFair_44 mX4_search meX4_search wd224 wd225 rfl rfl reX4_search rmX4_towardsFair (fitX4_towardsFair_44) wd226 (s_vret dX4_towardsFair_47 rfl))))))
set_option maxRecDepth 100000 in
theorem tX4_towardsFair_0 {l : Launch} {D : zD} {B sz0 : Nat} {post : Option Value → zS → Prop} : zSnd l D B xX4_towardsFair sz0 post 0 kX4_towardsFair_0 (z_Jr post) := (s_iload_n dX4_towardsFair_0 rfl (s_iload_n dX4_towardsFair_1 rfl (s_iconst dX4_towardsFair_2 (by decide) (s_iadd dX4_towardsFair_3 (s_imul dX4_towardsFair_4 (s_iconst dX4_towardsFair_5 (by decide) (s_idiv dX4_towardsFair_6 (s_istore_n dX4_towardsFair_7 rfl (s_aload_n dX4_towardsFair_8 rfl (s_iconst dX4_towardsFair_9 (by decide) (s_putI (f := 3) dX4_towardsFair_10 clX4 (by decide) rfl rfl rfl wd194 (s_aload_n dX4_towardsFair_13 rfl (s_aload_n dX4_towardsFair_14 rfl (s_getI (f := 0) dX4_towardsFair_15 clX5 (by decide) rfl wd198 (s_if_le (tgt := 37) dX4_towardsFair_18 (by decide) (s_iload_n dX4_towardsFair_37 rfl tX4_towardsFair_38) (s_iload_n dX4_towardsFair_21 rfl (s_aload_n dX4_towardsFair_22 rfl (s_getI (f := 0) dX4_towardsFair_23 clX5 (by decide) rfl wd198 (s_iadd dX4_towardsFair_26 (s_iconst dX4_towardsFair_27 (by decide) (s_isub dX4_towardsFair_28 (s_aload_n dX4_towardsFair_29 rfl (s_getI (f := 0) dX4_towardsFair_30 clX5 (by decide) rfl wd198 (s_idiv dX4_towardsFair_33 (s_goto (tgt := 38) dX4_towardsFair_34 (by decide) tX4_towardsFair_38)))))))))))))))))))))))))
noncomputable def fX4_towardsFair : zF := z_fn 4 kX4_towardsFair_0
theorem mX4_towardsFair {l : Launch} {D : zD} {B : Nat} : z_MF l D B yX4_towardsFair xX4_towardsFair fX4_towardsFair := z_mf (by decide) rfl (fun h => by cases h) rfl (fun as σ r h => ⟨z_fn_len h, kX4_towardsFair_0, z_fn_run h, fun _ => tX4_towardsFair_0⟩)
/-! ===== RowChildren$Repainting.answer ===== -/
theorem dX4_answer_0 : decode cX4_answer 0 = .ok (.aload_n 0, 1) := by decide +kernel
theorem dX4_answer_1 : decode cX4_answer 1 = .ok (.getfield 38, 3) := by decide +kernel
theorem dX4_answer_4 : decode cX4_answer 4 = .ok (.bipush (-2), 2) := by decide +kernel
theorem dX4_answer_6 : decode cX4_answer 6 = .ok (.if_icmp .ne 6, 3) := by decide +kernel
theorem dX4_answer_9 : decode cX4_answer 9 = .ok (.bipush (-2), 2) := by decide +kernel
theorem dX4_answer_11 : decode cX4_answer 11 = .ok (.ireturn, 1) := by decide +kernel
theorem dX4_answer_12 : decode cX4_answer 12 = .ok (.iload_n 1, 1) := by decide +kernel
theorem dX4_answer_13 : decode cX4_answer 13 = .ok (.ifCond .ne 10, 3) := by decide +kernel
theorem dX4_answer_16 : decode cX4_answer 16 = .ok (.aload_n 0, 1) := by decide +kernel
theorem dX4_answer_17 : decode cX4_answer 17 = .ok (.getfield 41, 3) := by decide +kernel
theorem dX4_answer_20 : decode cX4_answer 20 = .ok (.goto 7, 3) := by decide +kernel
theorem dX4_answer_23 : decode cX4_answer 23 = .ok (.aload_n 0, 1) := by decide +kernel
theorem dX4_answer_24 : decode cX4_answer 24 = .ok (.getfield 38, 3) := by decide +kernel
theorem dX4_answer_27 : decode cX4_answer 27 = .ok (.ireturn, 1) := by decide +kernel
def xX4_answer : zX := (RX4, cX4_answer, 2, (some .int), false, { frames := 1, cells := 0, slots := 0, locals := 90 }, 0, 0, 0, 0)
theorem rmX4_answer : z_Rm xX4_answer := by unfold z_Rm xX4_answer; exact ⟨by decide, by decide⟩
theorem reX4_answer : z_Re xX4_answer := ⟨rfl, rfl⟩
theorem rlX4_answer : 1 ≤ xX4_answer.2.2.2.2.2.1.frames ∧ 21 ≤ xX4_answer.2.2.2.2.2.1.locals := by unfold xX4_answer; exact ⟨by decide, by decide⟩
theorem meX4_answer : z_Me yX4_answer xX4_answer 1 := ⟨wd229, wd185, by decide, by decide, by decide +kernel⟩
noncomputable def kX4_answer_27 : zK zR := q_iret
noncomputable def kX4_answer_0 : zK zR := (q_aload 0 (q_getI 4 6 (q_push (-2) (q_icmp_ne (q_iload 1 (q_if_ne (q_aload 0 (q_getI 4 6 kX4_answer_27)) (q_aload 0 (q_getI 4 5 kX4_answer_27)))) (q_push (-2) q_iret)))))
set_option maxRecDepth 100000 in
theorem tX4_answer_27 {l : Launch} {D : zD} {B sz0 : Nat} {post : Option Value → zS → Prop} : zSnd l D B xX4_answer sz0 post 27 kX4_answer_27 (z_Jr post) := (s_iret dX4_answer_27 rfl)
set_option maxRecDepth 100000 in
theorem tX4_answer_0 {l : Launch} {D : zD} {B sz0 : Nat} {post : Option Value → zS → Prop} : zSnd l D B xX4_answer sz0 post 0 kX4_answer_0 (z_Jr post) := (s_aload_n dX4_answer_0 rfl (s_getI (f := 6) dX4_answer_1 clX4 (by decide) rfl wd197 (s_bipush dX4_answer_4 (by decide) (s_icmp_ne (tgt := 12) dX4_answer_6 (by decide) (s_iload_n dX4_answer_12 rfl (s_if_ne (tgt := 23) dX4_answer_13 (by decide) (s_aload_n dX4_answer_23 rfl (s_getI (f := 6) dX4_answer_24 clX4 (by decide) rfl wd197 tX4_answer_27)) (s_aload_n dX4_answer_16 rfl (s_getI (f := 5) dX4_answer_17 clX4 (by decide) rfl wd196 (s_goto (tgt := 27) dX4_answer_20 (by decide) tX4_answer_27))))) (s_bipush dX4_answer_9 (by decide) (s_iret dX4_answer_11 rfl))))))
noncomputable def fX4_answer : zF := z_fn 2 kX4_answer_0
theorem mX4_answer {l : Launch} {D : zD} {B : Nat} : z_MF l D B yX4_answer xX4_answer fX4_answer := z_mf (by decide) rfl (fun h => by cases h) rfl (fun as σ r h => ⟨z_fn_len h, kX4_answer_0, z_fn_run h, fun _ => tX4_answer_0⟩)
/-! ===== RowChildren$Table.<init> ===== -/
theorem dX5_init_0 : decode cX5_init 0 = .ok (.aload_n 0, 1) := by decide +kernel
theorem dX5_init_1 : decode cX5_init 1 = .ok (.invokespecial 3, 3) := by decide +kernel
theorem dX5_init_4 : decode cX5_init 4 = .ok (.aload_n 0, 1) := by decide +kernel
theorem dX5_init_5 : decode cX5_init 5 = .ok (.bipush 16, 2) := by decide +kernel
theorem dX5_init_7 : decode cX5_init 7 = .ok (.newarray .int, 2) := by decide +kernel
theorem dX5_init_9 : decode cX5_init 9 = .ok (.putfield 9, 3) := by decide +kernel
theorem dX5_init_12 : decode cX5_init 12 = .ok (.aload_n 0, 1) := by decide +kernel
theorem dX5_init_13 : decode cX5_init 13 = .ok (.bipush 36, 2) := by decide +kernel
theorem dX5_init_15 : decode cX5_init 15 = .ok (.newarray .int, 2) := by decide +kernel
theorem dX5_init_17 : decode cX5_init 17 = .ok (.putfield 15, 3) := by decide +kernel
theorem dX5_init_20 : decode cX5_init 20 = .ok (.aload_n 0, 1) := by decide +kernel
theorem dX5_init_21 : decode cX5_init 21 = .ok (.bipush 16, 2) := by decide +kernel
theorem dX5_init_23 : decode cX5_init 23 = .ok (.newarray .int, 2) := by decide +kernel
theorem dX5_init_25 : decode cX5_init 25 = .ok (.putfield 18, 3) := by decide +kernel
theorem dX5_init_28 : decode cX5_init 28 = .ok (.aload_n 0, 1) := by decide +kernel
theorem dX5_init_29 : decode cX5_init 29 = .ok (.bipush 16, 2) := by decide +kernel
theorem dX5_init_31 : decode cX5_init 31 = .ok (.newarray .int, 2) := by decide +kernel
theorem dX5_init_33 : decode cX5_init 33 = .ok (.putfield 21, 3) := by decide +kernel
theorem dX5_init_36 : decode cX5_init 36 = .ok (.return_, 1) := by decide +kernel
def xX5_init : zX := (RX5, cX5_init, 1, none, true, { frames := 1, cells := 4, slots := 8192, locals := 90 }, 4, 2048, 0, 0)
theorem rmX5_init : z_Rm xX5_init := by unfold z_Rm xX5_init; exact ⟨by decide, by decide⟩
theorem reX5_init : z_Re xX5_init := ⟨rfl, rfl⟩
theorem rlX5_init : 1 ≤ xX5_init.2.2.2.2.2.1.frames ∧ 21 ≤ xX5_init.2.2.2.2.2.1.locals := by unfold xX5_init; exact ⟨by decide, by decide⟩
theorem meX5_init : z_Me yX5_init xX5_init 0 := ⟨wd235, wd236, by decide, by decide, by decide +kernel⟩
noncomputable def kX5_init_0 (lim : Nat) : zK zR := (q_aload 0 (q_obj (q_aload 0 (q_push 16 (q_newa 0 2048 lim (q_putR 5 3 (q_aload 0 (q_push 36 (q_newa 0 2048 lim (q_putR 5 4 (q_aload 0 (q_push 16 (q_newa 0 2048 lim (q_putR 5 5 (q_aload 0 (q_push 16 (q_newa 0 2048 lim (q_putR 5 6 q_vret))))))))))))))))))
set_option maxRecDepth 100000 in
theorem tX5_init_0 {l : Launch} {D : zD} {B sz0 : Nat} {post : Option Value → zS → Prop} : zSnd l D B xX5_init sz0 post 0 (kX5_init_0 (sz0 + 4)) (z_Jr post) := (s_aload_n dX5_init_0 rfl (s_obj dX5_init_1 wd230 wd1 wd2 (by decide) (s_aload_n dX5_init_4 rfl (s_bipush dX5_init_5 (by decide) (s_newa (t := 0) dX5_init_7 (by decide) rfl wd3 rmX5_init rfl (by decide) rfl (s_putRF (f := 3) dX5_init_9 clX5 (by decide) rfl rfl rfl rfl (Or.inr ⟨_, rfl⟩) wd231 (s_aload_n dX5_init_12 rfl (s_bipush dX5_init_13 (by decide) (s_newa (t := 0) dX5_init_15 (by decide) rfl wd3 rmX5_init rfl (by decide) rfl (s_putRF (f := 4) dX5_init_17 clX5 (by decide) rfl rfl rfl rfl (Or.inr ⟨_, rfl⟩) wd232 (s_aload_n dX5_init_20 rfl (s_bipush dX5_init_21 (by decide) (s_newa (t := 0) dX5_init_23 (by decide) rfl wd3 rmX5_init rfl (by decide) rfl (s_putRF (f := 5) dX5_init_25 clX5 (by decide) rfl rfl rfl rfl (Or.inr ⟨_, rfl⟩) wd233 (s_aload_n dX5_init_28 rfl (s_bipush dX5_init_29 (by decide) (s_newa (t := 0) dX5_init_31 (by decide) rfl wd3 rmX5_init rfl (by decide) rfl (s_putRF (f := 6) dX5_init_33 clX5 (by decide) rfl rfl rfl rfl (Or.inr ⟨_, rfl⟩) wd234 (s_vret dX5_init_36 rfl)))))))))))))))))))
noncomputable def fX5_init : zF := fun as σ => z_fn 1 (kX5_init_0 (z_sz σ + 4)) as σ
theorem mX5_init {l : Launch} {D : zD} {B : Nat} : z_MF l D B yX5_init xX5_init fX5_init := z_mf (by decide) rfl (fun _ => rfl) rfl (fun as σ r h => ⟨z_fn_len h, kX5_init_0 (z_sz σ + 4), z_fn_run h, fun _ => tX5_init_0⟩)
/-! ===== RowChildren$Table.clear ===== -/
theorem dX5_clear_0 : decode cX5_clear 0 = .ok (.aload_n 0, 1) := by decide +kernel
theorem dX5_clear_1 : decode cX5_clear 1 = .ok (.iconst 2, 1) := by decide +kernel
theorem dX5_clear_2 : decode cX5_clear 2 = .ok (.putfield 24, 3) := by decide +kernel
theorem dX5_clear_5 : decode cX5_clear 5 = .ok (.iconst 0, 1) := by decide +kernel
theorem dX5_clear_6 : decode cX5_clear 6 = .ok (.istore_n 1, 1) := by decide +kernel
theorem dX5_clear_7 : decode cX5_clear 7 = .ok (.iload_n 1, 1) := by decide +kernel
theorem dX5_clear_8 : decode cX5_clear 8 = .ok (.aload_n 0, 1) := by decide +kernel
theorem dX5_clear_9 : decode cX5_clear 9 = .ok (.getfield 9, 3) := by decide +kernel
theorem dX5_clear_12 : decode cX5_clear 12 = .ok (.arraylength, 1) := by decide +kernel
theorem dX5_clear_13 : decode cX5_clear 13 = .ok (.if_icmp .ge 16, 3) := by decide +kernel
theorem dX5_clear_16 : decode cX5_clear 16 = .ok (.aload_n 0, 1) := by decide +kernel
theorem dX5_clear_17 : decode cX5_clear 17 = .ok (.getfield 9, 3) := by decide +kernel
theorem dX5_clear_20 : decode cX5_clear 20 = .ok (.iload_n 1, 1) := by decide +kernel
theorem dX5_clear_21 : decode cX5_clear 21 = .ok (.iconst (-1), 1) := by decide +kernel
theorem dX5_clear_22 : decode cX5_clear 22 = .ok (.iastore, 1) := by decide +kernel
theorem dX5_clear_23 : decode cX5_clear 23 = .ok (.iinc 1 1, 3) := by decide +kernel
theorem dX5_clear_26 : decode cX5_clear 26 = .ok (.goto (-19), 3) := by decide +kernel
theorem dX5_clear_29 : decode cX5_clear 29 = .ok (.return_, 1) := by decide +kernel
def xX5_clear : zX := (RX5, cX5_clear, 2, none, false, { frames := 1, cells := 0, slots := 0, locals := 90 }, 0, 0, 0, 0)
theorem rmX5_clear : z_Rm xX5_clear := by unfold z_Rm xX5_clear; exact ⟨by decide, by decide⟩
theorem reX5_clear : z_Re xX5_clear := ⟨rfl, rfl⟩
theorem rlX5_clear : 1 ≤ xX5_clear.2.2.2.2.2.1.frames ∧ 21 ≤ xX5_clear.2.2.2.2.2.1.locals := by unfold xX5_clear; exact ⟨by decide, by decide⟩
theorem meX5_clear : z_Me yX5_clear xX5_clear 0 := ⟨wd238, wd236, by decide, by decide, by decide +kernel⟩
noncomputable def kX5_clear_29 : zK zR := q_vret
noncomputable def bX5_clear_7 : zK ((zL × zS) ⊕ zR) := (q_iload 1 (q_aload 0 (q_getR 5 3 (q_alen (q_icmp_ge (q_dn kX5_clear_29) (q_aload 0 (q_getR 5 3 (q_iload 1 (q_push (-1) (q_iast (q_iinc 1 1 q_ag)))))))))))
noncomputable def kX5_clear_7 : zK zR := q_lp (bX5_clear_7)
noncomputable def kX5_clear_0 : zK zR := (q_aload 0 (q_push 2 (q_putI 5 0 (q_push 0 (q_istore 1 kX5_clear_7)))))
set_option maxRecDepth 100000 in
theorem tX5_clear_29 {l : Launch} {D : zD} {B sz0 : Nat} {post : Option Value → zS → Prop} : zSnd l D B xX5_clear sz0 post 29 kX5_clear_29 (z_Jr post) := (s_vret dX5_clear_29 rfl)
set_option maxRecDepth 100000 in
theorem tX5_clear_7 {l : Launch} {D : zD} {B sz0 : Nat} {post : Option Value → zS → Prop} : zSnd l D B xX5_clear sz0 post 7 kX5_clear_7 (z_Jr post) := s_lp (body := bX5_clear_7) (s_iload_n dX5_clear_7 rfl (s_aload_n dX5_clear_8 rfl (s_getR (f := 3) dX5_clear_9 clX5 (by decide) rfl wd231 (s_alen dX5_clear_12 (s_icmp_ge (tgt := 29) dX5_clear_13 (by decide) (s_dn tX5_clear_29) (s_aload_n dX5_clear_16 rfl (s_getR (f := 3) dX5_clear_17 clX5 (by decide) rfl wd231 (s_iload_n dX5_clear_20 rfl (s_iconst dX5_clear_21 (by decide) (s_iast dX5_clear_22 (s_iinc dX5_clear_23 (by decide) (s_goto (tgt := 7) dX5_clear_26 (by decide) s_ag))))))))))))
set_option maxRecDepth 100000 in
theorem tX5_clear_0 {l : Launch} {D : zD} {B sz0 : Nat} {post : Option Value → zS → Prop} : zSnd l D B xX5_clear sz0 post 0 kX5_clear_0 (z_Jr post) := (s_aload_n dX5_clear_0 rfl (s_iconst dX5_clear_1 (by decide) (s_putI (f := 0) dX5_clear_2 clX5 (by decide) rfl rfl rfl wd237 (s_iconst dX5_clear_5 (by decide) (s_istore_n dX5_clear_6 rfl tX5_clear_7)))))
noncomputable def fX5_clear : zF := z_fn 2 kX5_clear_0
theorem mX5_clear {l : Launch} {D : zD} {B : Nat} : z_MF l D B yX5_clear xX5_clear fX5_clear := z_mf (by decide) rfl (fun h => by cases h) rfl (fun as σ r h => ⟨z_fn_len h, kX5_clear_0, z_fn_run h, fun _ => tX5_clear_0⟩)
/-! ===== RowChildren$Table.setChild ===== -/
theorem dX5_setChild_0 : decode cX5_setChild 0 = .ok (.aload_n 0, 1) := by decide +kernel
theorem dX5_setChild_1 : decode cX5_setChild 1 = .ok (.getfield 9, 3) := by decide +kernel
theorem dX5_setChild_4 : decode cX5_setChild 4 = .ok (.iload_n 1, 1) := by decide +kernel
theorem dX5_setChild_5 : decode cX5_setChild 5 = .ok (.iconst 3, 1) := by decide +kernel
theorem dX5_setChild_6 : decode cX5_setChild 6 = .ok (.iand, 1) := by decide +kernel
theorem dX5_setChild_7 : decode cX5_setChild 7 = .ok (.iconst 4, 1) := by decide +kernel
theorem dX5_setChild_8 : decode cX5_setChild 8 = .ok (.imul, 1) := by decide +kernel
theorem dX5_setChild_9 : decode cX5_setChild 9 = .ok (.iload_n 2, 1) := by decide +kernel
theorem dX5_setChild_10 : decode cX5_setChild 10 = .ok (.iconst 3, 1) := by decide +kernel
theorem dX5_setChild_11 : decode cX5_setChild 11 = .ok (.iand, 1) := by decide +kernel
theorem dX5_setChild_12 : decode cX5_setChild 12 = .ok (.iadd, 1) := by decide +kernel
theorem dX5_setChild_13 : decode cX5_setChild 13 = .ok (.iload_n 3, 1) := by decide +kernel
theorem dX5_setChild_14 : decode cX5_setChild 14 = .ok (.iastore, 1) := by decide +kernel
theorem dX5_setChild_15 : decode cX5_setChild 15 = .ok (.return_, 1) := by decide +kernel
def xX5_setChild : zX := (RX5, cX5_setChild, 4, none, false, { frames := 1, cells := 0, slots := 0, locals := 90 }, 0, 0, 0, 0)
theorem rmX5_setChild : z_Rm xX5_setChild := by unfold z_Rm xX5_setChild; exact ⟨by decide, by decide⟩
theorem reX5_setChild : z_Re xX5_setChild := ⟨rfl, rfl⟩
theorem rlX5_setChild : 1 ≤ xX5_setChild.2.2.2.2.2.1.frames ∧ 21 ≤ xX5_setChild.2.2.2.2.2.1.locals := by unfold xX5_setChild; exact ⟨by decide, by decide⟩
theorem meX5_setChild : z_Me yX5_setChild xX5_setChild 3 := ⟨wd239, wd236, by decide, by decide, by decide +kernel⟩
noncomputable def kX5_setChild_0 : zK zR := (q_aload 0 (q_getR 5 3 (q_iload 1 (q_push 3 (q_iand (q_push 4 (q_imul (q_iload 2 (q_push 3 (q_iand (q_iadd (q_iload 3 (q_iast q_vret)))))))))))))
set_option maxRecDepth 100000 in
theorem tX5_setChild_0 {l : Launch} {D : zD} {B sz0 : Nat} {post : Option Value → zS → Prop} : zSnd l D B xX5_setChild sz0 post 0 kX5_setChild_0 (z_Jr post) := (s_aload_n dX5_setChild_0 rfl (s_getR (f := 3) dX5_setChild_1 clX5 (by decide) rfl wd231 (s_iload_n dX5_setChild_4 rfl (s_iconst dX5_setChild_5 (by decide) (s_iand dX5_setChild_6 (s_iconst dX5_setChild_7 (by decide) (s_imul dX5_setChild_8 (s_iload_n dX5_setChild_9 rfl (s_iconst dX5_setChild_10 (by decide) (s_iand dX5_setChild_11 (s_iadd dX5_setChild_12 (s_iload_n dX5_setChild_13 rfl (s_iast dX5_setChild_14 (s_vret dX5_setChild_15 rfl))))))))))))))
noncomputable def fX5_setChild : zF := z_fn 4 kX5_setChild_0
theorem mX5_setChild {l : Launch} {D : zD} {B : Nat} : z_MF l D B yX5_setChild xX5_setChild fX5_setChild := z_mf (by decide) rfl (fun h => by cases h) rfl (fun as σ r h => ⟨z_fn_len h, kX5_setChild_0, z_fn_run h, fun _ => tX5_setChild_0⟩)
/-! ===== RowChildren$Table.childOf ===== -/
theorem dX5_childOf_0 : decode cX5_childOf 0 = .ok (.aload_n 0, 1) := by decide +kernel
theorem dX5_childOf_1 : decode cX5_childOf 1 = .ok (.getfield 9, 3) := by decide +kernel
theorem dX5_childOf_4 : decode cX5_childOf 4 = .ok (.iload_n 1, 1) := by decide +kernel
theorem dX5_childOf_5 : decode cX5_childOf 5 = .ok (.iconst 3, 1) := by decide +kernel
theorem dX5_childOf_6 : decode cX5_childOf 6 = .ok (.iand, 1) := by decide +kernel
theorem dX5_childOf_7 : decode cX5_childOf 7 = .ok (.iconst 4, 1) := by decide +kernel
theorem dX5_childOf_8 : decode cX5_childOf 8 = .ok (.imul, 1) := by decide +kernel
theorem dX5_childOf_9 : decode cX5_childOf 9 = .ok (.iload_n 2, 1) := by decide +kernel
theorem dX5_childOf_10 : decode cX5_childOf 10 = .ok (.iconst 3, 1) := by decide +kernel
theorem dX5_childOf_11 : decode cX5_childOf 11 = .ok (.iand, 1) := by decide +kernel
theorem dX5_childOf_12 : decode cX5_childOf 12 = .ok (.iadd, 1) := by decide +kernel
theorem dX5_childOf_13 : decode cX5_childOf 13 = .ok (.iaload, 1) := by decide +kernel
theorem dX5_childOf_14 : decode cX5_childOf 14 = .ok (.ireturn, 1) := by decide +kernel
def xX5_childOf : zX := (RX5, cX5_childOf, 3, (some .int), false, { frames := 1, cells := 0, slots := 0, locals := 90 }, 0, 0, 0, 0)
theorem rmX5_childOf : z_Rm xX5_childOf := by unfold z_Rm xX5_childOf; exact ⟨by decide, by decide⟩
theorem reX5_childOf : z_Re xX5_childOf := ⟨rfl, rfl⟩
theorem rlX5_childOf : 1 ≤ xX5_childOf.2.2.2.2.2.1.frames ∧ 21 ≤ xX5_childOf.2.2.2.2.2.1.locals := by unfold xX5_childOf; exact ⟨by decide, by decide⟩
theorem meX5_childOf : z_Me yX5_childOf xX5_childOf 2 := ⟨wd240, wd236, by decide, by decide, by decide +kernel⟩
noncomputable def kX5_childOf_0 : zK zR := (q_aload 0 (q_getR 5 3 (q_iload 1 (q_push 3 (q_iand (q_push 4 (q_imul (q_iload 2 (q_push 3 (q_iand (q_iadd (q_iald q_iret))))))))))))
set_option maxRecDepth 100000 in
theorem tX5_childOf_0 {l : Launch} {D : zD} {B sz0 : Nat} {post : Option Value → zS → Prop} : zSnd l D B xX5_childOf sz0 post 0 kX5_childOf_0 (z_Jr post) := (s_aload_n dX5_childOf_0 rfl (s_getR (f := 3) dX5_childOf_1 clX5 (by decide) rfl wd231 (s_iload_n dX5_childOf_4 rfl (s_iconst dX5_childOf_5 (by decide) (s_iand dX5_childOf_6 (s_iconst dX5_childOf_7 (by decide) (s_imul dX5_childOf_8 (s_iload_n dX5_childOf_9 rfl (s_iconst dX5_childOf_10 (by decide) (s_iand dX5_childOf_11 (s_iadd dX5_childOf_12 (s_iald dX5_childOf_13 (s_iret dX5_childOf_14 rfl)))))))))))))
noncomputable def fX5_childOf : zF := z_fn 3 kX5_childOf_0
theorem mX5_childOf {l : Launch} {D : zD} {B : Nat} : z_MF l D B yX5_childOf xX5_childOf fX5_childOf := z_mf (by decide) rfl (fun h => by cases h) rfl (fun as σ r h => ⟨z_fn_len h, kX5_childOf_0, z_fn_run h, fun _ => tX5_childOf_0⟩)
/-! ===== RowChildren$Table.nextColour ===== -/
theorem dX5_nextColour_0 : decode cX5_nextColour 0 = .ok (.iload_n 1, 1) := by decide +kernel
theorem dX5_nextColour_1 : decode cX5_nextColour 1 = .ok (.iconst 1, 1) := by decide +kernel
theorem dX5_nextColour_2 : decode cX5_nextColour 2 = .ok (.iadd, 1) := by decide +kernel
theorem dX5_nextColour_3 : decode cX5_nextColour 3 = .ok (.aload_n 0, 1) := by decide +kernel
theorem dX5_nextColour_4 : decode cX5_nextColour 4 = .ok (.getfield 24, 3) := by decide +kernel
theorem dX5_nextColour_7 : decode cX5_nextColour 7 = .ok (.if_icmp .ge 9, 3) := by decide +kernel
theorem dX5_nextColour_10 : decode cX5_nextColour 10 = .ok (.iload_n 1, 1) := by decide +kernel
theorem dX5_nextColour_11 : decode cX5_nextColour 11 = .ok (.iconst 1, 1) := by decide +kernel
theorem dX5_nextColour_12 : decode cX5_nextColour 12 = .ok (.iadd, 1) := by decide +kernel
theorem dX5_nextColour_13 : decode cX5_nextColour 13 = .ok (.goto 4, 3) := by decide +kernel
theorem dX5_nextColour_16 : decode cX5_nextColour 16 = .ok (.iconst 0, 1) := by decide +kernel
theorem dX5_nextColour_17 : decode cX5_nextColour 17 = .ok (.ireturn, 1) := by decide +kernel
def xX5_nextColour : zX := (RX5, cX5_nextColour, 2, (some .int), false, { frames := 1, cells := 0, slots := 0, locals := 90 }, 0, 0, 0, 0)
theorem rmX5_nextColour : z_Rm xX5_nextColour := by unfold z_Rm xX5_nextColour; exact ⟨by decide, by decide⟩
theorem reX5_nextColour : z_Re xX5_nextColour := ⟨rfl, rfl⟩
theorem rlX5_nextColour : 1 ≤ xX5_nextColour.2.2.2.2.2.1.frames ∧ 21 ≤ xX5_nextColour.2.2.2.2.2.1.locals := by unfold xX5_nextColour; exact ⟨by decide, by decide⟩
theorem meX5_nextColour : z_Me yX5_nextColour xX5_nextColour 1 := ⟨wd241, wd236, by decide, by decide, by decide +kernel⟩
noncomputable def kX5_nextColour_17 : zK zR := q_iret
noncomputable def kX5_nextColour_0 : zK zR := (q_iload 1 (q_push 1 (q_iadd (q_aload 0 (q_getI 5 0 (q_icmp_ge (q_push 0 kX5_nextColour_17) (q_iload 1 (q_push 1 (q_iadd kX5_nextColour_17)))))))))
set_option maxRecDepth 100000 in
theorem tX5_nextColour_17 {l : Launch} {D : zD} {B sz0 : Nat} {post : Option Value → zS → Prop} : zSnd l D B xX5_nextColour sz0 post 17 kX5_nextColour_17 (z_Jr post) := (s_iret dX5_nextColour_17 rfl)
set_option maxRecDepth 100000 in
theorem tX5_nextColour_0 {l : Launch} {D : zD} {B sz0 : Nat} {post : Option Value → zS → Prop} : zSnd l D B xX5_nextColour sz0 post 0 kX5_nextColour_0 (z_Jr post) := (s_iload_n dX5_nextColour_0 rfl (s_iconst dX5_nextColour_1 (by decide) (s_iadd dX5_nextColour_2 (s_aload_n dX5_nextColour_3 rfl (s_getI (f := 0) dX5_nextColour_4 clX5 (by decide) rfl wd237 (s_icmp_ge (tgt := 16) dX5_nextColour_7 (by decide) (s_iconst dX5_nextColour_16 (by decide) tX5_nextColour_17) (s_iload_n dX5_nextColour_10 rfl (s_iconst dX5_nextColour_11 (by decide) (s_iadd dX5_nextColour_12 (s_goto (tgt := 17) dX5_nextColour_13 (by decide) tX5_nextColour_17))))))))))
noncomputable def fX5_nextColour : zF := z_fn 2 kX5_nextColour_0
theorem mX5_nextColour {l : Launch} {D : zD} {B : Nat} : z_MF l D B yX5_nextColour xX5_nextColour fX5_nextColour := z_mf (by decide) rfl (fun h => by cases h) rfl (fun as σ r h => ⟨z_fn_len h, kX5_nextColour_0, z_fn_run h, fun _ => tX5_nextColour_0⟩)
/-! ===== RowChildren$Table.fillGaps ===== -/
theorem dX5_fillGaps_0 : decode cX5_fillGaps 0 = .ok (.iconst 0, 1) := by decide +kernel
theorem dX5_fillGaps_1 : decode cX5_fillGaps 1 = .ok (.istore_n 1, 1) := by decide +kernel
theorem dX5_fillGaps_2 : decode cX5_fillGaps 2 = .ok (.iload_n 1, 1) := by decide +kernel
theorem dX5_fillGaps_3 : decode cX5_fillGaps 3 = .ok (.iconst 4, 1) := by decide +kernel
theorem dX5_fillGaps_4 : decode cX5_fillGaps 4 = .ok (.if_icmp .ge 57, 3) := by decide +kernel
theorem dX5_fillGaps_7 : decode cX5_fillGaps 7 = .ok (.iconst 0, 1) := by decide +kernel
theorem dX5_fillGaps_8 : decode cX5_fillGaps 8 = .ok (.istore_n 2, 1) := by decide +kernel
theorem dX5_fillGaps_9 : decode cX5_fillGaps 9 = .ok (.iload_n 2, 1) := by decide +kernel
theorem dX5_fillGaps_10 : decode cX5_fillGaps 10 = .ok (.iconst 4, 1) := by decide +kernel
theorem dX5_fillGaps_11 : decode cX5_fillGaps 11 = .ok (.if_icmp .ge 44, 3) := by decide +kernel
theorem dX5_fillGaps_14 : decode cX5_fillGaps 14 = .ok (.aload_n 0, 1) := by decide +kernel
theorem dX5_fillGaps_15 : decode cX5_fillGaps 15 = .ok (.iload_n 1, 1) := by decide +kernel
theorem dX5_fillGaps_16 : decode cX5_fillGaps 16 = .ok (.iload_n 2, 1) := by decide +kernel
theorem dX5_fillGaps_17 : decode cX5_fillGaps 17 = .ok (.invokevirtual 28, 3) := by decide +kernel
theorem dX5_fillGaps_20 : decode cX5_fillGaps 20 = .ok (.iconst (-1), 1) := by decide +kernel
theorem dX5_fillGaps_21 : decode cX5_fillGaps 21 = .ok (.if_icmp .ne 28, 3) := by decide +kernel
theorem dX5_fillGaps_24 : decode cX5_fillGaps 24 = .ok (.aload_n 0, 1) := by decide +kernel
theorem dX5_fillGaps_25 : decode cX5_fillGaps 25 = .ok (.iload_n 1, 1) := by decide +kernel
theorem dX5_fillGaps_26 : decode cX5_fillGaps 26 = .ok (.iload_n 2, 1) := by decide +kernel
theorem dX5_fillGaps_27 : decode cX5_fillGaps 27 = .ok (.aload_n 0, 1) := by decide +kernel
theorem dX5_fillGaps_28 : decode cX5_fillGaps 28 = .ok (.getfield 24, 3) := by decide +kernel
theorem dX5_fillGaps_31 : decode cX5_fillGaps 31 = .ok (.ifCond .le 14, 3) := by decide +kernel
theorem dX5_fillGaps_34 : decode cX5_fillGaps 34 = .ok (.iload_n 1, 1) := by decide +kernel
theorem dX5_fillGaps_35 : decode cX5_fillGaps 35 = .ok (.iload_n 2, 1) := by decide +kernel
theorem dX5_fillGaps_36 : decode cX5_fillGaps 36 = .ok (.iadd, 1) := by decide +kernel
theorem dX5_fillGaps_37 : decode cX5_fillGaps 37 = .ok (.aload_n 0, 1) := by decide +kernel
theorem dX5_fillGaps_38 : decode cX5_fillGaps 38 = .ok (.getfield 24, 3) := by decide +kernel
theorem dX5_fillGaps_41 : decode cX5_fillGaps 41 = .ok (.irem, 1) := by decide +kernel
theorem dX5_fillGaps_42 : decode cX5_fillGaps 42 = .ok (.goto 4, 3) := by decide +kernel
theorem dX5_fillGaps_45 : decode cX5_fillGaps 45 = .ok (.iconst 0, 1) := by decide +kernel
theorem dX5_fillGaps_46 : decode cX5_fillGaps 46 = .ok (.invokevirtual 32, 3) := by decide +kernel
theorem dX5_fillGaps_49 : decode cX5_fillGaps 49 = .ok (.iinc 2 1, 3) := by decide +kernel
theorem dX5_fillGaps_52 : decode cX5_fillGaps 52 = .ok (.goto (-43), 3) := by decide +kernel
theorem dX5_fillGaps_55 : decode cX5_fillGaps 55 = .ok (.iinc 1 1, 3) := by decide +kernel
theorem dX5_fillGaps_58 : decode cX5_fillGaps 58 = .ok (.goto (-56), 3) := by decide +kernel
theorem dX5_fillGaps_61 : decode cX5_fillGaps 61 = .ok (.return_, 1) := by decide +kernel
def xX5_fillGaps : zX := (RX5, cX5_fillGaps, 3, none, false, { frames := 2, cells := 0, slots := 0, locals := 113 }, 0, 0, 0, 0)
theorem rmX5_fillGaps : z_Rm xX5_fillGaps := by unfold z_Rm xX5_fillGaps; exact ⟨by decide, by decide⟩
theorem reX5_fillGaps : z_Re xX5_fillGaps := ⟨rfl, rfl⟩
theorem rlX5_fillGaps : 1 ≤ xX5_fillGaps.2.2.2.2.2.1.frames ∧ 21 ≤ xX5_fillGaps.2.2.2.2.2.1.locals := by unfold xX5_fillGaps; exact ⟨by decide, by decide⟩
theorem meX5_fillGaps : z_Me yX5_fillGaps xX5_fillGaps 0 := ⟨wd248, wd236, by decide, by decide, by decide +kernel⟩
theorem fitX5_fillGaps_17 : z_Fit xX5_childOf xX5_fillGaps := by unfold z_Fit; simp only [xX5_childOf, xX5_fillGaps]; exact ⟨by decide, by decide⟩
theorem fitX5_fillGaps_46 : z_Fit xX5_setChild xX5_fillGaps := by unfold z_Fit; simp only [xX5_setChild, xX5_fillGaps]; exact ⟨by decide, by decide⟩
noncomputable def kX5_fillGaps_61 : zK zR := q_vret
noncomputable def kX5_fillGaps_55 : zK ((zL × zS) ⊕ zR) := (q_iinc 1 1 q_ag)
noncomputable def kX5_fillGaps_49 : zK ((zL × zS) ⊕ ((zL × zS) ⊕ zR)) := (q_iinc 2 1 q_ag)
noncomputable def kX5_fillGaps_46 : zK ((zL × zS) ⊕ ((zL × zS) ⊕ zR)) := (q_callV 5 fX5_setChild 3 kX5_fillGaps_49)
noncomputable def bX5_fillGaps_9 : zK ((zL × zS) ⊕ ((zL × zS) ⊕ zR)) := (q_iload 2 (q_push 4 (q_icmp_ge (q_dn kX5_fillGaps_55) (q_aload 0 (q_iload 1 (q_iload 2 (q_callV 5 fX5_childOf 2 (q_push (-1) (q_icmp_ne kX5_fillGaps_49 (q_aload 0 (q_iload 1 (q_iload 2 (q_aload 0 (q_getI 5 0 (q_if_le (q_push 0 kX5_fillGaps_46) (q_iload 1 (q_iload 2 (q_iadd (q_aload 0 (q_getI 5 0 (q_irem kX5_fillGaps_46)))))))))))))))))))))
noncomputable def kX5_fillGaps_9 : zK ((zL × zS) ⊕ zR) := q_lp (bX5_fillGaps_9)
noncomputable def bX5_fillGaps_2 : zK ((zL × zS) ⊕ zR) := (q_iload 1 (q_push 4 (q_icmp_ge (q_dn kX5_fillGaps_61) (q_push 0 (q_istore 2 kX5_fillGaps_9)))))
noncomputable def kX5_fillGaps_2 : zK zR := q_lp (bX5_fillGaps_2)
noncomputable def kX5_fillGaps_0 : zK zR := (q_push 0 (q_istore 1 kX5_fillGaps_2))
set_option maxRecDepth 100000 in
theorem tX5_fillGaps_61 {l : Launch} {D : zD} {B sz0 : Nat} {post : Option Value → zS → Prop} : zSnd l D B xX5_fillGaps sz0 post 61 kX5_fillGaps_61 (z_Jr post) := (s_vret dX5_fillGaps_61 rfl)
set_option maxRecDepth 100000 in
theorem tX5_fillGaps_55 {l : Launch} {D : zD} {B sz0 : Nat} {post : Option Value → zS → Prop} : zSnd l D B xX5_fillGaps sz0 post 55 kX5_fillGaps_55 (z_Jl l D B xX5_fillGaps sz0 post 2 (z_Jr post)) := (s_iinc dX5_fillGaps_55 (by decide) (s_goto (tgt := 2) dX5_fillGaps_58 (by decide) s_ag))
set_option maxRecDepth 100000 in
theorem tX5_fillGaps_49 {l : Launch} {D : zD} {B sz0 : Nat} {post : Option Value → zS → Prop} : zSnd l D B xX5_fillGaps sz0 post 49 kX5_fillGaps_49 (z_Jl l D B xX5_fillGaps sz0 post 9 (z_Jl l D B xX5_fillGaps sz0 post 2 (z_Jr post))) := (s_iinc dX5_fillGaps_49 (by decide) (s_goto (tgt := 9) dX5_fillGaps_52 (by decide) s_ag))
set_option maxRecDepth 100000 in
theorem tX5_fillGaps_46 {l : Launch} {D : zD} {B sz0 : Nat} {post : Option Value → zS → Prop} : zSnd l D B xX5_fillGaps sz0 post 46 kX5_fillGaps_46 (z_Jl l D B xX5_fillGaps sz0 post 9 (z_Jl l D B xX5_fillGaps sz0 post 2 (z_Jr post))) := (s_callV (r := (RX5, TX5, 7)) dX5_fillGaps_46 mX5_setChild meX5_setChild wd245 wd246 rfl rfl reX5_setChild rmX5_fillGaps (fitX5_fillGaps_46) wd247 tX5_fillGaps_49)
set_option maxRecDepth 100000 in
theorem tX5_fillGaps_9 {l : Launch} {D : zD} {B sz0 : Nat} {post : Option Value → zS → Prop} : zSnd l D B xX5_fillGaps sz0 post 9 kX5_fillGaps_9 (z_Jl l D B xX5_fillGaps sz0 post 2 (z_Jr post)) := s_lp (body := bX5_fillGaps_9) (s_iload_n dX5_fillGaps_9 rfl (s_iconst dX5_fillGaps_10 (by decide) (s_icmp_ge (tgt := 55) dX5_fillGaps_11 (by decide) (s_dn tX5_fillGaps_55) (s_aload_n dX5_fillGaps_14 rfl (s_iload_n dX5_fillGaps_15 rfl (s_iload_n dX5_fillGaps_16 rfl (s_callV (r := (RX5, TX5, 7)) dX5_fillGaps_17 mX5_childOf meX5_childOf wd242 wd243 rfl rfl reX5_childOf rmX5_fillGaps (fitX5_fillGaps_17) wd244 (s_iconst dX5_fillGaps_20 (by decide) (s_icmp_ne (tgt := 49) dX5_fillGaps_21 (by decide) tX5_fillGaps_49 (s_aload_n dX5_fillGaps_24 rfl (s_iload_n dX5_fillGaps_25 rfl (s_iload_n dX5_fillGaps_26 rfl (s_aload_n dX5_fillGaps_27 rfl (s_getI (f := 0) dX5_fillGaps_28 clX5 (by decide) rfl wd237 (s_if_le (tgt := 45) dX5_fillGaps_31 (by decide) (s_iconst dX5_fillGaps_45 (by decide) tX5_fillGaps_46) (s_iload_n dX5_fillGaps_34 rfl (s_iload_n dX5_fillGaps_35 rfl (s_iadd dX5_fillGaps_36 (s_aload_n dX5_fillGaps_37 rfl (s_getI (f := 0) dX5_fillGaps_38 clX5 (by decide) rfl wd237 (s_irem dX5_fillGaps_41 (s_goto (tgt := 46) dX5_fillGaps_42 (by decide) tX5_fillGaps_46))))))))))))))))))))))
set_option maxRecDepth 100000 in
theorem tX5_fillGaps_2 {l : Launch} {D : zD} {B sz0 : Nat} {post : Option Value → zS → Prop} : zSnd l D B xX5_fillGaps sz0 post 2 kX5_fillGaps_2 (z_Jr post) := s_lp (body := bX5_fillGaps_2) (s_iload_n dX5_fillGaps_2 rfl (s_iconst dX5_fillGaps_3 (by decide) (s_icmp_ge (tgt := 61) dX5_fillGaps_4 (by decide) (s_dn tX5_fillGaps_61) (s_iconst dX5_fillGaps_7 (by decide) (s_istore_n dX5_fillGaps_8 rfl tX5_fillGaps_9)))))
set_option maxRecDepth 100000 in
theorem tX5_fillGaps_0 {l : Launch} {D : zD} {B sz0 : Nat} {post : Option Value → zS → Prop} : zSnd l D B xX5_fillGaps sz0 post 0 kX5_fillGaps_0 (z_Jr post) := (s_iconst dX5_fillGaps_0 (by decide) (s_istore_n dX5_fillGaps_1 rfl tX5_fillGaps_2))
noncomputable def fX5_fillGaps : zF := z_fn 3 kX5_fillGaps_0
theorem mX5_fillGaps {l : Launch} {D : zD} {B : Nat} : z_MF l D B yX5_fillGaps xX5_fillGaps fX5_fillGaps := z_mf (by decide) rfl (fun h => by cases h) rfl (fun as σ r h => ⟨z_fn_len h, kX5_fillGaps_0, z_fn_run h, fun _ => tX5_fillGaps_0⟩)
/-! ===== RowChildren$Table.isAlikeBothWays ===== -/
theorem dX5_isAlikeBothWays_0 : decode cX5_isAlikeBothWays 0 = .ok (.iconst 0, 1) := by decide +kernel
theorem dX5_isAlikeBothWays_1 : decode cX5_isAlikeBothWays 1 = .ok (.istore_n 1, 1) := by decide +kernel
theorem dX5_isAlikeBothWays_2 : decode cX5_isAlikeBothWays 2 = .ok (.iload_n 1, 1) := by decide +kernel
theorem dX5_isAlikeBothWays_3 : decode cX5_isAlikeBothWays 3 = .ok (.aload_n 0, 1) := by decide +kernel
theorem dX5_isAlikeBothWays_4 : decode cX5_isAlikeBothWays 4 = .ok (.getfield 24, 3) := by decide +kernel
theorem dX5_isAlikeBothWays_7 : decode cX5_isAlikeBothWays 7 = .ok (.if_icmp .ge 39, 3) := by decide +kernel
theorem dX5_isAlikeBothWays_10 : decode cX5_isAlikeBothWays 10 = .ok (.iconst 0, 1) := by decide +kernel
theorem dX5_isAlikeBothWays_11 : decode cX5_isAlikeBothWays 11 = .ok (.istore_n 2, 1) := by decide +kernel
theorem dX5_isAlikeBothWays_12 : decode cX5_isAlikeBothWays 12 = .ok (.iload_n 2, 1) := by decide +kernel
theorem dX5_isAlikeBothWays_13 : decode cX5_isAlikeBothWays 13 = .ok (.iload_n 1, 1) := by decide +kernel
theorem dX5_isAlikeBothWays_14 : decode cX5_isAlikeBothWays 14 = .ok (.if_icmp .ge 26, 3) := by decide +kernel
theorem dX5_isAlikeBothWays_17 : decode cX5_isAlikeBothWays 17 = .ok (.aload_n 0, 1) := by decide +kernel
theorem dX5_isAlikeBothWays_18 : decode cX5_isAlikeBothWays 18 = .ok (.iload_n 1, 1) := by decide +kernel
theorem dX5_isAlikeBothWays_19 : decode cX5_isAlikeBothWays 19 = .ok (.iload_n 2, 1) := by decide +kernel
theorem dX5_isAlikeBothWays_20 : decode cX5_isAlikeBothWays 20 = .ok (.invokevirtual 28, 3) := by decide +kernel
theorem dX5_isAlikeBothWays_23 : decode cX5_isAlikeBothWays 23 = .ok (.aload_n 0, 1) := by decide +kernel
theorem dX5_isAlikeBothWays_24 : decode cX5_isAlikeBothWays 24 = .ok (.iload_n 2, 1) := by decide +kernel
theorem dX5_isAlikeBothWays_25 : decode cX5_isAlikeBothWays 25 = .ok (.iload_n 1, 1) := by decide +kernel
theorem dX5_isAlikeBothWays_26 : decode cX5_isAlikeBothWays 26 = .ok (.invokevirtual 28, 3) := by decide +kernel
theorem dX5_isAlikeBothWays_29 : decode cX5_isAlikeBothWays 29 = .ok (.if_icmp .eq 5, 3) := by decide +kernel
theorem dX5_isAlikeBothWays_32 : decode cX5_isAlikeBothWays 32 = .ok (.iconst 0, 1) := by decide +kernel
theorem dX5_isAlikeBothWays_33 : decode cX5_isAlikeBothWays 33 = .ok (.ireturn, 1) := by decide +kernel
theorem dX5_isAlikeBothWays_34 : decode cX5_isAlikeBothWays 34 = .ok (.iinc 2 1, 3) := by decide +kernel
theorem dX5_isAlikeBothWays_37 : decode cX5_isAlikeBothWays 37 = .ok (.goto (-25), 3) := by decide +kernel
theorem dX5_isAlikeBothWays_40 : decode cX5_isAlikeBothWays 40 = .ok (.iinc 1 1, 3) := by decide +kernel
theorem dX5_isAlikeBothWays_43 : decode cX5_isAlikeBothWays 43 = .ok (.goto (-41), 3) := by decide +kernel
theorem dX5_isAlikeBothWays_46 : decode cX5_isAlikeBothWays 46 = .ok (.iconst 1, 1) := by decide +kernel
theorem dX5_isAlikeBothWays_47 : decode cX5_isAlikeBothWays 47 = .ok (.ireturn, 1) := by decide +kernel
def xX5_isAlikeBothWays : zX := (RX5, cX5_isAlikeBothWays, 3, (some .boolean), false, { frames := 2, cells := 0, slots := 0, locals := 112 }, 0, 0, 0, 0)
theorem rmX5_isAlikeBothWays : z_Rm xX5_isAlikeBothWays := by unfold z_Rm xX5_isAlikeBothWays; exact ⟨by decide, by decide⟩
theorem reX5_isAlikeBothWays : z_Re xX5_isAlikeBothWays := ⟨rfl, rfl⟩
theorem rlX5_isAlikeBothWays : 1 ≤ xX5_isAlikeBothWays.2.2.2.2.2.1.frames ∧ 21 ≤ xX5_isAlikeBothWays.2.2.2.2.2.1.locals := by unfold xX5_isAlikeBothWays; exact ⟨by decide, by decide⟩
theorem meX5_isAlikeBothWays : z_Me yX5_isAlikeBothWays xX5_isAlikeBothWays 0 := ⟨wd249, wd236, by decide, by decide, by decide +kernel⟩
theorem fitX5_isAlikeBothWays_20 : z_Fit xX5_childOf xX5_isAlikeBothWays := by unfold z_Fit; simp only [xX5_childOf, xX5_isAlikeBothWays]; exact ⟨by decide, by decide⟩
theorem fitX5_isAlikeBothWays_26 : z_Fit xX5_childOf xX5_isAlikeBothWays := by unfold z_Fit; simp only [xX5_childOf, xX5_isAlikeBothWays]; exact ⟨by decide, by decide⟩
noncomputable def kX5_isAlikeBothWays_46 : zK zR := (q_push 1 q_zret)
noncomputable def kX5_isAlikeBothWays_40 : zK ((zL × zS) ⊕ zR) := (q_iinc 1 1 q_ag)
noncomputable def kX5_isAlikeBothWays_32 : zK zR := (q_push 0 q_zret)
noncomputable def bX5_isAlikeBothWays_12 : zK ((zL × zS) ⊕ ((zL × zS) ⊕ zR)) := (q_iload 2 (q_iload 1 (q_icmp_ge (q_dn kX5_isAlikeBothWays_40) (q_aload 0 (q_iload 1 (q_iload 2 (q_callV 5 fX5_childOf 2 (q_aload 0 (q_iload 2 (q_iload 1 (q_callV 5 fX5_childOf 2 (q_icmp_eq (q_iinc 2 1 q_ag) (q_dn (q_dn kX5_isAlikeBothWays_32))))))))))))))
noncomputable def kX5_isAlikeBothWays_12 : zK ((zL × zS) ⊕ zR) := q_lp (bX5_isAlikeBothWays_12)
noncomputable def bX5_isAlikeBothWays_2 : zK ((zL × zS) ⊕ zR) := (q_iload 1 (q_aload 0 (q_getI 5 0 (q_icmp_ge (q_dn kX5_isAlikeBothWays_46) (q_push 0 (q_istore 2 kX5_isAlikeBothWays_12))))))
noncomputable def kX5_isAlikeBothWays_2 : zK zR := q_lp (bX5_isAlikeBothWays_2)
noncomputable def kX5_isAlikeBothWays_0 : zK zR := (q_push 0 (q_istore 1 kX5_isAlikeBothWays_2))
set_option maxRecDepth 100000 in
theorem tX5_isAlikeBothWays_46 {l : Launch} {D : zD} {B sz0 : Nat} {post : Option Value → zS → Prop} : zSnd l D B xX5_isAlikeBothWays sz0 post 46 kX5_isAlikeBothWays_46 (z_Jr post) := (s_iconst dX5_isAlikeBothWays_46 (by decide) (s_zret dX5_isAlikeBothWays_47 rfl))
set_option maxRecDepth 100000 in
theorem tX5_isAlikeBothWays_40 {l : Launch} {D : zD} {B sz0 : Nat} {post : Option Value → zS → Prop} : zSnd l D B xX5_isAlikeBothWays sz0 post 40 kX5_isAlikeBothWays_40 (z_Jl l D B xX5_isAlikeBothWays sz0 post 2 (z_Jr post)) := (s_iinc dX5_isAlikeBothWays_40 (by decide) (s_goto (tgt := 2) dX5_isAlikeBothWays_43 (by decide) s_ag))
set_option maxRecDepth 100000 in
theorem tX5_isAlikeBothWays_32 {l : Launch} {D : zD} {B sz0 : Nat} {post : Option Value → zS → Prop} : zSnd l D B xX5_isAlikeBothWays sz0 post 32 kX5_isAlikeBothWays_32 (z_Jr post) := (s_iconst dX5_isAlikeBothWays_32 (by decide) (s_zret dX5_isAlikeBothWays_33 rfl))
set_option maxRecDepth 100000 in
theorem tX5_isAlikeBothWays_12 {l : Launch} {D : zD} {B sz0 : Nat} {post : Option Value → zS → Prop} : zSnd l D B xX5_isAlikeBothWays sz0 post 12 kX5_isAlikeBothWays_12 (z_Jl l D B xX5_isAlikeBothWays sz0 post 2 (z_Jr post)) := s_lp (body := bX5_isAlikeBothWays_12) (s_iload_n dX5_isAlikeBothWays_12 rfl (s_iload_n dX5_isAlikeBothWays_13 rfl (s_icmp_ge (tgt := 40) dX5_isAlikeBothWays_14 (by decide) (s_dn tX5_isAlikeBothWays_40) (s_aload_n dX5_isAlikeBothWays_17 rfl (s_iload_n dX5_isAlikeBothWays_18 rfl (s_iload_n dX5_isAlikeBothWays_19 rfl (s_callV (r := (RX5, TX5, 7)) dX5_isAlikeBothWays_20 mX5_childOf meX5_childOf wd242 wd243 rfl rfl reX5_childOf rmX5_isAlikeBothWays (fitX5_isAlikeBothWays_20) wd244 (s_aload_n dX5_isAlikeBothWays_23 rfl (s_iload_n dX5_isAlikeBothWays_24 rfl (s_iload_n dX5_isAlikeBothWays_25 rfl (s_callV (r := (RX5, TX5, 7)) dX5_isAlikeBothWays_26 mX5_childOf meX5_childOf wd242 wd243 rfl rfl reX5_childOf rmX5_isAlikeBothWays (fitX5_isAlikeBothWays_26) wd244 (s_icmp_eq (tgt := 34) dX5_isAlikeBothWays_29 (by decide) (s_iinc dX5_isAlikeBothWays_34 (by decide) (s_goto (tgt := 12) dX5_isAlikeBothWays_37 (by decide) s_ag)) (s_dn (s_dn tX5_isAlikeBothWays_32))))))))))))))
set_option maxRecDepth 100000 in
theorem tX5_isAlikeBothWays_2 {l : Launch} {D : zD} {B sz0 : Nat} {post : Option Value → zS → Prop} : zSnd l D B xX5_isAlikeBothWays sz0 post 2 kX5_isAlikeBothWays_2 (z_Jr post) := s_lp (body := bX5_isAlikeBothWays_2) (s_iload_n dX5_isAlikeBothWays_2 rfl (s_aload_n dX5_isAlikeBothWays_3 rfl (s_getI (f := 0) dX5_isAlikeBothWays_4 clX5 (by decide) rfl wd237 (s_icmp_ge (tgt := 46) dX5_isAlikeBothWays_7 (by decide) (s_dn tX5_isAlikeBothWays_46) (s_iconst dX5_isAlikeBothWays_10 (by decide) (s_istore_n dX5_isAlikeBothWays_11 rfl tX5_isAlikeBothWays_12))))))
set_option maxRecDepth 100000 in
theorem tX5_isAlikeBothWays_0 {l : Launch} {D : zD} {B sz0 : Nat} {post : Option Value → zS → Prop} : zSnd l D B xX5_isAlikeBothWays sz0 post 0 kX5_isAlikeBothWays_0 (z_Jr post) := (s_iconst dX5_isAlikeBothWays_0 (by decide) (s_istore_n dX5_isAlikeBothWays_1 rfl tX5_isAlikeBothWays_2))
noncomputable def fX5_isAlikeBothWays : zF := z_fn 3 kX5_isAlikeBothWays_0
theorem mX5_isAlikeBothWays {l : Launch} {D : zD} {B : Nat} : z_MF l D B yX5_isAlikeBothWays xX5_isAlikeBothWays fX5_isAlikeBothWays := z_mf (by decide) rfl (fun h => by cases h) rfl (fun as σ r h => ⟨z_fn_len h, kX5_isAlikeBothWays_0, z_fn_run h, fun _ => tX5_isAlikeBothWays_0⟩)
/-! ===== java/lang/Integer.bitCount ===== -/
theorem dJ6_bitCount_0f7a4_0 : decode cJ6_bitCount_0f7a4 0 = .ok (.iload_n 0, 1) := by decide +kernel
theorem dJ6_bitCount_0f7a4_1 : decode cJ6_bitCount_0f7a4 1 = .ok (.iload_n 0, 1) := by decide +kernel
theorem dJ6_bitCount_0f7a4_2 : decode cJ6_bitCount_0f7a4 2 = .ok (.iconst 1, 1) := by decide +kernel
theorem dJ6_bitCount_0f7a4_3 : decode cJ6_bitCount_0f7a4 3 = .ok (.iushr, 1) := by decide +kernel
theorem dJ6_bitCount_0f7a4_4 : decode cJ6_bitCount_0f7a4 4 = .ok (.ldc_w 265, 3) := by decide +kernel
theorem dJ6_bitCount_0f7a4_7 : decode cJ6_bitCount_0f7a4 7 = .ok (.iand, 1) := by decide +kernel
theorem dJ6_bitCount_0f7a4_8 : decode cJ6_bitCount_0f7a4 8 = .ok (.isub, 1) := by decide +kernel
theorem dJ6_bitCount_0f7a4_9 : decode cJ6_bitCount_0f7a4 9 = .ok (.istore_n 0, 1) := by decide +kernel
theorem dJ6_bitCount_0f7a4_10 : decode cJ6_bitCount_0f7a4 10 = .ok (.iload_n 0, 1) := by decide +kernel
theorem dJ6_bitCount_0f7a4_11 : decode cJ6_bitCount_0f7a4 11 = .ok (.ldc_w 266, 3) := by decide +kernel
theorem dJ6_bitCount_0f7a4_14 : decode cJ6_bitCount_0f7a4 14 = .ok (.iand, 1) := by decide +kernel
theorem dJ6_bitCount_0f7a4_15 : decode cJ6_bitCount_0f7a4 15 = .ok (.iload_n 0, 1) := by decide +kernel
theorem dJ6_bitCount_0f7a4_16 : decode cJ6_bitCount_0f7a4 16 = .ok (.iconst 2, 1) := by decide +kernel
theorem dJ6_bitCount_0f7a4_17 : decode cJ6_bitCount_0f7a4 17 = .ok (.iushr, 1) := by decide +kernel
theorem dJ6_bitCount_0f7a4_18 : decode cJ6_bitCount_0f7a4 18 = .ok (.ldc_w 266, 3) := by decide +kernel
theorem dJ6_bitCount_0f7a4_21 : decode cJ6_bitCount_0f7a4 21 = .ok (.iand, 1) := by decide +kernel
theorem dJ6_bitCount_0f7a4_22 : decode cJ6_bitCount_0f7a4 22 = .ok (.iadd, 1) := by decide +kernel
theorem dJ6_bitCount_0f7a4_23 : decode cJ6_bitCount_0f7a4 23 = .ok (.istore_n 0, 1) := by decide +kernel
theorem dJ6_bitCount_0f7a4_24 : decode cJ6_bitCount_0f7a4 24 = .ok (.iload_n 0, 1) := by decide +kernel
theorem dJ6_bitCount_0f7a4_25 : decode cJ6_bitCount_0f7a4 25 = .ok (.iload_n 0, 1) := by decide +kernel
theorem dJ6_bitCount_0f7a4_26 : decode cJ6_bitCount_0f7a4 26 = .ok (.iconst 4, 1) := by decide +kernel
theorem dJ6_bitCount_0f7a4_27 : decode cJ6_bitCount_0f7a4 27 = .ok (.iushr, 1) := by decide +kernel
theorem dJ6_bitCount_0f7a4_28 : decode cJ6_bitCount_0f7a4 28 = .ok (.iadd, 1) := by decide +kernel
theorem dJ6_bitCount_0f7a4_29 : decode cJ6_bitCount_0f7a4 29 = .ok (.ldc_w 267, 3) := by decide +kernel
theorem dJ6_bitCount_0f7a4_32 : decode cJ6_bitCount_0f7a4 32 = .ok (.iand, 1) := by decide +kernel
theorem dJ6_bitCount_0f7a4_33 : decode cJ6_bitCount_0f7a4 33 = .ok (.istore_n 0, 1) := by decide +kernel
theorem dJ6_bitCount_0f7a4_34 : decode cJ6_bitCount_0f7a4 34 = .ok (.iload_n 0, 1) := by decide +kernel
theorem dJ6_bitCount_0f7a4_35 : decode cJ6_bitCount_0f7a4 35 = .ok (.iload_n 0, 1) := by decide +kernel
theorem dJ6_bitCount_0f7a4_36 : decode cJ6_bitCount_0f7a4 36 = .ok (.bipush 8, 2) := by decide +kernel
theorem dJ6_bitCount_0f7a4_38 : decode cJ6_bitCount_0f7a4 38 = .ok (.iushr, 1) := by decide +kernel
theorem dJ6_bitCount_0f7a4_39 : decode cJ6_bitCount_0f7a4 39 = .ok (.iadd, 1) := by decide +kernel
theorem dJ6_bitCount_0f7a4_40 : decode cJ6_bitCount_0f7a4 40 = .ok (.istore_n 0, 1) := by decide +kernel
theorem dJ6_bitCount_0f7a4_41 : decode cJ6_bitCount_0f7a4 41 = .ok (.iload_n 0, 1) := by decide +kernel
theorem dJ6_bitCount_0f7a4_42 : decode cJ6_bitCount_0f7a4 42 = .ok (.iload_n 0, 1) := by decide +kernel
theorem dJ6_bitCount_0f7a4_43 : decode cJ6_bitCount_0f7a4 43 = .ok (.bipush 16, 2) := by decide +kernel
theorem dJ6_bitCount_0f7a4_45 : decode cJ6_bitCount_0f7a4 45 = .ok (.iushr, 1) := by decide +kernel
theorem dJ6_bitCount_0f7a4_46 : decode cJ6_bitCount_0f7a4 46 = .ok (.iadd, 1) := by decide +kernel
theorem dJ6_bitCount_0f7a4_47 : decode cJ6_bitCount_0f7a4 47 = .ok (.istore_n 0, 1) := by decide +kernel
theorem dJ6_bitCount_0f7a4_48 : decode cJ6_bitCount_0f7a4 48 = .ok (.iload_n 0, 1) := by decide +kernel
theorem dJ6_bitCount_0f7a4_49 : decode cJ6_bitCount_0f7a4 49 = .ok (.bipush 63, 2) := by decide +kernel
theorem dJ6_bitCount_0f7a4_51 : decode cJ6_bitCount_0f7a4 51 = .ok (.iand, 1) := by decide +kernel
theorem dJ6_bitCount_0f7a4_52 : decode cJ6_bitCount_0f7a4 52 = .ok (.ireturn, 1) := by decide +kernel
def xJ6_bitCount_0f7a4 : zX := (RJ6, cJ6_bitCount_0f7a4, 1, (some .int), false, { frames := 1, cells := 0, slots := 0, locals := 90 }, 0, 0, 0, 0)
theorem rmJ6_bitCount_0f7a4 : z_Rm xJ6_bitCount_0f7a4 := by unfold z_Rm xJ6_bitCount_0f7a4; exact ⟨by decide, by decide⟩
theorem reJ6_bitCount_0f7a4 : z_Re xJ6_bitCount_0f7a4 := ⟨rfl, rfl⟩
theorem rlJ6_bitCount_0f7a4 : 1 ≤ xJ6_bitCount_0f7a4.2.2.2.2.2.1.frames ∧ 21 ≤ xJ6_bitCount_0f7a4.2.2.2.2.2.1.locals := by unfold xJ6_bitCount_0f7a4; exact ⟨by decide, by decide⟩
theorem meJ6_bitCount_0f7a4 : z_Me yJ6_bitCount_0f7a4 xJ6_bitCount_0f7a4 1 := ⟨wd253, wd254, by decide, by decide, by decide +kernel⟩
noncomputable def kJ6_bitCount_0f7a4_0 : zK zR := (q_iload 0 (q_iload 0 (q_push 1 (q_iushr (q_push 1431655765 (q_iand (q_isub (q_istore 0 (q_iload 0 (q_push 858993459 (q_iand (q_iload 0 (q_push 2 (q_iushr (q_push 858993459 (q_iand (q_iadd (q_istore 0 (q_iload 0 (q_iload 0 (q_push 4 (q_iushr (q_iadd (q_push 252645135 (q_iand (q_istore 0 (q_iload 0 (q_iload 0 (q_push 8 (q_iushr (q_iadd (q_istore 0 (q_iload 0 (q_iload 0 (q_push 16 (q_iushr (q_iadd (q_istore 0 (q_iload 0 (q_push 63 (q_iand q_iret)))))))))))))))))))))))))))))))))))))))))
set_option maxRecDepth 100000 in
theorem tJ6_bitCount_0f7a4_0 {l : Launch} {D : zD} {B sz0 : Nat} {post : Option Value → zS → Prop} : zSnd l D B xJ6_bitCount_0f7a4 sz0 post 0 kJ6_bitCount_0f7a4_0 (z_Jr post) := (s_iload_n dJ6_bitCount_0f7a4_0 rfl (s_iload_n dJ6_bitCount_0f7a4_1 rfl (s_iconst dJ6_bitCount_0f7a4_2 (by decide) (s_iushr dJ6_bitCount_0f7a4_3 (s_ldcw dJ6_bitCount_0f7a4_4 wd250 (s_iand dJ6_bitCount_0f7a4_7 (s_isub dJ6_bitCount_0f7a4_8 (s_istore_n dJ6_bitCount_0f7a4_9 rfl (s_iload_n dJ6_bitCount_0f7a4_10 rfl (s_ldcw dJ6_bitCount_0f7a4_11 wd251 (s_iand dJ6_bitCount_0f7a4_14 (s_iload_n dJ6_bitCount_0f7a4_15 rfl (s_iconst dJ6_bitCount_0f7a4_16 (by decide) (s_iushr dJ6_bitCount_0f7a4_17 (s_ldcw dJ6_bitCount_0f7a4_18 wd251 (s_iand dJ6_bitCount_0f7a4_21 (s_iadd dJ6_bitCount_0f7a4_22 (s_istore_n dJ6_bitCount_0f7a4_23 rfl (s_iload_n dJ6_bitCount_0f7a4_24 rfl (s_iload_n dJ6_bitCount_0f7a4_25 rfl (s_iconst dJ6_bitCount_0f7a4_26 (by decide) (s_iushr dJ6_bitCount_0f7a4_27 (s_iadd dJ6_bitCount_0f7a4_28 (s_ldcw dJ6_bitCount_0f7a4_29 wd252 (s_iand dJ6_bitCount_0f7a4_32 (s_istore_n dJ6_bitCount_0f7a4_33 rfl (s_iload_n dJ6_bitCount_0f7a4_34 rfl (s_iload_n dJ6_bitCount_0f7a4_35 rfl (s_bipush dJ6_bitCount_0f7a4_36 (by decide) (s_iushr dJ6_bitCount_0f7a4_38 (s_iadd dJ6_bitCount_0f7a4_39 (s_istore_n dJ6_bitCount_0f7a4_40 rfl (s_iload_n dJ6_bitCount_0f7a4_41 rfl (s_iload_n dJ6_bitCount_0f7a4_42 rfl (s_bipush dJ6_bitCount_0f7a4_43 (by decide) (s_iushr dJ6_bitCount_0f7a4_45 (s_iadd dJ6_bitCount_0f7a4_46 (s_istore_n dJ6_bitCount_0f7a4_47 rfl (s_iload_n dJ6_bitCount_0f7a4_48 rfl (s_bipush dJ6_bitCount_0f7a4_49 (by decide) (s_iand dJ6_bitCount_0f7a4_51 (s_iret dJ6_bitCount_0f7a4_52 rfl))))))))))))))))))))))))))))))))))))))))))
noncomputable def fJ6_bitCount_0f7a4 : zF := z_fn 1 kJ6_bitCount_0f7a4_0
theorem mJ6_bitCount_0f7a4 {l : Launch} {D : zD} {B : Nat} : z_MF l D B yJ6_bitCount_0f7a4 xJ6_bitCount_0f7a4 fJ6_bitCount_0f7a4 := z_mf (by decide) rfl (fun h => by cases h) rfl (fun as σ r h => ⟨z_fn_len h, kJ6_bitCount_0f7a4_0, z_fn_run h, fun _ => tJ6_bitCount_0f7a4_0⟩)
/-! ===== RowChildren$Table.isUnlike ===== -/
theorem dX5_isUnlike_0 : decode cX5_isUnlike 0 = .ok (.iconst 0, 1) := by decide +kernel
theorem dX5_isUnlike_1 : decode cX5_isUnlike 1 = .ok (.istore_n 2, 1) := by decide +kernel
theorem dX5_isUnlike_2 : decode cX5_isUnlike 2 = .ok (.iload_n 2, 1) := by decide +kernel
theorem dX5_isUnlike_3 : decode cX5_isUnlike 3 = .ok (.aload_n 0, 1) := by decide +kernel
theorem dX5_isUnlike_4 : decode cX5_isUnlike 4 = .ok (.getfield 24, 3) := by decide +kernel
theorem dX5_isUnlike_7 : decode cX5_isUnlike 7 = .ok (.if_icmp .ge 68, 3) := by decide +kernel
theorem dX5_isUnlike_10 : decode cX5_isUnlike 10 = .ok (.iconst 0, 1) := by decide +kernel
theorem dX5_isUnlike_11 : decode cX5_isUnlike 11 = .ok (.istore_n 3, 1) := by decide +kernel
theorem dX5_isUnlike_12 : decode cX5_isUnlike 12 = .ok (.iconst 0, 1) := by decide +kernel
theorem dX5_isUnlike_13 : decode cX5_isUnlike 13 = .ok (.istore 4, 2) := by decide +kernel
theorem dX5_isUnlike_15 : decode cX5_isUnlike 15 = .ok (.iload 4, 2) := by decide +kernel
theorem dX5_isUnlike_17 : decode cX5_isUnlike 17 = .ok (.aload_n 0, 1) := by decide +kernel
theorem dX5_isUnlike_18 : decode cX5_isUnlike 18 = .ok (.getfield 24, 3) := by decide +kernel
theorem dX5_isUnlike_21 : decode cX5_isUnlike 21 = .ok (.if_icmp .ge 35, 3) := by decide +kernel
theorem dX5_isUnlike_24 : decode cX5_isUnlike 24 = .ok (.iload_n 3, 1) := by decide +kernel
theorem dX5_isUnlike_25 : decode cX5_isUnlike 25 = .ok (.iconst 1, 1) := by decide +kernel
theorem dX5_isUnlike_26 : decode cX5_isUnlike 26 = .ok (.iload_n 1, 1) := by decide +kernel
theorem dX5_isUnlike_27 : decode cX5_isUnlike 27 = .ok (.ifCond .eq 13, 3) := by decide +kernel
theorem dX5_isUnlike_30 : decode cX5_isUnlike 30 = .ok (.aload_n 0, 1) := by decide +kernel
theorem dX5_isUnlike_31 : decode cX5_isUnlike 31 = .ok (.iload_n 2, 1) := by decide +kernel
theorem dX5_isUnlike_32 : decode cX5_isUnlike 32 = .ok (.iload 4, 2) := by decide +kernel
theorem dX5_isUnlike_34 : decode cX5_isUnlike 34 = .ok (.invokevirtual 28, 3) := by decide +kernel
theorem dX5_isUnlike_37 : decode cX5_isUnlike 37 = .ok (.goto 10, 3) := by decide +kernel
theorem dX5_isUnlike_40 : decode cX5_isUnlike 40 = .ok (.aload_n 0, 1) := by decide +kernel
theorem dX5_isUnlike_41 : decode cX5_isUnlike 41 = .ok (.iload 4, 2) := by decide +kernel
theorem dX5_isUnlike_43 : decode cX5_isUnlike 43 = .ok (.iload_n 2, 1) := by decide +kernel
theorem dX5_isUnlike_44 : decode cX5_isUnlike 44 = .ok (.invokevirtual 28, 3) := by decide +kernel
theorem dX5_isUnlike_47 : decode cX5_isUnlike 47 = .ok (.ishl, 1) := by decide +kernel
theorem dX5_isUnlike_48 : decode cX5_isUnlike 48 = .ok (.ior, 1) := by decide +kernel
theorem dX5_isUnlike_49 : decode cX5_isUnlike 49 = .ok (.istore_n 3, 1) := by decide +kernel
theorem dX5_isUnlike_50 : decode cX5_isUnlike 50 = .ok (.iinc 4 1, 3) := by decide +kernel
theorem dX5_isUnlike_53 : decode cX5_isUnlike 53 = .ok (.goto (-38), 3) := by decide +kernel
theorem dX5_isUnlike_56 : decode cX5_isUnlike 56 = .ok (.iload_n 3, 1) := by decide +kernel
theorem dX5_isUnlike_57 : decode cX5_isUnlike 57 = .ok (.invokestatic 36, 3) := by decide +kernel
theorem dX5_isUnlike_60 : decode cX5_isUnlike 60 = .ok (.aload_n 0, 1) := by decide +kernel
theorem dX5_isUnlike_61 : decode cX5_isUnlike 61 = .ok (.getfield 24, 3) := by decide +kernel
theorem dX5_isUnlike_64 : decode cX5_isUnlike 64 = .ok (.if_icmp .ge 5, 3) := by decide +kernel
theorem dX5_isUnlike_67 : decode cX5_isUnlike 67 = .ok (.iconst 0, 1) := by decide +kernel
theorem dX5_isUnlike_68 : decode cX5_isUnlike 68 = .ok (.ireturn, 1) := by decide +kernel
theorem dX5_isUnlike_69 : decode cX5_isUnlike 69 = .ok (.iinc 2 1, 3) := by decide +kernel
theorem dX5_isUnlike_72 : decode cX5_isUnlike 72 = .ok (.goto (-70), 3) := by decide +kernel
theorem dX5_isUnlike_75 : decode cX5_isUnlike 75 = .ok (.iconst 1, 1) := by decide +kernel
theorem dX5_isUnlike_76 : decode cX5_isUnlike 76 = .ok (.ireturn, 1) := by decide +kernel
def xX5_isUnlike : zX := (RX5, cX5_isUnlike, 5, (some .boolean), false, { frames := 2, cells := 0, slots := 0, locals := 112 }, 0, 0, 0, 0)
theorem rmX5_isUnlike : z_Rm xX5_isUnlike := by unfold z_Rm xX5_isUnlike; exact ⟨by decide, by decide⟩
theorem reX5_isUnlike : z_Re xX5_isUnlike := ⟨rfl, rfl⟩
theorem rlX5_isUnlike : 1 ≤ xX5_isUnlike.2.2.2.2.2.1.frames ∧ 21 ≤ xX5_isUnlike.2.2.2.2.2.1.locals := by unfold xX5_isUnlike; exact ⟨by decide, by decide⟩
theorem meX5_isUnlike : z_Me yX5_isUnlike xX5_isUnlike 1 := ⟨wd257, wd236, by decide, by decide, by decide +kernel⟩
theorem fitX5_isUnlike_57 : z_Fit xJ6_bitCount_0f7a4 xX5_isUnlike := by unfold z_Fit; simp only [xJ6_bitCount_0f7a4, xX5_isUnlike]; exact ⟨by decide, by decide⟩
theorem fitX5_isUnlike_44 : z_Fit xX5_childOf xX5_isUnlike := by unfold z_Fit; simp only [xX5_childOf, xX5_isUnlike]; exact ⟨by decide, by decide⟩
theorem fitX5_isUnlike_34 : z_Fit xX5_childOf xX5_isUnlike := by unfold z_Fit; simp only [xX5_childOf, xX5_isUnlike]; exact ⟨by decide, by decide⟩
noncomputable def kX5_isUnlike_75 : zK zR := (q_push 1 q_zret)
noncomputable def kX5_isUnlike_67 : zK zR := (q_push 0 q_zret)
noncomputable def kX5_isUnlike_56 : zK ((zL × zS) ⊕ zR) := (q_iload 3 (q_callS fJ6_bitCount_0f7a4 1 (q_aload 0 (q_getI 5 0 (q_icmp_ge (q_iinc 2 1 q_ag) (q_dn kX5_isUnlike_67))))))
noncomputable def kX5_isUnlike_47 : zK ((zL × zS) ⊕ ((zL × zS) ⊕ zR)) := (q_ishl (q_ior (q_istore 3 (q_iinc 4 1 q_ag))))
noncomputable def bX5_isUnlike_15 : zK ((zL × zS) ⊕ ((zL × zS) ⊕ zR)) := (q_iload 4 (q_aload 0 (q_getI 5 0 (q_icmp_ge (q_dn kX5_isUnlike_56) (q_iload 3 (q_push 1 (q_iload 1 (q_if_eq (q_aload 0 (q_iload 4 (q_iload 2 (q_callV 5 fX5_childOf 2 kX5_isUnlike_47)))) (q_aload 0 (q_iload 2 (q_iload 4 (q_callV 5 fX5_childOf 2 kX5_isUnlike_47))))))))))))
noncomputable def kX5_isUnlike_15 : zK ((zL × zS) ⊕ zR) := q_lp (bX5_isUnlike_15)
noncomputable def bX5_isUnlike_2 : zK ((zL × zS) ⊕ zR) := (q_iload 2 (q_aload 0 (q_getI 5 0 (q_icmp_ge (q_dn kX5_isUnlike_75) (q_push 0 (q_istore 3 (q_push 0 (q_istore 4 kX5_isUnlike_15))))))))
noncomputable def kX5_isUnlike_2 : zK zR := q_lp (bX5_isUnlike_2)
noncomputable def kX5_isUnlike_0 : zK zR := (q_push 0 (q_istore 2 kX5_isUnlike_2))
set_option maxRecDepth 100000 in
theorem tX5_isUnlike_75 {l : Launch} {D : zD} {B sz0 : Nat} {post : Option Value → zS → Prop} : zSnd l D B xX5_isUnlike sz0 post 75 kX5_isUnlike_75 (z_Jr post) := (s_iconst dX5_isUnlike_75 (by decide) (s_zret dX5_isUnlike_76 rfl))
set_option maxRecDepth 100000 in
theorem tX5_isUnlike_67 {l : Launch} {D : zD} {B sz0 : Nat} {post : Option Value → zS → Prop} : zSnd l D B xX5_isUnlike sz0 post 67 kX5_isUnlike_67 (z_Jr post) := (s_iconst dX5_isUnlike_67 (by decide) (s_zret dX5_isUnlike_68 rfl))
set_option maxRecDepth 100000 in
theorem tX5_isUnlike_56 {l : Launch} {D : zD} {B sz0 : Nat} {post : Option Value → zS → Prop} : zSnd l D B xX5_isUnlike sz0 post 56 kX5_isUnlike_56 (z_Jl l D B xX5_isUnlike sz0 post 2 (z_Jr post)) := (s_iload_n dX5_isUnlike_56 rfl (s_callS dX5_isUnlike_57 mJ6_bitCount_0f7a4 meJ6_bitCount_0f7a4 wd255 rfl reJ6_bitCount_0f7a4 rmX5_isUnlike (fitX5_isUnlike_57) wd256 (s_aload_n dX5_isUnlike_60 rfl (s_getI (f := 0) dX5_isUnlike_61 clX5 (by decide) rfl wd237 (s_icmp_ge (tgt := 69) dX5_isUnlike_64 (by decide) (s_iinc dX5_isUnlike_69 (by decide) (s_goto (tgt := 2) dX5_isUnlike_72 (by decide) s_ag)) (s_dn tX5_isUnlike_67))))))
set_option maxRecDepth 100000 in
theorem tX5_isUnlike_47 {l : Launch} {D : zD} {B sz0 : Nat} {post : Option Value → zS → Prop} : zSnd l D B xX5_isUnlike sz0 post 47 kX5_isUnlike_47 (z_Jl l D B xX5_isUnlike sz0 post 15 (z_Jl l D B xX5_isUnlike sz0 post 2 (z_Jr post))) := (s_ishl dX5_isUnlike_47 (s_ior dX5_isUnlike_48 (s_istore_n dX5_isUnlike_49 rfl (s_iinc dX5_isUnlike_50 (by decide) (s_goto (tgt := 15) dX5_isUnlike_53 (by decide) s_ag)))))
set_option maxRecDepth 100000 in
theorem tX5_isUnlike_15 {l : Launch} {D : zD} {B sz0 : Nat} {post : Option Value → zS → Prop} : zSnd l D B xX5_isUnlike sz0 post 15 kX5_isUnlike_15 (z_Jl l D B xX5_isUnlike sz0 post 2 (z_Jr post)) := s_lp (body := bX5_isUnlike_15) (s_iload dX5_isUnlike_15 (s_aload_n dX5_isUnlike_17 rfl (s_getI (f := 0) dX5_isUnlike_18 clX5 (by decide) rfl wd237 (s_icmp_ge (tgt := 56) dX5_isUnlike_21 (by decide) (s_dn tX5_isUnlike_56) (s_iload_n dX5_isUnlike_24 rfl (s_iconst dX5_isUnlike_25 (by decide) (s_iload_n dX5_isUnlike_26 rfl (s_if_eq (tgt := 40) dX5_isUnlike_27 (by decide) (s_aload_n dX5_isUnlike_40 rfl (s_iload dX5_isUnlike_41 (s_iload_n dX5_isUnlike_43 rfl (s_callV (r := (RX5, TX5, 7)) dX5_isUnlike_44 mX5_childOf meX5_childOf wd242 wd243 rfl rfl reX5_childOf rmX5_isUnlike (fitX5_isUnlike_44) wd244 tX5_isUnlike_47)))) (s_aload_n dX5_isUnlike_30 rfl (s_iload_n dX5_isUnlike_31 rfl (s_iload dX5_isUnlike_32 (s_callV (r := (RX5, TX5, 7)) dX5_isUnlike_34 mX5_childOf meX5_childOf wd242 wd243 rfl rfl reX5_childOf rmX5_isUnlike (fitX5_isUnlike_34) wd244 (s_goto (tgt := 47) dX5_isUnlike_37 (by decide) tX5_isUnlike_47)))))))))))))
set_option maxRecDepth 100000 in
theorem tX5_isUnlike_2 {l : Launch} {D : zD} {B sz0 : Nat} {post : Option Value → zS → Prop} : zSnd l D B xX5_isUnlike sz0 post 2 kX5_isUnlike_2 (z_Jr post) := s_lp (body := bX5_isUnlike_2) (s_iload_n dX5_isUnlike_2 rfl (s_aload_n dX5_isUnlike_3 rfl (s_getI (f := 0) dX5_isUnlike_4 clX5 (by decide) rfl wd237 (s_icmp_ge (tgt := 75) dX5_isUnlike_7 (by decide) (s_dn tX5_isUnlike_75) (s_iconst dX5_isUnlike_10 (by decide) (s_istore_n dX5_isUnlike_11 rfl (s_iconst dX5_isUnlike_12 (by decide) (s_istore dX5_isUnlike_13 tX5_isUnlike_15))))))))
set_option maxRecDepth 100000 in
theorem tX5_isUnlike_0 {l : Launch} {D : zD} {B sz0 : Nat} {post : Option Value → zS → Prop} : zSnd l D B xX5_isUnlike sz0 post 0 kX5_isUnlike_0 (z_Jr post) := (s_iconst dX5_isUnlike_0 (by decide) (s_istore_n dX5_isUnlike_1 rfl tX5_isUnlike_2))
noncomputable def fX5_isUnlike : zF := z_fn 5 kX5_isUnlike_0
theorem mX5_isUnlike {l : Launch} {D : zD} {B : Nat} : z_MF l D B yX5_isUnlike xX5_isUnlike fX5_isUnlike := z_mf (by decide) rfl (fun h => by cases h) rfl (fun as σ r h => ⟨z_fn_len h, kX5_isUnlike_0, z_fn_run h, fun _ => tX5_isUnlike_0⟩)
/-! ===== RowChildren$Table.isAssociative ===== -/
theorem dX5_isAssociative_0 : decode cX5_isAssociative 0 = .ok (.iconst 0, 1) := by decide +kernel
theorem dX5_isAssociative_1 : decode cX5_isAssociative 1 = .ok (.istore_n 1, 1) := by decide +kernel
theorem dX5_isAssociative_2 : decode cX5_isAssociative 2 = .ok (.iload_n 1, 1) := by decide +kernel
theorem dX5_isAssociative_3 : decode cX5_isAssociative 3 = .ok (.aload_n 0, 1) := by decide +kernel
theorem dX5_isAssociative_4 : decode cX5_isAssociative 4 = .ok (.getfield 24, 3) := by decide +kernel
theorem dX5_isAssociative_7 : decode cX5_isAssociative 7 = .ok (.if_icmp .ge 68, 3) := by decide +kernel
theorem dX5_isAssociative_10 : decode cX5_isAssociative 10 = .ok (.iconst 0, 1) := by decide +kernel
theorem dX5_isAssociative_11 : decode cX5_isAssociative 11 = .ok (.istore_n 2, 1) := by decide +kernel
theorem dX5_isAssociative_12 : decode cX5_isAssociative 12 = .ok (.iload_n 2, 1) := by decide +kernel
theorem dX5_isAssociative_13 : decode cX5_isAssociative 13 = .ok (.aload_n 0, 1) := by decide +kernel
theorem dX5_isAssociative_14 : decode cX5_isAssociative 14 = .ok (.getfield 24, 3) := by decide +kernel
theorem dX5_isAssociative_17 : decode cX5_isAssociative 17 = .ok (.if_icmp .ge 52, 3) := by decide +kernel
theorem dX5_isAssociative_20 : decode cX5_isAssociative 20 = .ok (.iconst 0, 1) := by decide +kernel
theorem dX5_isAssociative_21 : decode cX5_isAssociative 21 = .ok (.istore_n 3, 1) := by decide +kernel
theorem dX5_isAssociative_22 : decode cX5_isAssociative 22 = .ok (.iload_n 3, 1) := by decide +kernel
theorem dX5_isAssociative_23 : decode cX5_isAssociative 23 = .ok (.aload_n 0, 1) := by decide +kernel
theorem dX5_isAssociative_24 : decode cX5_isAssociative 24 = .ok (.getfield 24, 3) := by decide +kernel
theorem dX5_isAssociative_27 : decode cX5_isAssociative 27 = .ok (.if_icmp .ge 36, 3) := by decide +kernel
theorem dX5_isAssociative_30 : decode cX5_isAssociative 30 = .ok (.aload_n 0, 1) := by decide +kernel
theorem dX5_isAssociative_31 : decode cX5_isAssociative 31 = .ok (.aload_n 0, 1) := by decide +kernel
theorem dX5_isAssociative_32 : decode cX5_isAssociative 32 = .ok (.iload_n 1, 1) := by decide +kernel
theorem dX5_isAssociative_33 : decode cX5_isAssociative 33 = .ok (.iload_n 2, 1) := by decide +kernel
theorem dX5_isAssociative_34 : decode cX5_isAssociative 34 = .ok (.invokevirtual 28, 3) := by decide +kernel
theorem dX5_isAssociative_37 : decode cX5_isAssociative 37 = .ok (.iload_n 3, 1) := by decide +kernel
theorem dX5_isAssociative_38 : decode cX5_isAssociative 38 = .ok (.invokevirtual 28, 3) := by decide +kernel
theorem dX5_isAssociative_41 : decode cX5_isAssociative 41 = .ok (.aload_n 0, 1) := by decide +kernel
theorem dX5_isAssociative_42 : decode cX5_isAssociative 42 = .ok (.iload_n 1, 1) := by decide +kernel
theorem dX5_isAssociative_43 : decode cX5_isAssociative 43 = .ok (.aload_n 0, 1) := by decide +kernel
theorem dX5_isAssociative_44 : decode cX5_isAssociative 44 = .ok (.iload_n 2, 1) := by decide +kernel
theorem dX5_isAssociative_45 : decode cX5_isAssociative 45 = .ok (.iload_n 3, 1) := by decide +kernel
theorem dX5_isAssociative_46 : decode cX5_isAssociative 46 = .ok (.invokevirtual 28, 3) := by decide +kernel
theorem dX5_isAssociative_49 : decode cX5_isAssociative 49 = .ok (.invokevirtual 28, 3) := by decide +kernel
theorem dX5_isAssociative_52 : decode cX5_isAssociative 52 = .ok (.if_icmp .eq 5, 3) := by decide +kernel
theorem dX5_isAssociative_55 : decode cX5_isAssociative 55 = .ok (.iconst 0, 1) := by decide +kernel
theorem dX5_isAssociative_56 : decode cX5_isAssociative 56 = .ok (.ireturn, 1) := by decide +kernel
theorem dX5_isAssociative_57 : decode cX5_isAssociative 57 = .ok (.iinc 3 1, 3) := by decide +kernel
theorem dX5_isAssociative_60 : decode cX5_isAssociative 60 = .ok (.goto (-38), 3) := by decide +kernel
theorem dX5_isAssociative_63 : decode cX5_isAssociative 63 = .ok (.iinc 2 1, 3) := by decide +kernel
theorem dX5_isAssociative_66 : decode cX5_isAssociative 66 = .ok (.goto (-54), 3) := by decide +kernel
theorem dX5_isAssociative_69 : decode cX5_isAssociative 69 = .ok (.iinc 1 1, 3) := by decide +kernel
theorem dX5_isAssociative_72 : decode cX5_isAssociative 72 = .ok (.goto (-70), 3) := by decide +kernel
theorem dX5_isAssociative_75 : decode cX5_isAssociative 75 = .ok (.iconst 1, 1) := by decide +kernel
theorem dX5_isAssociative_76 : decode cX5_isAssociative 76 = .ok (.ireturn, 1) := by decide +kernel
def xX5_isAssociative : zX := (RX5, cX5_isAssociative, 4, (some .boolean), false, { frames := 2, cells := 0, slots := 0, locals := 112 }, 0, 0, 0, 0)
theorem rmX5_isAssociative : z_Rm xX5_isAssociative := by unfold z_Rm xX5_isAssociative; exact ⟨by decide, by decide⟩
theorem reX5_isAssociative : z_Re xX5_isAssociative := ⟨rfl, rfl⟩
theorem rlX5_isAssociative : 1 ≤ xX5_isAssociative.2.2.2.2.2.1.frames ∧ 21 ≤ xX5_isAssociative.2.2.2.2.2.1.locals := by unfold xX5_isAssociative; exact ⟨by decide, by decide⟩
theorem meX5_isAssociative : z_Me yX5_isAssociative xX5_isAssociative 0 := ⟨wd258, wd236, by decide, by decide, by decide +kernel⟩
theorem fitX5_isAssociative_34 : z_Fit xX5_childOf xX5_isAssociative := by unfold z_Fit; simp only [xX5_childOf, xX5_isAssociative]; exact ⟨by decide, by decide⟩
theorem fitX5_isAssociative_38 : z_Fit xX5_childOf xX5_isAssociative := by unfold z_Fit; simp only [xX5_childOf, xX5_isAssociative]; exact ⟨by decide, by decide⟩
theorem fitX5_isAssociative_46 : z_Fit xX5_childOf xX5_isAssociative := by unfold z_Fit; simp only [xX5_childOf, xX5_isAssociative]; exact ⟨by decide, by decide⟩
theorem fitX5_isAssociative_49 : z_Fit xX5_childOf xX5_isAssociative := by unfold z_Fit; simp only [xX5_childOf, xX5_isAssociative]; exact ⟨by decide, by decide⟩
noncomputable def kX5_isAssociative_75 : zK zR := (q_push 1 q_zret)
noncomputable def kX5_isAssociative_69 : zK ((zL × zS) ⊕ zR) := (q_iinc 1 1 q_ag)
noncomputable def kX5_isAssociative_63 : zK ((zL × zS) ⊕ ((zL × zS) ⊕ zR)) := (q_iinc 2 1 q_ag)
noncomputable def kX5_isAssociative_55 : zK zR := (q_push 0 q_zret)
noncomputable def bX5_isAssociative_22 : zK ((zL × zS) ⊕ ((zL × zS) ⊕ ((zL × zS) ⊕ zR))) := (q_iload 3 (q_aload 0 (q_getI 5 0 (q_icmp_ge (q_dn kX5_isAssociative_63) (q_aload 0 (q_aload 0 (q_iload 1 (q_iload 2 (q_callV 5 fX5_childOf 2 (q_iload 3 (q_callV 5 fX5_childOf 2 (q_aload 0 (q_iload 1 (q_aload 0 (q_iload 2 (q_iload 3 (q_callV 5 fX5_childOf 2 (q_callV 5 fX5_childOf 2 (q_icmp_eq (q_iinc 3 1 q_ag) (q_dn (q_dn (q_dn kX5_isAssociative_55))))))))))))))))))))))
noncomputable def kX5_isAssociative_22 : zK ((zL × zS) ⊕ ((zL × zS) ⊕ zR)) := q_lp (bX5_isAssociative_22)
noncomputable def bX5_isAssociative_12 : zK ((zL × zS) ⊕ ((zL × zS) ⊕ zR)) := (q_iload 2 (q_aload 0 (q_getI 5 0 (q_icmp_ge (q_dn kX5_isAssociative_69) (q_push 0 (q_istore 3 kX5_isAssociative_22))))))
noncomputable def kX5_isAssociative_12 : zK ((zL × zS) ⊕ zR) := q_lp (bX5_isAssociative_12)
noncomputable def bX5_isAssociative_2 : zK ((zL × zS) ⊕ zR) := (q_iload 1 (q_aload 0 (q_getI 5 0 (q_icmp_ge (q_dn kX5_isAssociative_75) (q_push 0 (q_istore 2 kX5_isAssociative_12))))))
noncomputable def kX5_isAssociative_2 : zK zR := q_lp (bX5_isAssociative_2)
noncomputable def kX5_isAssociative_0 : zK zR := (q_push 0 (q_istore 1 kX5_isAssociative_2))
set_option maxRecDepth 100000 in
theorem tX5_isAssociative_75 {l : Launch} {D : zD} {B sz0 : Nat} {post : Option Value → zS → Prop} : zSnd l D B xX5_isAssociative sz0 post 75 kX5_isAssociative_75 (z_Jr post) := (s_iconst dX5_isAssociative_75 (by decide) (s_zret dX5_isAssociative_76 rfl))
set_option maxRecDepth 100000 in
theorem tX5_isAssociative_69 {l : Launch} {D : zD} {B sz0 : Nat} {post : Option Value → zS → Prop} : zSnd l D B xX5_isAssociative sz0 post 69 kX5_isAssociative_69 (z_Jl l D B xX5_isAssociative sz0 post 2 (z_Jr post)) := (s_iinc dX5_isAssociative_69 (by decide) (s_goto (tgt := 2) dX5_isAssociative_72 (by decide) s_ag))
set_option maxRecDepth 100000 in
theorem tX5_isAssociative_63 {l : Launch} {D : zD} {B sz0 : Nat} {post : Option Value → zS → Prop} : zSnd l D B xX5_isAssociative sz0 post 63 kX5_isAssociative_63 (z_Jl l D B xX5_isAssociative sz0 post 12 (z_Jl l D B xX5_isAssociative sz0 post 2 (z_Jr post))) := (s_iinc dX5_isAssociative_63 (by decide) (s_goto (tgt := 12) dX5_isAssociative_66 (by decide) s_ag))
set_option maxRecDepth 100000 in
theorem tX5_isAssociative_55 {l : Launch} {D : zD} {B sz0 : Nat} {post : Option Value → zS → Prop} : zSnd l D B xX5_isAssociative sz0 post 55 kX5_isAssociative_55 (z_Jr post) := (s_iconst dX5_isAssociative_55 (by decide) (s_zret dX5_isAssociative_56 rfl))
set_option maxRecDepth 100000 in
theorem tX5_isAssociative_22 {l : Launch} {D : zD} {B sz0 : Nat} {post : Option Value → zS → Prop} : zSnd l D B xX5_isAssociative sz0 post 22 kX5_isAssociative_22 (z_Jl l D B xX5_isAssociative sz0 post 12 (z_Jl l D B xX5_isAssociative sz0 post 2 (z_Jr post))) := s_lp (body := bX5_isAssociative_22) (s_iload_n dX5_isAssociative_22 rfl (s_aload_n dX5_isAssociative_23 rfl (s_getI (f := 0) dX5_isAssociative_24 clX5 (by decide) rfl wd237 (s_icmp_ge (tgt := 63) dX5_isAssociative_27 (by decide) (s_dn tX5_isAssociative_63) (s_aload_n dX5_isAssociative_30 rfl (s_aload_n dX5_isAssociative_31 rfl (s_iload_n dX5_isAssociative_32 rfl (s_iload_n dX5_isAssociative_33 rfl (s_callV (r := (RX5, TX5, 7)) dX5_isAssociative_34 mX5_childOf meX5_childOf wd242 wd243 rfl rfl reX5_childOf rmX5_isAssociative (fitX5_isAssociative_34) wd244 (s_iload_n dX5_isAssociative_37 rfl (s_callV (r := (RX5, TX5, 7)) dX5_isAssociative_38 mX5_childOf meX5_childOf wd242 wd243 rfl rfl reX5_childOf rmX5_isAssociative (fitX5_isAssociative_38) wd244 (s_aload_n dX5_isAssociative_41 rfl (s_iload_n dX5_isAssociative_42 rfl (s_aload_n dX5_isAssociative_43 rfl (s_iload_n dX5_isAssociative_44 rfl (s_iload_n dX5_isAssociative_45 rfl (s_callV (r := (RX5, TX5, 7)) dX5_isAssociative_46 mX5_childOf meX5_childOf wd242 wd243 rfl rfl reX5_childOf rmX5_isAssociative (fitX5_isAssociative_46) wd244 (s_callV (r := (RX5, TX5, 7)) dX5_isAssociative_49 mX5_childOf meX5_childOf wd242 wd243 rfl rfl reX5_childOf rmX5_isAssociative (fitX5_isAssociative_49) wd244 (s_icmp_eq (tgt := 57) dX5_isAssociative_52 (by decide) (s_iinc dX5_isAssociative_57 (by decide) (s_goto (tgt := 22) dX5_isAssociative_60 (by decide) s_ag)) (s_dn (s_dn (s_dn tX5_isAssociative_55))))))))))))))))))))))
set_option maxRecDepth 100000 in
theorem tX5_isAssociative_12 {l : Launch} {D : zD} {B sz0 : Nat} {post : Option Value → zS → Prop} : zSnd l D B xX5_isAssociative sz0 post 12 kX5_isAssociative_12 (z_Jl l D B xX5_isAssociative sz0 post 2 (z_Jr post)) := s_lp (body := bX5_isAssociative_12) (s_iload_n dX5_isAssociative_12 rfl (s_aload_n dX5_isAssociative_13 rfl (s_getI (f := 0) dX5_isAssociative_14 clX5 (by decide) rfl wd237 (s_icmp_ge (tgt := 69) dX5_isAssociative_17 (by decide) (s_dn tX5_isAssociative_69) (s_iconst dX5_isAssociative_20 (by decide) (s_istore_n dX5_isAssociative_21 rfl tX5_isAssociative_22))))))
set_option maxRecDepth 100000 in
theorem tX5_isAssociative_2 {l : Launch} {D : zD} {B sz0 : Nat} {post : Option Value → zS → Prop} : zSnd l D B xX5_isAssociative sz0 post 2 kX5_isAssociative_2 (z_Jr post) := s_lp (body := bX5_isAssociative_2) (s_iload_n dX5_isAssociative_2 rfl (s_aload_n dX5_isAssociative_3 rfl (s_getI (f := 0) dX5_isAssociative_4 clX5 (by decide) rfl wd237 (s_icmp_ge (tgt := 75) dX5_isAssociative_7 (by decide) (s_dn tX5_isAssociative_75) (s_iconst dX5_isAssociative_10 (by decide) (s_istore_n dX5_isAssociative_11 rfl tX5_isAssociative_12))))))
set_option maxRecDepth 100000 in
theorem tX5_isAssociative_0 {l : Launch} {D : zD} {B sz0 : Nat} {post : Option Value → zS → Prop} : zSnd l D B xX5_isAssociative sz0 post 0 kX5_isAssociative_0 (z_Jr post) := (s_iconst dX5_isAssociative_0 (by decide) (s_istore_n dX5_isAssociative_1 rfl tX5_isAssociative_2))
noncomputable def fX5_isAssociative : zF := z_fn 4 kX5_isAssociative_0
theorem mX5_isAssociative {l : Launch} {D : zD} {B : Nat} : z_MF l D B yX5_isAssociative xX5_isAssociative fX5_isAssociative := z_mf (by decide) rfl (fun h => by cases h) rfl (fun as σ r h => ⟨z_fn_len h, kX5_isAssociative_0, z_fn_run h, fun _ => tX5_isAssociative_0⟩)
/-! ===== RowChildren$Table.keepsAlike ===== -/
theorem dX5_keepsAlike_0 : decode cX5_keepsAlike 0 = .ok (.iconst 0, 1) := by decide +kernel
theorem dX5_keepsAlike_1 : decode cX5_keepsAlike 1 = .ok (.istore_n 1, 1) := by decide +kernel
theorem dX5_keepsAlike_2 : decode cX5_keepsAlike 2 = .ok (.iload_n 1, 1) := by decide +kernel
theorem dX5_keepsAlike_3 : decode cX5_keepsAlike 3 = .ok (.aload_n 0, 1) := by decide +kernel
theorem dX5_keepsAlike_4 : decode cX5_keepsAlike 4 = .ok (.getfield 24, 3) := by decide +kernel
theorem dX5_keepsAlike_7 : decode cX5_keepsAlike 7 = .ok (.if_icmp .ge 21, 3) := by decide +kernel
theorem dX5_keepsAlike_10 : decode cX5_keepsAlike 10 = .ok (.aload_n 0, 1) := by decide +kernel
theorem dX5_keepsAlike_11 : decode cX5_keepsAlike 11 = .ok (.iload_n 1, 1) := by decide +kernel
theorem dX5_keepsAlike_12 : decode cX5_keepsAlike 12 = .ok (.iload_n 1, 1) := by decide +kernel
theorem dX5_keepsAlike_13 : decode cX5_keepsAlike 13 = .ok (.invokevirtual 28, 3) := by decide +kernel
theorem dX5_keepsAlike_16 : decode cX5_keepsAlike 16 = .ok (.iload_n 1, 1) := by decide +kernel
theorem dX5_keepsAlike_17 : decode cX5_keepsAlike 17 = .ok (.if_icmp .eq 5, 3) := by decide +kernel
theorem dX5_keepsAlike_20 : decode cX5_keepsAlike 20 = .ok (.iconst 0, 1) := by decide +kernel
theorem dX5_keepsAlike_21 : decode cX5_keepsAlike 21 = .ok (.ireturn, 1) := by decide +kernel
theorem dX5_keepsAlike_22 : decode cX5_keepsAlike 22 = .ok (.iinc 1 1, 3) := by decide +kernel
theorem dX5_keepsAlike_25 : decode cX5_keepsAlike 25 = .ok (.goto (-23), 3) := by decide +kernel
theorem dX5_keepsAlike_28 : decode cX5_keepsAlike 28 = .ok (.iconst 1, 1) := by decide +kernel
theorem dX5_keepsAlike_29 : decode cX5_keepsAlike 29 = .ok (.ireturn, 1) := by decide +kernel
def xX5_keepsAlike : zX := (RX5, cX5_keepsAlike, 2, (some .boolean), false, { frames := 2, cells := 0, slots := 0, locals := 112 }, 0, 0, 0, 0)
theorem rmX5_keepsAlike : z_Rm xX5_keepsAlike := by unfold z_Rm xX5_keepsAlike; exact ⟨by decide, by decide⟩
theorem reX5_keepsAlike : z_Re xX5_keepsAlike := ⟨rfl, rfl⟩
theorem rlX5_keepsAlike : 1 ≤ xX5_keepsAlike.2.2.2.2.2.1.frames ∧ 21 ≤ xX5_keepsAlike.2.2.2.2.2.1.locals := by unfold xX5_keepsAlike; exact ⟨by decide, by decide⟩
theorem meX5_keepsAlike : z_Me yX5_keepsAlike xX5_keepsAlike 0 := ⟨wd259, wd236, by decide, by decide, by decide +kernel⟩
theorem fitX5_keepsAlike_13 : z_Fit xX5_childOf xX5_keepsAlike := by unfold z_Fit; simp only [xX5_childOf, xX5_keepsAlike]; exact ⟨by decide, by decide⟩
noncomputable def kX5_keepsAlike_28 : zK zR := (q_push 1 q_zret)
noncomputable def kX5_keepsAlike_20 : zK zR := (q_push 0 q_zret)
noncomputable def bX5_keepsAlike_2 : zK ((zL × zS) ⊕ zR) := (q_iload 1 (q_aload 0 (q_getI 5 0 (q_icmp_ge (q_dn kX5_keepsAlike_28) (q_aload 0 (q_iload 1 (q_iload 1 (q_callV 5 fX5_childOf 2 (q_iload 1 (q_icmp_eq (q_iinc 1 1 q_ag) (q_dn kX5_keepsAlike_20)))))))))))
noncomputable def kX5_keepsAlike_2 : zK zR := q_lp (bX5_keepsAlike_2)
noncomputable def kX5_keepsAlike_0 : zK zR := (q_push 0 (q_istore 1 kX5_keepsAlike_2))
set_option maxRecDepth 100000 in
theorem tX5_keepsAlike_28 {l : Launch} {D : zD} {B sz0 : Nat} {post : Option Value → zS → Prop} : zSnd l D B xX5_keepsAlike sz0 post 28 kX5_keepsAlike_28 (z_Jr post) := (s_iconst dX5_keepsAlike_28 (by decide) (s_zret dX5_keepsAlike_29 rfl))
set_option maxRecDepth 100000 in
theorem tX5_keepsAlike_20 {l : Launch} {D : zD} {B sz0 : Nat} {post : Option Value → zS → Prop} : zSnd l D B xX5_keepsAlike sz0 post 20 kX5_keepsAlike_20 (z_Jr post) := (s_iconst dX5_keepsAlike_20 (by decide) (s_zret dX5_keepsAlike_21 rfl))
set_option maxRecDepth 100000 in
theorem tX5_keepsAlike_2 {l : Launch} {D : zD} {B sz0 : Nat} {post : Option Value → zS → Prop} : zSnd l D B xX5_keepsAlike sz0 post 2 kX5_keepsAlike_2 (z_Jr post) := s_lp (body := bX5_keepsAlike_2) (s_iload_n dX5_keepsAlike_2 rfl (s_aload_n dX5_keepsAlike_3 rfl (s_getI (f := 0) dX5_keepsAlike_4 clX5 (by decide) rfl wd237 (s_icmp_ge (tgt := 28) dX5_keepsAlike_7 (by decide) (s_dn tX5_keepsAlike_28) (s_aload_n dX5_keepsAlike_10 rfl (s_iload_n dX5_keepsAlike_11 rfl (s_iload_n dX5_keepsAlike_12 rfl (s_callV (r := (RX5, TX5, 7)) dX5_keepsAlike_13 mX5_childOf meX5_childOf wd242 wd243 rfl rfl reX5_childOf rmX5_keepsAlike (fitX5_keepsAlike_13) wd244 (s_iload_n dX5_keepsAlike_16 rfl (s_icmp_eq (tgt := 22) dX5_keepsAlike_17 (by decide) (s_iinc dX5_keepsAlike_22 (by decide) (s_goto (tgt := 2) dX5_keepsAlike_25 (by decide) s_ag)) (s_dn tX5_keepsAlike_20)))))))))))
set_option maxRecDepth 100000 in
theorem tX5_keepsAlike_0 {l : Launch} {D : zD} {B sz0 : Nat} {post : Option Value → zS → Prop} : zSnd l D B xX5_keepsAlike sz0 post 0 kX5_keepsAlike_0 (z_Jr post) := (s_iconst dX5_keepsAlike_0 (by decide) (s_istore_n dX5_keepsAlike_1 rfl tX5_keepsAlike_2))
noncomputable def fX5_keepsAlike : zF := z_fn 2 kX5_keepsAlike_0
theorem mX5_keepsAlike {l : Launch} {D : zD} {B : Nat} : z_MF l D B yX5_keepsAlike xX5_keepsAlike fX5_keepsAlike := z_mf (by decide) rfl (fun h => by cases h) rfl (fun as σ r h => ⟨z_fn_len h, kX5_keepsAlike_0, z_fn_run h, fun _ => tX5_keepsAlike_0⟩)
/-! ===== RowChildren$Table.hasNeutral ===== -/
theorem dX5_hasNeutral_0 : decode cX5_hasNeutral 0 = .ok (.iconst 0, 1) := by decide +kernel
theorem dX5_hasNeutral_1 : decode cX5_hasNeutral 1 = .ok (.istore_n 1, 1) := by decide +kernel
theorem dX5_hasNeutral_2 : decode cX5_hasNeutral 2 = .ok (.iload_n 1, 1) := by decide +kernel
theorem dX5_hasNeutral_3 : decode cX5_hasNeutral 3 = .ok (.aload_n 0, 1) := by decide +kernel
theorem dX5_hasNeutral_4 : decode cX5_hasNeutral 4 = .ok (.getfield 24, 3) := by decide +kernel
theorem dX5_hasNeutral_7 : decode cX5_hasNeutral 7 = .ok (.if_icmp .ge 63, 3) := by decide +kernel
theorem dX5_hasNeutral_10 : decode cX5_hasNeutral 10 = .ok (.iconst 1, 1) := by decide +kernel
theorem dX5_hasNeutral_11 : decode cX5_hasNeutral 11 = .ok (.istore_n 2, 1) := by decide +kernel
theorem dX5_hasNeutral_12 : decode cX5_hasNeutral 12 = .ok (.iconst 0, 1) := by decide +kernel
theorem dX5_hasNeutral_13 : decode cX5_hasNeutral 13 = .ok (.istore_n 3, 1) := by decide +kernel
theorem dX5_hasNeutral_14 : decode cX5_hasNeutral 14 = .ok (.iload_n 3, 1) := by decide +kernel
theorem dX5_hasNeutral_15 : decode cX5_hasNeutral 15 = .ok (.aload_n 0, 1) := by decide +kernel
theorem dX5_hasNeutral_16 : decode cX5_hasNeutral 16 = .ok (.getfield 24, 3) := by decide +kernel
theorem dX5_hasNeutral_19 : decode cX5_hasNeutral 19 = .ok (.if_icmp .ge 39, 3) := by decide +kernel
theorem dX5_hasNeutral_22 : decode cX5_hasNeutral 22 = .ok (.iload_n 2, 1) := by decide +kernel
theorem dX5_hasNeutral_23 : decode cX5_hasNeutral 23 = .ok (.ifCond .eq 27, 3) := by decide +kernel
theorem dX5_hasNeutral_26 : decode cX5_hasNeutral 26 = .ok (.aload_n 0, 1) := by decide +kernel
theorem dX5_hasNeutral_27 : decode cX5_hasNeutral 27 = .ok (.iload_n 1, 1) := by decide +kernel
theorem dX5_hasNeutral_28 : decode cX5_hasNeutral 28 = .ok (.iload_n 3, 1) := by decide +kernel
theorem dX5_hasNeutral_29 : decode cX5_hasNeutral 29 = .ok (.invokevirtual 28, 3) := by decide +kernel
theorem dX5_hasNeutral_32 : decode cX5_hasNeutral 32 = .ok (.iload_n 3, 1) := by decide +kernel
theorem dX5_hasNeutral_33 : decode cX5_hasNeutral 33 = .ok (.if_icmp .ne 17, 3) := by decide +kernel
theorem dX5_hasNeutral_36 : decode cX5_hasNeutral 36 = .ok (.aload_n 0, 1) := by decide +kernel
theorem dX5_hasNeutral_37 : decode cX5_hasNeutral 37 = .ok (.iload_n 3, 1) := by decide +kernel
theorem dX5_hasNeutral_38 : decode cX5_hasNeutral 38 = .ok (.iload_n 1, 1) := by decide +kernel
theorem dX5_hasNeutral_39 : decode cX5_hasNeutral 39 = .ok (.invokevirtual 28, 3) := by decide +kernel
theorem dX5_hasNeutral_42 : decode cX5_hasNeutral 42 = .ok (.iload_n 3, 1) := by decide +kernel
theorem dX5_hasNeutral_43 : decode cX5_hasNeutral 43 = .ok (.if_icmp .ne 7, 3) := by decide +kernel
theorem dX5_hasNeutral_46 : decode cX5_hasNeutral 46 = .ok (.iconst 1, 1) := by decide +kernel
theorem dX5_hasNeutral_47 : decode cX5_hasNeutral 47 = .ok (.goto 4, 3) := by decide +kernel
theorem dX5_hasNeutral_50 : decode cX5_hasNeutral 50 = .ok (.iconst 0, 1) := by decide +kernel
theorem dX5_hasNeutral_51 : decode cX5_hasNeutral 51 = .ok (.istore_n 2, 1) := by decide +kernel
theorem dX5_hasNeutral_52 : decode cX5_hasNeutral 52 = .ok (.iinc 3 1, 3) := by decide +kernel
theorem dX5_hasNeutral_55 : decode cX5_hasNeutral 55 = .ok (.goto (-41), 3) := by decide +kernel
theorem dX5_hasNeutral_58 : decode cX5_hasNeutral 58 = .ok (.iload_n 2, 1) := by decide +kernel
theorem dX5_hasNeutral_59 : decode cX5_hasNeutral 59 = .ok (.ifCond .eq 5, 3) := by decide +kernel
theorem dX5_hasNeutral_62 : decode cX5_hasNeutral 62 = .ok (.iconst 1, 1) := by decide +kernel
theorem dX5_hasNeutral_63 : decode cX5_hasNeutral 63 = .ok (.ireturn, 1) := by decide +kernel
theorem dX5_hasNeutral_64 : decode cX5_hasNeutral 64 = .ok (.iinc 1 1, 3) := by decide +kernel
theorem dX5_hasNeutral_67 : decode cX5_hasNeutral 67 = .ok (.goto (-65), 3) := by decide +kernel
theorem dX5_hasNeutral_70 : decode cX5_hasNeutral 70 = .ok (.iconst 0, 1) := by decide +kernel
theorem dX5_hasNeutral_71 : decode cX5_hasNeutral 71 = .ok (.ireturn, 1) := by decide +kernel
def xX5_hasNeutral : zX := (RX5, cX5_hasNeutral, 4, (some .boolean), false, { frames := 2, cells := 0, slots := 0, locals := 112 }, 0, 0, 0, 0)
theorem rmX5_hasNeutral : z_Rm xX5_hasNeutral := by unfold z_Rm xX5_hasNeutral; exact ⟨by decide, by decide⟩
theorem reX5_hasNeutral : z_Re xX5_hasNeutral := ⟨rfl, rfl⟩
theorem rlX5_hasNeutral : 1 ≤ xX5_hasNeutral.2.2.2.2.2.1.frames ∧ 21 ≤ xX5_hasNeutral.2.2.2.2.2.1.locals := by unfold xX5_hasNeutral; exact ⟨by decide, by decide⟩
theorem meX5_hasNeutral : z_Me yX5_hasNeutral xX5_hasNeutral 0 := ⟨wd260, wd236, by decide, by decide, by decide +kernel⟩
theorem fitX5_hasNeutral_29 : z_Fit xX5_childOf xX5_hasNeutral := by unfold z_Fit; simp only [xX5_childOf, xX5_hasNeutral]; exact ⟨by decide, by decide⟩
theorem fitX5_hasNeutral_39 : z_Fit xX5_childOf xX5_hasNeutral := by unfold z_Fit; simp only [xX5_childOf, xX5_hasNeutral]; exact ⟨by decide, by decide⟩
noncomputable def kX5_hasNeutral_70 : zK zR := (q_push 0 q_zret)
noncomputable def kX5_hasNeutral_62 : zK zR := (q_push 1 q_zret)
noncomputable def kX5_hasNeutral_58 : zK ((zL × zS) ⊕ zR) := (q_iload 2 (q_if_eq (q_iinc 1 1 q_ag) (q_dn kX5_hasNeutral_62)))
noncomputable def kX5_hasNeutral_51 : zK ((zL × zS) ⊕ ((zL × zS) ⊕ zR)) := (q_istore 2 (q_iinc 3 1 q_ag))
noncomputable def kX5_hasNeutral_50 : zK ((zL × zS) ⊕ ((zL × zS) ⊕ zR)) := (q_push 0 kX5_hasNeutral_51)
noncomputable def bX5_hasNeutral_14 : zK ((zL × zS) ⊕ ((zL × zS) ⊕ zR)) := (q_iload 3 (q_aload 0 (q_getI 5 0 (q_icmp_ge (q_dn kX5_hasNeutral_58) (q_iload 2 (q_if_eq kX5_hasNeutral_50 (q_aload 0 (q_iload 1 (q_iload 3 (q_callV 5 fX5_childOf 2 (q_iload 3 (q_icmp_ne kX5_hasNeutral_50 (q_aload 0 (q_iload 3 (q_iload 1 (q_callV 5 fX5_childOf 2 (q_iload 3 (q_icmp_ne kX5_hasNeutral_50 (q_push 1 kX5_hasNeutral_51)))))))))))))))))))
noncomputable def kX5_hasNeutral_14 : zK ((zL × zS) ⊕ zR) := q_lp (bX5_hasNeutral_14)
noncomputable def bX5_hasNeutral_2 : zK ((zL × zS) ⊕ zR) := (q_iload 1 (q_aload 0 (q_getI 5 0 (q_icmp_ge (q_dn kX5_hasNeutral_70) (q_push 1 (q_istore 2 (q_push 0 (q_istore 3 kX5_hasNeutral_14))))))))
noncomputable def kX5_hasNeutral_2 : zK zR := q_lp (bX5_hasNeutral_2)
noncomputable def kX5_hasNeutral_0 : zK zR := (q_push 0 (q_istore 1 kX5_hasNeutral_2))
set_option maxRecDepth 100000 in
theorem tX5_hasNeutral_70 {l : Launch} {D : zD} {B sz0 : Nat} {post : Option Value → zS → Prop} : zSnd l D B xX5_hasNeutral sz0 post 70 kX5_hasNeutral_70 (z_Jr post) := (s_iconst dX5_hasNeutral_70 (by decide) (s_zret dX5_hasNeutral_71 rfl))
set_option maxRecDepth 100000 in
theorem tX5_hasNeutral_62 {l : Launch} {D : zD} {B sz0 : Nat} {post : Option Value → zS → Prop} : zSnd l D B xX5_hasNeutral sz0 post 62 kX5_hasNeutral_62 (z_Jr post) := (s_iconst dX5_hasNeutral_62 (by decide) (s_zret dX5_hasNeutral_63 rfl))
set_option maxRecDepth 100000 in
theorem tX5_hasNeutral_58 {l : Launch} {D : zD} {B sz0 : Nat} {post : Option Value → zS → Prop} : zSnd l D B xX5_hasNeutral sz0 post 58 kX5_hasNeutral_58 (z_Jl l D B xX5_hasNeutral sz0 post 2 (z_Jr post)) := (s_iload_n dX5_hasNeutral_58 rfl (s_if_eq (tgt := 64) dX5_hasNeutral_59 (by decide) (s_iinc dX5_hasNeutral_64 (by decide) (s_goto (tgt := 2) dX5_hasNeutral_67 (by decide) s_ag)) (s_dn tX5_hasNeutral_62)))
set_option maxRecDepth 100000 in
theorem tX5_hasNeutral_51 {l : Launch} {D : zD} {B sz0 : Nat} {post : Option Value → zS → Prop} : zSnd l D B xX5_hasNeutral sz0 post 51 kX5_hasNeutral_51 (z_Jl l D B xX5_hasNeutral sz0 post 14 (z_Jl l D B xX5_hasNeutral sz0 post 2 (z_Jr post))) := (s_istore_n dX5_hasNeutral_51 rfl (s_iinc dX5_hasNeutral_52 (by decide) (s_goto (tgt := 14) dX5_hasNeutral_55 (by decide) s_ag)))
set_option maxRecDepth 100000 in
theorem tX5_hasNeutral_50 {l : Launch} {D : zD} {B sz0 : Nat} {post : Option Value → zS → Prop} : zSnd l D B xX5_hasNeutral sz0 post 50 kX5_hasNeutral_50 (z_Jl l D B xX5_hasNeutral sz0 post 14 (z_Jl l D B xX5_hasNeutral sz0 post 2 (z_Jr post))) := (s_iconst dX5_hasNeutral_50 (by decide) tX5_hasNeutral_51)
set_option maxRecDepth 100000 in
theorem tX5_hasNeutral_14 {l : Launch} {D : zD} {B sz0 : Nat} {post : Option Value → zS → Prop} : zSnd l D B xX5_hasNeutral sz0 post 14 kX5_hasNeutral_14 (z_Jl l D B xX5_hasNeutral sz0 post 2 (z_Jr post)) := s_lp (body := bX5_hasNeutral_14) (s_iload_n dX5_hasNeutral_14 rfl (s_aload_n dX5_hasNeutral_15 rfl (s_getI (f := 0) dX5_hasNeutral_16 clX5 (by decide) rfl wd237 (s_icmp_ge (tgt := 58) dX5_hasNeutral_19 (by decide) (s_dn tX5_hasNeutral_58) (s_iload_n dX5_hasNeutral_22 rfl (s_if_eq (tgt := 50) dX5_hasNeutral_23 (by decide) tX5_hasNeutral_50 (s_aload_n dX5_hasNeutral_26 rfl (s_iload_n dX5_hasNeutral_27 rfl (s_iload_n dX5_hasNeutral_28 rfl (s_callV (r := (RX5, TX5, 7)) dX5_hasNeutral_29 mX5_childOf meX5_childOf wd242 wd243 rfl rfl reX5_childOf rmX5_hasNeutral (fitX5_hasNeutral_29) wd244 (s_iload_n dX5_hasNeutral_32 rfl (s_icmp_ne (tgt := 50) dX5_hasNeutral_33 (by decide) tX5_hasNeutral_50 (s_aload_n dX5_hasNeutral_36 rfl (s_iload_n dX5_hasNeutral_37 rfl (s_iload_n dX5_hasNeutral_38 rfl (s_callV (r := (RX5, TX5, 7)) dX5_hasNeutral_39 mX5_childOf meX5_childOf wd242 wd243 rfl rfl reX5_childOf rmX5_hasNeutral (fitX5_hasNeutral_39) wd244 (s_iload_n dX5_hasNeutral_42 rfl (s_icmp_ne (tgt := 50) dX5_hasNeutral_43 (by decide) tX5_hasNeutral_50 (s_iconst dX5_hasNeutral_46 (by decide) (s_goto (tgt := 51) dX5_hasNeutral_47 (by decide) tX5_hasNeutral_51))))))))))))))))))))
set_option maxRecDepth 100000 in
theorem tX5_hasNeutral_2 {l : Launch} {D : zD} {B sz0 : Nat} {post : Option Value → zS → Prop} : zSnd l D B xX5_hasNeutral sz0 post 2 kX5_hasNeutral_2 (z_Jr post) := s_lp (body := bX5_hasNeutral_2) (s_iload_n dX5_hasNeutral_2 rfl (s_aload_n dX5_hasNeutral_3 rfl (s_getI (f := 0) dX5_hasNeutral_4 clX5 (by decide) rfl wd237 (s_icmp_ge (tgt := 70) dX5_hasNeutral_7 (by decide) (s_dn tX5_hasNeutral_70) (s_iconst dX5_hasNeutral_10 (by decide) (s_istore_n dX5_hasNeutral_11 rfl (s_iconst dX5_hasNeutral_12 (by decide) (s_istore_n dX5_hasNeutral_13 rfl tX5_hasNeutral_14))))))))
set_option maxRecDepth 100000 in
theorem tX5_hasNeutral_0 {l : Launch} {D : zD} {B sz0 : Nat} {post : Option Value → zS → Prop} : zSnd l D B xX5_hasNeutral sz0 post 0 kX5_hasNeutral_0 (z_Jr post) := (s_iconst dX5_hasNeutral_0 (by decide) (s_istore_n dX5_hasNeutral_1 rfl tX5_hasNeutral_2))
noncomputable def fX5_hasNeutral : zF := z_fn 4 kX5_hasNeutral_0
theorem mX5_hasNeutral {l : Launch} {D : zD} {B : Nat} : z_MF l D B yX5_hasNeutral xX5_hasNeutral fX5_hasNeutral := z_mf (by decide) rfl (fun h => by cases h) rfl (fun as σ r h => ⟨z_fn_len h, kX5_hasNeutral_0, z_fn_run h, fun _ => tX5_hasNeutral_0⟩)
/-! ===== RowChildren$Table.hasColour ===== -/
theorem dX5_hasColour_0 : decode cX5_hasColour 0 = .ok (.iload_n 0, 1) := by decide +kernel
theorem dX5_hasColour_1 : decode cX5_hasColour 1 = .ok (.iload_n 1, 1) := by decide +kernel
theorem dX5_hasColour_2 : decode cX5_hasColour 2 = .ok (.iushr, 1) := by decide +kernel
theorem dX5_hasColour_3 : decode cX5_hasColour 3 = .ok (.iconst 1, 1) := by decide +kernel
theorem dX5_hasColour_4 : decode cX5_hasColour 4 = .ok (.iand, 1) := by decide +kernel
theorem dX5_hasColour_5 : decode cX5_hasColour 5 = .ok (.ifCond .eq 7, 3) := by decide +kernel
theorem dX5_hasColour_8 : decode cX5_hasColour 8 = .ok (.iconst 1, 1) := by decide +kernel
theorem dX5_hasColour_9 : decode cX5_hasColour 9 = .ok (.goto 4, 3) := by decide +kernel
theorem dX5_hasColour_12 : decode cX5_hasColour 12 = .ok (.iconst 0, 1) := by decide +kernel
theorem dX5_hasColour_13 : decode cX5_hasColour 13 = .ok (.ireturn, 1) := by decide +kernel
def xX5_hasColour : zX := (RX5, cX5_hasColour, 2, (some .boolean), false, { frames := 1, cells := 0, slots := 0, locals := 90 }, 0, 0, 0, 0)
theorem rmX5_hasColour : z_Rm xX5_hasColour := by unfold z_Rm xX5_hasColour; exact ⟨by decide, by decide⟩
theorem reX5_hasColour : z_Re xX5_hasColour := ⟨rfl, rfl⟩
theorem rlX5_hasColour : 1 ≤ xX5_hasColour.2.2.2.2.2.1.frames ∧ 21 ≤ xX5_hasColour.2.2.2.2.2.1.locals := by unfold xX5_hasColour; exact ⟨by decide, by decide⟩
theorem meX5_hasColour : z_Me yX5_hasColour xX5_hasColour 2 := ⟨wd261, wd236, by decide, by decide, by decide +kernel⟩
noncomputable def kX5_hasColour_13 : zK zR := q_zret
noncomputable def kX5_hasColour_0 : zK zR := (q_iload 0 (q_iload 1 (q_iushr (q_push 1 (q_iand (q_if_eq (q_push 0 kX5_hasColour_13) (q_push 1 kX5_hasColour_13)))))))
set_option maxRecDepth 100000 in
theorem tX5_hasColour_13 {l : Launch} {D : zD} {B sz0 : Nat} {post : Option Value → zS → Prop} : zSnd l D B xX5_hasColour sz0 post 13 kX5_hasColour_13 (z_Jr post) := (s_zret dX5_hasColour_13 rfl)
set_option maxRecDepth 100000 in
theorem tX5_hasColour_0 {l : Launch} {D : zD} {B sz0 : Nat} {post : Option Value → zS → Prop} : zSnd l D B xX5_hasColour sz0 post 0 kX5_hasColour_0 (z_Jr post) := (s_iload_n dX5_hasColour_0 rfl (s_iload_n dX5_hasColour_1 rfl (s_iushr dX5_hasColour_2 (s_iconst dX5_hasColour_3 (by decide) (s_iand dX5_hasColour_4 (s_if_eq (tgt := 12) dX5_hasColour_5 (by decide) (s_iconst dX5_hasColour_12 (by decide) tX5_hasColour_13) (s_iconst dX5_hasColour_8 (by decide) (s_goto (tgt := 13) dX5_hasColour_9 (by decide) tX5_hasColour_13))))))))
noncomputable def fX5_hasColour : zF := z_fn 2 kX5_hasColour_0
theorem mX5_hasColour {l : Launch} {D : zD} {B : Nat} : z_MF l D B yX5_hasColour xX5_hasColour fX5_hasColour := z_mf (by decide) rfl (fun h => by cases h) rfl (fun as σ r h => ⟨z_fn_len h, kX5_hasColour_0, z_fn_run h, fun _ => tX5_hasColour_0⟩)
/-! ===== RowChildren$Table.closureOf ===== -/
theorem dX5_closureOf_0 : decode cX5_closureOf 0 = .ok (.iload_n 1, 1) := by decide +kernel
theorem dX5_closureOf_1 : decode cX5_closureOf 1 = .ok (.istore_n 2, 1) := by decide +kernel
theorem dX5_closureOf_2 : decode cX5_closureOf 2 = .ok (.iconst 0, 1) := by decide +kernel
theorem dX5_closureOf_3 : decode cX5_closureOf 3 = .ok (.istore_n 3, 1) := by decide +kernel
theorem dX5_closureOf_4 : decode cX5_closureOf 4 = .ok (.iload_n 3, 1) := by decide +kernel
theorem dX5_closureOf_5 : decode cX5_closureOf 5 = .ok (.aload_n 0, 1) := by decide +kernel
theorem dX5_closureOf_6 : decode cX5_closureOf 6 = .ok (.getfield 24, 3) := by decide +kernel
theorem dX5_closureOf_9 : decode cX5_closureOf 9 = .ok (.if_icmp .ge 76, 3) := by decide +kernel
theorem dX5_closureOf_12 : decode cX5_closureOf 12 = .ok (.iconst 0, 1) := by decide +kernel
theorem dX5_closureOf_13 : decode cX5_closureOf 13 = .ok (.istore 4, 2) := by decide +kernel
theorem dX5_closureOf_15 : decode cX5_closureOf 15 = .ok (.iload 4, 2) := by decide +kernel
theorem dX5_closureOf_17 : decode cX5_closureOf 17 = .ok (.aload_n 0, 1) := by decide +kernel
theorem dX5_closureOf_18 : decode cX5_closureOf 18 = .ok (.getfield 24, 3) := by decide +kernel
theorem dX5_closureOf_21 : decode cX5_closureOf 21 = .ok (.if_icmp .ge 58, 3) := by decide +kernel
theorem dX5_closureOf_24 : decode cX5_closureOf 24 = .ok (.iconst 0, 1) := by decide +kernel
theorem dX5_closureOf_25 : decode cX5_closureOf 25 = .ok (.istore 5, 2) := by decide +kernel
theorem dX5_closureOf_27 : decode cX5_closureOf 27 = .ok (.iload 5, 2) := by decide +kernel
theorem dX5_closureOf_29 : decode cX5_closureOf 29 = .ok (.aload_n 0, 1) := by decide +kernel
theorem dX5_closureOf_30 : decode cX5_closureOf 30 = .ok (.getfield 24, 3) := by decide +kernel
theorem dX5_closureOf_33 : decode cX5_closureOf 33 = .ok (.if_icmp .ge 40, 3) := by decide +kernel
theorem dX5_closureOf_36 : decode cX5_closureOf 36 = .ok (.iload_n 2, 1) := by decide +kernel
theorem dX5_closureOf_37 : decode cX5_closureOf 37 = .ok (.iload 4, 2) := by decide +kernel
theorem dX5_closureOf_39 : decode cX5_closureOf 39 = .ok (.invokestatic 42, 3) := by decide +kernel
theorem dX5_closureOf_42 : decode cX5_closureOf 42 = .ok (.ifCond .eq 25, 3) := by decide +kernel
theorem dX5_closureOf_45 : decode cX5_closureOf 45 = .ok (.iload_n 2, 1) := by decide +kernel
theorem dX5_closureOf_46 : decode cX5_closureOf 46 = .ok (.iload 5, 2) := by decide +kernel
theorem dX5_closureOf_48 : decode cX5_closureOf 48 = .ok (.invokestatic 42, 3) := by decide +kernel
theorem dX5_closureOf_51 : decode cX5_closureOf 51 = .ok (.ifCond .eq 16, 3) := by decide +kernel
theorem dX5_closureOf_54 : decode cX5_closureOf 54 = .ok (.iload_n 2, 1) := by decide +kernel
theorem dX5_closureOf_55 : decode cX5_closureOf 55 = .ok (.iconst 1, 1) := by decide +kernel
theorem dX5_closureOf_56 : decode cX5_closureOf 56 = .ok (.aload_n 0, 1) := by decide +kernel
theorem dX5_closureOf_57 : decode cX5_closureOf 57 = .ok (.iload 4, 2) := by decide +kernel
theorem dX5_closureOf_59 : decode cX5_closureOf 59 = .ok (.iload 5, 2) := by decide +kernel
theorem dX5_closureOf_61 : decode cX5_closureOf 61 = .ok (.invokevirtual 28, 3) := by decide +kernel
theorem dX5_closureOf_64 : decode cX5_closureOf 64 = .ok (.ishl, 1) := by decide +kernel
theorem dX5_closureOf_65 : decode cX5_closureOf 65 = .ok (.ior, 1) := by decide +kernel
theorem dX5_closureOf_66 : decode cX5_closureOf 66 = .ok (.istore_n 2, 1) := by decide +kernel
theorem dX5_closureOf_67 : decode cX5_closureOf 67 = .ok (.iinc 5 1, 3) := by decide +kernel
theorem dX5_closureOf_70 : decode cX5_closureOf 70 = .ok (.goto (-43), 3) := by decide +kernel
theorem dX5_closureOf_73 : decode cX5_closureOf 73 = .ok (.iinc 4 1, 3) := by decide +kernel
theorem dX5_closureOf_76 : decode cX5_closureOf 76 = .ok (.goto (-61), 3) := by decide +kernel
theorem dX5_closureOf_79 : decode cX5_closureOf 79 = .ok (.iinc 3 1, 3) := by decide +kernel
theorem dX5_closureOf_82 : decode cX5_closureOf 82 = .ok (.goto (-78), 3) := by decide +kernel
theorem dX5_closureOf_85 : decode cX5_closureOf 85 = .ok (.iload_n 2, 1) := by decide +kernel
theorem dX5_closureOf_86 : decode cX5_closureOf 86 = .ok (.ireturn, 1) := by decide +kernel
def xX5_closureOf : zX := (RX5, cX5_closureOf, 6, (some .int), false, { frames := 2, cells := 0, slots := 0, locals := 112 }, 0, 0, 0, 0)
theorem rmX5_closureOf : z_Rm xX5_closureOf := by unfold z_Rm xX5_closureOf; exact ⟨by decide, by decide⟩
theorem reX5_closureOf : z_Re xX5_closureOf := ⟨rfl, rfl⟩
theorem rlX5_closureOf : 1 ≤ xX5_closureOf.2.2.2.2.2.1.frames ∧ 21 ≤ xX5_closureOf.2.2.2.2.2.1.locals := by unfold xX5_closureOf; exact ⟨by decide, by decide⟩
theorem meX5_closureOf : z_Me yX5_closureOf xX5_closureOf 1 := ⟨wd264, wd236, by decide, by decide, by decide +kernel⟩
theorem fitX5_closureOf_39 : z_Fit xX5_hasColour xX5_closureOf := by unfold z_Fit; simp only [xX5_hasColour, xX5_closureOf]; exact ⟨by decide, by decide⟩
theorem fitX5_closureOf_48 : z_Fit xX5_hasColour xX5_closureOf := by unfold z_Fit; simp only [xX5_hasColour, xX5_closureOf]; exact ⟨by decide, by decide⟩
theorem fitX5_closureOf_61 : z_Fit xX5_childOf xX5_closureOf := by unfold z_Fit; simp only [xX5_childOf, xX5_closureOf]; exact ⟨by decide, by decide⟩
noncomputable def kX5_closureOf_85 : zK zR := (q_iload 2 q_iret)
noncomputable def kX5_closureOf_79 : zK ((zL × zS) ⊕ zR) := (q_iinc 3 1 q_ag)
noncomputable def kX5_closureOf_73 : zK ((zL × zS) ⊕ ((zL × zS) ⊕ zR)) := (q_iinc 4 1 q_ag)
noncomputable def kX5_closureOf_67 : zK ((zL × zS) ⊕ ((zL × zS) ⊕ ((zL × zS) ⊕ zR))) := (q_iinc 5 1 q_ag)
noncomputable def bX5_closureOf_27 : zK ((zL × zS) ⊕ ((zL × zS) ⊕ ((zL × zS) ⊕ zR))) := (q_iload 5 (q_aload 0 (q_getI 5 0 (q_icmp_ge (q_dn kX5_closureOf_73) (q_iload 2 (q_iload 4 (q_callS fX5_hasColour 2 (q_if_eq kX5_closureOf_67 (q_iload 2 (q_iload 5 (q_callS fX5_hasColour 2 (q_if_eq kX5_closureOf_67 (q_iload 2 (q_push 1 (q_aload 0 (q_iload 4 (q_iload 5 (q_callV 5 fX5_childOf 2 (q_ishl (q_ior (q_istore 2 kX5_closureOf_67)))))))))))))))))))))
noncomputable def kX5_closureOf_27 : zK ((zL × zS) ⊕ ((zL × zS) ⊕ zR)) := q_lp (bX5_closureOf_27)
noncomputable def bX5_closureOf_15 : zK ((zL × zS) ⊕ ((zL × zS) ⊕ zR)) := (q_iload 4 (q_aload 0 (q_getI 5 0 (q_icmp_ge (q_dn kX5_closureOf_79) (q_push 0 (q_istore 5 kX5_closureOf_27))))))
noncomputable def kX5_closureOf_15 : zK ((zL × zS) ⊕ zR) := q_lp (bX5_closureOf_15)
noncomputable def bX5_closureOf_4 : zK ((zL × zS) ⊕ zR) := (q_iload 3 (q_aload 0 (q_getI 5 0 (q_icmp_ge (q_dn kX5_closureOf_85) (q_push 0 (q_istore 4 kX5_closureOf_15))))))
noncomputable def kX5_closureOf_4 : zK zR := q_lp (bX5_closureOf_4)
noncomputable def kX5_closureOf_0 : zK zR := (q_iload 1 (q_istore 2 (q_push 0 (q_istore 3 kX5_closureOf_4))))
set_option maxRecDepth 100000 in
theorem tX5_closureOf_85 {l : Launch} {D : zD} {B sz0 : Nat} {post : Option Value → zS → Prop} : zSnd l D B xX5_closureOf sz0 post 85 kX5_closureOf_85 (z_Jr post) := (s_iload_n dX5_closureOf_85 rfl (s_iret dX5_closureOf_86 rfl))
set_option maxRecDepth 100000 in
theorem tX5_closureOf_79 {l : Launch} {D : zD} {B sz0 : Nat} {post : Option Value → zS → Prop} : zSnd l D B xX5_closureOf sz0 post 79 kX5_closureOf_79 (z_Jl l D B xX5_closureOf sz0 post 4 (z_Jr post)) := (s_iinc dX5_closureOf_79 (by decide) (s_goto (tgt := 4) dX5_closureOf_82 (by decide) s_ag))
set_option maxRecDepth 100000 in
theorem tX5_closureOf_73 {l : Launch} {D : zD} {B sz0 : Nat} {post : Option Value → zS → Prop} : zSnd l D B xX5_closureOf sz0 post 73 kX5_closureOf_73 (z_Jl l D B xX5_closureOf sz0 post 15 (z_Jl l D B xX5_closureOf sz0 post 4 (z_Jr post))) := (s_iinc dX5_closureOf_73 (by decide) (s_goto (tgt := 15) dX5_closureOf_76 (by decide) s_ag))
set_option maxRecDepth 100000 in
theorem tX5_closureOf_67 {l : Launch} {D : zD} {B sz0 : Nat} {post : Option Value → zS → Prop} : zSnd l D B xX5_closureOf sz0 post 67 kX5_closureOf_67 (z_Jl l D B xX5_closureOf sz0 post 27 (z_Jl l D B xX5_closureOf sz0 post 15 (z_Jl l D B xX5_closureOf sz0 post 4 (z_Jr post)))) := (s_iinc dX5_closureOf_67 (by decide) (s_goto (tgt := 27) dX5_closureOf_70 (by decide) s_ag))
set_option maxRecDepth 100000 in
theorem tX5_closureOf_27 {l : Launch} {D : zD} {B sz0 : Nat} {post : Option Value → zS → Prop} : zSnd l D B xX5_closureOf sz0 post 27 kX5_closureOf_27 (z_Jl l D B xX5_closureOf sz0 post 15 (z_Jl l D B xX5_closureOf sz0 post 4 (z_Jr post))) := s_lp (body := bX5_closureOf_27) (s_iload dX5_closureOf_27 (s_aload_n dX5_closureOf_29 rfl (s_getI (f := 0) dX5_closureOf_30 clX5 (by decide) rfl wd237 (s_icmp_ge (tgt := 73) dX5_closureOf_33 (by decide) (s_dn tX5_closureOf_73) (s_iload_n dX5_closureOf_36 rfl (s_iload dX5_closureOf_37 (s_callS dX5_closureOf_39 mX5_hasColour meX5_hasColour wd262 rfl reX5_hasColour rmX5_closureOf (fitX5_closureOf_39) wd263 (s_if_eq (tgt := 67) dX5_closureOf_42 (by decide) tX5_closureOf_67 (s_iload_n dX5_closureOf_45 rfl (s_iload dX5_closureOf_46 (s_callS dX5_closureOf_48 mX5_hasColour meX5_hasColour wd262 rfl reX5_hasColour rmX5_closureOf (fitX5_closureOf_48) wd263 (s_if_eq (tgt := 67) dX5_closureOf_51 (by decide) tX5_closureOf_67 (s_iload_n dX5_closureOf_54 rfl (s_iconst dX5_closureOf_55 (by decide) (s_aload_n dX5_closureOf_56 rfl (s_iload dX5_closureOf_57 (s_iload dX5_closureOf_59 (s_callV (r := (RX5, TX5, 7)) dX5_closureOf_61 mX5_childOf meX5_childOf wd242 wd243 rfl rfl reX5_childOf rmX5_closureOf (fitX5_closureOf_61) wd244 (s_ishl dX5_closureOf_64 (s_ior dX5_closureOf_65 (s_istore_n dX5_closureOf_66 rfl tX5_closureOf_67)))))))))))))))))))))
set_option maxRecDepth 100000 in
theorem tX5_closureOf_15 {l : Launch} {D : zD} {B sz0 : Nat} {post : Option Value → zS → Prop} : zSnd l D B xX5_closureOf sz0 post 15 kX5_closureOf_15 (z_Jl l D B xX5_closureOf sz0 post 4 (z_Jr post)) := s_lp (body := bX5_closureOf_15) (s_iload dX5_closureOf_15 (s_aload_n dX5_closureOf_17 rfl (s_getI (f := 0) dX5_closureOf_18 clX5 (by decide) rfl wd237 (s_icmp_ge (tgt := 79) dX5_closureOf_21 (by decide) (s_dn tX5_closureOf_79) (s_iconst dX5_closureOf_24 (by decide) (s_istore dX5_closureOf_25 tX5_closureOf_27))))))
set_option maxRecDepth 100000 in
theorem tX5_closureOf_4 {l : Launch} {D : zD} {B sz0 : Nat} {post : Option Value → zS → Prop} : zSnd l D B xX5_closureOf sz0 post 4 kX5_closureOf_4 (z_Jr post) := s_lp (body := bX5_closureOf_4) (s_iload_n dX5_closureOf_4 rfl (s_aload_n dX5_closureOf_5 rfl (s_getI (f := 0) dX5_closureOf_6 clX5 (by decide) rfl wd237 (s_icmp_ge (tgt := 85) dX5_closureOf_9 (by decide) (s_dn tX5_closureOf_85) (s_iconst dX5_closureOf_12 (by decide) (s_istore dX5_closureOf_13 tX5_closureOf_15))))))
set_option maxRecDepth 100000 in
theorem tX5_closureOf_0 {l : Launch} {D : zD} {B sz0 : Nat} {post : Option Value → zS → Prop} : zSnd l D B xX5_closureOf sz0 post 0 kX5_closureOf_0 (z_Jr post) := (s_iload_n dX5_closureOf_0 rfl (s_istore_n dX5_closureOf_1 rfl (s_iconst dX5_closureOf_2 (by decide) (s_istore_n dX5_closureOf_3 rfl tX5_closureOf_4))))
noncomputable def fX5_closureOf : zF := z_fn 6 kX5_closureOf_0
theorem mX5_closureOf {l : Launch} {D : zD} {B : Nat} : z_MF l D B yX5_closureOf xX5_closureOf fX5_closureOf := z_mf (by decide) rfl (fun h => by cases h) rfl (fun as σ r h => ⟨z_fn_len h, kX5_closureOf_0, z_fn_run h, fun _ => tX5_closureOf_0⟩)
/-! ===== RowChildren$Table.countParents ===== -/
theorem dX5_countParents_0 : decode cX5_countParents 0 = .ok (.aload_n 1, 1) := by decide +kernel
theorem dX5_countParents_1 : decode cX5_countParents 1 = .ok (.iload_n 2, 1) := by decide +kernel
theorem dX5_countParents_2 : decode cX5_countParents 2 = .ok (.invokevirtual 46, 3) := by decide +kernel
theorem dX5_countParents_5 : decode cX5_countParents 5 = .ok (.istore_n 3, 1) := by decide +kernel
theorem dX5_countParents_6 : decode cX5_countParents 6 = .ok (.iconst 0, 1) := by decide +kernel
theorem dX5_countParents_7 : decode cX5_countParents 7 = .ok (.istore 4, 2) := by decide +kernel
theorem dX5_countParents_9 : decode cX5_countParents 9 = .ok (.iload 4, 2) := by decide +kernel
theorem dX5_countParents_11 : decode cX5_countParents 11 = .ok (.aload_n 0, 1) := by decide +kernel
theorem dX5_countParents_12 : decode cX5_countParents 12 = .ok (.getfield 24, 3) := by decide +kernel
theorem dX5_countParents_15 : decode cX5_countParents 15 = .ok (.if_icmp .ge 21, 3) := by decide +kernel
theorem dX5_countParents_18 : decode cX5_countParents 18 = .ok (.aload_n 0, 1) := by decide +kernel
theorem dX5_countParents_19 : decode cX5_countParents 19 = .ok (.getfield 15, 3) := by decide +kernel
theorem dX5_countParents_22 : decode cX5_countParents 22 = .ok (.iload_n 3, 1) := by decide +kernel
theorem dX5_countParents_23 : decode cX5_countParents 23 = .ok (.iconst 4, 1) := by decide +kernel
theorem dX5_countParents_24 : decode cX5_countParents 24 = .ok (.imul, 1) := by decide +kernel
theorem dX5_countParents_25 : decode cX5_countParents 25 = .ok (.iload 4, 2) := by decide +kernel
theorem dX5_countParents_27 : decode cX5_countParents 27 = .ok (.iadd, 1) := by decide +kernel
theorem dX5_countParents_28 : decode cX5_countParents 28 = .ok (.iconst 1, 1) := by decide +kernel
theorem dX5_countParents_29 : decode cX5_countParents 29 = .ok (.iastore, 1) := by decide +kernel
theorem dX5_countParents_30 : decode cX5_countParents 30 = .ok (.iinc 4 1, 3) := by decide +kernel
theorem dX5_countParents_33 : decode cX5_countParents 33 = .ok (.goto (-24), 3) := by decide +kernel
theorem dX5_countParents_36 : decode cX5_countParents 36 = .ok (.iload_n 3, 1) := by decide +kernel
theorem dX5_countParents_37 : decode cX5_countParents 37 = .ok (.iconst 1, 1) := by decide +kernel
theorem dX5_countParents_38 : decode cX5_countParents 38 = .ok (.isub, 1) := by decide +kernel
theorem dX5_countParents_39 : decode cX5_countParents 39 = .ok (.istore 4, 2) := by decide +kernel
theorem dX5_countParents_41 : decode cX5_countParents 41 = .ok (.iload 4, 2) := by decide +kernel
theorem dX5_countParents_43 : decode cX5_countParents 43 = .ok (.ifCond .lt 99, 3) := by decide +kernel
theorem dX5_countParents_46 : decode cX5_countParents 46 = .ok (.iconst 0, 1) := by decide +kernel
theorem dX5_countParents_47 : decode cX5_countParents 47 = .ok (.istore 5, 2) := by decide +kernel
theorem dX5_countParents_49 : decode cX5_countParents 49 = .ok (.iload 5, 2) := by decide +kernel
theorem dX5_countParents_51 : decode cX5_countParents 51 = .ok (.aload_n 0, 1) := by decide +kernel
theorem dX5_countParents_52 : decode cX5_countParents 52 = .ok (.getfield 24, 3) := by decide +kernel
theorem dX5_countParents_55 : decode cX5_countParents 55 = .ok (.if_icmp .ge 81, 3) := by decide +kernel
theorem dX5_countParents_58 : decode cX5_countParents 58 = .ok (.iconst 0, 1) := by decide +kernel
theorem dX5_countParents_59 : decode cX5_countParents 59 = .ok (.istore 6, 2) := by decide +kernel
theorem dX5_countParents_61 : decode cX5_countParents 61 = .ok (.iconst 0, 1) := by decide +kernel
theorem dX5_countParents_62 : decode cX5_countParents 62 = .ok (.istore 7, 2) := by decide +kernel
theorem dX5_countParents_64 : decode cX5_countParents 64 = .ok (.iload 7, 2) := by decide +kernel
theorem dX5_countParents_66 : decode cX5_countParents 66 = .ok (.aload_n 0, 1) := by decide +kernel
theorem dX5_countParents_67 : decode cX5_countParents 67 = .ok (.getfield 24, 3) := by decide +kernel
theorem dX5_countParents_70 : decode cX5_countParents 70 = .ok (.if_icmp .ge 46, 3) := by decide +kernel
theorem dX5_countParents_73 : decode cX5_countParents 73 = .ok (.aload_n 0, 1) := by decide +kernel
theorem dX5_countParents_74 : decode cX5_countParents 74 = .ok (.iload 5, 2) := by decide +kernel
theorem dX5_countParents_76 : decode cX5_countParents 76 = .ok (.iload 7, 2) := by decide +kernel
theorem dX5_countParents_78 : decode cX5_countParents 78 = .ok (.invokevirtual 28, 3) := by decide +kernel
theorem dX5_countParents_81 : decode cX5_countParents 81 = .ok (.aload_n 1, 1) := by decide +kernel
theorem dX5_countParents_82 : decode cX5_countParents 82 = .ok (.iload_n 2, 1) := by decide +kernel
theorem dX5_countParents_83 : decode cX5_countParents 83 = .ok (.iload 4, 2) := by decide +kernel
theorem dX5_countParents_85 : decode cX5_countParents 85 = .ok (.invokevirtual 51, 3) := by decide +kernel
theorem dX5_countParents_88 : decode cX5_countParents 88 = .ok (.if_icmp .ne 22, 3) := by decide +kernel
theorem dX5_countParents_91 : decode cX5_countParents 91 = .ok (.iload 6, 2) := by decide +kernel
theorem dX5_countParents_93 : decode cX5_countParents 93 = .ok (.aload_n 0, 1) := by decide +kernel
theorem dX5_countParents_94 : decode cX5_countParents 94 = .ok (.getfield 15, 3) := by decide +kernel
theorem dX5_countParents_97 : decode cX5_countParents 97 = .ok (.iload 4, 2) := by decide +kernel
theorem dX5_countParents_99 : decode cX5_countParents 99 = .ok (.iconst 1, 1) := by decide +kernel
theorem dX5_countParents_100 : decode cX5_countParents 100 = .ok (.iadd, 1) := by decide +kernel
theorem dX5_countParents_101 : decode cX5_countParents 101 = .ok (.iconst 4, 1) := by decide +kernel
theorem dX5_countParents_102 : decode cX5_countParents 102 = .ok (.imul, 1) := by decide +kernel
theorem dX5_countParents_103 : decode cX5_countParents 103 = .ok (.iload 7, 2) := by decide +kernel
theorem dX5_countParents_105 : decode cX5_countParents 105 = .ok (.iadd, 1) := by decide +kernel
theorem dX5_countParents_106 : decode cX5_countParents 106 = .ok (.iaload, 1) := by decide +kernel
theorem dX5_countParents_107 : decode cX5_countParents 107 = .ok (.iadd, 1) := by decide +kernel
theorem dX5_countParents_108 : decode cX5_countParents 108 = .ok (.istore 6, 2) := by decide +kernel
theorem dX5_countParents_110 : decode cX5_countParents 110 = .ok (.iinc 7 1, 3) := by decide +kernel
theorem dX5_countParents_113 : decode cX5_countParents 113 = .ok (.goto (-49), 3) := by decide +kernel
theorem dX5_countParents_116 : decode cX5_countParents 116 = .ok (.aload_n 0, 1) := by decide +kernel
theorem dX5_countParents_117 : decode cX5_countParents 117 = .ok (.getfield 15, 3) := by decide +kernel
theorem dX5_countParents_120 : decode cX5_countParents 120 = .ok (.iload 4, 2) := by decide +kernel
theorem dX5_countParents_122 : decode cX5_countParents 122 = .ok (.iconst 4, 1) := by decide +kernel
theorem dX5_countParents_123 : decode cX5_countParents 123 = .ok (.imul, 1) := by decide +kernel
theorem dX5_countParents_124 : decode cX5_countParents 124 = .ok (.iload 5, 2) := by decide +kernel
theorem dX5_countParents_126 : decode cX5_countParents 126 = .ok (.iadd, 1) := by decide +kernel
theorem dX5_countParents_127 : decode cX5_countParents 127 = .ok (.iload 6, 2) := by decide +kernel
theorem dX5_countParents_129 : decode cX5_countParents 129 = .ok (.iastore, 1) := by decide +kernel
theorem dX5_countParents_130 : decode cX5_countParents 130 = .ok (.iinc 5 1, 3) := by decide +kernel
theorem dX5_countParents_133 : decode cX5_countParents 133 = .ok (.goto (-84), 3) := by decide +kernel
theorem dX5_countParents_136 : decode cX5_countParents 136 = .ok (.iinc 4 (-1), 3) := by decide +kernel
theorem dX5_countParents_139 : decode cX5_countParents 139 = .ok (.goto (-98), 3) := by decide +kernel
theorem dX5_countParents_142 : decode cX5_countParents 142 = .ok (.iconst 0, 1) := by decide +kernel
theorem dX5_countParents_143 : decode cX5_countParents 143 = .ok (.istore 4, 2) := by decide +kernel
theorem dX5_countParents_145 : decode cX5_countParents 145 = .ok (.iconst 0, 1) := by decide +kernel
theorem dX5_countParents_146 : decode cX5_countParents 146 = .ok (.istore 5, 2) := by decide +kernel
theorem dX5_countParents_148 : decode cX5_countParents 148 = .ok (.iload 5, 2) := by decide +kernel
theorem dX5_countParents_150 : decode cX5_countParents 150 = .ok (.aload_n 0, 1) := by decide +kernel
theorem dX5_countParents_151 : decode cX5_countParents 151 = .ok (.getfield 24, 3) := by decide +kernel
theorem dX5_countParents_154 : decode cX5_countParents 154 = .ok (.if_icmp .ge 21, 3) := by decide +kernel
theorem dX5_countParents_157 : decode cX5_countParents 157 = .ok (.iload 4, 2) := by decide +kernel
theorem dX5_countParents_159 : decode cX5_countParents 159 = .ok (.aload_n 0, 1) := by decide +kernel
theorem dX5_countParents_160 : decode cX5_countParents 160 = .ok (.getfield 15, 3) := by decide +kernel
theorem dX5_countParents_163 : decode cX5_countParents 163 = .ok (.iload 5, 2) := by decide +kernel
theorem dX5_countParents_165 : decode cX5_countParents 165 = .ok (.iaload, 1) := by decide +kernel
theorem dX5_countParents_166 : decode cX5_countParents 166 = .ok (.iadd, 1) := by decide +kernel
theorem dX5_countParents_167 : decode cX5_countParents 167 = .ok (.istore 4, 2) := by decide +kernel
theorem dX5_countParents_169 : decode cX5_countParents 169 = .ok (.iinc 5 1, 3) := by decide +kernel
theorem dX5_countParents_172 : decode cX5_countParents 172 = .ok (.goto (-24), 3) := by decide +kernel
theorem dX5_countParents_175 : decode cX5_countParents 175 = .ok (.iload 4, 2) := by decide +kernel
theorem dX5_countParents_177 : decode cX5_countParents 177 = .ok (.ireturn, 1) := by decide +kernel
def xX5_countParents : zX := (RX5, cX5_countParents, 8, (some .int), false, { frames := 2, cells := 0, slots := 0, locals := 112 }, 0, 0, 0, 0)
theorem rmX5_countParents : z_Rm xX5_countParents := by unfold z_Rm xX5_countParents; exact ⟨by decide, by decide⟩
theorem reX5_countParents : z_Re xX5_countParents := ⟨rfl, rfl⟩
theorem rlX5_countParents : 1 ≤ xX5_countParents.2.2.2.2.2.1.frames ∧ 21 ≤ xX5_countParents.2.2.2.2.2.1.locals := by unfold xX5_countParents; exact ⟨by decide, by decide⟩
theorem meX5_countParents : z_Me yX5_countParents xX5_countParents 2 := ⟨wd267, wd236, by decide, by decide, by decide +kernel⟩
theorem fitX5_countParents_2 : z_Fit xX1_lengthOf xX5_countParents := by unfold z_Fit; simp only [xX1_lengthOf, xX5_countParents]; exact ⟨by decide, by decide⟩
theorem fitX5_countParents_78 : z_Fit xX5_childOf xX5_countParents := by unfold z_Fit; simp only [xX5_childOf, xX5_countParents]; exact ⟨by decide, by decide⟩
theorem fitX5_countParents_85 : z_Fit xX1_colourAt xX5_countParents := by unfold z_Fit; simp only [xX1_colourAt, xX5_countParents]; exact ⟨by decide, by decide⟩
noncomputable def kX5_countParents_175 : zK zR := (q_iload 4 q_iret)
noncomputable def bX5_countParents_148 : zK ((zL × zS) ⊕ zR) := (q_iload 5 (q_aload 0 (q_getI 5 0 (q_icmp_ge (q_dn kX5_countParents_175) (q_iload 4 (q_aload 0 (q_getR 5 4 (q_iload 5 (q_iald (q_iadd (q_istore 4 (q_iinc 5 1 q_ag))))))))))))
noncomputable def kX5_countParents_148 : zK zR := q_lp (bX5_countParents_148)
noncomputable def kX5_countParents_142 : zK zR := (q_push 0 (q_istore 4 (q_push 0 (q_istore 5 kX5_countParents_148))))
noncomputable def kX5_countParents_136 : zK ((zL × zS) ⊕ zR) := (q_iinc 4 (-1) q_ag)
noncomputable def kX5_countParents_116 : zK ((zL × zS) ⊕ ((zL × zS) ⊕ zR)) := (q_aload 0 (q_getR 5 4 (q_iload 4 (q_push 4 (q_imul (q_iload 5 (q_iadd (q_iload 6 (q_iast (q_iinc 5 1 q_ag))))))))))
noncomputable def kX5_countParents_110 : zK ((zL × zS) ⊕ ((zL × zS) ⊕ ((zL × zS) ⊕ zR))) := (q_iinc 7 1 q_ag)
noncomputable def bX5_countParents_64 : zK ((zL × zS) ⊕ ((zL × zS) ⊕ ((zL × zS) ⊕ zR))) := (q_iload 7 (q_aload 0 (q_getI 5 0 (q_icmp_ge (q_dn kX5_countParents_116) (q_aload 0 (q_iload 5 (q_iload 7 (q_callV 5 fX5_childOf 2 (q_aload 1 (q_iload 2 (q_iload 4 (q_callV 1 fX1_colourAt 2 (q_icmp_ne kX5_countParents_110 (q_iload 6 (q_aload 0 (q_getR 5 4 (q_iload 4 (q_push 1 (q_iadd (q_push 4 (q_imul (q_iload 7 (q_iadd (q_iald (q_iadd (q_istore 6 kX5_countParents_110))))))))))))))))))))))))))
noncomputable def kX5_countParents_64 : zK ((zL × zS) ⊕ ((zL × zS) ⊕ zR)) := q_lp (bX5_countParents_64)
noncomputable def bX5_countParents_49 : zK ((zL × zS) ⊕ ((zL × zS) ⊕ zR)) := (q_iload 5 (q_aload 0 (q_getI 5 0 (q_icmp_ge (q_dn kX5_countParents_136) (q_push 0 (q_istore 6 (q_push 0 (q_istore 7 kX5_countParents_64))))))))
noncomputable def kX5_countParents_49 : zK ((zL × zS) ⊕ zR) := q_lp (bX5_countParents_49)
noncomputable def bX5_countParents_41 : zK ((zL × zS) ⊕ zR) := (q_iload 4 (q_if_lt (q_dn kX5_countParents_142) (q_push 0 (q_istore 5 kX5_countParents_49))))
noncomputable def kX5_countParents_41 : zK zR := q_lp (bX5_countParents_41)
noncomputable def kX5_countParents_36 : zK zR := (q_iload 3 (q_push 1 (q_isub (q_istore 4 kX5_countParents_41))))
noncomputable def bX5_countParents_9 : zK ((zL × zS) ⊕ zR) := (q_iload 4 (q_aload 0 (q_getI 5 0 (q_icmp_ge (q_dn kX5_countParents_36) (q_aload 0 (q_getR 5 4 (q_iload 3 (q_push 4 (q_imul (q_iload 4 (q_iadd (q_push 1 (q_iast (q_iinc 4 1 q_ag))))))))))))))
noncomputable def kX5_countParents_9 : zK zR := q_lp (bX5_countParents_9)
noncomputable def kX5_countParents_0 : zK zR := (q_aload 1 (q_iload 2 (q_callV 1 fX1_lengthOf 1 (q_istore 3 (q_push 0 (q_istore 4 kX5_countParents_9))))))
set_option maxRecDepth 100000 in
theorem tX5_countParents_175 {l : Launch} {D : zD} {B sz0 : Nat} {post : Option Value → zS → Prop} : zSnd l D B xX5_countParents sz0 post 175 kX5_countParents_175 (z_Jr post) := (s_iload dX5_countParents_175 (s_iret dX5_countParents_177 rfl))
set_option maxRecDepth 100000 in
theorem tX5_countParents_148 {l : Launch} {D : zD} {B sz0 : Nat} {post : Option Value → zS → Prop} : zSnd l D B xX5_countParents sz0 post 148 kX5_countParents_148 (z_Jr post) := s_lp (body := bX5_countParents_148) (s_iload dX5_countParents_148 (s_aload_n dX5_countParents_150 rfl (s_getI (f := 0) dX5_countParents_151 clX5 (by decide) rfl wd237 (s_icmp_ge (tgt := 175) dX5_countParents_154 (by decide) (s_dn tX5_countParents_175) (s_iload dX5_countParents_157 (s_aload_n dX5_countParents_159 rfl (s_getR (f := 4) dX5_countParents_160 clX5 (by decide) rfl wd232 (s_iload dX5_countParents_163 (s_iald dX5_countParents_165 (s_iadd dX5_countParents_166 (s_istore dX5_countParents_167 (s_iinc dX5_countParents_169 (by decide) (s_goto (tgt := 148) dX5_countParents_172 (by decide) s_ag)))))))))))))
set_option maxRecDepth 100000 in
theorem tX5_countParents_142 {l : Launch} {D : zD} {B sz0 : Nat} {post : Option Value → zS → Prop} : zSnd l D B xX5_countParents sz0 post 142 kX5_countParents_142 (z_Jr post) := (s_iconst dX5_countParents_142 (by decide) (s_istore dX5_countParents_143 (s_iconst dX5_countParents_145 (by decide) (s_istore dX5_countParents_146 tX5_countParents_148))))
set_option maxRecDepth 100000 in
theorem tX5_countParents_136 {l : Launch} {D : zD} {B sz0 : Nat} {post : Option Value → zS → Prop} : zSnd l D B xX5_countParents sz0 post 136 kX5_countParents_136 (z_Jl l D B xX5_countParents sz0 post 41 (z_Jr post)) := (s_iinc dX5_countParents_136 (by decide) (s_goto (tgt := 41) dX5_countParents_139 (by decide) s_ag))
set_option maxRecDepth 100000 in
theorem tX5_countParents_116 {l : Launch} {D : zD} {B sz0 : Nat} {post : Option Value → zS → Prop} : zSnd l D B xX5_countParents sz0 post 116 kX5_countParents_116 (z_Jl l D B xX5_countParents sz0 post 49 (z_Jl l D B xX5_countParents sz0 post 41 (z_Jr post))) := (s_aload_n dX5_countParents_116 rfl (s_getR (f := 4) dX5_countParents_117 clX5 (by decide) rfl wd232 (s_iload dX5_countParents_120 (s_iconst dX5_countParents_122 (by decide) (s_imul dX5_countParents_123 (s_iload dX5_countParents_124 (s_iadd dX5_countParents_126 (s_iload dX5_countParents_127 (s_iast dX5_countParents_129 (s_iinc dX5_countParents_130 (by decide) (s_goto (tgt := 49) dX5_countParents_133 (by decide) s_ag)))))))))))
set_option maxRecDepth 100000 in
theorem tX5_countParents_110 {l : Launch} {D : zD} {B sz0 : Nat} {post : Option Value → zS → Prop} : zSnd l D B xX5_countParents sz0 post 110 kX5_countParents_110 (z_Jl l D B xX5_countParents sz0 post 64 (z_Jl l D B xX5_countParents sz0 post 49 (z_Jl l D B xX5_countParents sz0 post 41 (z_Jr post)))) := (s_iinc dX5_countParents_110 (by decide) (s_goto (tgt := 64) dX5_countParents_113 (by decide) s_ag))
set_option maxRecDepth 100000 in
theorem tX5_countParents_64 {l : Launch} {D : zD} {B sz0 : Nat} {post : Option Value → zS → Prop} : zSnd l D B xX5_countParents sz0 post 64 kX5_countParents_64 (z_Jl l D B xX5_countParents sz0 post 49 (z_Jl l D B xX5_countParents sz0 post 41 (z_Jr post))) := s_lp (body := bX5_countParents_64) (s_iload dX5_countParents_64 (s_aload_n dX5_countParents_66 rfl (s_getI (f := 0) dX5_countParents_67 clX5 (by decide) rfl wd237 (s_icmp_ge (tgt := 116) dX5_countParents_70 (by decide) (s_dn tX5_countParents_116) (s_aload_n dX5_countParents_73 rfl (s_iload dX5_countParents_74 (s_iload dX5_countParents_76 (s_callV (r := (RX5, TX5, 7)) dX5_countParents_78 mX5_childOf meX5_childOf wd242 wd243 rfl rfl reX5_childOf rmX5_countParents (fitX5_countParents_78) wd244 (s_aload_n dX5_countParents_81 rfl (s_iload_n dX5_countParents_82 rfl (s_iload dX5_countParents_83 (s_callV (r := (RX1, TX1, 5)) dX5_countParents_85 mX1_colourAt meX1_colourAt wd75 wd76 rfl rfl reX1_colourAt rmX5_countParents (fitX5_countParents_85) wd266 (s_icmp_ne (tgt := 110) dX5_countParents_88 (by decide) tX5_countParents_110 (s_iload dX5_countParents_91 (s_aload_n dX5_countParents_93 rfl (s_getR (f := 4) dX5_countParents_94 clX5 (by decide) rfl wd232 (s_iload dX5_countParents_97 (s_iconst dX5_countParents_99 (by decide) (s_iadd dX5_countParents_100 (s_iconst dX5_countParents_101 (by decide) (s_imul dX5_countParents_102 (s_iload dX5_countParents_103 (s_iadd dX5_countParents_105 (s_iald dX5_countParents_106 (s_iadd dX5_countParents_107 (s_istore dX5_countParents_108 tX5_countParents_110))))))))))))))))))))))))))
set_option maxRecDepth 100000 in
theorem tX5_countParents_49 {l : Launch} {D : zD} {B sz0 : Nat} {post : Option Value → zS → Prop} : zSnd l D B xX5_countParents sz0 post 49 kX5_countParents_49 (z_Jl l D B xX5_countParents sz0 post 41 (z_Jr post)) := s_lp (body := bX5_countParents_49) (s_iload dX5_countParents_49 (s_aload_n dX5_countParents_51 rfl (s_getI (f := 0) dX5_countParents_52 clX5 (by decide) rfl wd237 (s_icmp_ge (tgt := 136) dX5_countParents_55 (by decide) (s_dn tX5_countParents_136) (s_iconst dX5_countParents_58 (by decide) (s_istore dX5_countParents_59 (s_iconst dX5_countParents_61 (by decide) (s_istore dX5_countParents_62 tX5_countParents_64))))))))
set_option maxRecDepth 100000 in
theorem tX5_countParents_41 {l : Launch} {D : zD} {B sz0 : Nat} {post : Option Value → zS → Prop} : zSnd l D B xX5_countParents sz0 post 41 kX5_countParents_41 (z_Jr post) := s_lp (body := bX5_countParents_41) (s_iload dX5_countParents_41 (s_if_lt (tgt := 142) dX5_countParents_43 (by decide) (s_dn tX5_countParents_142) (s_iconst dX5_countParents_46 (by decide) (s_istore dX5_countParents_47 tX5_countParents_49))))
set_option maxRecDepth 100000 in
theorem tX5_countParents_36 {l : Launch} {D : zD} {B sz0 : Nat} {post : Option Value → zS → Prop} : zSnd l D B xX5_countParents sz0 post 36 kX5_countParents_36 (z_Jr post) := (s_iload_n dX5_countParents_36 rfl (s_iconst dX5_countParents_37 (by decide) (s_isub dX5_countParents_38 (s_istore dX5_countParents_39 tX5_countParents_41))))
set_option maxRecDepth 100000 in
theorem tX5_countParents_9 {l : Launch} {D : zD} {B sz0 : Nat} {post : Option Value → zS → Prop} : zSnd l D B xX5_countParents sz0 post 9 kX5_countParents_9 (z_Jr post) := s_lp (body := bX5_countParents_9) (s_iload dX5_countParents_9 (s_aload_n dX5_countParents_11 rfl (s_getI (f := 0) dX5_countParents_12 clX5 (by decide) rfl wd237 (s_icmp_ge (tgt := 36) dX5_countParents_15 (by decide) (s_dn tX5_countParents_36) (s_aload_n dX5_countParents_18 rfl (s_getR (f := 4) dX5_countParents_19 clX5 (by decide) rfl wd232 (s_iload_n dX5_countParents_22 rfl (s_iconst dX5_countParents_23 (by decide) (s_imul dX5_countParents_24 (s_iload dX5_countParents_25 (s_iadd dX5_countParents_27 (s_iconst dX5_countParents_28 (by decide) (s_iast dX5_countParents_29 (s_iinc dX5_countParents_30 (by decide) (s_goto (tgt := 9) dX5_countParents_33 (by decide) s_ag)))))))))))))))
set_option maxRecDepth 100000 in
theorem tX5_countParents_0 {l : Launch} {D : zD} {B sz0 : Nat} {post : Option Value → zS → Prop} : zSnd l D B xX5_countParents sz0 post 0 kX5_countParents_0 (z_Jr post) := (s_aload_n dX5_countParents_0 rfl (s_iload_n dX5_countParents_1 rfl (s_callV (r := (RX1, TX1, 5)) dX5_countParents_2 mX1_lengthOf meX1_lengthOf wd65 wd66 rfl rfl reX1_lengthOf rmX5_countParents (fitX5_countParents_2) wd265 (s_istore_n dX5_countParents_5 rfl (s_iconst dX5_countParents_6 (by decide) (s_istore dX5_countParents_7 tX5_countParents_9))))))
noncomputable def fX5_countParents : zF := z_fn 8 kX5_countParents_0
theorem mX5_countParents {l : Launch} {D : zD} {B : Nat} : z_MF l D B yX5_countParents xX5_countParents fX5_countParents := z_mf (by decide) rfl (fun h => by cases h) rfl (fun as σ r h => ⟨z_fn_len h, kX5_countParents_0, z_fn_run h, fun _ => tX5_countParents_0⟩)
/-! ===== RowChildren$Table.leastParents ===== -/
theorem dX5_leastParents_0 : decode cX5_leastParents 0 = .ok (.iconst 0, 1) := by decide +kernel
theorem dX5_leastParents_1 : decode cX5_leastParents 1 = .ok (.istore_n 3, 1) := by decide +kernel
theorem dX5_leastParents_2 : decode cX5_leastParents 2 = .ok (.iconst (-1), 1) := by decide +kernel
theorem dX5_leastParents_3 : decode cX5_leastParents 3 = .ok (.istore 4, 2) := by decide +kernel
theorem dX5_leastParents_5 : decode cX5_leastParents 5 = .ok (.iconst 0, 1) := by decide +kernel
theorem dX5_leastParents_6 : decode cX5_leastParents 6 = .ok (.istore 5, 2) := by decide +kernel
theorem dX5_leastParents_8 : decode cX5_leastParents 8 = .ok (.iload 5, 2) := by decide +kernel
theorem dX5_leastParents_10 : decode cX5_leastParents 10 = .ok (.aload_n 1, 1) := by decide +kernel
theorem dX5_leastParents_11 : decode cX5_leastParents 11 = .ok (.iload_n 2, 1) := by decide +kernel
theorem dX5_leastParents_12 : decode cX5_leastParents 12 = .ok (.invokevirtual 46, 3) := by decide +kernel
theorem dX5_leastParents_15 : decode cX5_leastParents 15 = .ok (.if_icmp .gt 106, 3) := by decide +kernel
theorem dX5_leastParents_18 : decode cX5_leastParents 18 = .ok (.iconst (-1), 1) := by decide +kernel
theorem dX5_leastParents_19 : decode cX5_leastParents 19 = .ok (.istore 6, 2) := by decide +kernel
theorem dX5_leastParents_21 : decode cX5_leastParents 21 = .ok (.iconst 0, 1) := by decide +kernel
theorem dX5_leastParents_22 : decode cX5_leastParents 22 = .ok (.istore 7, 2) := by decide +kernel
theorem dX5_leastParents_24 : decode cX5_leastParents 24 = .ok (.iload 7, 2) := by decide +kernel
theorem dX5_leastParents_26 : decode cX5_leastParents 26 = .ok (.aload_n 0, 1) := by decide +kernel
theorem dX5_leastParents_27 : decode cX5_leastParents 27 = .ok (.getfield 24, 3) := by decide +kernel
theorem dX5_leastParents_30 : decode cX5_leastParents 30 = .ok (.if_icmp .ge 71, 3) := by decide +kernel
theorem dX5_leastParents_33 : decode cX5_leastParents 33 = .ok (.iload 6, 2) := by decide +kernel
theorem dX5_leastParents_35 : decode cX5_leastParents 35 = .ok (.iconst (-1), 1) := by decide +kernel
theorem dX5_leastParents_36 : decode cX5_leastParents 36 = .ok (.if_icmp .ne 65, 3) := by decide +kernel
theorem dX5_leastParents_39 : decode cX5_leastParents 39 = .ok (.iload 5, 2) := by decide +kernel
theorem dX5_leastParents_41 : decode cX5_leastParents 41 = .ok (.ifCond .eq 23, 3) := by decide +kernel
theorem dX5_leastParents_44 : decode cX5_leastParents 44 = .ok (.aload_n 0, 1) := by decide +kernel
theorem dX5_leastParents_45 : decode cX5_leastParents 45 = .ok (.iload 4, 2) := by decide +kernel
theorem dX5_leastParents_47 : decode cX5_leastParents 47 = .ok (.iload 7, 2) := by decide +kernel
theorem dX5_leastParents_49 : decode cX5_leastParents 49 = .ok (.invokevirtual 28, 3) := by decide +kernel
theorem dX5_leastParents_52 : decode cX5_leastParents 52 = .ok (.aload_n 1, 1) := by decide +kernel
theorem dX5_leastParents_53 : decode cX5_leastParents 53 = .ok (.iload_n 2, 1) := by decide +kernel
theorem dX5_leastParents_54 : decode cX5_leastParents 54 = .ok (.iload 5, 2) := by decide +kernel
theorem dX5_leastParents_56 : decode cX5_leastParents 56 = .ok (.iconst 1, 1) := by decide +kernel
theorem dX5_leastParents_57 : decode cX5_leastParents 57 = .ok (.isub, 1) := by decide +kernel
theorem dX5_leastParents_58 : decode cX5_leastParents 58 = .ok (.invokevirtual 51, 3) := by decide +kernel
theorem dX5_leastParents_61 : decode cX5_leastParents 61 = .ok (.if_icmp .ne 7, 3) := by decide +kernel
theorem dX5_leastParents_64 : decode cX5_leastParents 64 = .ok (.iconst 1, 1) := by decide +kernel
theorem dX5_leastParents_65 : decode cX5_leastParents 65 = .ok (.goto 4, 3) := by decide +kernel
theorem dX5_leastParents_68 : decode cX5_leastParents 68 = .ok (.iconst 0, 1) := by decide +kernel
theorem dX5_leastParents_69 : decode cX5_leastParents 69 = .ok (.istore 8, 2) := by decide +kernel
theorem dX5_leastParents_71 : decode cX5_leastParents 71 = .ok (.iload 8, 2) := by decide +kernel
theorem dX5_leastParents_73 : decode cX5_leastParents 73 = .ok (.ifCond .eq 22, 3) := by decide +kernel
theorem dX5_leastParents_76 : decode cX5_leastParents 76 = .ok (.aload_n 0, 1) := by decide +kernel
theorem dX5_leastParents_77 : decode cX5_leastParents 77 = .ok (.getfield 15, 3) := by decide +kernel
theorem dX5_leastParents_80 : decode cX5_leastParents 80 = .ok (.iload 5, 2) := by decide +kernel
theorem dX5_leastParents_82 : decode cX5_leastParents 82 = .ok (.iconst 4, 1) := by decide +kernel
theorem dX5_leastParents_83 : decode cX5_leastParents 83 = .ok (.imul, 1) := by decide +kernel
theorem dX5_leastParents_84 : decode cX5_leastParents 84 = .ok (.iload 7, 2) := by decide +kernel
theorem dX5_leastParents_86 : decode cX5_leastParents 86 = .ok (.iadd, 1) := by decide +kernel
theorem dX5_leastParents_87 : decode cX5_leastParents 87 = .ok (.iaload, 1) := by decide +kernel
theorem dX5_leastParents_88 : decode cX5_leastParents 88 = .ok (.ifCond .le 7, 3) := by decide +kernel
theorem dX5_leastParents_91 : decode cX5_leastParents 91 = .ok (.iload 7, 2) := by decide +kernel
theorem dX5_leastParents_93 : decode cX5_leastParents 93 = .ok (.istore 6, 2) := by decide +kernel
theorem dX5_leastParents_95 : decode cX5_leastParents 95 = .ok (.iinc 7 1, 3) := by decide +kernel
theorem dX5_leastParents_98 : decode cX5_leastParents 98 = .ok (.goto (-74), 3) := by decide +kernel
theorem dX5_leastParents_101 : decode cX5_leastParents 101 = .ok (.iload_n 3, 1) := by decide +kernel
theorem dX5_leastParents_102 : decode cX5_leastParents 102 = .ok (.aload_n 0, 1) := by decide +kernel
theorem dX5_leastParents_103 : decode cX5_leastParents 103 = .ok (.getfield 24, 3) := by decide +kernel
theorem dX5_leastParents_106 : decode cX5_leastParents 106 = .ok (.imul, 1) := by decide +kernel
theorem dX5_leastParents_107 : decode cX5_leastParents 107 = .ok (.iload 6, 2) := by decide +kernel
theorem dX5_leastParents_109 : decode cX5_leastParents 109 = .ok (.iadd, 1) := by decide +kernel
theorem dX5_leastParents_110 : decode cX5_leastParents 110 = .ok (.istore_n 3, 1) := by decide +kernel
theorem dX5_leastParents_111 : decode cX5_leastParents 111 = .ok (.iload 6, 2) := by decide +kernel
theorem dX5_leastParents_113 : decode cX5_leastParents 113 = .ok (.istore 4, 2) := by decide +kernel
theorem dX5_leastParents_115 : decode cX5_leastParents 115 = .ok (.iinc 5 1, 3) := by decide +kernel
theorem dX5_leastParents_118 : decode cX5_leastParents 118 = .ok (.goto (-110), 3) := by decide +kernel
theorem dX5_leastParents_121 : decode cX5_leastParents 121 = .ok (.iload_n 3, 1) := by decide +kernel
theorem dX5_leastParents_122 : decode cX5_leastParents 122 = .ok (.ireturn, 1) := by decide +kernel
def xX5_leastParents : zX := (RX5, cX5_leastParents, 9, (some .int), false, { frames := 2, cells := 0, slots := 0, locals := 112 }, 0, 0, 0, 0)
theorem rmX5_leastParents : z_Rm xX5_leastParents := by unfold z_Rm xX5_leastParents; exact ⟨by decide, by decide⟩
theorem reX5_leastParents : z_Re xX5_leastParents := ⟨rfl, rfl⟩
theorem rlX5_leastParents : 1 ≤ xX5_leastParents.2.2.2.2.2.1.frames ∧ 21 ≤ xX5_leastParents.2.2.2.2.2.1.locals := by unfold xX5_leastParents; exact ⟨by decide, by decide⟩
theorem meX5_leastParents : z_Me yX5_leastParents xX5_leastParents 2 := ⟨wd268, wd236, by decide, by decide, by decide +kernel⟩
theorem fitX5_leastParents_12 : z_Fit xX1_lengthOf xX5_leastParents := by unfold z_Fit; simp only [xX1_lengthOf, xX5_leastParents]; exact ⟨by decide, by decide⟩
theorem fitX5_leastParents_49 : z_Fit xX5_childOf xX5_leastParents := by unfold z_Fit; simp only [xX5_childOf, xX5_leastParents]; exact ⟨by decide, by decide⟩
theorem fitX5_leastParents_58 : z_Fit xX1_colourAt xX5_leastParents := by unfold z_Fit; simp only [xX1_colourAt, xX5_leastParents]; exact ⟨by decide, by decide⟩
noncomputable def kX5_leastParents_121 : zK zR := (q_iload 3 q_iret)
noncomputable def kX5_leastParents_101 : zK ((zL × zS) ⊕ zR) := (q_iload 3 (q_aload 0 (q_getI 5 0 (q_imul (q_iload 6 (q_iadd (q_istore 3 (q_iload 6 (q_istore 4 (q_iinc 5 1 q_ag))))))))))
noncomputable def kX5_leastParents_95 : zK ((zL × zS) ⊕ ((zL × zS) ⊕ zR)) := (q_iinc 7 1 q_ag)
noncomputable def kX5_leastParents_69 : zK ((zL × zS) ⊕ ((zL × zS) ⊕ zR)) := (q_istore 8 (q_iload 8 (q_if_eq kX5_leastParents_95 (q_aload 0 (q_getR 5 4 (q_iload 5 (q_push 4 (q_imul (q_iload 7 (q_iadd (q_iald (q_if_le kX5_leastParents_95 (q_iload 7 (q_istore 6 kX5_leastParents_95))))))))))))))
noncomputable def kX5_leastParents_64 : zK ((zL × zS) ⊕ ((zL × zS) ⊕ zR)) := (q_push 1 kX5_leastParents_69)
noncomputable def bX5_leastParents_24 : zK ((zL × zS) ⊕ ((zL × zS) ⊕ zR)) := (q_iload 7 (q_aload 0 (q_getI 5 0 (q_icmp_ge (q_dn kX5_leastParents_101) (q_iload 6 (q_push (-1) (q_icmp_ne (q_dn kX5_leastParents_101) (q_iload 5 (q_if_eq kX5_leastParents_64 (q_aload 0 (q_iload 4 (q_iload 7 (q_callV 5 fX5_childOf 2 (q_aload 1 (q_iload 2 (q_iload 5 (q_push 1 (q_isub (q_callV 1 fX1_colourAt 2 (q_icmp_ne (q_push 0 kX5_leastParents_69) kX5_leastParents_64))))))))))))))))))))
noncomputable def kX5_leastParents_24 : zK ((zL × zS) ⊕ zR) := q_lp (bX5_leastParents_24)
noncomputable def bX5_leastParents_8 : zK ((zL × zS) ⊕ zR) := (q_iload 5 (q_aload 1 (q_iload 2 (q_callV 1 fX1_lengthOf 1 (q_icmp_gt (q_dn kX5_leastParents_121) (q_push (-1) (q_istore 6 (q_push 0 (q_istore 7 kX5_leastParents_24)))))))))
noncomputable def kX5_leastParents_8 : zK zR := q_lp (bX5_leastParents_8)
noncomputable def kX5_leastParents_0 : zK zR := (q_push 0 (q_istore 3 (q_push (-1) (q_istore 4 (q_push 0 (q_istore 5 kX5_leastParents_8))))))
set_option maxRecDepth 100000 in
theorem tX5_leastParents_121 {l : Launch} {D : zD} {B sz0 : Nat} {post : Option Value → zS → Prop} : zSnd l D B xX5_leastParents sz0 post 121 kX5_leastParents_121 (z_Jr post) := (s_iload_n dX5_leastParents_121 rfl (s_iret dX5_leastParents_122 rfl))
set_option maxRecDepth 100000 in
theorem tX5_leastParents_101 {l : Launch} {D : zD} {B sz0 : Nat} {post : Option Value → zS → Prop} : zSnd l D B xX5_leastParents sz0 post 101 kX5_leastParents_101 (z_Jl l D B xX5_leastParents sz0 post 8 (z_Jr post)) := (s_iload_n dX5_leastParents_101 rfl (s_aload_n dX5_leastParents_102 rfl (s_getI (f := 0) dX5_leastParents_103 clX5 (by decide) rfl wd237 (s_imul dX5_leastParents_106 (s_iload dX5_leastParents_107 (s_iadd dX5_leastParents_109 (s_istore_n dX5_leastParents_110 rfl (s_iload dX5_leastParents_111 (s_istore dX5_leastParents_113 (s_iinc dX5_leastParents_115 (by decide) (s_goto (tgt := 8) dX5_leastParents_118 (by decide) s_ag)))))))))))
set_option maxRecDepth 100000 in
theorem tX5_leastParents_95 {l : Launch} {D : zD} {B sz0 : Nat} {post : Option Value → zS → Prop} : zSnd l D B xX5_leastParents sz0 post 95 kX5_leastParents_95 (z_Jl l D B xX5_leastParents sz0 post 24 (z_Jl l D B xX5_leastParents sz0 post 8 (z_Jr post))) := (s_iinc dX5_leastParents_95 (by decide) (s_goto (tgt := 24) dX5_leastParents_98 (by decide) s_ag))
set_option maxRecDepth 100000 in
theorem tX5_leastParents_69 {l : Launch} {D : zD} {B sz0 : Nat} {post : Option Value → zS → Prop} : zSnd l D B xX5_leastParents sz0 post 69 kX5_leastParents_69 (z_Jl l D B xX5_leastParents sz0 post 24 (z_Jl l D B xX5_leastParents sz0 post 8 (z_Jr post))) := (s_istore dX5_leastParents_69 (s_iload dX5_leastParents_71 (s_if_eq (tgt := 95) dX5_leastParents_73 (by decide) tX5_leastParents_95 (s_aload_n dX5_leastParents_76 rfl (s_getR (f := 4) dX5_leastParents_77 clX5 (by decide) rfl wd232 (s_iload dX5_leastParents_80 (s_iconst dX5_leastParents_82 (by decide) (s_imul dX5_leastParents_83 (s_iload dX5_leastParents_84 (s_iadd dX5_leastParents_86 (s_iald dX5_leastParents_87 (s_if_le (tgt := 95) dX5_leastParents_88 (by decide) tX5_leastParents_95 (s_iload dX5_leastParents_91 (s_istore dX5_leastParents_93 tX5_leastParents_95))))))))))))))
set_option maxRecDepth 100000 in
theorem tX5_leastParents_64 {l : Launch} {D : zD} {B sz0 : Nat} {post : Option Value → zS → Prop} : zSnd l D B xX5_leastParents sz0 post 64 kX5_leastParents_64 (z_Jl l D B xX5_leastParents sz0 post 24 (z_Jl l D B xX5_leastParents sz0 post 8 (z_Jr post))) := (s_iconst dX5_leastParents_64 (by decide) (s_goto (tgt := 69) dX5_leastParents_65 (by decide) tX5_leastParents_69))
set_option maxRecDepth 100000 in
theorem tX5_leastParents_24 {l : Launch} {D : zD} {B sz0 : Nat} {post : Option Value → zS → Prop} : zSnd l D B xX5_leastParents sz0 post 24 kX5_leastParents_24 (z_Jl l D B xX5_leastParents sz0 post 8 (z_Jr post)) := s_lp (body := bX5_leastParents_24) (s_iload dX5_leastParents_24 (s_aload_n dX5_leastParents_26 rfl (s_getI (f := 0) dX5_leastParents_27 clX5 (by decide) rfl wd237 (s_icmp_ge (tgt := 101) dX5_leastParents_30 (by decide) (s_dn tX5_leastParents_101) (s_iload dX5_leastParents_33 (s_iconst dX5_leastParents_35 (by decide) (s_icmp_ne (tgt := 101) dX5_leastParents_36 (by decide) (s_dn tX5_leastParents_101) (s_iload dX5_leastParents_39 (s_if_eq (tgt := 64) dX5_leastParents_41 (by decide) tX5_leastParents_64 (s_aload_n dX5_leastParents_44 rfl (s_iload dX5_leastParents_45 (s_iload dX5_leastParents_47 (s_callV (r := (RX5, TX5, 7)) dX5_leastParents_49 mX5_childOf meX5_childOf wd242 wd243 rfl rfl reX5_childOf rmX5_leastParents (fitX5_leastParents_49) wd244 (s_aload_n dX5_leastParents_52 rfl (s_iload_n dX5_leastParents_53 rfl (s_iload dX5_leastParents_54 (s_iconst dX5_leastParents_56 (by decide) (s_isub dX5_leastParents_57 (s_callV (r := (RX1, TX1, 5)) dX5_leastParents_58 mX1_colourAt meX1_colourAt wd75 wd76 rfl rfl reX1_colourAt rmX5_leastParents (fitX5_leastParents_58) wd266 (s_icmp_ne (tgt := 68) dX5_leastParents_61 (by decide) (s_iconst dX5_leastParents_68 (by decide) tX5_leastParents_69) tX5_leastParents_64))))))))))))))))))))
set_option maxRecDepth 100000 in
theorem tX5_leastParents_8 {l : Launch} {D : zD} {B sz0 : Nat} {post : Option Value → zS → Prop} : zSnd l D B xX5_leastParents sz0 post 8 kX5_leastParents_8 (z_Jr post) := s_lp (body := bX5_leastParents_8) (s_iload dX5_leastParents_8 (s_aload_n dX5_leastParents_10 rfl (s_iload_n dX5_leastParents_11 rfl (s_callV (r := (RX1, TX1, 5)) dX5_leastParents_12 mX1_lengthOf meX1_lengthOf wd65 wd66 rfl rfl reX1_lengthOf rmX5_leastParents (fitX5_leastParents_12) wd265 (s_icmp_gt (tgt := 121) dX5_leastParents_15 (by decide) (s_dn tX5_leastParents_121) (s_iconst dX5_leastParents_18 (by decide) (s_istore dX5_leastParents_19 (s_iconst dX5_leastParents_21 (by decide) (s_istore dX5_leastParents_22 tX5_leastParents_24)))))))))
set_option maxRecDepth 100000 in
theorem tX5_leastParents_0 {l : Launch} {D : zD} {B sz0 : Nat} {post : Option Value → zS → Prop} : zSnd l D B xX5_leastParents sz0 post 0 kX5_leastParents_0 (z_Jr post) := (s_iconst dX5_leastParents_0 (by decide) (s_istore_n dX5_leastParents_1 rfl (s_iconst dX5_leastParents_2 (by decide) (s_istore dX5_leastParents_3 (s_iconst dX5_leastParents_5 (by decide) (s_istore dX5_leastParents_6 tX5_leastParents_8))))))
noncomputable def fX5_leastParents : zF := z_fn 9 kX5_leastParents_0
theorem mX5_leastParents {l : Launch} {D : zD} {B : Nat} : z_MF l D B yX5_leastParents xX5_leastParents fX5_leastParents := z_mf (by decide) rfl (fun h => by cases h) rfl (fun as σ r h => ⟨z_fn_len h, kX5_leastParents_0, z_fn_run h, fun _ => tX5_leastParents_0⟩)
/-! ===== RowChildren$Table.rightParents ===== -/
theorem dX5_rightParents_0 : decode cX5_rightParents 0 = .ok (.iconst 0, 1) := by decide +kernel
theorem dX5_rightParents_1 : decode cX5_rightParents 1 = .ok (.istore_n 3, 1) := by decide +kernel
theorem dX5_rightParents_2 : decode cX5_rightParents 2 = .ok (.iconst 0, 1) := by decide +kernel
theorem dX5_rightParents_3 : decode cX5_rightParents 3 = .ok (.istore 4, 2) := by decide +kernel
theorem dX5_rightParents_5 : decode cX5_rightParents 5 = .ok (.iload 4, 2) := by decide +kernel
theorem dX5_rightParents_7 : decode cX5_rightParents 7 = .ok (.aload_n 0, 1) := by decide +kernel
theorem dX5_rightParents_8 : decode cX5_rightParents 8 = .ok (.getfield 24, 3) := by decide +kernel
theorem dX5_rightParents_11 : decode cX5_rightParents 11 = .ok (.if_icmp .ge 55, 3) := by decide +kernel
theorem dX5_rightParents_14 : decode cX5_rightParents 14 = .ok (.iconst 0, 1) := by decide +kernel
theorem dX5_rightParents_15 : decode cX5_rightParents 15 = .ok (.istore 5, 2) := by decide +kernel
theorem dX5_rightParents_17 : decode cX5_rightParents 17 = .ok (.iload 5, 2) := by decide +kernel
theorem dX5_rightParents_19 : decode cX5_rightParents 19 = .ok (.aload_n 0, 1) := by decide +kernel
theorem dX5_rightParents_20 : decode cX5_rightParents 20 = .ok (.getfield 24, 3) := by decide +kernel
theorem dX5_rightParents_23 : decode cX5_rightParents 23 = .ok (.if_icmp .ge 37, 3) := by decide +kernel
theorem dX5_rightParents_26 : decode cX5_rightParents 26 = .ok (.iload_n 1, 1) := by decide +kernel
theorem dX5_rightParents_27 : decode cX5_rightParents 27 = .ok (.iload 4, 2) := by decide +kernel
theorem dX5_rightParents_29 : decode cX5_rightParents 29 = .ok (.invokestatic 42, 3) := by decide +kernel
theorem dX5_rightParents_32 : decode cX5_rightParents 32 = .ok (.ifCond .eq 22, 3) := by decide +kernel
theorem dX5_rightParents_35 : decode cX5_rightParents 35 = .ok (.aload_n 0, 1) := by decide +kernel
theorem dX5_rightParents_36 : decode cX5_rightParents 36 = .ok (.iload 4, 2) := by decide +kernel
theorem dX5_rightParents_38 : decode cX5_rightParents 38 = .ok (.iload 5, 2) := by decide +kernel
theorem dX5_rightParents_40 : decode cX5_rightParents 40 = .ok (.invokevirtual 28, 3) := by decide +kernel
theorem dX5_rightParents_43 : decode cX5_rightParents 43 = .ok (.iload_n 2, 1) := by decide +kernel
theorem dX5_rightParents_44 : decode cX5_rightParents 44 = .ok (.if_icmp .ne 10, 3) := by decide +kernel
theorem dX5_rightParents_47 : decode cX5_rightParents 47 = .ok (.iload_n 3, 1) := by decide +kernel
theorem dX5_rightParents_48 : decode cX5_rightParents 48 = .ok (.iconst 1, 1) := by decide +kernel
theorem dX5_rightParents_49 : decode cX5_rightParents 49 = .ok (.iload 5, 2) := by decide +kernel
theorem dX5_rightParents_51 : decode cX5_rightParents 51 = .ok (.ishl, 1) := by decide +kernel
theorem dX5_rightParents_52 : decode cX5_rightParents 52 = .ok (.ior, 1) := by decide +kernel
theorem dX5_rightParents_53 : decode cX5_rightParents 53 = .ok (.istore_n 3, 1) := by decide +kernel
theorem dX5_rightParents_54 : decode cX5_rightParents 54 = .ok (.iinc 5 1, 3) := by decide +kernel
theorem dX5_rightParents_57 : decode cX5_rightParents 57 = .ok (.goto (-40), 3) := by decide +kernel
theorem dX5_rightParents_60 : decode cX5_rightParents 60 = .ok (.iinc 4 1, 3) := by decide +kernel
theorem dX5_rightParents_63 : decode cX5_rightParents 63 = .ok (.goto (-58), 3) := by decide +kernel
theorem dX5_rightParents_66 : decode cX5_rightParents 66 = .ok (.iload_n 3, 1) := by decide +kernel
theorem dX5_rightParents_67 : decode cX5_rightParents 67 = .ok (.ireturn, 1) := by decide +kernel
def xX5_rightParents : zX := (RX5, cX5_rightParents, 6, (some .int), false, { frames := 2, cells := 0, slots := 0, locals := 112 }, 0, 0, 0, 0)
theorem rmX5_rightParents : z_Rm xX5_rightParents := by unfold z_Rm xX5_rightParents; exact ⟨by decide, by decide⟩
theorem reX5_rightParents : z_Re xX5_rightParents := ⟨rfl, rfl⟩
theorem rlX5_rightParents : 1 ≤ xX5_rightParents.2.2.2.2.2.1.frames ∧ 21 ≤ xX5_rightParents.2.2.2.2.2.1.locals := by unfold xX5_rightParents; exact ⟨by decide, by decide⟩
theorem meX5_rightParents : z_Me yX5_rightParents xX5_rightParents 2 := ⟨wd269, wd236, by decide, by decide, by decide +kernel⟩
theorem fitX5_rightParents_29 : z_Fit xX5_hasColour xX5_rightParents := by unfold z_Fit; simp only [xX5_hasColour, xX5_rightParents]; exact ⟨by decide, by decide⟩
theorem fitX5_rightParents_40 : z_Fit xX5_childOf xX5_rightParents := by unfold z_Fit; simp only [xX5_childOf, xX5_rightParents]; exact ⟨by decide, by decide⟩
noncomputable def kX5_rightParents_66 : zK zR := (q_iload 3 q_iret)
noncomputable def kX5_rightParents_60 : zK ((zL × zS) ⊕ zR) := (q_iinc 4 1 q_ag)
noncomputable def kX5_rightParents_54 : zK ((zL × zS) ⊕ ((zL × zS) ⊕ zR)) := (q_iinc 5 1 q_ag)
noncomputable def bX5_rightParents_17 : zK ((zL × zS) ⊕ ((zL × zS) ⊕ zR)) := (q_iload 5 (q_aload 0 (q_getI 5 0 (q_icmp_ge (q_dn kX5_rightParents_60) (q_iload 1 (q_iload 4 (q_callS fX5_hasColour 2 (q_if_eq kX5_rightParents_54 (q_aload 0 (q_iload 4 (q_iload 5 (q_callV 5 fX5_childOf 2 (q_iload 2 (q_icmp_ne kX5_rightParents_54 (q_iload 3 (q_push 1 (q_iload 5 (q_ishl (q_ior (q_istore 3 kX5_rightParents_54))))))))))))))))))))
noncomputable def kX5_rightParents_17 : zK ((zL × zS) ⊕ zR) := q_lp (bX5_rightParents_17)
noncomputable def bX5_rightParents_5 : zK ((zL × zS) ⊕ zR) := (q_iload 4 (q_aload 0 (q_getI 5 0 (q_icmp_ge (q_dn kX5_rightParents_66) (q_push 0 (q_istore 5 kX5_rightParents_17))))))
noncomputable def kX5_rightParents_5 : zK zR := q_lp (bX5_rightParents_5)
noncomputable def kX5_rightParents_0 : zK zR := (q_push 0 (q_istore 3 (q_push 0 (q_istore 4 kX5_rightParents_5))))
set_option maxRecDepth 100000 in
theorem tX5_rightParents_66 {l : Launch} {D : zD} {B sz0 : Nat} {post : Option Value → zS → Prop} : zSnd l D B xX5_rightParents sz0 post 66 kX5_rightParents_66 (z_Jr post) := (s_iload_n dX5_rightParents_66 rfl (s_iret dX5_rightParents_67 rfl))
set_option maxRecDepth 100000 in
theorem tX5_rightParents_60 {l : Launch} {D : zD} {B sz0 : Nat} {post : Option Value → zS → Prop} : zSnd l D B xX5_rightParents sz0 post 60 kX5_rightParents_60 (z_Jl l D B xX5_rightParents sz0 post 5 (z_Jr post)) := (s_iinc dX5_rightParents_60 (by decide) (s_goto (tgt := 5) dX5_rightParents_63 (by decide) s_ag))
set_option maxRecDepth 100000 in
theorem tX5_rightParents_54 {l : Launch} {D : zD} {B sz0 : Nat} {post : Option Value → zS → Prop} : zSnd l D B xX5_rightParents sz0 post 54 kX5_rightParents_54 (z_Jl l D B xX5_rightParents sz0 post 17 (z_Jl l D B xX5_rightParents sz0 post 5 (z_Jr post))) := (s_iinc dX5_rightParents_54 (by decide) (s_goto (tgt := 17) dX5_rightParents_57 (by decide) s_ag))
set_option maxRecDepth 100000 in
theorem tX5_rightParents_17 {l : Launch} {D : zD} {B sz0 : Nat} {post : Option Value → zS → Prop} : zSnd l D B xX5_rightParents sz0 post 17 kX5_rightParents_17 (z_Jl l D B xX5_rightParents sz0 post 5 (z_Jr post)) := s_lp (body := bX5_rightParents_17) (s_iload dX5_rightParents_17 (s_aload_n dX5_rightParents_19 rfl (s_getI (f := 0) dX5_rightParents_20 clX5 (by decide) rfl wd237 (s_icmp_ge (tgt := 60) dX5_rightParents_23 (by decide) (s_dn tX5_rightParents_60) (s_iload_n dX5_rightParents_26 rfl (s_iload dX5_rightParents_27 (s_callS dX5_rightParents_29 mX5_hasColour meX5_hasColour wd262 rfl reX5_hasColour rmX5_rightParents (fitX5_rightParents_29) wd263 (s_if_eq (tgt := 54) dX5_rightParents_32 (by decide) tX5_rightParents_54 (s_aload_n dX5_rightParents_35 rfl (s_iload dX5_rightParents_36 (s_iload dX5_rightParents_38 (s_callV (r := (RX5, TX5, 7)) dX5_rightParents_40 mX5_childOf meX5_childOf wd242 wd243 rfl rfl reX5_childOf rmX5_rightParents (fitX5_rightParents_40) wd244 (s_iload_n dX5_rightParents_43 rfl (s_icmp_ne (tgt := 54) dX5_rightParents_44 (by decide) tX5_rightParents_54 (s_iload_n dX5_rightParents_47 rfl (s_iconst dX5_rightParents_48 (by decide) (s_iload dX5_rightParents_49 (s_ishl dX5_rightParents_51 (s_ior dX5_rightParents_52 (s_istore_n dX5_rightParents_53 rfl tX5_rightParents_54))))))))))))))))))))
set_option maxRecDepth 100000 in
theorem tX5_rightParents_5 {l : Launch} {D : zD} {B sz0 : Nat} {post : Option Value → zS → Prop} : zSnd l D B xX5_rightParents sz0 post 5 kX5_rightParents_5 (z_Jr post) := s_lp (body := bX5_rightParents_5) (s_iload dX5_rightParents_5 (s_aload_n dX5_rightParents_7 rfl (s_getI (f := 0) dX5_rightParents_8 clX5 (by decide) rfl wd237 (s_icmp_ge (tgt := 66) dX5_rightParents_11 (by decide) (s_dn tX5_rightParents_66) (s_iconst dX5_rightParents_14 (by decide) (s_istore dX5_rightParents_15 tX5_rightParents_17))))))
set_option maxRecDepth 100000 in
theorem tX5_rightParents_0 {l : Launch} {D : zD} {B sz0 : Nat} {post : Option Value → zS → Prop} : zSnd l D B xX5_rightParents sz0 post 0 kX5_rightParents_0 (z_Jr post) := (s_iconst dX5_rightParents_0 (by decide) (s_istore_n dX5_rightParents_1 rfl (s_iconst dX5_rightParents_2 (by decide) (s_istore dX5_rightParents_3 tX5_rightParents_5))))
noncomputable def fX5_rightParents : zF := z_fn 6 kX5_rightParents_0
theorem mX5_rightParents {l : Launch} {D : zD} {B : Nat} : z_MF l D B yX5_rightParents xX5_rightParents fX5_rightParents := z_mf (by decide) rfl (fun h => by cases h) rfl (fun as σ r h => ⟨z_fn_len h, kX5_rightParents_0, z_fn_run h, fun _ => tX5_rightParents_0⟩)
/-! ===== RowChildren$Table.countOrphans ===== -/
theorem dX5_countOrphans_0 : decode cX5_countOrphans 0 = .ok (.iconst 1, 1) := by decide +kernel
theorem dX5_countOrphans_1 : decode cX5_countOrphans 1 = .ok (.aload_n 0, 1) := by decide +kernel
theorem dX5_countOrphans_2 : decode cX5_countOrphans 2 = .ok (.getfield 24, 3) := by decide +kernel
theorem dX5_countOrphans_5 : decode cX5_countOrphans 5 = .ok (.ishl, 1) := by decide +kernel
theorem dX5_countOrphans_6 : decode cX5_countOrphans 6 = .ok (.istore_n 2, 1) := by decide +kernel
theorem dX5_countOrphans_7 : decode cX5_countOrphans 7 = .ok (.iconst 0, 1) := by decide +kernel
theorem dX5_countOrphans_8 : decode cX5_countOrphans 8 = .ok (.istore_n 3, 1) := by decide +kernel
theorem dX5_countOrphans_9 : decode cX5_countOrphans 9 = .ok (.iload_n 3, 1) := by decide +kernel
theorem dX5_countOrphans_10 : decode cX5_countOrphans 10 = .ok (.iload_n 2, 1) := by decide +kernel
theorem dX5_countOrphans_11 : decode cX5_countOrphans 11 = .ok (.if_icmp .ge 27, 3) := by decide +kernel
theorem dX5_countOrphans_14 : decode cX5_countOrphans 14 = .ok (.aload_n 0, 1) := by decide +kernel
theorem dX5_countOrphans_15 : decode cX5_countOrphans 15 = .ok (.getfield 18, 3) := by decide +kernel
theorem dX5_countOrphans_18 : decode cX5_countOrphans 18 = .ok (.iload_n 3, 1) := by decide +kernel
theorem dX5_countOrphans_19 : decode cX5_countOrphans 19 = .ok (.iload_n 3, 1) := by decide +kernel
theorem dX5_countOrphans_20 : decode cX5_countOrphans 20 = .ok (.iload_n 2, 1) := by decide +kernel
theorem dX5_countOrphans_21 : decode cX5_countOrphans 21 = .ok (.iconst 1, 1) := by decide +kernel
theorem dX5_countOrphans_22 : decode cX5_countOrphans 22 = .ok (.isub, 1) := by decide +kernel
theorem dX5_countOrphans_23 : decode cX5_countOrphans 23 = .ok (.if_icmp .ne 7, 3) := by decide +kernel
theorem dX5_countOrphans_26 : decode cX5_countOrphans 26 = .ok (.iconst 1, 1) := by decide +kernel
theorem dX5_countOrphans_27 : decode cX5_countOrphans 27 = .ok (.goto 4, 3) := by decide +kernel
theorem dX5_countOrphans_30 : decode cX5_countOrphans 30 = .ok (.iconst 0, 1) := by decide +kernel
theorem dX5_countOrphans_31 : decode cX5_countOrphans 31 = .ok (.iastore, 1) := by decide +kernel
theorem dX5_countOrphans_32 : decode cX5_countOrphans 32 = .ok (.iinc 3 1, 3) := by decide +kernel
theorem dX5_countOrphans_35 : decode cX5_countOrphans 35 = .ok (.goto (-26), 3) := by decide +kernel
theorem dX5_countOrphans_38 : decode cX5_countOrphans 38 = .ok (.iconst 0, 1) := by decide +kernel
theorem dX5_countOrphans_39 : decode cX5_countOrphans 39 = .ok (.istore_n 3, 1) := by decide +kernel
theorem dX5_countOrphans_40 : decode cX5_countOrphans 40 = .ok (.iload_n 3, 1) := by decide +kernel
theorem dX5_countOrphans_41 : decode cX5_countOrphans 41 = .ok (.iload_n 1, 1) := by decide +kernel
theorem dX5_countOrphans_42 : decode cX5_countOrphans 42 = .ok (.if_icmp .ge 117, 3) := by decide +kernel
theorem dX5_countOrphans_45 : decode cX5_countOrphans 45 = .ok (.iconst 0, 1) := by decide +kernel
theorem dX5_countOrphans_46 : decode cX5_countOrphans 46 = .ok (.istore 4, 2) := by decide +kernel
theorem dX5_countOrphans_48 : decode cX5_countOrphans 48 = .ok (.iload 4, 2) := by decide +kernel
theorem dX5_countOrphans_50 : decode cX5_countOrphans 50 = .ok (.iload_n 2, 1) := by decide +kernel
theorem dX5_countOrphans_51 : decode cX5_countOrphans 51 = .ok (.if_icmp .ge 17, 3) := by decide +kernel
theorem dX5_countOrphans_54 : decode cX5_countOrphans 54 = .ok (.aload_n 0, 1) := by decide +kernel
theorem dX5_countOrphans_55 : decode cX5_countOrphans 55 = .ok (.getfield 21, 3) := by decide +kernel
theorem dX5_countOrphans_58 : decode cX5_countOrphans 58 = .ok (.iload 4, 2) := by decide +kernel
theorem dX5_countOrphans_60 : decode cX5_countOrphans 60 = .ok (.iconst 0, 1) := by decide +kernel
theorem dX5_countOrphans_61 : decode cX5_countOrphans 61 = .ok (.iastore, 1) := by decide +kernel
theorem dX5_countOrphans_62 : decode cX5_countOrphans 62 = .ok (.iinc 4 1, 3) := by decide +kernel
theorem dX5_countOrphans_65 : decode cX5_countOrphans 65 = .ok (.goto (-17), 3) := by decide +kernel
theorem dX5_countOrphans_68 : decode cX5_countOrphans 68 = .ok (.iconst 0, 1) := by decide +kernel
theorem dX5_countOrphans_69 : decode cX5_countOrphans 69 = .ok (.istore 4, 2) := by decide +kernel
theorem dX5_countOrphans_71 : decode cX5_countOrphans 71 = .ok (.iload 4, 2) := by decide +kernel
theorem dX5_countOrphans_73 : decode cX5_countOrphans 73 = .ok (.iload_n 2, 1) := by decide +kernel
theorem dX5_countOrphans_74 : decode cX5_countOrphans 74 = .ok (.if_icmp .ge 50, 3) := by decide +kernel
theorem dX5_countOrphans_77 : decode cX5_countOrphans 77 = .ok (.iconst 0, 1) := by decide +kernel
theorem dX5_countOrphans_78 : decode cX5_countOrphans 78 = .ok (.istore 5, 2) := by decide +kernel
theorem dX5_countOrphans_80 : decode cX5_countOrphans 80 = .ok (.iload 5, 2) := by decide +kernel
theorem dX5_countOrphans_82 : decode cX5_countOrphans 82 = .ok (.aload_n 0, 1) := by decide +kernel
theorem dX5_countOrphans_83 : decode cX5_countOrphans 83 = .ok (.getfield 24, 3) := by decide +kernel
theorem dX5_countOrphans_86 : decode cX5_countOrphans 86 = .ok (.if_icmp .ge 32, 3) := by decide +kernel
theorem dX5_countOrphans_89 : decode cX5_countOrphans 89 = .ok (.aload_n 0, 1) := by decide +kernel
theorem dX5_countOrphans_90 : decode cX5_countOrphans 90 = .ok (.getfield 21, 3) := by decide +kernel
theorem dX5_countOrphans_93 : decode cX5_countOrphans 93 = .ok (.aload_n 0, 1) := by decide +kernel
theorem dX5_countOrphans_94 : decode cX5_countOrphans 94 = .ok (.iload 4, 2) := by decide +kernel
theorem dX5_countOrphans_96 : decode cX5_countOrphans 96 = .ok (.iload 5, 2) := by decide +kernel
theorem dX5_countOrphans_98 : decode cX5_countOrphans 98 = .ok (.invokevirtual 54, 3) := by decide +kernel
theorem dX5_countOrphans_101 : decode cX5_countOrphans 101 = .ok (.dup2, 1) := by decide +kernel
theorem dX5_countOrphans_102 : decode cX5_countOrphans 102 = .ok (.iaload, 1) := by decide +kernel
theorem dX5_countOrphans_103 : decode cX5_countOrphans 103 = .ok (.aload_n 0, 1) := by decide +kernel
theorem dX5_countOrphans_104 : decode cX5_countOrphans 104 = .ok (.getfield 18, 3) := by decide +kernel
theorem dX5_countOrphans_107 : decode cX5_countOrphans 107 = .ok (.iload 4, 2) := by decide +kernel
theorem dX5_countOrphans_109 : decode cX5_countOrphans 109 = .ok (.iaload, 1) := by decide +kernel
theorem dX5_countOrphans_110 : decode cX5_countOrphans 110 = .ok (.iadd, 1) := by decide +kernel
theorem dX5_countOrphans_111 : decode cX5_countOrphans 111 = .ok (.iastore, 1) := by decide +kernel
theorem dX5_countOrphans_112 : decode cX5_countOrphans 112 = .ok (.iinc 5 1, 3) := by decide +kernel
theorem dX5_countOrphans_115 : decode cX5_countOrphans 115 = .ok (.goto (-35), 3) := by decide +kernel
theorem dX5_countOrphans_118 : decode cX5_countOrphans 118 = .ok (.iinc 4 1, 3) := by decide +kernel
theorem dX5_countOrphans_121 : decode cX5_countOrphans 121 = .ok (.goto (-50), 3) := by decide +kernel
theorem dX5_countOrphans_124 : decode cX5_countOrphans 124 = .ok (.iconst 0, 1) := by decide +kernel
theorem dX5_countOrphans_125 : decode cX5_countOrphans 125 = .ok (.istore 4, 2) := by decide +kernel
theorem dX5_countOrphans_127 : decode cX5_countOrphans 127 = .ok (.iload 4, 2) := by decide +kernel
theorem dX5_countOrphans_129 : decode cX5_countOrphans 129 = .ok (.iload_n 2, 1) := by decide +kernel
theorem dX5_countOrphans_130 : decode cX5_countOrphans 130 = .ok (.if_icmp .ge 23, 3) := by decide +kernel
theorem dX5_countOrphans_133 : decode cX5_countOrphans 133 = .ok (.aload_n 0, 1) := by decide +kernel
theorem dX5_countOrphans_134 : decode cX5_countOrphans 134 = .ok (.getfield 18, 3) := by decide +kernel
theorem dX5_countOrphans_137 : decode cX5_countOrphans 137 = .ok (.iload 4, 2) := by decide +kernel
theorem dX5_countOrphans_139 : decode cX5_countOrphans 139 = .ok (.aload_n 0, 1) := by decide +kernel
theorem dX5_countOrphans_140 : decode cX5_countOrphans 140 = .ok (.getfield 21, 3) := by decide +kernel
theorem dX5_countOrphans_143 : decode cX5_countOrphans 143 = .ok (.iload 4, 2) := by decide +kernel
theorem dX5_countOrphans_145 : decode cX5_countOrphans 145 = .ok (.iaload, 1) := by decide +kernel
theorem dX5_countOrphans_146 : decode cX5_countOrphans 146 = .ok (.iastore, 1) := by decide +kernel
theorem dX5_countOrphans_147 : decode cX5_countOrphans 147 = .ok (.iinc 4 1, 3) := by decide +kernel
theorem dX5_countOrphans_150 : decode cX5_countOrphans 150 = .ok (.goto (-23), 3) := by decide +kernel
theorem dX5_countOrphans_153 : decode cX5_countOrphans 153 = .ok (.iinc 3 1, 3) := by decide +kernel
theorem dX5_countOrphans_156 : decode cX5_countOrphans 156 = .ok (.goto (-116), 3) := by decide +kernel
theorem dX5_countOrphans_159 : decode cX5_countOrphans 159 = .ok (.aload_n 0, 1) := by decide +kernel
theorem dX5_countOrphans_160 : decode cX5_countOrphans 160 = .ok (.getfield 18, 3) := by decide +kernel
theorem dX5_countOrphans_163 : decode cX5_countOrphans 163 = .ok (.iconst 0, 1) := by decide +kernel
theorem dX5_countOrphans_164 : decode cX5_countOrphans 164 = .ok (.iaload, 1) := by decide +kernel
theorem dX5_countOrphans_165 : decode cX5_countOrphans 165 = .ok (.ireturn, 1) := by decide +kernel
def xX5_countOrphans : zX := (RX5, cX5_countOrphans, 6, (some .int), false, { frames := 3, cells := 0, slots := 0, locals := 137 }, 0, 0, 0, 0)
theorem rmX5_countOrphans : z_Rm xX5_countOrphans := by unfold z_Rm xX5_countOrphans; exact ⟨by decide, by decide⟩
theorem reX5_countOrphans : z_Re xX5_countOrphans := ⟨rfl, rfl⟩
theorem rlX5_countOrphans : 1 ≤ xX5_countOrphans.2.2.2.2.2.1.frames ∧ 21 ≤ xX5_countOrphans.2.2.2.2.2.1.locals := by unfold xX5_countOrphans; exact ⟨by decide, by decide⟩
theorem meX5_countOrphans : z_Me yX5_countOrphans xX5_countOrphans 1 := ⟨wd273, wd236, by decide, by decide, by decide +kernel⟩
theorem fitX5_countOrphans_98 : z_Fit xX5_rightParents xX5_countOrphans := by unfold z_Fit; simp only [xX5_rightParents, xX5_countOrphans]; exact ⟨by decide, by decide⟩
noncomputable def kX5_countOrphans_159 : zK zR := (q_aload 0 (q_getR 5 5 (q_push 0 (q_iald q_iret))))
noncomputable def kX5_countOrphans_153 : zK ((zL × zS) ⊕ zR) := (q_iinc 3 1 q_ag)
noncomputable def bX5_countOrphans_127 : zK ((zL × zS) ⊕ ((zL × zS) ⊕ zR)) := (q_iload 4 (q_iload 2 (q_icmp_ge (q_dn kX5_countOrphans_153) (q_aload 0 (q_getR 5 5 (q_iload 4 (q_aload 0 (q_getR 5 6 (q_iload 4 (q_iald (q_iast (q_iinc 4 1 q_ag))))))))))))
noncomputable def kX5_countOrphans_127 : zK ((zL × zS) ⊕ zR) := q_lp (bX5_countOrphans_127)
noncomputable def kX5_countOrphans_124 : zK ((zL × zS) ⊕ zR) := (q_push 0 (q_istore 4 kX5_countOrphans_127))
noncomputable def kX5_countOrphans_118 : zK ((zL × zS) ⊕ ((zL × zS) ⊕ zR)) := (q_iinc 4 1 q_ag)
noncomputable def bX5_countOrphans_80 : zK ((zL × zS) ⊕ ((zL × zS) ⊕ ((zL × zS) ⊕ zR))) := (q_iload 5 (q_aload 0 (q_getI 5 0 (q_icmp_ge (q_dn kX5_countOrphans_118) (q_aload 0 (q_getR 5 6 (q_aload 0 (q_iload 4 (q_iload 5 (q_callV 5 fX5_rightParents 2 (q_dup2 (q_iald (q_aload 0 (q_getR 5 5 (q_iload 4 (q_iald (q_iadd (q_iast (q_iinc 5 1 q_ag)))))))))))))))))))
noncomputable def kX5_countOrphans_80 : zK ((zL × zS) ⊕ ((zL × zS) ⊕ zR)) := q_lp (bX5_countOrphans_80)
noncomputable def bX5_countOrphans_71 : zK ((zL × zS) ⊕ ((zL × zS) ⊕ zR)) := (q_iload 4 (q_iload 2 (q_icmp_ge (q_dn kX5_countOrphans_124) (q_push 0 (q_istore 5 kX5_countOrphans_80)))))
noncomputable def kX5_countOrphans_71 : zK ((zL × zS) ⊕ zR) := q_lp (bX5_countOrphans_71)
noncomputable def kX5_countOrphans_68 : zK ((zL × zS) ⊕ zR) := (q_push 0 (q_istore 4 kX5_countOrphans_71))
noncomputable def bX5_countOrphans_48 : zK ((zL × zS) ⊕ ((zL × zS) ⊕ zR)) := (q_iload 4 (q_iload 2 (q_icmp_ge (q_dn kX5_countOrphans_68) (q_aload 0 (q_getR 5 6 (q_iload 4 (q_push 0 (q_iast (q_iinc 4 1 q_ag)))))))))
noncomputable def kX5_countOrphans_48 : zK ((zL × zS) ⊕ zR) := q_lp (bX5_countOrphans_48)
noncomputable def bX5_countOrphans_40 : zK ((zL × zS) ⊕ zR) := (q_iload 3 (q_iload 1 (q_icmp_ge (q_dn kX5_countOrphans_159) (q_push 0 (q_istore 4 kX5_countOrphans_48)))))
noncomputable def kX5_countOrphans_40 : zK zR := q_lp (bX5_countOrphans_40)
noncomputable def kX5_countOrphans_38 : zK zR := (q_push 0 (q_istore 3 kX5_countOrphans_40))
noncomputable def kX5_countOrphans_31 : zK ((zL × zS) ⊕ zR) := (q_iast (q_iinc 3 1 q_ag))
noncomputable def bX5_countOrphans_9 : zK ((zL × zS) ⊕ zR) := (q_iload 3 (q_iload 2 (q_icmp_ge (q_dn kX5_countOrphans_38) (q_aload 0 (q_getR 5 5 (q_iload 3 (q_iload 3 (q_iload 2 (q_push 1 (q_isub (q_icmp_ne (q_push 0 kX5_countOrphans_31) (q_push 1 kX5_countOrphans_31))))))))))))
noncomputable def kX5_countOrphans_9 : zK zR := q_lp (bX5_countOrphans_9)
noncomputable def kX5_countOrphans_0 : zK zR := (q_push 1 (q_aload 0 (q_getI 5 0 (q_ishl (q_istore 2 (q_push 0 (q_istore 3 kX5_countOrphans_9)))))))
set_option maxRecDepth 100000 in
theorem tX5_countOrphans_159 {l : Launch} {D : zD} {B sz0 : Nat} {post : Option Value → zS → Prop} : zSnd l D B xX5_countOrphans sz0 post 159 kX5_countOrphans_159 (z_Jr post) := (s_aload_n dX5_countOrphans_159 rfl (s_getR (f := 5) dX5_countOrphans_160 clX5 (by decide) rfl wd233 (s_iconst dX5_countOrphans_163 (by decide) (s_iald dX5_countOrphans_164 (s_iret dX5_countOrphans_165 rfl)))))
set_option maxRecDepth 100000 in
theorem tX5_countOrphans_153 {l : Launch} {D : zD} {B sz0 : Nat} {post : Option Value → zS → Prop} : zSnd l D B xX5_countOrphans sz0 post 153 kX5_countOrphans_153 (z_Jl l D B xX5_countOrphans sz0 post 40 (z_Jr post)) := (s_iinc dX5_countOrphans_153 (by decide) (s_goto (tgt := 40) dX5_countOrphans_156 (by decide) s_ag))
set_option maxRecDepth 100000 in
theorem tX5_countOrphans_127 {l : Launch} {D : zD} {B sz0 : Nat} {post : Option Value → zS → Prop} : zSnd l D B xX5_countOrphans sz0 post 127 kX5_countOrphans_127 (z_Jl l D B xX5_countOrphans sz0 post 40 (z_Jr post)) := s_lp (body := bX5_countOrphans_127) (s_iload dX5_countOrphans_127 (s_iload_n dX5_countOrphans_129 rfl (s_icmp_ge (tgt := 153) dX5_countOrphans_130 (by decide) (s_dn tX5_countOrphans_153) (s_aload_n dX5_countOrphans_133 rfl (s_getR (f := 5) dX5_countOrphans_134 clX5 (by decide) rfl wd233 (s_iload dX5_countOrphans_137 (s_aload_n dX5_countOrphans_139 rfl (s_getR (f := 6) dX5_countOrphans_140 clX5 (by decide) rfl wd234 (s_iload dX5_countOrphans_143 (s_iald dX5_countOrphans_145 (s_iast dX5_countOrphans_146 (s_iinc dX5_countOrphans_147 (by decide) (s_goto (tgt := 127) dX5_countOrphans_150 (by decide) s_ag)))))))))))))
set_option maxRecDepth 100000 in
theorem tX5_countOrphans_124 {l : Launch} {D : zD} {B sz0 : Nat} {post : Option Value → zS → Prop} : zSnd l D B xX5_countOrphans sz0 post 124 kX5_countOrphans_124 (z_Jl l D B xX5_countOrphans sz0 post 40 (z_Jr post)) := (s_iconst dX5_countOrphans_124 (by decide) (s_istore dX5_countOrphans_125 tX5_countOrphans_127))
set_option maxRecDepth 100000 in
theorem tX5_countOrphans_118 {l : Launch} {D : zD} {B sz0 : Nat} {post : Option Value → zS → Prop} : zSnd l D B xX5_countOrphans sz0 post 118 kX5_countOrphans_118 (z_Jl l D B xX5_countOrphans sz0 post 71 (z_Jl l D B xX5_countOrphans sz0 post 40 (z_Jr post))) := (s_iinc dX5_countOrphans_118 (by decide) (s_goto (tgt := 71) dX5_countOrphans_121 (by decide) s_ag))
set_option maxRecDepth 100000 in
theorem tX5_countOrphans_80 {l : Launch} {D : zD} {B sz0 : Nat} {post : Option Value → zS → Prop} : zSnd l D B xX5_countOrphans sz0 post 80 kX5_countOrphans_80 (z_Jl l D B xX5_countOrphans sz0 post 71 (z_Jl l D B xX5_countOrphans sz0 post 40 (z_Jr post))) := s_lp (body := bX5_countOrphans_80) (s_iload dX5_countOrphans_80 (s_aload_n dX5_countOrphans_82 rfl (s_getI (f := 0) dX5_countOrphans_83 clX5 (by decide) rfl wd237 (s_icmp_ge (tgt := 118) dX5_countOrphans_86 (by decide) (s_dn tX5_countOrphans_118) (s_aload_n dX5_countOrphans_89 rfl (s_getR (f := 6) dX5_countOrphans_90 clX5 (by decide) rfl wd234 (s_aload_n dX5_countOrphans_93 rfl (s_iload dX5_countOrphans_94 (s_iload dX5_countOrphans_96 (s_callV (r := (RX5, TX5, 7)) dX5_countOrphans_98 mX5_rightParents meX5_rightParents wd270 wd271 rfl rfl reX5_rightParents rmX5_countOrphans (fitX5_countOrphans_98) wd272 (s_dup2 dX5_countOrphans_101 (s_iald dX5_countOrphans_102 (s_aload_n dX5_countOrphans_103 rfl (s_getR (f := 5) dX5_countOrphans_104 clX5 (by decide) rfl wd233 (s_iload dX5_countOrphans_107 (s_iald dX5_countOrphans_109 (s_iadd dX5_countOrphans_110 (s_iast dX5_countOrphans_111 (s_iinc dX5_countOrphans_112 (by decide) (s_goto (tgt := 80) dX5_countOrphans_115 (by decide) s_ag))))))))))))))))))))
set_option maxRecDepth 100000 in
theorem tX5_countOrphans_71 {l : Launch} {D : zD} {B sz0 : Nat} {post : Option Value → zS → Prop} : zSnd l D B xX5_countOrphans sz0 post 71 kX5_countOrphans_71 (z_Jl l D B xX5_countOrphans sz0 post 40 (z_Jr post)) := s_lp (body := bX5_countOrphans_71) (s_iload dX5_countOrphans_71 (s_iload_n dX5_countOrphans_73 rfl (s_icmp_ge (tgt := 124) dX5_countOrphans_74 (by decide) (s_dn tX5_countOrphans_124) (s_iconst dX5_countOrphans_77 (by decide) (s_istore dX5_countOrphans_78 tX5_countOrphans_80)))))
set_option maxRecDepth 100000 in
theorem tX5_countOrphans_68 {l : Launch} {D : zD} {B sz0 : Nat} {post : Option Value → zS → Prop} : zSnd l D B xX5_countOrphans sz0 post 68 kX5_countOrphans_68 (z_Jl l D B xX5_countOrphans sz0 post 40 (z_Jr post)) := (s_iconst dX5_countOrphans_68 (by decide) (s_istore dX5_countOrphans_69 tX5_countOrphans_71))
set_option maxRecDepth 100000 in
theorem tX5_countOrphans_48 {l : Launch} {D : zD} {B sz0 : Nat} {post : Option Value → zS → Prop} : zSnd l D B xX5_countOrphans sz0 post 48 kX5_countOrphans_48 (z_Jl l D B xX5_countOrphans sz0 post 40 (z_Jr post)) := s_lp (body := bX5_countOrphans_48) (s_iload dX5_countOrphans_48 (s_iload_n dX5_countOrphans_50 rfl (s_icmp_ge (tgt := 68) dX5_countOrphans_51 (by decide) (s_dn tX5_countOrphans_68) (s_aload_n dX5_countOrphans_54 rfl (s_getR (f := 6) dX5_countOrphans_55 clX5 (by decide) rfl wd234 (s_iload dX5_countOrphans_58 (s_iconst dX5_countOrphans_60 (by decide) (s_iast dX5_countOrphans_61 (s_iinc dX5_countOrphans_62 (by decide) (s_goto (tgt := 48) dX5_countOrphans_65 (by decide) s_ag))))))))))
set_option maxRecDepth 100000 in
theorem tX5_countOrphans_40 {l : Launch} {D : zD} {B sz0 : Nat} {post : Option Value → zS → Prop} : zSnd l D B xX5_countOrphans sz0 post 40 kX5_countOrphans_40 (z_Jr post) := s_lp (body := bX5_countOrphans_40) (s_iload_n dX5_countOrphans_40 rfl (s_iload_n dX5_countOrphans_41 rfl (s_icmp_ge (tgt := 159) dX5_countOrphans_42 (by decide) (s_dn tX5_countOrphans_159) (s_iconst dX5_countOrphans_45 (by decide) (s_istore dX5_countOrphans_46 tX5_countOrphans_48)))))
set_option maxRecDepth 100000 in
theorem tX5_countOrphans_38 {l : Launch} {D : zD} {B sz0 : Nat} {post : Option Value → zS → Prop} : zSnd l D B xX5_countOrphans sz0 post 38 kX5_countOrphans_38 (z_Jr post) := (s_iconst dX5_countOrphans_38 (by decide) (s_istore_n dX5_countOrphans_39 rfl tX5_countOrphans_40))
set_option maxRecDepth 100000 in
theorem tX5_countOrphans_31 {l : Launch} {D : zD} {B sz0 : Nat} {post : Option Value → zS → Prop} : zSnd l D B xX5_countOrphans sz0 post 31 kX5_countOrphans_31 (z_Jl l D B xX5_countOrphans sz0 post 9 (z_Jr post)) := (s_iast dX5_countOrphans_31 (s_iinc dX5_countOrphans_32 (by decide) (s_goto (tgt := 9) dX5_countOrphans_35 (by decide) s_ag)))
set_option maxRecDepth 100000 in
theorem tX5_countOrphans_9 {l : Launch} {D : zD} {B sz0 : Nat} {post : Option Value → zS → Prop} : zSnd l D B xX5_countOrphans sz0 post 9 kX5_countOrphans_9 (z_Jr post) := s_lp (body := bX5_countOrphans_9) (s_iload_n dX5_countOrphans_9 rfl (s_iload_n dX5_countOrphans_10 rfl (s_icmp_ge (tgt := 38) dX5_countOrphans_11 (by decide) (s_dn tX5_countOrphans_38) (s_aload_n dX5_countOrphans_14 rfl (s_getR (f := 5) dX5_countOrphans_15 clX5 (by decide) rfl wd233 (s_iload_n dX5_countOrphans_18 rfl (s_iload_n dX5_countOrphans_19 rfl (s_iload_n dX5_countOrphans_20 rfl (s_iconst dX5_countOrphans_21 (by decide) (s_isub dX5_countOrphans_22 (s_icmp_ne (tgt := 30) dX5_countOrphans_23 (by decide) (s_iconst dX5_countOrphans_30 (by decide) tX5_countOrphans_31) (s_iconst dX5_countOrphans_26 (by decide) (s_goto (tgt := 31) dX5_countOrphans_27 (by decide) tX5_countOrphans_31)))))))))))))
set_option maxRecDepth 100000 in
theorem tX5_countOrphans_0 {l : Launch} {D : zD} {B sz0 : Nat} {post : Option Value → zS → Prop} : zSnd l D B xX5_countOrphans sz0 post 0 kX5_countOrphans_0 (z_Jr post) := (s_iconst dX5_countOrphans_0 (by decide) (s_aload_n dX5_countOrphans_1 rfl (s_getI (f := 0) dX5_countOrphans_2 clX5 (by decide) rfl wd237 (s_ishl dX5_countOrphans_5 (s_istore_n dX5_countOrphans_6 rfl (s_iconst dX5_countOrphans_7 (by decide) (s_istore_n dX5_countOrphans_8 rfl tX5_countOrphans_9)))))))
noncomputable def fX5_countOrphans : zF := z_fn 6 kX5_countOrphans_0
theorem mX5_countOrphans {l : Launch} {D : zD} {B : Nat} : z_MF l D B yX5_countOrphans xX5_countOrphans fX5_countOrphans := z_mf (by decide) rfl (fun h => by cases h) rfl (fun as σ r h => ⟨z_fn_len h, kX5_countOrphans_0, z_fn_run h, fun _ => tX5_countOrphans_0⟩)
