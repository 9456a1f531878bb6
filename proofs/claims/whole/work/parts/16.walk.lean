/-! ===== RowChildren.unpacked ===== -/
theorem dX11_unpacked_0 : decode cX11_unpacked 0 = .ok (.iload_n 0, 1) := by decide +kernel
theorem dX11_unpacked_1 : decode cX11_unpacked 1 = .ok (.iconst 2, 1) := by decide +kernel
theorem dX11_unpacked_2 : decode cX11_unpacked 2 = .ok (.iload_n 1, 1) := by decide +kernel
theorem dX11_unpacked_3 : decode cX11_unpacked 3 = .ok (.iconst 1, 1) := by decide +kernel
theorem dX11_unpacked_4 : decode cX11_unpacked 4 = .ok (.isub, 1) := by decide +kernel
theorem dX11_unpacked_5 : decode cX11_unpacked 5 = .ok (.iload_n 2, 1) := by decide +kernel
theorem dX11_unpacked_6 : decode cX11_unpacked 6 = .ok (.isub, 1) := by decide +kernel
theorem dX11_unpacked_7 : decode cX11_unpacked 7 = .ok (.imul, 1) := by decide +kernel
theorem dX11_unpacked_8 : decode cX11_unpacked 8 = .ok (.iushr, 1) := by decide +kernel
theorem dX11_unpacked_9 : decode cX11_unpacked 9 = .ok (.iconst 3, 1) := by decide +kernel
theorem dX11_unpacked_10 : decode cX11_unpacked 10 = .ok (.iand, 1) := by decide +kernel
theorem dX11_unpacked_11 : decode cX11_unpacked 11 = .ok (.ireturn, 1) := by decide +kernel
def xX11_unpacked : zX := (RX11, cX11_unpacked, 3, (some .int), false, { frames := 1, cells := 0, slots := 0, locals := 90 }, 0, 0, 0, 0)
theorem rmX11_unpacked : z_Rm xX11_unpacked := by unfold z_Rm xX11_unpacked; exact ⟨by decide, by decide⟩
theorem reX11_unpacked : z_Re xX11_unpacked := ⟨rfl, rfl⟩
theorem rlX11_unpacked : 1 ≤ xX11_unpacked.2.2.2.2.2.1.frames ∧ 21 ≤ xX11_unpacked.2.2.2.2.2.1.locals := by unfold xX11_unpacked; exact ⟨by decide, by decide⟩
theorem meX11_unpacked : z_Me yX11_unpacked xX11_unpacked 3 := ⟨wd274, wd275, by decide, by decide, by decide +kernel⟩
noncomputable def kX11_unpacked_0 : zK zR := (q_iload 0 (q_push 2 (q_iload 1 (q_push 1 (q_isub (q_iload 2 (q_isub (q_imul (q_iushr (q_push 3 (q_iand q_iret)))))))))))
set_option maxRecDepth 100000 in
theorem tX11_unpacked_0 {l : Launch} {D : zD} {B sz0 : Nat} {post : Option Value → zS → Prop} : zSnd l D B xX11_unpacked sz0 post 0 kX11_unpacked_0 (z_Jr post) := (s_iload_n dX11_unpacked_0 rfl (s_iconst dX11_unpacked_1 (by decide) (s_iload_n dX11_unpacked_2 rfl (s_iconst dX11_unpacked_3 (by decide) (s_isub dX11_unpacked_4 (s_iload_n dX11_unpacked_5 rfl (s_isub dX11_unpacked_6 (s_imul dX11_unpacked_7 (s_iushr dX11_unpacked_8 (s_iconst dX11_unpacked_9 (by decide) (s_iand dX11_unpacked_10 (s_iret dX11_unpacked_11 rfl))))))))))))
noncomputable def fX11_unpacked : zF := z_fn 3 kX11_unpacked_0
theorem mX11_unpacked {l : Launch} {D : zD} {B : Nat} : z_MF l D B yX11_unpacked xX11_unpacked fX11_unpacked := z_mf (by decide) rfl (fun h => by cases h) rfl (fun as σ r h => ⟨z_fn_len h, kX11_unpacked_0, z_fn_run h, fun _ => tX11_unpacked_0⟩)
/-! ===== RowChildren$Table.ringStep ===== -/
theorem dX5_ringStep_0 : decode cX5_ringStep 0 = .ok (.iconst 0, 1) := by decide +kernel
theorem dX5_ringStep_1 : decode cX5_ringStep 1 = .ok (.istore_n 3, 1) := by decide +kernel
theorem dX5_ringStep_2 : decode cX5_ringStep 2 = .ok (.iconst 0, 1) := by decide +kernel
theorem dX5_ringStep_3 : decode cX5_ringStep 3 = .ok (.istore 4, 2) := by decide +kernel
theorem dX5_ringStep_5 : decode cX5_ringStep 5 = .ok (.iload 4, 2) := by decide +kernel
theorem dX5_ringStep_7 : decode cX5_ringStep 7 = .ok (.iload_n 2, 1) := by decide +kernel
theorem dX5_ringStep_8 : decode cX5_ringStep 8 = .ok (.if_icmp .ge 50, 3) := by decide +kernel
theorem dX5_ringStep_11 : decode cX5_ringStep 11 = .ok (.iload 4, 2) := by decide +kernel
theorem dX5_ringStep_13 : decode cX5_ringStep 13 = .ok (.iconst 1, 1) := by decide +kernel
theorem dX5_ringStep_14 : decode cX5_ringStep 14 = .ok (.iadd, 1) := by decide +kernel
theorem dX5_ringStep_15 : decode cX5_ringStep 15 = .ok (.iload_n 2, 1) := by decide +kernel
theorem dX5_ringStep_16 : decode cX5_ringStep 16 = .ok (.if_icmp .ge 10, 3) := by decide +kernel
theorem dX5_ringStep_19 : decode cX5_ringStep 19 = .ok (.iload 4, 2) := by decide +kernel
theorem dX5_ringStep_21 : decode cX5_ringStep 21 = .ok (.iconst 1, 1) := by decide +kernel
theorem dX5_ringStep_22 : decode cX5_ringStep 22 = .ok (.iadd, 1) := by decide +kernel
theorem dX5_ringStep_23 : decode cX5_ringStep 23 = .ok (.goto 4, 3) := by decide +kernel
theorem dX5_ringStep_26 : decode cX5_ringStep 26 = .ok (.iconst 0, 1) := by decide +kernel
theorem dX5_ringStep_27 : decode cX5_ringStep 27 = .ok (.istore 5, 2) := by decide +kernel
theorem dX5_ringStep_29 : decode cX5_ringStep 29 = .ok (.iload_n 3, 1) := by decide +kernel
theorem dX5_ringStep_30 : decode cX5_ringStep 30 = .ok (.iconst 4, 1) := by decide +kernel
theorem dX5_ringStep_31 : decode cX5_ringStep 31 = .ok (.imul, 1) := by decide +kernel
theorem dX5_ringStep_32 : decode cX5_ringStep 32 = .ok (.aload_n 0, 1) := by decide +kernel
theorem dX5_ringStep_33 : decode cX5_ringStep 33 = .ok (.iload_n 1, 1) := by decide +kernel
theorem dX5_ringStep_34 : decode cX5_ringStep 34 = .ok (.iload_n 2, 1) := by decide +kernel
theorem dX5_ringStep_35 : decode cX5_ringStep 35 = .ok (.iload 4, 2) := by decide +kernel
theorem dX5_ringStep_37 : decode cX5_ringStep 37 = .ok (.invokestatic 57, 3) := by decide +kernel
theorem dX5_ringStep_40 : decode cX5_ringStep 40 = .ok (.iload_n 1, 1) := by decide +kernel
theorem dX5_ringStep_41 : decode cX5_ringStep 41 = .ok (.iload_n 2, 1) := by decide +kernel
theorem dX5_ringStep_42 : decode cX5_ringStep 42 = .ok (.iload 5, 2) := by decide +kernel
theorem dX5_ringStep_44 : decode cX5_ringStep 44 = .ok (.invokestatic 57, 3) := by decide +kernel
theorem dX5_ringStep_47 : decode cX5_ringStep 47 = .ok (.invokevirtual 28, 3) := by decide +kernel
theorem dX5_ringStep_50 : decode cX5_ringStep 50 = .ok (.iadd, 1) := by decide +kernel
theorem dX5_ringStep_51 : decode cX5_ringStep 51 = .ok (.istore_n 3, 1) := by decide +kernel
theorem dX5_ringStep_52 : decode cX5_ringStep 52 = .ok (.iinc 4 1, 3) := by decide +kernel
theorem dX5_ringStep_55 : decode cX5_ringStep 55 = .ok (.goto (-50), 3) := by decide +kernel
theorem dX5_ringStep_58 : decode cX5_ringStep 58 = .ok (.iload_n 3, 1) := by decide +kernel
theorem dX5_ringStep_59 : decode cX5_ringStep 59 = .ok (.ireturn, 1) := by decide +kernel
def xX5_ringStep : zX := (RX5, cX5_ringStep, 6, (some .int), false, { frames := 2, cells := 0, slots := 0, locals := 112 }, 0, 0, 0, 0)
theorem rmX5_ringStep : z_Rm xX5_ringStep := by unfold z_Rm xX5_ringStep; exact ⟨by decide, by decide⟩
theorem reX5_ringStep : z_Re xX5_ringStep := ⟨rfl, rfl⟩
theorem rlX5_ringStep : 1 ≤ xX5_ringStep.2.2.2.2.2.1.frames ∧ 21 ≤ xX5_ringStep.2.2.2.2.2.1.locals := by unfold xX5_ringStep; exact ⟨by decide, by decide⟩
theorem meX5_ringStep : z_Me yX5_ringStep xX5_ringStep 2 := ⟨wd277, wd236, by decide, by decide, by decide +kernel⟩
theorem fitX5_ringStep_37 : z_Fit xX11_unpacked xX5_ringStep := by unfold z_Fit; simp only [xX11_unpacked, xX5_ringStep]; exact ⟨by decide, by decide⟩
theorem fitX5_ringStep_44 : z_Fit xX11_unpacked xX5_ringStep := by unfold z_Fit; simp only [xX11_unpacked, xX5_ringStep]; exact ⟨by decide, by decide⟩
theorem fitX5_ringStep_47 : z_Fit xX5_childOf xX5_ringStep := by unfold z_Fit; simp only [xX5_childOf, xX5_ringStep]; exact ⟨by decide, by decide⟩
noncomputable def kX5_ringStep_58 : zK zR := (q_iload 3 q_iret)
noncomputable def kX5_ringStep_27 : zK ((zL × zS) ⊕ zR) := (q_istore 5 (q_iload 3 (q_push 4 (q_imul (q_aload 0 (q_iload 1 (q_iload 2 (q_iload 4 (q_callS fX11_unpacked 3 (q_iload 1 (q_iload 2 (q_iload 5 (q_callS fX11_unpacked 3 (q_callV 5 fX5_childOf 2 (q_iadd (q_istore 3 (q_iinc 4 1 q_ag)))))))))))))))))
noncomputable def bX5_ringStep_5 : zK ((zL × zS) ⊕ zR) := (q_iload 4 (q_iload 2 (q_icmp_ge (q_dn kX5_ringStep_58) (q_iload 4 (q_push 1 (q_iadd (q_iload 2 (q_icmp_ge (q_push 0 kX5_ringStep_27) (q_iload 4 (q_push 1 (q_iadd kX5_ringStep_27)))))))))))
noncomputable def kX5_ringStep_5 : zK zR := q_lp (bX5_ringStep_5)
noncomputable def kX5_ringStep_0 : zK zR := (q_push 0 (q_istore 3 (q_push 0 (q_istore 4 kX5_ringStep_5))))
set_option maxRecDepth 100000 in
theorem tX5_ringStep_58 {l : Launch} {D : zD} {B sz0 : Nat} {post : Option Value → zS → Prop} : zSnd l D B xX5_ringStep sz0 post 58 kX5_ringStep_58 (z_Jr post) := (s_iload_n dX5_ringStep_58 rfl (s_iret dX5_ringStep_59 rfl))
set_option maxRecDepth 100000 in
theorem tX5_ringStep_27 {l : Launch} {D : zD} {B sz0 : Nat} {post : Option Value → zS → Prop} : zSnd l D B xX5_ringStep sz0 post 27 kX5_ringStep_27 (z_Jl l D B xX5_ringStep sz0 post 5 (z_Jr post)) := (s_istore dX5_ringStep_27 (s_iload_n dX5_ringStep_29 rfl (s_iconst dX5_ringStep_30 (by decide) (s_imul dX5_ringStep_31 (s_aload_n dX5_ringStep_32 rfl (s_iload_n dX5_ringStep_33 rfl (s_iload_n dX5_ringStep_34 rfl (s_iload dX5_ringStep_35 (s_callSN (host := RX11) dX5_ringStep_37 mX11_unpacked meX11_unpacked wd276 rfl reX11_unpacked rmX5_ringStep (fitX5_ringStep_37) neX5_57 (s_iload_n dX5_ringStep_40 rfl (s_iload_n dX5_ringStep_41 rfl (s_iload dX5_ringStep_42 (s_callSN (host := RX11) dX5_ringStep_44 mX11_unpacked meX11_unpacked wd276 rfl reX11_unpacked rmX5_ringStep (fitX5_ringStep_44) neX5_57 (s_callV (r := (RX5, TX5, 7)) dX5_ringStep_47 mX5_childOf meX5_childOf wd242 wd243 rfl rfl reX5_childOf rmX5_ringStep (fitX5_ringStep_47) wd244 (s_iadd dX5_ringStep_50 (s_istore_n dX5_ringStep_51 rfl (s_iinc dX5_ringStep_52 (by decide) (s_goto (tgt := 5) dX5_ringStep_55 (by decide) s_ag))))))))))))))))))
set_option maxRecDepth 100000 in
theorem tX5_ringStep_5 {l : Launch} {D : zD} {B sz0 : Nat} {post : Option Value → zS → Prop} : zSnd l D B xX5_ringStep sz0 post 5 kX5_ringStep_5 (z_Jr post) := s_lp (body := bX5_ringStep_5) (s_iload dX5_ringStep_5 (s_iload_n dX5_ringStep_7 rfl (s_icmp_ge (tgt := 58) dX5_ringStep_8 (by decide) (s_dn tX5_ringStep_58) (s_iload dX5_ringStep_11 (s_iconst dX5_ringStep_13 (by decide) (s_iadd dX5_ringStep_14 (s_iload_n dX5_ringStep_15 rfl (s_icmp_ge (tgt := 26) dX5_ringStep_16 (by decide) (s_iconst dX5_ringStep_26 (by decide) tX5_ringStep_27) (s_iload dX5_ringStep_19 (s_iconst dX5_ringStep_21 (by decide) (s_iadd dX5_ringStep_22 (s_goto (tgt := 27) dX5_ringStep_23 (by decide) tX5_ringStep_27))))))))))))
set_option maxRecDepth 100000 in
theorem tX5_ringStep_0 {l : Launch} {D : zD} {B sz0 : Nat} {post : Option Value → zS → Prop} : zSnd l D B xX5_ringStep sz0 post 0 kX5_ringStep_0 (z_Jr post) := (s_iconst dX5_ringStep_0 (by decide) (s_istore_n dX5_ringStep_1 rfl (s_iconst dX5_ringStep_2 (by decide) (s_istore dX5_ringStep_3 tX5_ringStep_5))))
noncomputable def fX5_ringStep : zF := z_fn 6 kX5_ringStep_0
theorem mX5_ringStep {l : Launch} {D : zD} {B : Nat} : z_MF l D B yX5_ringStep xX5_ringStep fX5_ringStep := z_mf (by decide) rfl (fun h => by cases h) rfl (fun as σ r h => ⟨z_fn_len h, kX5_ringStep_0, z_fn_run h, fun _ => tX5_ringStep_0⟩)
/-! ===== RowChildren$Table.ringSteps ===== -/
theorem dX5_ringSteps_0 : decode cX5_ringSteps 0 = .ok (.iload_n 1, 1) := by decide +kernel
theorem dX5_ringSteps_1 : decode cX5_ringSteps 1 = .ok (.istore 4, 2) := by decide +kernel
theorem dX5_ringSteps_3 : decode cX5_ringSteps 3 = .ok (.iconst 0, 1) := by decide +kernel
theorem dX5_ringSteps_4 : decode cX5_ringSteps 4 = .ok (.istore 5, 2) := by decide +kernel
theorem dX5_ringSteps_6 : decode cX5_ringSteps 6 = .ok (.iload 5, 2) := by decide +kernel
theorem dX5_ringSteps_8 : decode cX5_ringSteps 8 = .ok (.iload_n 3, 1) := by decide +kernel
theorem dX5_ringSteps_9 : decode cX5_ringSteps 9 = .ok (.if_icmp .ge 18, 3) := by decide +kernel
theorem dX5_ringSteps_12 : decode cX5_ringSteps 12 = .ok (.aload_n 0, 1) := by decide +kernel
theorem dX5_ringSteps_13 : decode cX5_ringSteps 13 = .ok (.iload 4, 2) := by decide +kernel
theorem dX5_ringSteps_15 : decode cX5_ringSteps 15 = .ok (.iload_n 2, 1) := by decide +kernel
theorem dX5_ringSteps_16 : decode cX5_ringSteps 16 = .ok (.invokevirtual 61, 3) := by decide +kernel
theorem dX5_ringSteps_19 : decode cX5_ringSteps 19 = .ok (.istore 4, 2) := by decide +kernel
theorem dX5_ringSteps_21 : decode cX5_ringSteps 21 = .ok (.iinc 5 1, 3) := by decide +kernel
theorem dX5_ringSteps_24 : decode cX5_ringSteps 24 = .ok (.goto (-18), 3) := by decide +kernel
theorem dX5_ringSteps_27 : decode cX5_ringSteps 27 = .ok (.iload 4, 2) := by decide +kernel
theorem dX5_ringSteps_29 : decode cX5_ringSteps 29 = .ok (.ireturn, 1) := by decide +kernel
def xX5_ringSteps : zX := (RX5, cX5_ringSteps, 6, (some .int), false, { frames := 3, cells := 0, slots := 0, locals := 137 }, 0, 0, 0, 0)
theorem rmX5_ringSteps : z_Rm xX5_ringSteps := by unfold z_Rm xX5_ringSteps; exact ⟨by decide, by decide⟩
theorem reX5_ringSteps : z_Re xX5_ringSteps := ⟨rfl, rfl⟩
theorem rlX5_ringSteps : 1 ≤ xX5_ringSteps.2.2.2.2.2.1.frames ∧ 21 ≤ xX5_ringSteps.2.2.2.2.2.1.locals := by unfold xX5_ringSteps; exact ⟨by decide, by decide⟩
theorem meX5_ringSteps : z_Me yX5_ringSteps xX5_ringSteps 3 := ⟨wd281, wd236, by decide, by decide, by decide +kernel⟩
theorem fitX5_ringSteps_16 : z_Fit xX5_ringStep xX5_ringSteps := by unfold z_Fit; simp only [xX5_ringStep, xX5_ringSteps]; exact ⟨by decide, by decide⟩
noncomputable def kX5_ringSteps_27 : zK zR := (q_iload 4 q_iret)
noncomputable def bX5_ringSteps_6 : zK ((zL × zS) ⊕ zR) := (q_iload 5 (q_iload 3 (q_icmp_ge (q_dn kX5_ringSteps_27) (q_aload 0 (q_iload 4 (q_iload 2 (q_callV 5 fX5_ringStep 2 (q_istore 4 (q_iinc 5 1 q_ag)))))))))
noncomputable def kX5_ringSteps_6 : zK zR := q_lp (bX5_ringSteps_6)
noncomputable def kX5_ringSteps_0 : zK zR := (q_iload 1 (q_istore 4 (q_push 0 (q_istore 5 kX5_ringSteps_6))))
set_option maxRecDepth 100000 in
theorem tX5_ringSteps_27 {l : Launch} {D : zD} {B sz0 : Nat} {post : Option Value → zS → Prop} : zSnd l D B xX5_ringSteps sz0 post 27 kX5_ringSteps_27 (z_Jr post) := (s_iload dX5_ringSteps_27 (s_iret dX5_ringSteps_29 rfl))
set_option maxRecDepth 100000 in
theorem tX5_ringSteps_6 {l : Launch} {D : zD} {B sz0 : Nat} {post : Option Value → zS → Prop} : zSnd l D B xX5_ringSteps sz0 post 6 kX5_ringSteps_6 (z_Jr post) := s_lp (body := bX5_ringSteps_6) (s_iload dX5_ringSteps_6 (s_iload_n dX5_ringSteps_8 rfl (s_icmp_ge (tgt := 27) dX5_ringSteps_9 (by decide) (s_dn tX5_ringSteps_27) (s_aload_n dX5_ringSteps_12 rfl (s_iload dX5_ringSteps_13 (s_iload_n dX5_ringSteps_15 rfl (s_callV (r := (RX5, TX5, 7)) dX5_ringSteps_16 mX5_ringStep meX5_ringStep wd278 wd279 rfl rfl reX5_ringStep rmX5_ringSteps (fitX5_ringSteps_16) wd280 (s_istore dX5_ringSteps_19 (s_iinc dX5_ringSteps_21 (by decide) (s_goto (tgt := 6) dX5_ringSteps_24 (by decide) s_ag))))))))))
set_option maxRecDepth 100000 in
theorem tX5_ringSteps_0 {l : Launch} {D : zD} {B sz0 : Nat} {post : Option Value → zS → Prop} : zSnd l D B xX5_ringSteps sz0 post 0 kX5_ringSteps_0 (z_Jr post) := (s_iload_n dX5_ringSteps_0 rfl (s_istore dX5_ringSteps_1 (s_iconst dX5_ringSteps_3 (by decide) (s_istore dX5_ringSteps_4 tX5_ringSteps_6))))
noncomputable def fX5_ringSteps : zF := z_fn 6 kX5_ringSteps_0
theorem mX5_ringSteps {l : Launch} {D : zD} {B : Nat} : z_MF l D B yX5_ringSteps xX5_ringSteps fX5_ringSteps := z_mf (by decide) rfl (fun h => by cases h) rfl (fun as σ r h => ⟨z_fn_len h, kX5_ringSteps_0, z_fn_run h, fun _ => tX5_ringSteps_0⟩)
/-! ===== RowChildren$Table.findRing ===== -/
theorem dX5_findRing_0 : decode cX5_findRing 0 = .ok (.iload_n 1, 1) := by decide +kernel
theorem dX5_findRing_1 : decode cX5_findRing 1 = .ok (.istore_n 3, 1) := by decide +kernel
theorem dX5_findRing_2 : decode cX5_findRing 2 = .ok (.aload_n 0, 1) := by decide +kernel
theorem dX5_findRing_3 : decode cX5_findRing 3 = .ok (.iload_n 1, 1) := by decide +kernel
theorem dX5_findRing_4 : decode cX5_findRing 4 = .ok (.iload_n 2, 1) := by decide +kernel
theorem dX5_findRing_5 : decode cX5_findRing 5 = .ok (.invokevirtual 61, 3) := by decide +kernel
theorem dX5_findRing_8 : decode cX5_findRing 8 = .ok (.istore 4, 2) := by decide +kernel
theorem dX5_findRing_10 : decode cX5_findRing 10 = .ok (.iconst 1, 1) := by decide +kernel
theorem dX5_findRing_11 : decode cX5_findRing 11 = .ok (.istore 5, 2) := by decide +kernel
theorem dX5_findRing_13 : decode cX5_findRing 13 = .ok (.aload_n 0, 1) := by decide +kernel
theorem dX5_findRing_14 : decode cX5_findRing 14 = .ok (.iconst 1, 1) := by decide +kernel
theorem dX5_findRing_15 : decode cX5_findRing 15 = .ok (.putfield 64, 3) := by decide +kernel
theorem dX5_findRing_18 : decode cX5_findRing 18 = .ok (.iconst 0, 1) := by decide +kernel
theorem dX5_findRing_19 : decode cX5_findRing 19 = .ok (.istore 6, 2) := by decide +kernel
theorem dX5_findRing_21 : decode cX5_findRing 21 = .ok (.iload 6, 2) := by decide +kernel
theorem dX5_findRing_23 : decode cX5_findRing 23 = .ok (.ldc 67, 2) := by decide +kernel
theorem dX5_findRing_25 : decode cX5_findRing 25 = .ok (.if_icmp .ge 57, 3) := by decide +kernel
theorem dX5_findRing_28 : decode cX5_findRing 28 = .ok (.iload 4, 2) := by decide +kernel
theorem dX5_findRing_30 : decode cX5_findRing 30 = .ok (.iload_n 3, 1) := by decide +kernel
theorem dX5_findRing_31 : decode cX5_findRing 31 = .ok (.if_icmp .eq 51, 3) := by decide +kernel
theorem dX5_findRing_34 : decode cX5_findRing 34 = .ok (.aload_n 0, 1) := by decide +kernel
theorem dX5_findRing_35 : decode cX5_findRing 35 = .ok (.getfield 64, 3) := by decide +kernel
theorem dX5_findRing_38 : decode cX5_findRing 38 = .ok (.iload 5, 2) := by decide +kernel
theorem dX5_findRing_40 : decode cX5_findRing 40 = .ok (.if_icmp .ne 17, 3) := by decide +kernel
theorem dX5_findRing_43 : decode cX5_findRing 43 = .ok (.iload 4, 2) := by decide +kernel
theorem dX5_findRing_45 : decode cX5_findRing 45 = .ok (.istore_n 3, 1) := by decide +kernel
theorem dX5_findRing_46 : decode cX5_findRing 46 = .ok (.iload 5, 2) := by decide +kernel
theorem dX5_findRing_48 : decode cX5_findRing 48 = .ok (.iconst 2, 1) := by decide +kernel
theorem dX5_findRing_49 : decode cX5_findRing 49 = .ok (.imul, 1) := by decide +kernel
theorem dX5_findRing_50 : decode cX5_findRing 50 = .ok (.istore 5, 2) := by decide +kernel
theorem dX5_findRing_52 : decode cX5_findRing 52 = .ok (.aload_n 0, 1) := by decide +kernel
theorem dX5_findRing_53 : decode cX5_findRing 53 = .ok (.iconst 0, 1) := by decide +kernel
theorem dX5_findRing_54 : decode cX5_findRing 54 = .ok (.putfield 64, 3) := by decide +kernel
theorem dX5_findRing_57 : decode cX5_findRing 57 = .ok (.aload_n 0, 1) := by decide +kernel
theorem dX5_findRing_58 : decode cX5_findRing 58 = .ok (.iload 4, 2) := by decide +kernel
theorem dX5_findRing_60 : decode cX5_findRing 60 = .ok (.iload_n 2, 1) := by decide +kernel
theorem dX5_findRing_61 : decode cX5_findRing 61 = .ok (.invokevirtual 61, 3) := by decide +kernel
theorem dX5_findRing_64 : decode cX5_findRing 64 = .ok (.istore 4, 2) := by decide +kernel
theorem dX5_findRing_66 : decode cX5_findRing 66 = .ok (.aload_n 0, 1) := by decide +kernel
theorem dX5_findRing_67 : decode cX5_findRing 67 = .ok (.dup, 1) := by decide +kernel
theorem dX5_findRing_68 : decode cX5_findRing 68 = .ok (.getfield 64, 3) := by decide +kernel
theorem dX5_findRing_71 : decode cX5_findRing 71 = .ok (.iconst 1, 1) := by decide +kernel
theorem dX5_findRing_72 : decode cX5_findRing 72 = .ok (.iadd, 1) := by decide +kernel
theorem dX5_findRing_73 : decode cX5_findRing 73 = .ok (.putfield 64, 3) := by decide +kernel
theorem dX5_findRing_76 : decode cX5_findRing 76 = .ok (.iinc 6 1, 3) := by decide +kernel
theorem dX5_findRing_79 : decode cX5_findRing 79 = .ok (.goto (-58), 3) := by decide +kernel
theorem dX5_findRing_82 : decode cX5_findRing 82 = .ok (.iload_n 1, 1) := by decide +kernel
theorem dX5_findRing_83 : decode cX5_findRing 83 = .ok (.istore 6, 2) := by decide +kernel
theorem dX5_findRing_85 : decode cX5_findRing 85 = .ok (.aload_n 0, 1) := by decide +kernel
theorem dX5_findRing_86 : decode cX5_findRing 86 = .ok (.iload_n 1, 1) := by decide +kernel
theorem dX5_findRing_87 : decode cX5_findRing 87 = .ok (.iload_n 2, 1) := by decide +kernel
theorem dX5_findRing_88 : decode cX5_findRing 88 = .ok (.aload_n 0, 1) := by decide +kernel
theorem dX5_findRing_89 : decode cX5_findRing 89 = .ok (.getfield 64, 3) := by decide +kernel
theorem dX5_findRing_92 : decode cX5_findRing 92 = .ok (.invokevirtual 68, 3) := by decide +kernel
theorem dX5_findRing_95 : decode cX5_findRing 95 = .ok (.istore 7, 2) := by decide +kernel
theorem dX5_findRing_97 : decode cX5_findRing 97 = .ok (.aload_n 0, 1) := by decide +kernel
theorem dX5_findRing_98 : decode cX5_findRing 98 = .ok (.iconst 0, 1) := by decide +kernel
theorem dX5_findRing_99 : decode cX5_findRing 99 = .ok (.putfield 71, 3) := by decide +kernel
theorem dX5_findRing_102 : decode cX5_findRing 102 = .ok (.iconst 0, 1) := by decide +kernel
theorem dX5_findRing_103 : decode cX5_findRing 103 = .ok (.istore 8, 2) := by decide +kernel
theorem dX5_findRing_105 : decode cX5_findRing 105 = .ok (.iload 8, 2) := by decide +kernel
theorem dX5_findRing_107 : decode cX5_findRing 107 = .ok (.ldc 67, 2) := by decide +kernel
theorem dX5_findRing_109 : decode cX5_findRing 109 = .ok (.if_icmp .ge 44, 3) := by decide +kernel
theorem dX5_findRing_112 : decode cX5_findRing 112 = .ok (.iload 6, 2) := by decide +kernel
theorem dX5_findRing_114 : decode cX5_findRing 114 = .ok (.iload 7, 2) := by decide +kernel
theorem dX5_findRing_116 : decode cX5_findRing 116 = .ok (.if_icmp .eq 37, 3) := by decide +kernel
theorem dX5_findRing_119 : decode cX5_findRing 119 = .ok (.aload_n 0, 1) := by decide +kernel
theorem dX5_findRing_120 : decode cX5_findRing 120 = .ok (.iload 6, 2) := by decide +kernel
theorem dX5_findRing_122 : decode cX5_findRing 122 = .ok (.iload_n 2, 1) := by decide +kernel
theorem dX5_findRing_123 : decode cX5_findRing 123 = .ok (.invokevirtual 61, 3) := by decide +kernel
theorem dX5_findRing_126 : decode cX5_findRing 126 = .ok (.istore 6, 2) := by decide +kernel
theorem dX5_findRing_128 : decode cX5_findRing 128 = .ok (.aload_n 0, 1) := by decide +kernel
theorem dX5_findRing_129 : decode cX5_findRing 129 = .ok (.iload 7, 2) := by decide +kernel
theorem dX5_findRing_131 : decode cX5_findRing 131 = .ok (.iload_n 2, 1) := by decide +kernel
theorem dX5_findRing_132 : decode cX5_findRing 132 = .ok (.invokevirtual 61, 3) := by decide +kernel
theorem dX5_findRing_135 : decode cX5_findRing 135 = .ok (.istore 7, 2) := by decide +kernel
theorem dX5_findRing_137 : decode cX5_findRing 137 = .ok (.aload_n 0, 1) := by decide +kernel
theorem dX5_findRing_138 : decode cX5_findRing 138 = .ok (.dup, 1) := by decide +kernel
theorem dX5_findRing_139 : decode cX5_findRing 139 = .ok (.getfield 71, 3) := by decide +kernel
theorem dX5_findRing_142 : decode cX5_findRing 142 = .ok (.iconst 1, 1) := by decide +kernel
theorem dX5_findRing_143 : decode cX5_findRing 143 = .ok (.iadd, 1) := by decide +kernel
theorem dX5_findRing_144 : decode cX5_findRing 144 = .ok (.putfield 71, 3) := by decide +kernel
theorem dX5_findRing_147 : decode cX5_findRing 147 = .ok (.iinc 8 1, 3) := by decide +kernel
theorem dX5_findRing_150 : decode cX5_findRing 150 = .ok (.goto (-45), 3) := by decide +kernel
theorem dX5_findRing_153 : decode cX5_findRing 153 = .ok (.return_, 1) := by decide +kernel
def xX5_findRing : zX := (RX5, cX5_findRing, 9, none, false, { frames := 4, cells := 0, slots := 0, locals := 162 }, 0, 0, 0, 0)
theorem rmX5_findRing : z_Rm xX5_findRing := by unfold z_Rm xX5_findRing; exact ⟨by decide, by decide⟩
theorem reX5_findRing : z_Re xX5_findRing := ⟨rfl, rfl⟩
theorem rlX5_findRing : 1 ≤ xX5_findRing.2.2.2.2.2.1.frames ∧ 21 ≤ xX5_findRing.2.2.2.2.2.1.locals := by unfold xX5_findRing; exact ⟨by decide, by decide⟩
theorem meX5_findRing : z_Me yX5_findRing xX5_findRing 2 := ⟨wd288, wd236, by decide, by decide, by decide +kernel⟩
theorem fitX5_findRing_5 : z_Fit xX5_ringStep xX5_findRing := by unfold z_Fit; simp only [xX5_ringStep, xX5_findRing]; exact ⟨by decide, by decide⟩
theorem fitX5_findRing_92 : z_Fit xX5_ringSteps xX5_findRing := by unfold z_Fit; simp only [xX5_ringSteps, xX5_findRing]; exact ⟨by decide, by decide⟩
theorem fitX5_findRing_123 : z_Fit xX5_ringStep xX5_findRing := by unfold z_Fit; simp only [xX5_ringStep, xX5_findRing]; exact ⟨by decide, by decide⟩
theorem fitX5_findRing_132 : z_Fit xX5_ringStep xX5_findRing := by unfold z_Fit; simp only [xX5_ringStep, xX5_findRing]; exact ⟨by decide, by decide⟩
theorem fitX5_findRing_61 : z_Fit xX5_ringStep xX5_findRing := by unfold z_Fit; simp only [xX5_ringStep, xX5_findRing]; exact ⟨by decide, by decide⟩
noncomputable def kX5_findRing_153 : zK zR := q_vret
noncomputable def bX5_findRing_105 : zK ((zL × zS) ⊕ zR) := (q_iload 8 (q_push 1000000 (q_icmp_ge (q_dn kX5_findRing_153) (q_iload 6 (q_iload 7 (q_icmp_eq (q_dn kX5_findRing_153) (q_aload 0 (q_iload 6 (q_iload 2 (q_callV 5 fX5_ringStep 2 (q_istore 6 (q_aload 0 (q_iload 7 (q_iload 2 (q_callV 5 fX5_ringStep 2 (q_istore 7 (q_aload 0 (q_dup (q_getI 5 1 (q_push 1 (q_iadd (q_putI 5 1 (q_iinc 8 1 q_ag)))))))))))))))))))))))
noncomputable def kX5_findRing_105 : zK zR := q_lp (bX5_findRing_105)
noncomputable def kX5_findRing_82 : zK zR := (q_iload 1 (q_istore 6 (q_aload 0 (q_iload 1 (q_iload 2 (q_aload 0 (q_getI 5 2 (q_callV 5 fX5_ringSteps 3 (q_istore 7 (q_aload 0 (q_push 0 (q_putI 5 1 (q_push 0 (q_istore 8 kX5_findRing_105))))))))))))))
noncomputable def kX5_findRing_57 : zK ((zL × zS) ⊕ zR) := (q_aload 0 (q_iload 4 (q_iload 2 (q_callV 5 fX5_ringStep 2 (q_istore 4 (q_aload 0 (q_dup (q_getI 5 2 (q_push 1 (q_iadd (q_putI 5 2 (q_iinc 6 1 q_ag))))))))))))
noncomputable def bX5_findRing_21 : zK ((zL × zS) ⊕ zR) := (q_iload 6 (q_push 1000000 (q_icmp_ge (q_dn kX5_findRing_82) (q_iload 4 (q_iload 3 (q_icmp_eq (q_dn kX5_findRing_82) (q_aload 0 (q_getI 5 2 (q_iload 5 (q_icmp_ne kX5_findRing_57 (q_iload 4 (q_istore 3 (q_iload 5 (q_push 2 (q_imul (q_istore 5 (q_aload 0 (q_push 0 (q_putI 5 2 kX5_findRing_57)))))))))))))))))))
noncomputable def kX5_findRing_21 : zK zR := q_lp (bX5_findRing_21)
noncomputable def kX5_findRing_0 : zK zR := (q_iload 1 (q_istore 3 (q_aload 0 (q_iload 1 (q_iload 2 (q_callV 5 fX5_ringStep 2 (q_istore 4 (q_push 1 (q_istore 5 (q_aload 0 (q_push 1 (q_putI 5 2 (q_push 0 (q_istore 6 kX5_findRing_21))))))))))))))
set_option maxRecDepth 100000 in
theorem tX5_findRing_153 {l : Launch} {D : zD} {B sz0 : Nat} {post : Option Value → zS → Prop} : zSnd l D B xX5_findRing sz0 post 153 kX5_findRing_153 (z_Jr post) := (s_vret dX5_findRing_153 rfl)
set_option maxRecDepth 100000 in
theorem tX5_findRing_105 {l : Launch} {D : zD} {B sz0 : Nat} {post : Option Value → zS → Prop} : zSnd l D B xX5_findRing sz0 post 105 kX5_findRing_105 (z_Jr post) := s_lp (body := bX5_findRing_105) (s_iload dX5_findRing_105 (s_ldc dX5_findRing_107 wd283 (s_icmp_ge (tgt := 153) dX5_findRing_109 (by decide) (s_dn tX5_findRing_153) (s_iload dX5_findRing_112 (s_iload dX5_findRing_114 (s_icmp_eq (tgt := 153) dX5_findRing_116 (by decide) (s_dn tX5_findRing_153) (s_aload_n dX5_findRing_119 rfl (s_iload dX5_findRing_120 (s_iload_n dX5_findRing_122 rfl (s_callV (r := (RX5, TX5, 7)) dX5_findRing_123 mX5_ringStep meX5_ringStep wd278 wd279 rfl rfl reX5_ringStep rmX5_findRing (fitX5_findRing_123) wd280 (s_istore dX5_findRing_126 (s_aload_n dX5_findRing_128 rfl (s_iload dX5_findRing_129 (s_iload_n dX5_findRing_131 rfl (s_callV (r := (RX5, TX5, 7)) dX5_findRing_132 mX5_ringStep meX5_ringStep wd278 wd279 rfl rfl reX5_ringStep rmX5_findRing (fitX5_findRing_132) wd280 (s_istore dX5_findRing_135 (s_aload_n dX5_findRing_137 rfl (s_dup dX5_findRing_138 (s_getI (f := 1) dX5_findRing_139 clX5 (by decide) rfl wd287 (s_iconst dX5_findRing_142 (by decide) (s_iadd dX5_findRing_143 (s_putI (f := 1) dX5_findRing_144 clX5 (by decide) rfl rfl rfl wd287 (s_iinc dX5_findRing_147 (by decide) (s_goto (tgt := 105) dX5_findRing_150 (by decide) s_ag))))))))))))))))))))))))
set_option maxRecDepth 100000 in
theorem tX5_findRing_82 {l : Launch} {D : zD} {B sz0 : Nat} {post : Option Value → zS → Prop} : zSnd l D B xX5_findRing sz0 post 82 kX5_findRing_82 (z_Jr post) := (s_iload_n dX5_findRing_82 rfl (s_istore dX5_findRing_83 (s_aload_n dX5_findRing_85 rfl (s_iload_n dX5_findRing_86 rfl (s_iload_n dX5_findRing_87 rfl (s_aload_n dX5_findRing_88 rfl (s_getI (f := 2) dX5_findRing_89 clX5 (by decide) rfl wd282 (s_callV (r := (RX5, TX5, 7)) dX5_findRing_92 mX5_ringSteps meX5_ringSteps wd284 wd285 rfl rfl reX5_ringSteps rmX5_findRing (fitX5_findRing_92) wd286 (s_istore dX5_findRing_95 (s_aload_n dX5_findRing_97 rfl (s_iconst dX5_findRing_98 (by decide) (s_putI (f := 1) dX5_findRing_99 clX5 (by decide) rfl rfl rfl wd287 (s_iconst dX5_findRing_102 (by decide) (s_istore dX5_findRing_103 tX5_findRing_105))))))))))))))
set_option maxRecDepth 100000 in
theorem tX5_findRing_57 {l : Launch} {D : zD} {B sz0 : Nat} {post : Option Value → zS → Prop} : zSnd l D B xX5_findRing sz0 post 57 kX5_findRing_57 (z_Jl l D B xX5_findRing sz0 post 21 (z_Jr post)) := (s_aload_n dX5_findRing_57 rfl (s_iload dX5_findRing_58 (s_iload_n dX5_findRing_60 rfl (s_callV (r := (RX5, TX5, 7)) dX5_findRing_61 mX5_ringStep meX5_ringStep wd278 wd279 rfl rfl reX5_ringStep rmX5_findRing (fitX5_findRing_61) wd280 (s_istore dX5_findRing_64 (s_aload_n dX5_findRing_66 rfl (s_dup dX5_findRing_67 (s_getI (f := 2) dX5_findRing_68 clX5 (by decide) rfl wd282 (s_iconst dX5_findRing_71 (by decide) (s_iadd dX5_findRing_72 (s_putI (f := 2) dX5_findRing_73 clX5 (by decide) rfl rfl rfl wd282 (s_iinc dX5_findRing_76 (by decide) (s_goto (tgt := 21) dX5_findRing_79 (by decide) s_ag)))))))))))))
set_option maxRecDepth 100000 in
theorem tX5_findRing_21 {l : Launch} {D : zD} {B sz0 : Nat} {post : Option Value → zS → Prop} : zSnd l D B xX5_findRing sz0 post 21 kX5_findRing_21 (z_Jr post) := s_lp (body := bX5_findRing_21) (s_iload dX5_findRing_21 (s_ldc dX5_findRing_23 wd283 (s_icmp_ge (tgt := 82) dX5_findRing_25 (by decide) (s_dn tX5_findRing_82) (s_iload dX5_findRing_28 (s_iload_n dX5_findRing_30 rfl (s_icmp_eq (tgt := 82) dX5_findRing_31 (by decide) (s_dn tX5_findRing_82) (s_aload_n dX5_findRing_34 rfl (s_getI (f := 2) dX5_findRing_35 clX5 (by decide) rfl wd282 (s_iload dX5_findRing_38 (s_icmp_ne (tgt := 57) dX5_findRing_40 (by decide) tX5_findRing_57 (s_iload dX5_findRing_43 (s_istore_n dX5_findRing_45 rfl (s_iload dX5_findRing_46 (s_iconst dX5_findRing_48 (by decide) (s_imul dX5_findRing_49 (s_istore dX5_findRing_50 (s_aload_n dX5_findRing_52 rfl (s_iconst dX5_findRing_53 (by decide) (s_putI (f := 2) dX5_findRing_54 clX5 (by decide) rfl rfl rfl wd282 tX5_findRing_57)))))))))))))))))))
set_option maxRecDepth 100000 in
theorem tX5_findRing_0 {l : Launch} {D : zD} {B sz0 : Nat} {post : Option Value → zS → Prop} : zSnd l D B xX5_findRing sz0 post 0 kX5_findRing_0 (z_Jr post) := (s_iload_n dX5_findRing_0 rfl (s_istore_n dX5_findRing_1 rfl (s_aload_n dX5_findRing_2 rfl (s_iload_n dX5_findRing_3 rfl (s_iload_n dX5_findRing_4 rfl (s_callV (r := (RX5, TX5, 7)) dX5_findRing_5 mX5_ringStep meX5_ringStep wd278 wd279 rfl rfl reX5_ringStep rmX5_findRing (fitX5_findRing_5) wd280 (s_istore dX5_findRing_8 (s_iconst dX5_findRing_10 (by decide) (s_istore dX5_findRing_11 (s_aload_n dX5_findRing_13 rfl (s_iconst dX5_findRing_14 (by decide) (s_putI (f := 2) dX5_findRing_15 clX5 (by decide) rfl rfl rfl wd282 (s_iconst dX5_findRing_18 (by decide) (s_istore dX5_findRing_19 tX5_findRing_21))))))))))))))
noncomputable def fX5_findRing : zF := z_fn 9 kX5_findRing_0
theorem mX5_findRing {l : Launch} {D : zD} {B : Nat} : z_MF l D B yX5_findRing xX5_findRing fX5_findRing := z_mf (by decide) rfl (fun h => by cases h) rfl (fun as σ r h => ⟨z_fn_len h, kX5_findRing_0, z_fn_run h, fun _ => tX5_findRing_0⟩)
/-! ===== RowChildren$Table.ringAfter ===== -/
theorem dX5_ringAfter_0 : decode cX5_ringAfter 0 = .ok (.aload_n 0, 1) := by decide +kernel
theorem dX5_ringAfter_1 : decode cX5_ringAfter 1 = .ok (.iload_n 1, 1) := by decide +kernel
theorem dX5_ringAfter_2 : decode cX5_ringAfter 2 = .ok (.iload_n 2, 1) := by decide +kernel
theorem dX5_ringAfter_3 : decode cX5_ringAfter 3 = .ok (.invokevirtual 74, 3) := by decide +kernel
theorem dX5_ringAfter_6 : decode cX5_ringAfter 6 = .ok (.iload_n 3, 1) := by decide +kernel
theorem dX5_ringAfter_7 : decode cX5_ringAfter 7 = .ok (.aload_n 0, 1) := by decide +kernel
theorem dX5_ringAfter_8 : decode cX5_ringAfter 8 = .ok (.getfield 71, 3) := by decide +kernel
theorem dX5_ringAfter_11 : decode cX5_ringAfter 11 = .ok (.if_icmp .le 14, 3) := by decide +kernel
theorem dX5_ringAfter_14 : decode cX5_ringAfter 14 = .ok (.aload_n 0, 1) := by decide +kernel
theorem dX5_ringAfter_15 : decode cX5_ringAfter 15 = .ok (.getfield 64, 3) := by decide +kernel
theorem dX5_ringAfter_18 : decode cX5_ringAfter 18 = .ok (.ifCond .le 7, 3) := by decide +kernel
theorem dX5_ringAfter_21 : decode cX5_ringAfter 21 = .ok (.iconst 1, 1) := by decide +kernel
theorem dX5_ringAfter_22 : decode cX5_ringAfter 22 = .ok (.goto 4, 3) := by decide +kernel
theorem dX5_ringAfter_25 : decode cX5_ringAfter 25 = .ok (.iconst 0, 1) := by decide +kernel
theorem dX5_ringAfter_26 : decode cX5_ringAfter 26 = .ok (.istore 4, 2) := by decide +kernel
theorem dX5_ringAfter_28 : decode cX5_ringAfter 28 = .ok (.iload 4, 2) := by decide +kernel
theorem dX5_ringAfter_30 : decode cX5_ringAfter 30 = .ok (.ifCond .eq 22, 3) := by decide +kernel
theorem dX5_ringAfter_33 : decode cX5_ringAfter 33 = .ok (.aload_n 0, 1) := by decide +kernel
theorem dX5_ringAfter_34 : decode cX5_ringAfter 34 = .ok (.getfield 71, 3) := by decide +kernel
theorem dX5_ringAfter_37 : decode cX5_ringAfter 37 = .ok (.iload_n 3, 1) := by decide +kernel
theorem dX5_ringAfter_38 : decode cX5_ringAfter 38 = .ok (.aload_n 0, 1) := by decide +kernel
theorem dX5_ringAfter_39 : decode cX5_ringAfter 39 = .ok (.getfield 71, 3) := by decide +kernel
theorem dX5_ringAfter_42 : decode cX5_ringAfter 42 = .ok (.isub, 1) := by decide +kernel
theorem dX5_ringAfter_43 : decode cX5_ringAfter 43 = .ok (.aload_n 0, 1) := by decide +kernel
theorem dX5_ringAfter_44 : decode cX5_ringAfter 44 = .ok (.getfield 64, 3) := by decide +kernel
theorem dX5_ringAfter_47 : decode cX5_ringAfter 47 = .ok (.irem, 1) := by decide +kernel
theorem dX5_ringAfter_48 : decode cX5_ringAfter 48 = .ok (.iadd, 1) := by decide +kernel
theorem dX5_ringAfter_49 : decode cX5_ringAfter 49 = .ok (.goto 4, 3) := by decide +kernel
theorem dX5_ringAfter_52 : decode cX5_ringAfter 52 = .ok (.iload_n 3, 1) := by decide +kernel
theorem dX5_ringAfter_53 : decode cX5_ringAfter 53 = .ok (.istore 5, 2) := by decide +kernel
theorem dX5_ringAfter_55 : decode cX5_ringAfter 55 = .ok (.aload_n 0, 1) := by decide +kernel
theorem dX5_ringAfter_56 : decode cX5_ringAfter 56 = .ok (.iload_n 1, 1) := by decide +kernel
theorem dX5_ringAfter_57 : decode cX5_ringAfter 57 = .ok (.iload_n 2, 1) := by decide +kernel
theorem dX5_ringAfter_58 : decode cX5_ringAfter 58 = .ok (.iload 5, 2) := by decide +kernel
theorem dX5_ringAfter_60 : decode cX5_ringAfter 60 = .ok (.invokevirtual 68, 3) := by decide +kernel
theorem dX5_ringAfter_63 : decode cX5_ringAfter 63 = .ok (.ireturn, 1) := by decide +kernel
def xX5_ringAfter : zX := (RX5, cX5_ringAfter, 6, (some .int), false, { frames := 5, cells := 0, slots := 0, locals := 190 }, 0, 0, 0, 0)
theorem rmX5_ringAfter : z_Rm xX5_ringAfter := by unfold z_Rm xX5_ringAfter; exact ⟨by decide, by decide⟩
theorem reX5_ringAfter : z_Re xX5_ringAfter := ⟨rfl, rfl⟩
theorem rlX5_ringAfter : 1 ≤ xX5_ringAfter.2.2.2.2.2.1.frames ∧ 21 ≤ xX5_ringAfter.2.2.2.2.2.1.locals := by unfold xX5_ringAfter; exact ⟨by decide, by decide⟩
theorem meX5_ringAfter : z_Me yX5_ringAfter xX5_ringAfter 3 := ⟨wd292, wd236, by decide, by decide, by decide +kernel⟩
theorem fitX5_ringAfter_3 : z_Fit xX5_findRing xX5_ringAfter := by unfold z_Fit; simp only [xX5_findRing, xX5_ringAfter]; exact ⟨by decide, by decide⟩
theorem fitX5_ringAfter_60 : z_Fit xX5_ringSteps xX5_ringAfter := by unfold z_Fit; simp only [xX5_ringSteps, xX5_ringAfter]; exact ⟨by decide, by decide⟩
noncomputable def kX5_ringAfter_53 : zK zR := (q_istore 5 (q_aload 0 (q_iload 1 (q_iload 2 (q_iload 5 (q_callV 5 fX5_ringSteps 3 q_iret))))))
noncomputable def kX5_ringAfter_26 : zK zR := (q_istore 4 (q_iload 4 (q_if_eq (q_iload 3 kX5_ringAfter_53) (q_aload 0 (q_getI 5 1 (q_iload 3 (q_aload 0 (q_getI 5 1 (q_isub (q_aload 0 (q_getI 5 2 (q_irem (q_iadd kX5_ringAfter_53)))))))))))))
noncomputable def kX5_ringAfter_25 : zK zR := (q_push 0 kX5_ringAfter_26)
noncomputable def kX5_ringAfter_0 : zK zR := (q_aload 0 (q_iload 1 (q_iload 2 (q_callV 5 fX5_findRing 2 (q_iload 3 (q_aload 0 (q_getI 5 1 (q_icmp_le kX5_ringAfter_25 (q_aload 0 (q_getI 5 2 (q_if_le kX5_ringAfter_25 (q_push 1 kX5_ringAfter_26))))))))))))
set_option maxRecDepth 100000 in
theorem tX5_ringAfter_53 {l : Launch} {D : zD} {B sz0 : Nat} {post : Option Value → zS → Prop} : zSnd l D B xX5_ringAfter sz0 post 53 kX5_ringAfter_53 (z_Jr post) := (s_istore dX5_ringAfter_53 (s_aload_n dX5_ringAfter_55 rfl (s_iload_n dX5_ringAfter_56 rfl (s_iload_n dX5_ringAfter_57 rfl (s_iload dX5_ringAfter_58 (s_callV (r := (RX5, TX5, 7)) dX5_ringAfter_60 mX5_ringSteps meX5_ringSteps wd284 wd285 rfl rfl reX5_ringSteps rmX5_ringAfter (fitX5_ringAfter_60) wd286 (s_iret dX5_ringAfter_63 rfl)))))))
set_option maxRecDepth 100000 in
theorem tX5_ringAfter_26 {l : Launch} {D : zD} {B sz0 : Nat} {post : Option Value → zS → Prop} : zSnd l D B xX5_ringAfter sz0 post 26 kX5_ringAfter_26 (z_Jr post) := (s_istore dX5_ringAfter_26 (s_iload dX5_ringAfter_28 (s_if_eq (tgt := 52) dX5_ringAfter_30 (by decide) (s_iload_n dX5_ringAfter_52 rfl tX5_ringAfter_53) (s_aload_n dX5_ringAfter_33 rfl (s_getI (f := 1) dX5_ringAfter_34 clX5 (by decide) rfl wd287 (s_iload_n dX5_ringAfter_37 rfl (s_aload_n dX5_ringAfter_38 rfl (s_getI (f := 1) dX5_ringAfter_39 clX5 (by decide) rfl wd287 (s_isub dX5_ringAfter_42 (s_aload_n dX5_ringAfter_43 rfl (s_getI (f := 2) dX5_ringAfter_44 clX5 (by decide) rfl wd282 (s_irem dX5_ringAfter_47 (s_iadd dX5_ringAfter_48 (s_goto (tgt := 53) dX5_ringAfter_49 (by decide) tX5_ringAfter_53))))))))))))))
set_option maxRecDepth 100000 in
theorem tX5_ringAfter_25 {l : Launch} {D : zD} {B sz0 : Nat} {post : Option Value → zS → Prop} : zSnd l D B xX5_ringAfter sz0 post 25 kX5_ringAfter_25 (z_Jr post) := (s_iconst dX5_ringAfter_25 (by decide) tX5_ringAfter_26)
set_option maxRecDepth 100000 in
theorem tX5_ringAfter_0 {l : Launch} {D : zD} {B sz0 : Nat} {post : Option Value → zS → Prop} : zSnd l D B xX5_ringAfter sz0 post 0 kX5_ringAfter_0 (z_Jr post) := (s_aload_n dX5_ringAfter_0 rfl (s_iload_n dX5_ringAfter_1 rfl (s_iload_n dX5_ringAfter_2 rfl (s_callV (r := (RX5, TX5, 7)) dX5_ringAfter_3 mX5_findRing meX5_findRing wd289 wd290 rfl rfl reX5_findRing rmX5_ringAfter (fitX5_ringAfter_3) wd291 (s_iload_n dX5_ringAfter_6 rfl (s_aload_n dX5_ringAfter_7 rfl (s_getI (f := 1) dX5_ringAfter_8 clX5 (by decide) rfl wd287 (s_icmp_le (tgt := 25) dX5_ringAfter_11 (by decide) tX5_ringAfter_25 (s_aload_n dX5_ringAfter_14 rfl (s_getI (f := 2) dX5_ringAfter_15 clX5 (by decide) rfl wd282 (s_if_le (tgt := 25) dX5_ringAfter_18 (by decide) tX5_ringAfter_25 (s_iconst dX5_ringAfter_21 (by decide) (s_goto (tgt := 26) dX5_ringAfter_22 (by decide) tX5_ringAfter_26)))))))))))))
noncomputable def fX5_ringAfter : zF := z_fn 6 kX5_ringAfter_0
theorem mX5_ringAfter {l : Launch} {D : zD} {B : Nat} : z_MF l D B yX5_ringAfter xX5_ringAfter fX5_ringAfter := z_mf (by decide) rfl (fun h => by cases h) rfl (fun as σ r h => ⟨z_fn_len h, kX5_ringAfter_0, z_fn_run h, fun _ => tX5_ringAfter_0⟩)
/-! ===== RowChildren$Tape.<init> ===== -/
theorem dX6_init_0 : decode cX6_init 0 = .ok (.aload_n 0, 1) := by decide +kernel
theorem dX6_init_1 : decode cX6_init 1 = .ok (.invokespecial 3, 3) := by decide +kernel
theorem dX6_init_4 : decode cX6_init 4 = .ok (.aload_n 0, 1) := by decide +kernel
theorem dX6_init_5 : decode cX6_init 5 = .ok (.sipush 2000, 3) := by decide +kernel
theorem dX6_init_8 : decode cX6_init 8 = .ok (.newarray .byte, 2) := by decide +kernel
theorem dX6_init_10 : decode cX6_init 10 = .ok (.putfield 9, 3) := by decide +kernel
theorem dX6_init_13 : decode cX6_init 13 = .ok (.return_, 1) := by decide +kernel
def xX6_init : zX := (RX6, cX6_init, 1, none, true, { frames := 1, cells := 1, slots := 2048, locals := 90 }, 1, 2048, 0, 0)
theorem rmX6_init : z_Rm xX6_init := by unfold z_Rm xX6_init; exact ⟨by decide, by decide⟩
theorem reX6_init : z_Re xX6_init := ⟨rfl, rfl⟩
theorem rlX6_init : 1 ≤ xX6_init.2.2.2.2.2.1.frames ∧ 21 ≤ xX6_init.2.2.2.2.2.1.locals := by unfold xX6_init; exact ⟨by decide, by decide⟩
theorem meX6_init : z_Me yX6_init xX6_init 0 := ⟨wd296, wd297, by decide, by decide, by decide +kernel⟩
noncomputable def kX6_init_0 (lim : Nat) : zK zR := (q_aload 0 (q_obj (q_aload 0 (q_push 2000 (q_newa 1 2048 lim (q_putR 6 0 q_vret))))))
set_option maxRecDepth 100000 in
theorem tX6_init_0 {l : Launch} {D : zD} {B sz0 : Nat} {post : Option Value → zS → Prop} : zSnd l D B xX6_init sz0 post 0 (kX6_init_0 (sz0 + 1)) (z_Jr post) := (s_aload_n dX6_init_0 rfl (s_obj dX6_init_1 wd293 wd1 wd2 (by decide) (s_aload_n dX6_init_4 rfl (s_sipush dX6_init_5 (by decide) (s_newa (t := 1) dX6_init_8 (by decide) rfl wd294 rmX6_init rfl (by decide) rfl (s_putRF (f := 0) dX6_init_10 clX6 (by decide) rfl rfl rfl rfl (Or.inr ⟨_, rfl⟩) wd295 (s_vret dX6_init_13 rfl)))))))
noncomputable def fX6_init : zF := fun as σ => z_fn 1 (kX6_init_0 (z_sz σ + 1)) as σ
theorem mX6_init {l : Launch} {D : zD} {B : Nat} : z_MF l D B yX6_init xX6_init fX6_init := z_mf (by decide) rfl (fun _ => rfl) rfl (fun as σ r h => ⟨z_fn_len h, kX6_init_0 (z_sz σ + 1), z_fn_run h, fun _ => tX6_init_0⟩)
/-! ===== RowChildren$Tape.append ===== -/
theorem dX6_append_0 : decode cX6_append 0 = .ok (.bipush 24, 2) := by decide +kernel
theorem dX6_append_2 : decode cX6_append 2 = .ok (.istore_n 2, 1) := by decide +kernel
theorem dX6_append_3 : decode cX6_append 3 = .ok (.iload_n 2, 1) := by decide +kernel
theorem dX6_append_4 : decode cX6_append 4 = .ok (.ifCond .lt 42, 3) := by decide +kernel
theorem dX6_append_7 : decode cX6_append 7 = .ok (.aload_n 0, 1) := by decide +kernel
theorem dX6_append_8 : decode cX6_append 8 = .ok (.getfield 15, 3) := by decide +kernel
theorem dX6_append_11 : decode cX6_append 11 = .ok (.sipush 2000, 3) := by decide +kernel
theorem dX6_append_14 : decode cX6_append 14 = .ok (.if_icmp .ge 26, 3) := by decide +kernel
theorem dX6_append_17 : decode cX6_append 17 = .ok (.aload_n 0, 1) := by decide +kernel
theorem dX6_append_18 : decode cX6_append 18 = .ok (.getfield 9, 3) := by decide +kernel
theorem dX6_append_21 : decode cX6_append 21 = .ok (.aload_n 0, 1) := by decide +kernel
theorem dX6_append_22 : decode cX6_append 22 = .ok (.getfield 15, 3) := by decide +kernel
theorem dX6_append_25 : decode cX6_append 25 = .ok (.iload_n 1, 1) := by decide +kernel
theorem dX6_append_26 : decode cX6_append 26 = .ok (.iload_n 2, 1) := by decide +kernel
theorem dX6_append_27 : decode cX6_append 27 = .ok (.iushr, 1) := by decide +kernel
theorem dX6_append_28 : decode cX6_append 28 = .ok (.i2b, 1) := by decide +kernel
theorem dX6_append_29 : decode cX6_append 29 = .ok (.bastore, 1) := by decide +kernel
theorem dX6_append_30 : decode cX6_append 30 = .ok (.aload_n 0, 1) := by decide +kernel
theorem dX6_append_31 : decode cX6_append 31 = .ok (.dup, 1) := by decide +kernel
theorem dX6_append_32 : decode cX6_append 32 = .ok (.getfield 15, 3) := by decide +kernel
theorem dX6_append_35 : decode cX6_append 35 = .ok (.iconst 1, 1) := by decide +kernel
theorem dX6_append_36 : decode cX6_append 36 = .ok (.iadd, 1) := by decide +kernel
theorem dX6_append_37 : decode cX6_append 37 = .ok (.putfield 15, 3) := by decide +kernel
theorem dX6_append_40 : decode cX6_append 40 = .ok (.iinc 2 (-8), 3) := by decide +kernel
theorem dX6_append_43 : decode cX6_append 43 = .ok (.goto (-40), 3) := by decide +kernel
theorem dX6_append_46 : decode cX6_append 46 = .ok (.return_, 1) := by decide +kernel
def xX6_append : zX := (RX6, cX6_append, 3, none, false, { frames := 1, cells := 0, slots := 0, locals := 90 }, 0, 0, 0, 0)
theorem rmX6_append : z_Rm xX6_append := by unfold z_Rm xX6_append; exact ⟨by decide, by decide⟩
theorem reX6_append : z_Re xX6_append := ⟨rfl, rfl⟩
theorem rlX6_append : 1 ≤ xX6_append.2.2.2.2.2.1.frames ∧ 21 ≤ xX6_append.2.2.2.2.2.1.locals := by unfold xX6_append; exact ⟨by decide, by decide⟩
theorem meX6_append : z_Me yX6_append xX6_append 1 := ⟨wd299, wd297, by decide, by decide, by decide +kernel⟩
noncomputable def kX6_append_46 : zK zR := q_vret
noncomputable def kX6_append_40 : zK ((zL × zS) ⊕ zR) := (q_iinc 2 (-8) q_ag)
noncomputable def bX6_append_3 : zK ((zL × zS) ⊕ zR) := (q_iload 2 (q_if_lt (q_dn kX6_append_46) (q_aload 0 (q_getI 6 1 (q_push 2000 (q_icmp_ge kX6_append_40 (q_aload 0 (q_getR 6 0 (q_aload 0 (q_getI 6 1 (q_iload 1 (q_iload 2 (q_iushr (q_i2b (q_bast (q_aload 0 (q_dup (q_getI 6 1 (q_push 1 (q_iadd (q_putI 6 1 kX6_append_40)))))))))))))))))))))
noncomputable def kX6_append_3 : zK zR := q_lp (bX6_append_3)
noncomputable def kX6_append_0 : zK zR := (q_push 24 (q_istore 2 kX6_append_3))
set_option maxRecDepth 100000 in
theorem tX6_append_46 {l : Launch} {D : zD} {B sz0 : Nat} {post : Option Value → zS → Prop} : zSnd l D B xX6_append sz0 post 46 kX6_append_46 (z_Jr post) := (s_vret dX6_append_46 rfl)
set_option maxRecDepth 100000 in
theorem tX6_append_40 {l : Launch} {D : zD} {B sz0 : Nat} {post : Option Value → zS → Prop} : zSnd l D B xX6_append sz0 post 40 kX6_append_40 (z_Jl l D B xX6_append sz0 post 3 (z_Jr post)) := (s_iinc dX6_append_40 (by decide) (s_goto (tgt := 3) dX6_append_43 (by decide) s_ag))
set_option maxRecDepth 100000 in
theorem tX6_append_3 {l : Launch} {D : zD} {B sz0 : Nat} {post : Option Value → zS → Prop} : zSnd l D B xX6_append sz0 post 3 kX6_append_3 (z_Jr post) := s_lp (body := bX6_append_3) (s_iload_n dX6_append_3 rfl (s_if_lt (tgt := 46) dX6_append_4 (by decide) (s_dn tX6_append_46) (s_aload_n dX6_append_7 rfl (s_getI (f := 1) dX6_append_8 clX6 (by decide) rfl wd298 (s_sipush dX6_append_11 (by decide) (s_icmp_ge (tgt := 40) dX6_append_14 (by decide) tX6_append_40 (s_aload_n dX6_append_17 rfl (s_getR (f := 0) dX6_append_18 clX6 (by decide) rfl wd295 (s_aload_n dX6_append_21 rfl (s_getI (f := 1) dX6_append_22 clX6 (by decide) rfl wd298 (s_iload_n dX6_append_25 rfl (s_iload_n dX6_append_26 rfl (s_iushr dX6_append_27 (s_i2b dX6_append_28 (s_bast dX6_append_29 (s_aload_n dX6_append_30 rfl (s_dup dX6_append_31 (s_getI (f := 1) dX6_append_32 clX6 (by decide) rfl wd298 (s_iconst dX6_append_35 (by decide) (s_iadd dX6_append_36 (s_putI (f := 1) dX6_append_37 clX6 (by decide) rfl rfl rfl wd298 tX6_append_40)))))))))))))))))))))
set_option maxRecDepth 100000 in
theorem tX6_append_0 {l : Launch} {D : zD} {B sz0 : Nat} {post : Option Value → zS → Prop} : zSnd l D B xX6_append sz0 post 0 kX6_append_0 (z_Jr post) := (s_bipush dX6_append_0 (by decide) (s_istore_n dX6_append_2 rfl tX6_append_3))
noncomputable def fX6_append : zF := z_fn 3 kX6_append_0
theorem mX6_append {l : Launch} {D : zD} {B : Nat} : z_MF l D B yX6_append xX6_append fX6_append := z_mf (by decide) rfl (fun h => by cases h) rfl (fun as σ r h => ⟨z_fn_len h, kX6_append_0, z_fn_run h, fun _ => tX6_append_0⟩)
/-! ===== RowChildren$Tape.byteAt ===== -/
theorem dX6_byteAt_0 : decode cX6_byteAt 0 = .ok (.iload_n 1, 1) := by decide +kernel
theorem dX6_byteAt_1 : decode cX6_byteAt 1 = .ok (.ifCond .lt 24, 3) := by decide +kernel
theorem dX6_byteAt_4 : decode cX6_byteAt 4 = .ok (.iload_n 1, 1) := by decide +kernel
theorem dX6_byteAt_5 : decode cX6_byteAt 5 = .ok (.aload_n 0, 1) := by decide +kernel
theorem dX6_byteAt_6 : decode cX6_byteAt 6 = .ok (.getfield 15, 3) := by decide +kernel
theorem dX6_byteAt_9 : decode cX6_byteAt 9 = .ok (.if_icmp .ge 16, 3) := by decide +kernel
theorem dX6_byteAt_12 : decode cX6_byteAt 12 = .ok (.aload_n 0, 1) := by decide +kernel
theorem dX6_byteAt_13 : decode cX6_byteAt 13 = .ok (.getfield 9, 3) := by decide +kernel
theorem dX6_byteAt_16 : decode cX6_byteAt 16 = .ok (.iload_n 1, 1) := by decide +kernel
theorem dX6_byteAt_17 : decode cX6_byteAt 17 = .ok (.baload, 1) := by decide +kernel
theorem dX6_byteAt_18 : decode cX6_byteAt 18 = .ok (.sipush 255, 3) := by decide +kernel
theorem dX6_byteAt_21 : decode cX6_byteAt 21 = .ok (.iand, 1) := by decide +kernel
theorem dX6_byteAt_22 : decode cX6_byteAt 22 = .ok (.goto 4, 3) := by decide +kernel
theorem dX6_byteAt_25 : decode cX6_byteAt 25 = .ok (.iconst (-1), 1) := by decide +kernel
theorem dX6_byteAt_26 : decode cX6_byteAt 26 = .ok (.ireturn, 1) := by decide +kernel
def xX6_byteAt : zX := (RX6, cX6_byteAt, 2, (some .int), false, { frames := 1, cells := 0, slots := 0, locals := 90 }, 0, 0, 0, 0)
theorem rmX6_byteAt : z_Rm xX6_byteAt := by unfold z_Rm xX6_byteAt; exact ⟨by decide, by decide⟩
theorem reX6_byteAt : z_Re xX6_byteAt := ⟨rfl, rfl⟩
theorem rlX6_byteAt : 1 ≤ xX6_byteAt.2.2.2.2.2.1.frames ∧ 21 ≤ xX6_byteAt.2.2.2.2.2.1.locals := by unfold xX6_byteAt; exact ⟨by decide, by decide⟩
theorem meX6_byteAt : z_Me yX6_byteAt xX6_byteAt 1 := ⟨wd300, wd297, by decide, by decide, by decide +kernel⟩
noncomputable def kX6_byteAt_26 : zK zR := q_iret
noncomputable def kX6_byteAt_25 : zK zR := (q_push (-1) kX6_byteAt_26)
noncomputable def kX6_byteAt_0 : zK zR := (q_iload 1 (q_if_lt kX6_byteAt_25 (q_iload 1 (q_aload 0 (q_getI 6 1 (q_icmp_ge kX6_byteAt_25 (q_aload 0 (q_getR 6 0 (q_iload 1 (q_bald (q_push 255 (q_iand kX6_byteAt_26))))))))))))
set_option maxRecDepth 100000 in
theorem tX6_byteAt_26 {l : Launch} {D : zD} {B sz0 : Nat} {post : Option Value → zS → Prop} : zSnd l D B xX6_byteAt sz0 post 26 kX6_byteAt_26 (z_Jr post) := (s_iret dX6_byteAt_26 rfl)
set_option maxRecDepth 100000 in
theorem tX6_byteAt_25 {l : Launch} {D : zD} {B sz0 : Nat} {post : Option Value → zS → Prop} : zSnd l D B xX6_byteAt sz0 post 25 kX6_byteAt_25 (z_Jr post) := (s_iconst dX6_byteAt_25 (by decide) tX6_byteAt_26)
set_option maxRecDepth 100000 in
theorem tX6_byteAt_0 {l : Launch} {D : zD} {B sz0 : Nat} {post : Option Value → zS → Prop} : zSnd l D B xX6_byteAt sz0 post 0 kX6_byteAt_0 (z_Jr post) := (s_iload_n dX6_byteAt_0 rfl (s_if_lt (tgt := 25) dX6_byteAt_1 (by decide) tX6_byteAt_25 (s_iload_n dX6_byteAt_4 rfl (s_aload_n dX6_byteAt_5 rfl (s_getI (f := 1) dX6_byteAt_6 clX6 (by decide) rfl wd298 (s_icmp_ge (tgt := 25) dX6_byteAt_9 (by decide) tX6_byteAt_25 (s_aload_n dX6_byteAt_12 rfl (s_getR (f := 0) dX6_byteAt_13 clX6 (by decide) rfl wd295 (s_iload_n dX6_byteAt_16 rfl (s_bald dX6_byteAt_17 (s_sipush dX6_byteAt_18 (by decide) (s_iand dX6_byteAt_21 (s_goto (tgt := 26) dX6_byteAt_22 (by decide) tX6_byteAt_26)))))))))))))
noncomputable def fX6_byteAt : zF := z_fn 2 kX6_byteAt_0
theorem mX6_byteAt {l : Launch} {D : zD} {B : Nat} : z_MF l D B yX6_byteAt xX6_byteAt fX6_byteAt := z_mf (by decide) rfl (fun h => by cases h) rfl (fun as σ r h => ⟨z_fn_len h, kX6_byteAt_0, z_fn_run h, fun _ => tX6_byteAt_0⟩)
/-! ===== RowChildren$Tape.isBlank ===== -/
theorem dX6_isBlank_0 : decode cX6_isBlank 0 = .ok (.aload_n 0, 1) := by decide +kernel
theorem dX6_isBlank_1 : decode cX6_isBlank 1 = .ok (.iload_n 1, 1) := by decide +kernel
theorem dX6_isBlank_2 : decode cX6_isBlank 2 = .ok (.invokevirtual 19, 3) := by decide +kernel
theorem dX6_isBlank_5 : decode cX6_isBlank 5 = .ok (.istore_n 2, 1) := by decide +kernel
theorem dX6_isBlank_6 : decode cX6_isBlank 6 = .ok (.iload_n 2, 1) := by decide +kernel
theorem dX6_isBlank_7 : decode cX6_isBlank 7 = .ok (.bipush 9, 2) := by decide +kernel
theorem dX6_isBlank_9 : decode cX6_isBlank 9 = .ok (.if_icmp .eq 21, 3) := by decide +kernel
theorem dX6_isBlank_12 : decode cX6_isBlank 12 = .ok (.iload_n 2, 1) := by decide +kernel
theorem dX6_isBlank_13 : decode cX6_isBlank 13 = .ok (.bipush 10, 2) := by decide +kernel
theorem dX6_isBlank_15 : decode cX6_isBlank 15 = .ok (.if_icmp .eq 15, 3) := by decide +kernel
theorem dX6_isBlank_18 : decode cX6_isBlank 18 = .ok (.iload_n 2, 1) := by decide +kernel
theorem dX6_isBlank_19 : decode cX6_isBlank 19 = .ok (.bipush 13, 2) := by decide +kernel
theorem dX6_isBlank_21 : decode cX6_isBlank 21 = .ok (.if_icmp .eq 9, 3) := by decide +kernel
theorem dX6_isBlank_24 : decode cX6_isBlank 24 = .ok (.iload_n 2, 1) := by decide +kernel
theorem dX6_isBlank_25 : decode cX6_isBlank 25 = .ok (.bipush 32, 2) := by decide +kernel
theorem dX6_isBlank_27 : decode cX6_isBlank 27 = .ok (.if_icmp .ne 7, 3) := by decide +kernel
theorem dX6_isBlank_30 : decode cX6_isBlank 30 = .ok (.iconst 1, 1) := by decide +kernel
theorem dX6_isBlank_31 : decode cX6_isBlank 31 = .ok (.goto 4, 3) := by decide +kernel
theorem dX6_isBlank_34 : decode cX6_isBlank 34 = .ok (.iconst 0, 1) := by decide +kernel
theorem dX6_isBlank_35 : decode cX6_isBlank 35 = .ok (.ireturn, 1) := by decide +kernel
def xX6_isBlank : zX := (RX6, cX6_isBlank, 3, (some .boolean), false, { frames := 2, cells := 0, slots := 0, locals := 111 }, 0, 0, 0, 0)
theorem rmX6_isBlank : z_Rm xX6_isBlank := by unfold z_Rm xX6_isBlank; exact ⟨by decide, by decide⟩
theorem reX6_isBlank : z_Re xX6_isBlank := ⟨rfl, rfl⟩
theorem rlX6_isBlank : 1 ≤ xX6_isBlank.2.2.2.2.2.1.frames ∧ 21 ≤ xX6_isBlank.2.2.2.2.2.1.locals := by unfold xX6_isBlank; exact ⟨by decide, by decide⟩
theorem meX6_isBlank : z_Me yX6_isBlank xX6_isBlank 1 := ⟨wd304, wd297, by decide, by decide, by decide +kernel⟩
theorem fitX6_isBlank_2 : z_Fit xX6_byteAt xX6_isBlank := by unfold z_Fit; simp only [xX6_byteAt, xX6_isBlank]; exact ⟨by decide, by decide⟩
noncomputable def kX6_isBlank_35 : zK zR := q_zret
noncomputable def kX6_isBlank_30 : zK zR := (q_push 1 kX6_isBlank_35)
noncomputable def kX6_isBlank_0 : zK zR := (q_aload 0 (q_iload 1 (q_callV 6 fX6_byteAt 1 (q_istore 2 (q_iload 2 (q_push 9 (q_icmp_eq kX6_isBlank_30 (q_iload 2 (q_push 10 (q_icmp_eq kX6_isBlank_30 (q_iload 2 (q_push 13 (q_icmp_eq kX6_isBlank_30 (q_iload 2 (q_push 32 (q_icmp_ne (q_push 0 kX6_isBlank_35) kX6_isBlank_30))))))))))))))))
set_option maxRecDepth 100000 in
theorem tX6_isBlank_35 {l : Launch} {D : zD} {B sz0 : Nat} {post : Option Value → zS → Prop} : zSnd l D B xX6_isBlank sz0 post 35 kX6_isBlank_35 (z_Jr post) := (s_zret dX6_isBlank_35 rfl)
set_option maxRecDepth 100000 in
theorem tX6_isBlank_30 {l : Launch} {D : zD} {B sz0 : Nat} {post : Option Value → zS → Prop} : zSnd l D B xX6_isBlank sz0 post 30 kX6_isBlank_30 (z_Jr post) := (s_iconst dX6_isBlank_30 (by decide) (s_goto (tgt := 35) dX6_isBlank_31 (by decide) tX6_isBlank_35))
set_option maxRecDepth 100000 in
theorem tX6_isBlank_0 {l : Launch} {D : zD} {B sz0 : Nat} {post : Option Value → zS → Prop} : zSnd l D B xX6_isBlank sz0 post 0 kX6_isBlank_0 (z_Jr post) := (s_aload_n dX6_isBlank_0 rfl (s_iload_n dX6_isBlank_1 rfl (s_callV (r := (RX6, TX6, 2)) dX6_isBlank_2 mX6_byteAt meX6_byteAt wd301 wd302 rfl rfl reX6_byteAt rmX6_isBlank (fitX6_isBlank_2) wd303 (s_istore_n dX6_isBlank_5 rfl (s_iload_n dX6_isBlank_6 rfl (s_bipush dX6_isBlank_7 (by decide) (s_icmp_eq (tgt := 30) dX6_isBlank_9 (by decide) tX6_isBlank_30 (s_iload_n dX6_isBlank_12 rfl (s_bipush dX6_isBlank_13 (by decide) (s_icmp_eq (tgt := 30) dX6_isBlank_15 (by decide) tX6_isBlank_30 (s_iload_n dX6_isBlank_18 rfl (s_bipush dX6_isBlank_19 (by decide) (s_icmp_eq (tgt := 30) dX6_isBlank_21 (by decide) tX6_isBlank_30 (s_iload_n dX6_isBlank_24 rfl (s_bipush dX6_isBlank_25 (by decide) (s_icmp_ne (tgt := 34) dX6_isBlank_27 (by decide) (s_iconst dX6_isBlank_34 (by decide) tX6_isBlank_35) tX6_isBlank_30))))))))))))))))
noncomputable def fX6_isBlank : zF := z_fn 3 kX6_isBlank_0
theorem mX6_isBlank {l : Launch} {D : zD} {B : Nat} : z_MF l D B yX6_isBlank xX6_isBlank fX6_isBlank := z_mf (by decide) rfl (fun h => by cases h) rfl (fun as σ r h => ⟨z_fn_len h, kX6_isBlank_0, z_fn_run h, fun _ => tX6_isBlank_0⟩)
/-! ===== RowChildren$Tape.isLetter ===== -/
theorem dX6_isLetter_0 : decode cX6_isLetter 0 = .ok (.aload_n 0, 1) := by decide +kernel
theorem dX6_isLetter_1 : decode cX6_isLetter 1 = .ok (.iload_n 1, 1) := by decide +kernel
theorem dX6_isLetter_2 : decode cX6_isLetter 2 = .ok (.invokevirtual 19, 3) := by decide +kernel
theorem dX6_isLetter_5 : decode cX6_isLetter 5 = .ok (.istore_n 2, 1) := by decide +kernel
theorem dX6_isLetter_6 : decode cX6_isLetter 6 = .ok (.iload_n 2, 1) := by decide +kernel
theorem dX6_isLetter_7 : decode cX6_isLetter 7 = .ok (.bipush 97, 2) := by decide +kernel
theorem dX6_isLetter_9 : decode cX6_isLetter 9 = .ok (.if_icmp .lt 13, 3) := by decide +kernel
theorem dX6_isLetter_12 : decode cX6_isLetter 12 = .ok (.iload_n 2, 1) := by decide +kernel
theorem dX6_isLetter_13 : decode cX6_isLetter 13 = .ok (.bipush 122, 2) := by decide +kernel
theorem dX6_isLetter_15 : decode cX6_isLetter 15 = .ok (.if_icmp .gt 7, 3) := by decide +kernel
theorem dX6_isLetter_18 : decode cX6_isLetter 18 = .ok (.iconst 1, 1) := by decide +kernel
theorem dX6_isLetter_19 : decode cX6_isLetter 19 = .ok (.goto 4, 3) := by decide +kernel
theorem dX6_isLetter_22 : decode cX6_isLetter 22 = .ok (.iconst 0, 1) := by decide +kernel
theorem dX6_isLetter_23 : decode cX6_isLetter 23 = .ok (.ireturn, 1) := by decide +kernel
def xX6_isLetter : zX := (RX6, cX6_isLetter, 3, (some .boolean), false, { frames := 2, cells := 0, slots := 0, locals := 111 }, 0, 0, 0, 0)
theorem rmX6_isLetter : z_Rm xX6_isLetter := by unfold z_Rm xX6_isLetter; exact ⟨by decide, by decide⟩
theorem reX6_isLetter : z_Re xX6_isLetter := ⟨rfl, rfl⟩
theorem rlX6_isLetter : 1 ≤ xX6_isLetter.2.2.2.2.2.1.frames ∧ 21 ≤ xX6_isLetter.2.2.2.2.2.1.locals := by unfold xX6_isLetter; exact ⟨by decide, by decide⟩
theorem meX6_isLetter : z_Me yX6_isLetter xX6_isLetter 1 := ⟨wd305, wd297, by decide, by decide, by decide +kernel⟩
theorem fitX6_isLetter_2 : z_Fit xX6_byteAt xX6_isLetter := by unfold z_Fit; simp only [xX6_byteAt, xX6_isLetter]; exact ⟨by decide, by decide⟩
noncomputable def kX6_isLetter_23 : zK zR := q_zret
noncomputable def kX6_isLetter_22 : zK zR := (q_push 0 kX6_isLetter_23)
noncomputable def kX6_isLetter_0 : zK zR := (q_aload 0 (q_iload 1 (q_callV 6 fX6_byteAt 1 (q_istore 2 (q_iload 2 (q_push 97 (q_icmp_lt kX6_isLetter_22 (q_iload 2 (q_push 122 (q_icmp_gt kX6_isLetter_22 (q_push 1 kX6_isLetter_23)))))))))))
set_option maxRecDepth 100000 in
theorem tX6_isLetter_23 {l : Launch} {D : zD} {B sz0 : Nat} {post : Option Value → zS → Prop} : zSnd l D B xX6_isLetter sz0 post 23 kX6_isLetter_23 (z_Jr post) := (s_zret dX6_isLetter_23 rfl)
set_option maxRecDepth 100000 in
theorem tX6_isLetter_22 {l : Launch} {D : zD} {B sz0 : Nat} {post : Option Value → zS → Prop} : zSnd l D B xX6_isLetter sz0 post 22 kX6_isLetter_22 (z_Jr post) := (s_iconst dX6_isLetter_22 (by decide) tX6_isLetter_23)
set_option maxRecDepth 100000 in
theorem tX6_isLetter_0 {l : Launch} {D : zD} {B sz0 : Nat} {post : Option Value → zS → Prop} : zSnd l D B xX6_isLetter sz0 post 0 kX6_isLetter_0 (z_Jr post) := (s_aload_n dX6_isLetter_0 rfl (s_iload_n dX6_isLetter_1 rfl (s_callV (r := (RX6, TX6, 2)) dX6_isLetter_2 mX6_byteAt meX6_byteAt wd301 wd302 rfl rfl reX6_byteAt rmX6_isLetter (fitX6_isLetter_2) wd303 (s_istore_n dX6_isLetter_5 rfl (s_iload_n dX6_isLetter_6 rfl (s_bipush dX6_isLetter_7 (by decide) (s_icmp_lt (tgt := 22) dX6_isLetter_9 (by decide) tX6_isLetter_22 (s_iload_n dX6_isLetter_12 rfl (s_bipush dX6_isLetter_13 (by decide) (s_icmp_gt (tgt := 22) dX6_isLetter_15 (by decide) tX6_isLetter_22 (s_iconst dX6_isLetter_18 (by decide) (s_goto (tgt := 23) dX6_isLetter_19 (by decide) tX6_isLetter_23))))))))))))
noncomputable def fX6_isLetter : zF := z_fn 3 kX6_isLetter_0
theorem mX6_isLetter {l : Launch} {D : zD} {B : Nat} : z_MF l D B yX6_isLetter xX6_isLetter fX6_isLetter := z_mf (by decide) rfl (fun h => by cases h) rfl (fun as σ r h => ⟨z_fn_len h, kX6_isLetter_0, z_fn_run h, fun _ => tX6_isLetter_0⟩)
/-! ===== RowChildren$Tape.isDigit ===== -/
theorem dX6_isDigit_0 : decode cX6_isDigit 0 = .ok (.aload_n 0, 1) := by decide +kernel
theorem dX6_isDigit_1 : decode cX6_isDigit 1 = .ok (.iload_n 1, 1) := by decide +kernel
theorem dX6_isDigit_2 : decode cX6_isDigit 2 = .ok (.invokevirtual 19, 3) := by decide +kernel
theorem dX6_isDigit_5 : decode cX6_isDigit 5 = .ok (.istore_n 2, 1) := by decide +kernel
theorem dX6_isDigit_6 : decode cX6_isDigit 6 = .ok (.iload_n 2, 1) := by decide +kernel
theorem dX6_isDigit_7 : decode cX6_isDigit 7 = .ok (.bipush 48, 2) := by decide +kernel
theorem dX6_isDigit_9 : decode cX6_isDigit 9 = .ok (.if_icmp .lt 13, 3) := by decide +kernel
theorem dX6_isDigit_12 : decode cX6_isDigit 12 = .ok (.iload_n 2, 1) := by decide +kernel
theorem dX6_isDigit_13 : decode cX6_isDigit 13 = .ok (.bipush 57, 2) := by decide +kernel
theorem dX6_isDigit_15 : decode cX6_isDigit 15 = .ok (.if_icmp .gt 7, 3) := by decide +kernel
theorem dX6_isDigit_18 : decode cX6_isDigit 18 = .ok (.iconst 1, 1) := by decide +kernel
theorem dX6_isDigit_19 : decode cX6_isDigit 19 = .ok (.goto 4, 3) := by decide +kernel
theorem dX6_isDigit_22 : decode cX6_isDigit 22 = .ok (.iconst 0, 1) := by decide +kernel
theorem dX6_isDigit_23 : decode cX6_isDigit 23 = .ok (.ireturn, 1) := by decide +kernel
def xX6_isDigit : zX := (RX6, cX6_isDigit, 3, (some .boolean), false, { frames := 2, cells := 0, slots := 0, locals := 111 }, 0, 0, 0, 0)
theorem rmX6_isDigit : z_Rm xX6_isDigit := by unfold z_Rm xX6_isDigit; exact ⟨by decide, by decide⟩
theorem reX6_isDigit : z_Re xX6_isDigit := ⟨rfl, rfl⟩
theorem rlX6_isDigit : 1 ≤ xX6_isDigit.2.2.2.2.2.1.frames ∧ 21 ≤ xX6_isDigit.2.2.2.2.2.1.locals := by unfold xX6_isDigit; exact ⟨by decide, by decide⟩
theorem meX6_isDigit : z_Me yX6_isDigit xX6_isDigit 1 := ⟨wd306, wd297, by decide, by decide, by decide +kernel⟩
theorem fitX6_isDigit_2 : z_Fit xX6_byteAt xX6_isDigit := by unfold z_Fit; simp only [xX6_byteAt, xX6_isDigit]; exact ⟨by decide, by decide⟩
noncomputable def kX6_isDigit_23 : zK zR := q_zret
noncomputable def kX6_isDigit_22 : zK zR := (q_push 0 kX6_isDigit_23)
noncomputable def kX6_isDigit_0 : zK zR := (q_aload 0 (q_iload 1 (q_callV 6 fX6_byteAt 1 (q_istore 2 (q_iload 2 (q_push 48 (q_icmp_lt kX6_isDigit_22 (q_iload 2 (q_push 57 (q_icmp_gt kX6_isDigit_22 (q_push 1 kX6_isDigit_23)))))))))))
set_option maxRecDepth 100000 in
theorem tX6_isDigit_23 {l : Launch} {D : zD} {B sz0 : Nat} {post : Option Value → zS → Prop} : zSnd l D B xX6_isDigit sz0 post 23 kX6_isDigit_23 (z_Jr post) := (s_zret dX6_isDigit_23 rfl)
set_option maxRecDepth 100000 in
theorem tX6_isDigit_22 {l : Launch} {D : zD} {B sz0 : Nat} {post : Option Value → zS → Prop} : zSnd l D B xX6_isDigit sz0 post 22 kX6_isDigit_22 (z_Jr post) := (s_iconst dX6_isDigit_22 (by decide) tX6_isDigit_23)
set_option maxRecDepth 100000 in
theorem tX6_isDigit_0 {l : Launch} {D : zD} {B sz0 : Nat} {post : Option Value → zS → Prop} : zSnd l D B xX6_isDigit sz0 post 0 kX6_isDigit_0 (z_Jr post) := (s_aload_n dX6_isDigit_0 rfl (s_iload_n dX6_isDigit_1 rfl (s_callV (r := (RX6, TX6, 2)) dX6_isDigit_2 mX6_byteAt meX6_byteAt wd301 wd302 rfl rfl reX6_byteAt rmX6_isDigit (fitX6_isDigit_2) wd303 (s_istore_n dX6_isDigit_5 rfl (s_iload_n dX6_isDigit_6 rfl (s_bipush dX6_isDigit_7 (by decide) (s_icmp_lt (tgt := 22) dX6_isDigit_9 (by decide) tX6_isDigit_22 (s_iload_n dX6_isDigit_12 rfl (s_bipush dX6_isDigit_13 (by decide) (s_icmp_gt (tgt := 22) dX6_isDigit_15 (by decide) tX6_isDigit_22 (s_iconst dX6_isDigit_18 (by decide) (s_goto (tgt := 23) dX6_isDigit_19 (by decide) tX6_isDigit_23))))))))))))
noncomputable def fX6_isDigit : zF := z_fn 3 kX6_isDigit_0
theorem mX6_isDigit {l : Launch} {D : zD} {B : Nat} : z_MF l D B yX6_isDigit xX6_isDigit fX6_isDigit := z_mf (by decide) rfl (fun h => by cases h) rfl (fun as σ r h => ⟨z_fn_len h, kX6_isDigit_0, z_fn_run h, fun _ => tX6_isDigit_0⟩)
/-! ===== RowChildren$Tokens.<init> ===== -/
theorem dX8_init_0 : decode cX8_init 0 = .ok (.aload_n 0, 1) := by decide +kernel
theorem dX8_init_1 : decode cX8_init 1 = .ok (.invokespecial 3, 3) := by decide +kernel
theorem dX8_init_4 : decode cX8_init 4 = .ok (.aload_n 0, 1) := by decide +kernel
theorem dX8_init_5 : decode cX8_init 5 = .ok (.sipush 401, 3) := by decide +kernel
theorem dX8_init_8 : decode cX8_init 8 = .ok (.newarray .int, 2) := by decide +kernel
theorem dX8_init_10 : decode cX8_init 10 = .ok (.putfield 9, 3) := by decide +kernel
theorem dX8_init_13 : decode cX8_init 13 = .ok (.aload_n 0, 1) := by decide +kernel
theorem dX8_init_14 : decode cX8_init 14 = .ok (.sipush 401, 3) := by decide +kernel
theorem dX8_init_17 : decode cX8_init 17 = .ok (.newarray .long, 2) := by decide +kernel
theorem dX8_init_19 : decode cX8_init 19 = .ok (.putfield 15, 3) := by decide +kernel
theorem dX8_init_22 : decode cX8_init 22 = .ok (.aload_n 0, 1) := by decide +kernel
theorem dX8_init_23 : decode cX8_init 23 = .ok (.sipush 401, 3) := by decide +kernel
theorem dX8_init_26 : decode cX8_init 26 = .ok (.newarray .int, 2) := by decide +kernel
theorem dX8_init_28 : decode cX8_init 28 = .ok (.putfield 19, 3) := by decide +kernel
theorem dX8_init_31 : decode cX8_init 31 = .ok (.return_, 1) := by decide +kernel
def xX8_init : zX := (RX8, cX8_init, 1, none, true, { frames := 1, cells := 3, slots := 6144, locals := 90 }, 3, 2048, 0, 0)
theorem rmX8_init : z_Rm xX8_init := by unfold z_Rm xX8_init; exact ⟨by decide, by decide⟩
theorem reX8_init : z_Re xX8_init := ⟨rfl, rfl⟩
theorem rlX8_init : 1 ≤ xX8_init.2.2.2.2.2.1.frames ∧ 21 ≤ xX8_init.2.2.2.2.2.1.locals := by unfold xX8_init; exact ⟨by decide, by decide⟩
theorem meX8_init : z_Me yX8_init xX8_init 0 := ⟨wd310, wd109, by decide, by decide, by decide +kernel⟩
noncomputable def kX8_init_0 (lim : Nat) : zK zR := (q_aload 0 (q_obj (q_aload 0 (q_push 401 (q_newa 0 2048 lim (q_putR 8 0 (q_aload 0 (q_push 401 (q_newa 3 2048 lim (q_putR 8 1 (q_aload 0 (q_push 401 (q_newa 0 2048 lim (q_putR 8 2 q_vret))))))))))))))
set_option maxRecDepth 100000 in
theorem tX8_init_0 {l : Launch} {D : zD} {B sz0 : Nat} {post : Option Value → zS → Prop} : zSnd l D B xX8_init sz0 post 0 (kX8_init_0 (sz0 + 3)) (z_Jr post) := (s_aload_n dX8_init_0 rfl (s_obj dX8_init_1 wd307 wd1 wd2 (by decide) (s_aload_n dX8_init_4 rfl (s_sipush dX8_init_5 (by decide) (s_newa (t := 0) dX8_init_8 (by decide) rfl wd3 rmX8_init rfl (by decide) rfl (s_putRF (f := 0) dX8_init_10 clX8 (by decide) rfl rfl rfl rfl (Or.inr ⟨_, rfl⟩) wd107 (s_aload_n dX8_init_13 rfl (s_sipush dX8_init_14 (by decide) (s_newa (t := 3) dX8_init_17 (by decide) rfl wd308 rmX8_init rfl (by decide) rfl (s_putRF (f := 1) dX8_init_19 clX8 (by decide) rfl rfl rfl rfl (Or.inr ⟨_, rfl⟩) wd114 (s_aload_n dX8_init_22 rfl (s_sipush dX8_init_23 (by decide) (s_newa (t := 0) dX8_init_26 (by decide) rfl wd3 rmX8_init rfl (by decide) rfl (s_putRF (f := 2) dX8_init_28 clX8 (by decide) rfl rfl rfl rfl (Or.inr ⟨_, rfl⟩) wd309 (s_vret dX8_init_31 rfl)))))))))))))))
noncomputable def fX8_init : zF := fun as σ => z_fn 1 (kX8_init_0 (z_sz σ + 3)) as σ
theorem mX8_init {l : Launch} {D : zD} {B : Nat} : z_MF l D B yX8_init xX8_init fX8_init := z_mf (by decide) rfl (fun _ => rfl) rfl (fun as σ r h => ⟨z_fn_len h, kX8_init_0 (z_sz σ + 3), z_fn_run h, fun _ => tX8_init_0⟩)
/-! ===== RowChildren$Text.tellNothing ===== -/
theorem dX7_tellNothing_0 : decode cX7_tellNothing 0 = .ok (.aload_n 0, 1) := by decide +kernel
theorem dX7_tellNothing_1 : decode cX7_tellNothing 1 = .ok (.iconst 0, 1) := by decide +kernel
theorem dX7_tellNothing_2 : decode cX7_tellNothing 2 = .ok (.putfield 53, 3) := by decide +kernel
theorem dX7_tellNothing_5 : decode cX7_tellNothing 5 = .ok (.aload_n 0, 1) := by decide +kernel
theorem dX7_tellNothing_6 : decode cX7_tellNothing 6 = .ok (.iconst (-1), 1) := by decide +kernel
theorem dX7_tellNothing_7 : decode cX7_tellNothing 7 = .ok (.putfield 66, 3) := by decide +kernel
theorem dX7_tellNothing_10 : decode cX7_tellNothing 10 = .ok (.aload_n 0, 1) := by decide +kernel
theorem dX7_tellNothing_11 : decode cX7_tellNothing 11 = .ok (.iconst 0, 1) := by decide +kernel
theorem dX7_tellNothing_12 : decode cX7_tellNothing 12 = .ok (.putfield 80, 3) := by decide +kernel
theorem dX7_tellNothing_15 : decode cX7_tellNothing 15 = .ok (.aload_n 0, 1) := by decide +kernel
theorem dX7_tellNothing_16 : decode cX7_tellNothing 16 = .ok (.iconst 0, 1) := by decide +kernel
theorem dX7_tellNothing_17 : decode cX7_tellNothing 17 = .ok (.putfield 69, 3) := by decide +kernel
theorem dX7_tellNothing_20 : decode cX7_tellNothing 20 = .ok (.aload_n 0, 1) := by decide +kernel
theorem dX7_tellNothing_21 : decode cX7_tellNothing 21 = .ok (.getfield 28, 3) := by decide +kernel
theorem dX7_tellNothing_24 : decode cX7_tellNothing 24 = .ok (.invokevirtual 83, 3) := by decide +kernel
theorem dX7_tellNothing_27 : decode cX7_tellNothing 27 = .ok (.aload_n 0, 1) := by decide +kernel
theorem dX7_tellNothing_28 : decode cX7_tellNothing 28 = .ok (.getfield 21, 3) := by decide +kernel
theorem dX7_tellNothing_31 : decode cX7_tellNothing 31 = .ok (.invokevirtual 86, 3) := by decide +kernel
theorem dX7_tellNothing_34 : decode cX7_tellNothing 34 = .ok (.iconst 0, 1) := by decide +kernel
theorem dX7_tellNothing_35 : decode cX7_tellNothing 35 = .ok (.istore_n 1, 1) := by decide +kernel
theorem dX7_tellNothing_36 : decode cX7_tellNothing 36 = .ok (.iload_n 1, 1) := by decide +kernel
theorem dX7_tellNothing_37 : decode cX7_tellNothing 37 = .ok (.iconst 4, 1) := by decide +kernel
theorem dX7_tellNothing_38 : decode cX7_tellNothing 38 = .ok (.if_icmp .ge 16, 3) := by decide +kernel
theorem dX7_tellNothing_41 : decode cX7_tellNothing 41 = .ok (.aload_n 0, 1) := by decide +kernel
theorem dX7_tellNothing_42 : decode cX7_tellNothing 42 = .ok (.getfield 32, 3) := by decide +kernel
theorem dX7_tellNothing_45 : decode cX7_tellNothing 45 = .ok (.iload_n 1, 1) := by decide +kernel
theorem dX7_tellNothing_46 : decode cX7_tellNothing 46 = .ok (.iconst (-1), 1) := by decide +kernel
theorem dX7_tellNothing_47 : decode cX7_tellNothing 47 = .ok (.iastore, 1) := by decide +kernel
theorem dX7_tellNothing_48 : decode cX7_tellNothing 48 = .ok (.iinc 1 1, 3) := by decide +kernel
theorem dX7_tellNothing_51 : decode cX7_tellNothing 51 = .ok (.goto (-15), 3) := by decide +kernel
theorem dX7_tellNothing_54 : decode cX7_tellNothing 54 = .ok (.return_, 1) := by decide +kernel
def xX7_tellNothing : zX := (RX7, cX7_tellNothing, 2, none, false, { frames := 2, cells := 0, slots := 0, locals := 111 }, 0, 0, 0, 0)
theorem rmX7_tellNothing : z_Rm xX7_tellNothing := by unfold z_Rm xX7_tellNothing; exact ⟨by decide, by decide⟩
theorem reX7_tellNothing : z_Re xX7_tellNothing := ⟨rfl, rfl⟩
theorem rlX7_tellNothing : 1 ≤ xX7_tellNothing.2.2.2.2.2.1.frames ∧ 21 ≤ xX7_tellNothing.2.2.2.2.2.1.locals := by unfold xX7_tellNothing; exact ⟨by decide, by decide⟩
theorem meX7_tellNothing : z_Me yX7_tellNothing xX7_tellNothing 0 := ⟨wd324, wd111, by decide, by decide, by decide +kernel⟩
theorem fitX7_tellNothing_24 : z_Fit xX1_clear xX7_tellNothing := by unfold z_Fit; simp only [xX1_clear, xX7_tellNothing]; exact ⟨by decide, by decide⟩
theorem fitX7_tellNothing_31 : z_Fit xX5_clear xX7_tellNothing := by unfold z_Fit; simp only [xX5_clear, xX7_tellNothing]; exact ⟨by decide, by decide⟩
noncomputable def kX7_tellNothing_54 : zK zR := q_vret
noncomputable def bX7_tellNothing_36 : zK ((zL × zS) ⊕ zR) := (q_iload 1 (q_push 4 (q_icmp_ge (q_dn kX7_tellNothing_54) (q_aload 0 (q_getR 7 3 (q_iload 1 (q_push (-1) (q_iast (q_iinc 1 1 q_ag)))))))))
noncomputable def kX7_tellNothing_36 : zK zR := q_lp (bX7_tellNothing_36)
noncomputable def kX7_tellNothing_0 : zK zR := (q_aload 0 (q_push 0 (q_putI 7 6 (q_aload 0 (q_push (-1) (q_putI 7 7 (q_aload 0 (q_push 0 (q_putI 7 5 (q_aload 0 (q_push 0 (q_putI 7 9 (q_aload 0 (q_getR 7 2 (q_callV 1 fX1_clear 0 (q_aload 0 (q_getR 7 1 (q_callV 5 fX5_clear 0 (q_push 0 (q_istore 1 kX7_tellNothing_36))))))))))))))))))))
set_option maxRecDepth 100000 in
theorem tX7_tellNothing_54 {l : Launch} {D : zD} {B sz0 : Nat} {post : Option Value → zS → Prop} : zSnd l D B xX7_tellNothing sz0 post 54 kX7_tellNothing_54 (z_Jr post) := (s_vret dX7_tellNothing_54 rfl)
set_option maxRecDepth 100000 in
theorem tX7_tellNothing_36 {l : Launch} {D : zD} {B sz0 : Nat} {post : Option Value → zS → Prop} : zSnd l D B xX7_tellNothing sz0 post 36 kX7_tellNothing_36 (z_Jr post) := s_lp (body := bX7_tellNothing_36) (s_iload_n dX7_tellNothing_36 rfl (s_iconst dX7_tellNothing_37 (by decide) (s_icmp_ge (tgt := 54) dX7_tellNothing_38 (by decide) (s_dn tX7_tellNothing_54) (s_aload_n dX7_tellNothing_41 rfl (s_getR (f := 3) dX7_tellNothing_42 clX7 (by decide) rfl wd323 (s_iload_n dX7_tellNothing_45 rfl (s_iconst dX7_tellNothing_46 (by decide) (s_iast dX7_tellNothing_47 (s_iinc dX7_tellNothing_48 (by decide) (s_goto (tgt := 36) dX7_tellNothing_51 (by decide) s_ag))))))))))
set_option maxRecDepth 100000 in
theorem tX7_tellNothing_0 {l : Launch} {D : zD} {B sz0 : Nat} {post : Option Value → zS → Prop} : zSnd l D B xX7_tellNothing sz0 post 0 kX7_tellNothing_0 (z_Jr post) := (s_aload_n dX7_tellNothing_0 rfl (s_iconst dX7_tellNothing_1 (by decide) (s_putI (f := 6) dX7_tellNothing_2 clX7 (by decide) rfl rfl rfl wd311 (s_aload_n dX7_tellNothing_5 rfl (s_iconst dX7_tellNothing_6 (by decide) (s_putI (f := 7) dX7_tellNothing_7 clX7 (by decide) rfl rfl rfl wd312 (s_aload_n dX7_tellNothing_10 rfl (s_iconst dX7_tellNothing_11 (by decide) (s_putI (f := 5) dX7_tellNothing_12 clX7 (by decide) rfl rfl rfl wd313 (s_aload_n dX7_tellNothing_15 rfl (s_iconst dX7_tellNothing_16 (by decide) (s_putI (f := 9) dX7_tellNothing_17 clX7 (by decide) rfl rfl rfl wd314 (s_aload_n dX7_tellNothing_20 rfl (s_getR (f := 2) dX7_tellNothing_21 clX7 (by decide) rfl wd315 (s_callV (r := (RX1, TX1, 5)) dX7_tellNothing_24 mX1_clear meX1_clear wd316 wd317 rfl rfl reX1_clear rmX7_tellNothing (fitX7_tellNothing_24) wd318 (s_aload_n dX7_tellNothing_27 rfl (s_getR (f := 1) dX7_tellNothing_28 clX7 (by decide) rfl wd319 (s_callV (r := (RX5, TX5, 7)) dX7_tellNothing_31 mX5_clear meX5_clear wd320 wd321 rfl rfl reX5_clear rmX7_tellNothing (fitX7_tellNothing_31) wd322 (s_iconst dX7_tellNothing_34 (by decide) (s_istore_n dX7_tellNothing_35 rfl tX7_tellNothing_36))))))))))))))))))))
noncomputable def fX7_tellNothing : zF := z_fn 2 kX7_tellNothing_0
theorem mX7_tellNothing {l : Launch} {D : zD} {B : Nat} : z_MF l D B yX7_tellNothing xX7_tellNothing fX7_tellNothing := z_mf (by decide) rfl (fun h => by cases h) rfl (fun as σ r h => ⟨z_fn_len h, kX7_tellNothing_0, z_fn_run h, fun _ => tX7_tellNothing_0⟩)
/-! ===== RowChildren$Text.<init> ===== -/
theorem dX7_init_0 : decode cX7_init 0 = .ok (.aload_n 0, 1) := by decide +kernel
theorem dX7_init_1 : decode cX7_init 1 = .ok (.invokespecial 3, 3) := by decide +kernel
theorem dX7_init_4 : decode cX7_init 4 = .ok (.aload_n 0, 1) := by decide +kernel
theorem dX7_init_5 : decode cX7_init 5 = .ok (.new 9, 3) := by decide +kernel
theorem dX7_init_8 : decode cX7_init 8 = .ok (.dup, 1) := by decide +kernel
theorem dX7_init_9 : decode cX7_init 9 = .ok (.invokespecial 11, 3) := by decide +kernel
theorem dX7_init_12 : decode cX7_init 12 = .ok (.putfield 12, 3) := by decide +kernel
theorem dX7_init_15 : decode cX7_init 15 = .ok (.aload_n 0, 1) := by decide +kernel
theorem dX7_init_16 : decode cX7_init 16 = .ok (.new 18, 3) := by decide +kernel
theorem dX7_init_19 : decode cX7_init 19 = .ok (.dup, 1) := by decide +kernel
theorem dX7_init_20 : decode cX7_init 20 = .ok (.invokespecial 20, 3) := by decide +kernel
theorem dX7_init_23 : decode cX7_init 23 = .ok (.putfield 21, 3) := by decide +kernel
theorem dX7_init_26 : decode cX7_init 26 = .ok (.aload_n 0, 1) := by decide +kernel
theorem dX7_init_27 : decode cX7_init 27 = .ok (.new 25, 3) := by decide +kernel
theorem dX7_init_30 : decode cX7_init 30 = .ok (.dup, 1) := by decide +kernel
theorem dX7_init_31 : decode cX7_init 31 = .ok (.invokespecial 27, 3) := by decide +kernel
theorem dX7_init_34 : decode cX7_init 34 = .ok (.putfield 28, 3) := by decide +kernel
theorem dX7_init_37 : decode cX7_init 37 = .ok (.aload_n 0, 1) := by decide +kernel
theorem dX7_init_38 : decode cX7_init 38 = .ok (.iconst 4, 1) := by decide +kernel
theorem dX7_init_39 : decode cX7_init 39 = .ok (.newarray .int, 2) := by decide +kernel
theorem dX7_init_41 : decode cX7_init 41 = .ok (.putfield 32, 3) := by decide +kernel
theorem dX7_init_44 : decode cX7_init 44 = .ok (.aload_n 0, 1) := by decide +kernel
theorem dX7_init_45 : decode cX7_init 45 = .ok (.iconst 4, 1) := by decide +kernel
theorem dX7_init_46 : decode cX7_init 46 = .ok (.newarray .long, 2) := by decide +kernel
theorem dX7_init_48 : decode cX7_init 48 = .ok (.putfield 36, 3) := by decide +kernel
theorem dX7_init_51 : decode cX7_init 51 = .ok (.aload_n 0, 1) := by decide +kernel
theorem dX7_init_52 : decode cX7_init 52 = .ok (.invokevirtual 40, 3) := by decide +kernel
theorem dX7_init_55 : decode cX7_init 55 = .ok (.aload_n 0, 1) := by decide +kernel
theorem dX7_init_56 : decode cX7_init 56 = .ok (.getfield 21, 3) := by decide +kernel
theorem dX7_init_59 : decode cX7_init 59 = .ok (.invokevirtual 43, 3) := by decide +kernel
theorem dX7_init_62 : decode cX7_init 62 = .ok (.return_, 1) := by decide +kernel
def xX7_init : zX := (RX7, cX7_init, 1, none, true, { frames := 3, cells := 14, slots := 28672, locals := 135 }, 14, 2048, 0, 0)
theorem rmX7_init : z_Rm xX7_init := by unfold z_Rm xX7_init; exact ⟨by decide, by decide⟩
theorem reX7_init : z_Re xX7_init := ⟨rfl, rfl⟩
theorem rlX7_init : 1 ≤ xX7_init.2.2.2.2.2.1.frames ∧ 21 ≤ xX7_init.2.2.2.2.2.1.locals := by unfold xX7_init; exact ⟨by decide, by decide⟩
theorem meX7_init : z_Me yX7_init xX7_init 0 := ⟨wd341, wd111, by decide, by decide, by decide +kernel⟩
theorem fitX7_init_9 : z_Fit xX8_init xX7_init := by unfold z_Fit; simp only [xX8_init, xX7_init]; exact ⟨by decide, by decide⟩
theorem fitX7_init_20 : z_Fit xX5_init xX7_init := by unfold z_Fit; simp only [xX5_init, xX7_init]; exact ⟨by decide, by decide⟩
theorem fitX7_init_31 : z_Fit xX1_init xX7_init := by unfold z_Fit; simp only [xX1_init, xX7_init]; exact ⟨by decide, by decide⟩
theorem fitX7_init_52 : z_Fit xX7_tellNothing xX7_init := by unfold z_Fit; simp only [xX7_tellNothing, xX7_init]; exact ⟨by decide, by decide⟩
theorem fitX7_init_59 : z_Fit xX5_fillGaps xX7_init := by unfold z_Fit; simp only [xX5_fillGaps, xX7_init]; exact ⟨by decide, by decide⟩
noncomputable def kX7_init_0 (lim : Nat) : zK zR := (q_aload 0 (q_obj (q_aload 0 (q_new 8 lim (q_dup (q_ctor fX8_init 0 3 lim (q_putR 7 0 (q_aload 0 (q_new 5 lim (q_dup (q_ctor fX5_init 0 4 lim (q_putR 7 1 (q_aload 0 (q_new 1 lim (q_dup (q_ctor fX1_init 0 2 lim (q_putR 7 2 (q_aload 0 (q_push 4 (q_newa 0 2048 lim (q_putR 7 3 (q_aload 0 (q_push 4 (q_newa 3 2048 lim (q_putR 7 4 (q_aload 0 (q_callV 7 fX7_tellNothing 0 (q_aload 0 (q_getR 7 1 (q_callV 5 fX5_fillGaps 0 q_vret))))))))))))))))))))))))))))))
set_option maxRecDepth 100000 in
theorem tX7_init_0 {l : Launch} {D : zD} {B sz0 : Nat} {post : Option Value → zS → Prop} : zSnd l D B xX7_init sz0 post 0 (kX7_init_0 (sz0 + 14)) (z_Jr post) := (s_aload_n dX7_init_0 rfl (s_obj dX7_init_1 wd325 wd1 wd2 (by decide) (s_aload_n dX7_init_4 rfl (s_new dX7_init_5 clX8 dfX8 wd326 wd327 wd109 rmX7_init (by decide) rfl (s_dup dX7_init_8 (s_ctorN (host := RX11) dX7_init_9 mX8_init meX8_init wd328 rfl rfl reX8_init rmX7_init (fitX7_init_9) rfl (by decide) rfl neX7_11 (s_putRF (f := 0) dX7_init_12 clX7 (by decide) rfl rfl rfl rfl (Or.inl ⟨_, rfl⟩) wd329 (s_aload_n dX7_init_15 rfl (s_new dX7_init_16 clX5 dfX5 wd330 wd331 wd236 rmX7_init (by decide) rfl (s_dup dX7_init_19 (s_ctorN (host := RX11) dX7_init_20 mX5_init meX5_init wd332 rfl rfl reX5_init rmX7_init (fitX7_init_20) rfl (by decide) rfl neX7_20 (s_putRF (f := 1) dX7_init_23 clX7 (by decide) rfl rfl rfl rfl (Or.inl ⟨_, rfl⟩) wd319 (s_aload_n dX7_init_26 rfl (s_new dX7_init_27 clX1 dfX1 wd333 wd163 wd51 rmX7_init (by decide) rfl (s_dup dX7_init_30 (s_ctorN (host := RX11) dX7_init_31 mX1_init meX1_init wd164 rfl rfl reX1_init rmX7_init (fitX7_init_31) rfl (by decide) rfl neX7_27 (s_putRF (f := 2) dX7_init_34 clX7 (by decide) rfl rfl rfl rfl (Or.inl ⟨_, rfl⟩) wd315 (s_aload_n dX7_init_37 rfl (s_iconst dX7_init_38 (by decide) (s_newa (t := 0) dX7_init_39 (by decide) rfl wd3 rmX7_init rfl (by decide) rfl (s_putRF (f := 3) dX7_init_41 clX7 (by decide) rfl rfl rfl rfl (Or.inr ⟨_, rfl⟩) wd323 (s_aload_n dX7_init_44 rfl (s_iconst dX7_init_45 (by decide) (s_newa (t := 3) dX7_init_46 (by decide) rfl wd308 rmX7_init rfl (by decide) rfl (s_putRF (f := 4) dX7_init_48 clX7 (by decide) rfl rfl rfl rfl (Or.inr ⟨_, rfl⟩) wd334 (s_aload_n dX7_init_51 rfl (s_callV (r := (RX7, TX7, 10)) dX7_init_52 mX7_tellNothing meX7_tellNothing wd335 wd336 rfl rfl reX7_tellNothing rmX7_init (fitX7_init_52) wd337 (s_aload_n dX7_init_55 rfl (s_getR (f := 1) dX7_init_56 clX7 (by decide) rfl wd319 (s_callV (r := (RX5, TX5, 7)) dX7_init_59 mX5_fillGaps meX5_fillGaps wd338 wd339 rfl rfl reX5_fillGaps rmX7_init (fitX7_init_59) wd340 (s_vret dX7_init_62 rfl)))))))))))))))))))))))))))))))
noncomputable def fX7_init : zF := fun as σ => z_fn 1 (kX7_init_0 (z_sz σ + 14)) as σ
theorem mX7_init {l : Launch} {D : zD} {B : Nat} : z_MF l D B yX7_init xX7_init fX7_init := z_mf (by decide) rfl (fun _ => rfl) rfl (fun as σ r h => ⟨z_fn_len h, kX7_init_0 (z_sz σ + 14), z_fn_run h, fun _ => tX7_init_0⟩)
/-! ===== RowChildren$Tokens.pastBlanks ===== -/
theorem dX8_pastBlanks_0 : decode cX8_pastBlanks 0 = .ok (.iload_n 1, 1) := by decide +kernel
theorem dX8_pastBlanks_1 : decode cX8_pastBlanks 1 = .ok (.istore_n 2, 1) := by decide +kernel
theorem dX8_pastBlanks_2 : decode cX8_pastBlanks 2 = .ok (.iload_n 2, 1) := by decide +kernel
theorem dX8_pastBlanks_3 : decode cX8_pastBlanks 3 = .ok (.aload_n 0, 1) := by decide +kernel
theorem dX8_pastBlanks_4 : decode cX8_pastBlanks 4 = .ok (.getfield 41, 3) := by decide +kernel
theorem dX8_pastBlanks_7 : decode cX8_pastBlanks 7 = .ok (.if_icmp .ge 17, 3) := by decide +kernel
theorem dX8_pastBlanks_10 : decode cX8_pastBlanks 10 = .ok (.aload_n 0, 1) := by decide +kernel
theorem dX8_pastBlanks_11 : decode cX8_pastBlanks 11 = .ok (.iload_n 2, 1) := by decide +kernel
theorem dX8_pastBlanks_12 : decode cX8_pastBlanks 12 = .ok (.invokevirtual 46, 3) := by decide +kernel
theorem dX8_pastBlanks_15 : decode cX8_pastBlanks 15 = .ok (.ifCond .eq 9, 3) := by decide +kernel
theorem dX8_pastBlanks_18 : decode cX8_pastBlanks 18 = .ok (.iinc 2 1, 3) := by decide +kernel
theorem dX8_pastBlanks_21 : decode cX8_pastBlanks 21 = .ok (.goto (-19), 3) := by decide +kernel
theorem dX8_pastBlanks_24 : decode cX8_pastBlanks 24 = .ok (.iload_n 2, 1) := by decide +kernel
theorem dX8_pastBlanks_25 : decode cX8_pastBlanks 25 = .ok (.ireturn, 1) := by decide +kernel
def xX8_pastBlanks : zX := (RX8, cX8_pastBlanks, 3, (some .int), false, { frames := 3, cells := 0, slots := 0, locals := 133 }, 0, 0, 0, 0)
theorem rmX8_pastBlanks : z_Rm xX8_pastBlanks := by unfold z_Rm xX8_pastBlanks; exact ⟨by decide, by decide⟩
theorem reX8_pastBlanks : z_Re xX8_pastBlanks := ⟨rfl, rfl⟩
theorem rlX8_pastBlanks : 1 ≤ xX8_pastBlanks.2.2.2.2.2.1.frames ∧ 21 ≤ xX8_pastBlanks.2.2.2.2.2.1.locals := by unfold xX8_pastBlanks; exact ⟨by decide, by decide⟩
theorem meX8_pastBlanks : z_Me yX8_pastBlanks xX8_pastBlanks 2 := ⟨wd346, wd109, by decide, by decide, by decide +kernel⟩
theorem fitX8_pastBlanks_12 : z_Fit xX6_isBlank xX8_pastBlanks := by unfold z_Fit; simp only [xX6_isBlank, xX8_pastBlanks]; exact ⟨by decide, by decide⟩
noncomputable def kX8_pastBlanks_24 : zK zR := (q_iload 2 q_iret)
noncomputable def bX8_pastBlanks_2 : zK ((zL × zS) ⊕ zR) := (q_iload 2 (q_aload 0 (q_getI 6 1 (q_icmp_ge (q_dn kX8_pastBlanks_24) (q_aload 0 (q_iload 2 (q_callV 6 fX6_isBlank 1 (q_if_eq (q_dn kX8_pastBlanks_24) (q_iinc 2 1 q_ag)))))))))
noncomputable def kX8_pastBlanks_2 : zK zR := q_lp (bX8_pastBlanks_2)
noncomputable def kX8_pastBlanks_0 : zK zR := (q_iload 1 (q_istore 2 kX8_pastBlanks_2))
set_option maxRecDepth 100000 in
theorem tX8_pastBlanks_24 {l : Launch} {D : zD} {B sz0 : Nat} {post : Option Value → zS → Prop} : zSnd l D B xX8_pastBlanks sz0 post 24 kX8_pastBlanks_24 (z_Jr post) := (s_iload_n dX8_pastBlanks_24 rfl (s_iret dX8_pastBlanks_25 rfl))
set_option maxRecDepth 100000 in
theorem tX8_pastBlanks_2 {l : Launch} {D : zD} {B sz0 : Nat} {post : Option Value → zS → Prop} : zSnd l D B xX8_pastBlanks sz0 post 2 kX8_pastBlanks_2 (z_Jr post) := s_lp (body := bX8_pastBlanks_2) (s_iload_n dX8_pastBlanks_2 rfl (s_aload_n dX8_pastBlanks_3 rfl (s_getI (f := 1) dX8_pastBlanks_4 clX6 (by decide) rfl wd342 (s_icmp_ge (tgt := 24) dX8_pastBlanks_7 (by decide) (s_dn tX8_pastBlanks_24) (s_aload_n dX8_pastBlanks_10 rfl (s_iload_n dX8_pastBlanks_11 rfl (s_callV (r := (RX6, TX6, 2)) dX8_pastBlanks_12 mX6_isBlank meX6_isBlank wd343 wd344 rfl rfl reX6_isBlank rmX8_pastBlanks (fitX8_pastBlanks_12) wd345 (s_if_eq (tgt := 24) dX8_pastBlanks_15 (by decide) (s_dn tX8_pastBlanks_24) (s_iinc dX8_pastBlanks_18 (by decide) (s_goto (tgt := 2) dX8_pastBlanks_21 (by decide) s_ag))))))))))
set_option maxRecDepth 100000 in
theorem tX8_pastBlanks_0 {l : Launch} {D : zD} {B sz0 : Nat} {post : Option Value → zS → Prop} : zSnd l D B xX8_pastBlanks sz0 post 0 kX8_pastBlanks_0 (z_Jr post) := (s_iload_n dX8_pastBlanks_0 rfl (s_istore_n dX8_pastBlanks_1 rfl tX8_pastBlanks_2))
noncomputable def fX8_pastBlanks : zF := z_fn 3 kX8_pastBlanks_0
theorem mX8_pastBlanks {l : Launch} {D : zD} {B : Nat} : z_MF l D B yX8_pastBlanks xX8_pastBlanks fX8_pastBlanks := z_mf (by decide) rfl (fun h => by cases h) rfl (fun as σ r h => ⟨z_fn_len h, kX8_pastBlanks_0, z_fn_run h, fun _ => tX8_pastBlanks_0⟩)
/-! ===== RowChildren$Tokens.endOf ===== -/
theorem dX8_endOf_0 : decode cX8_endOf 0 = .ok (.iload_n 1, 1) := by decide +kernel
theorem dX8_endOf_1 : decode cX8_endOf 1 = .ok (.istore_n 2, 1) := by decide +kernel
theorem dX8_endOf_2 : decode cX8_endOf 2 = .ok (.iload_n 2, 1) := by decide +kernel
theorem dX8_endOf_3 : decode cX8_endOf 3 = .ok (.aload_n 0, 1) := by decide +kernel
theorem dX8_endOf_4 : decode cX8_endOf 4 = .ok (.getfield 41, 3) := by decide +kernel
theorem dX8_endOf_7 : decode cX8_endOf 7 = .ok (.if_icmp .ge 17, 3) := by decide +kernel
theorem dX8_endOf_10 : decode cX8_endOf 10 = .ok (.aload_n 0, 1) := by decide +kernel
theorem dX8_endOf_11 : decode cX8_endOf 11 = .ok (.iload_n 2, 1) := by decide +kernel
theorem dX8_endOf_12 : decode cX8_endOf 12 = .ok (.invokevirtual 50, 3) := by decide +kernel
theorem dX8_endOf_15 : decode cX8_endOf 15 = .ok (.ifCond .eq 9, 3) := by decide +kernel
theorem dX8_endOf_18 : decode cX8_endOf 18 = .ok (.iinc 2 1, 3) := by decide +kernel
theorem dX8_endOf_21 : decode cX8_endOf 21 = .ok (.goto (-19), 3) := by decide +kernel
theorem dX8_endOf_24 : decode cX8_endOf 24 = .ok (.iload_n 2, 1) := by decide +kernel
theorem dX8_endOf_25 : decode cX8_endOf 25 = .ok (.iload_n 1, 1) := by decide +kernel
theorem dX8_endOf_26 : decode cX8_endOf 26 = .ok (.if_icmp .ne 25, 3) := by decide +kernel
theorem dX8_endOf_29 : decode cX8_endOf 29 = .ok (.iload_n 2, 1) := by decide +kernel
theorem dX8_endOf_30 : decode cX8_endOf 30 = .ok (.aload_n 0, 1) := by decide +kernel
theorem dX8_endOf_31 : decode cX8_endOf 31 = .ok (.getfield 41, 3) := by decide +kernel
theorem dX8_endOf_34 : decode cX8_endOf 34 = .ok (.if_icmp .ge 17, 3) := by decide +kernel
theorem dX8_endOf_37 : decode cX8_endOf 37 = .ok (.aload_n 0, 1) := by decide +kernel
theorem dX8_endOf_38 : decode cX8_endOf 38 = .ok (.iload_n 2, 1) := by decide +kernel
theorem dX8_endOf_39 : decode cX8_endOf 39 = .ok (.invokevirtual 53, 3) := by decide +kernel
theorem dX8_endOf_42 : decode cX8_endOf 42 = .ok (.ifCond .eq 9, 3) := by decide +kernel
theorem dX8_endOf_45 : decode cX8_endOf 45 = .ok (.iinc 2 1, 3) := by decide +kernel
theorem dX8_endOf_48 : decode cX8_endOf 48 = .ok (.goto (-19), 3) := by decide +kernel
theorem dX8_endOf_51 : decode cX8_endOf 51 = .ok (.iload_n 2, 1) := by decide +kernel
theorem dX8_endOf_52 : decode cX8_endOf 52 = .ok (.iload_n 1, 1) := by decide +kernel
theorem dX8_endOf_53 : decode cX8_endOf 53 = .ok (.if_icmp .ne 17, 3) := by decide +kernel
theorem dX8_endOf_56 : decode cX8_endOf 56 = .ok (.iload_n 1, 1) := by decide +kernel
theorem dX8_endOf_57 : decode cX8_endOf 57 = .ok (.aload_n 0, 1) := by decide +kernel
theorem dX8_endOf_58 : decode cX8_endOf 58 = .ok (.getfield 41, 3) := by decide +kernel
theorem dX8_endOf_61 : decode cX8_endOf 61 = .ok (.if_icmp .ge 9, 3) := by decide +kernel
theorem dX8_endOf_64 : decode cX8_endOf 64 = .ok (.iload_n 1, 1) := by decide +kernel
theorem dX8_endOf_65 : decode cX8_endOf 65 = .ok (.iconst 1, 1) := by decide +kernel
theorem dX8_endOf_66 : decode cX8_endOf 66 = .ok (.iadd, 1) := by decide +kernel
theorem dX8_endOf_67 : decode cX8_endOf 67 = .ok (.goto 4, 3) := by decide +kernel
theorem dX8_endOf_70 : decode cX8_endOf 70 = .ok (.iload_n 2, 1) := by decide +kernel
theorem dX8_endOf_71 : decode cX8_endOf 71 = .ok (.ireturn, 1) := by decide +kernel
def xX8_endOf : zX := (RX8, cX8_endOf, 3, (some .int), false, { frames := 3, cells := 0, slots := 0, locals := 133 }, 0, 0, 0, 0)
theorem rmX8_endOf : z_Rm xX8_endOf := by unfold z_Rm xX8_endOf; exact ⟨by decide, by decide⟩
theorem reX8_endOf : z_Re xX8_endOf := ⟨rfl, rfl⟩
theorem rlX8_endOf : 1 ≤ xX8_endOf.2.2.2.2.2.1.frames ∧ 21 ≤ xX8_endOf.2.2.2.2.2.1.locals := by unfold xX8_endOf; exact ⟨by decide, by decide⟩
theorem meX8_endOf : z_Me yX8_endOf xX8_endOf 2 := ⟨wd353, wd109, by decide, by decide, by decide +kernel⟩
theorem fitX8_endOf_39 : z_Fit xX6_isDigit xX8_endOf := by unfold z_Fit; simp only [xX6_isDigit, xX8_endOf]; exact ⟨by decide, by decide⟩
theorem fitX8_endOf_12 : z_Fit xX6_isLetter xX8_endOf := by unfold z_Fit; simp only [xX6_isLetter, xX8_endOf]; exact ⟨by decide, by decide⟩
noncomputable def kX8_endOf_71 : zK zR := q_iret
noncomputable def kX8_endOf_70 : zK zR := (q_iload 2 kX8_endOf_71)
noncomputable def kX8_endOf_51 : zK zR := (q_iload 2 (q_iload 1 (q_icmp_ne kX8_endOf_70 (q_iload 1 (q_aload 0 (q_getI 6 1 (q_icmp_ge kX8_endOf_70 (q_iload 1 (q_push 1 (q_iadd kX8_endOf_71))))))))))
noncomputable def bX8_endOf_29 : zK ((zL × zS) ⊕ zR) := (q_iload 2 (q_aload 0 (q_getI 6 1 (q_icmp_ge (q_dn kX8_endOf_51) (q_aload 0 (q_iload 2 (q_callV 6 fX6_isDigit 1 (q_if_eq (q_dn kX8_endOf_51) (q_iinc 2 1 q_ag)))))))))
noncomputable def kX8_endOf_29 : zK zR := q_lp (bX8_endOf_29)
noncomputable def kX8_endOf_24 : zK zR := (q_iload 2 (q_iload 1 (q_icmp_ne kX8_endOf_51 kX8_endOf_29)))
noncomputable def bX8_endOf_2 : zK ((zL × zS) ⊕ zR) := (q_iload 2 (q_aload 0 (q_getI 6 1 (q_icmp_ge (q_dn kX8_endOf_24) (q_aload 0 (q_iload 2 (q_callV 6 fX6_isLetter 1 (q_if_eq (q_dn kX8_endOf_24) (q_iinc 2 1 q_ag)))))))))
noncomputable def kX8_endOf_2 : zK zR := q_lp (bX8_endOf_2)
noncomputable def kX8_endOf_0 : zK zR := (q_iload 1 (q_istore 2 kX8_endOf_2))
set_option maxRecDepth 100000 in
theorem tX8_endOf_71 {l : Launch} {D : zD} {B sz0 : Nat} {post : Option Value → zS → Prop} : zSnd l D B xX8_endOf sz0 post 71 kX8_endOf_71 (z_Jr post) := (s_iret dX8_endOf_71 rfl)
set_option maxRecDepth 100000 in
theorem tX8_endOf_70 {l : Launch} {D : zD} {B sz0 : Nat} {post : Option Value → zS → Prop} : zSnd l D B xX8_endOf sz0 post 70 kX8_endOf_70 (z_Jr post) := (s_iload_n dX8_endOf_70 rfl tX8_endOf_71)
set_option maxRecDepth 100000 in
theorem tX8_endOf_51 {l : Launch} {D : zD} {B sz0 : Nat} {post : Option Value → zS → Prop} : zSnd l D B xX8_endOf sz0 post 51 kX8_endOf_51 (z_Jr post) := (s_iload_n dX8_endOf_51 rfl (s_iload_n dX8_endOf_52 rfl (s_icmp_ne (tgt := 70) dX8_endOf_53 (by decide) tX8_endOf_70 (s_iload_n dX8_endOf_56 rfl (s_aload_n dX8_endOf_57 rfl (s_getI (f := 1) dX8_endOf_58 clX6 (by decide) rfl wd342 (s_icmp_ge (tgt := 70) dX8_endOf_61 (by decide) tX8_endOf_70 (s_iload_n dX8_endOf_64 rfl (s_iconst dX8_endOf_65 (by decide) (s_iadd dX8_endOf_66 (s_goto (tgt := 71) dX8_endOf_67 (by decide) tX8_endOf_71)))))))))))
set_option maxRecDepth 100000 in
theorem tX8_endOf_29 {l : Launch} {D : zD} {B sz0 : Nat} {post : Option Value → zS → Prop} : zSnd l D B xX8_endOf sz0 post 29 kX8_endOf_29 (z_Jr post) := s_lp (body := bX8_endOf_29) (s_iload_n dX8_endOf_29 rfl (s_aload_n dX8_endOf_30 rfl (s_getI (f := 1) dX8_endOf_31 clX6 (by decide) rfl wd342 (s_icmp_ge (tgt := 51) dX8_endOf_34 (by decide) (s_dn tX8_endOf_51) (s_aload_n dX8_endOf_37 rfl (s_iload_n dX8_endOf_38 rfl (s_callV (r := (RX6, TX6, 2)) dX8_endOf_39 mX6_isDigit meX6_isDigit wd347 wd348 rfl rfl reX6_isDigit rmX8_endOf (fitX8_endOf_39) wd349 (s_if_eq (tgt := 51) dX8_endOf_42 (by decide) (s_dn tX8_endOf_51) (s_iinc dX8_endOf_45 (by decide) (s_goto (tgt := 29) dX8_endOf_48 (by decide) s_ag))))))))))
set_option maxRecDepth 100000 in
theorem tX8_endOf_24 {l : Launch} {D : zD} {B sz0 : Nat} {post : Option Value → zS → Prop} : zSnd l D B xX8_endOf sz0 post 24 kX8_endOf_24 (z_Jr post) := (s_iload_n dX8_endOf_24 rfl (s_iload_n dX8_endOf_25 rfl (s_icmp_ne (tgt := 51) dX8_endOf_26 (by decide) tX8_endOf_51 tX8_endOf_29)))
set_option maxRecDepth 100000 in
theorem tX8_endOf_2 {l : Launch} {D : zD} {B sz0 : Nat} {post : Option Value → zS → Prop} : zSnd l D B xX8_endOf sz0 post 2 kX8_endOf_2 (z_Jr post) := s_lp (body := bX8_endOf_2) (s_iload_n dX8_endOf_2 rfl (s_aload_n dX8_endOf_3 rfl (s_getI (f := 1) dX8_endOf_4 clX6 (by decide) rfl wd342 (s_icmp_ge (tgt := 24) dX8_endOf_7 (by decide) (s_dn tX8_endOf_24) (s_aload_n dX8_endOf_10 rfl (s_iload_n dX8_endOf_11 rfl (s_callV (r := (RX6, TX6, 2)) dX8_endOf_12 mX6_isLetter meX6_isLetter wd350 wd351 rfl rfl reX6_isLetter rmX8_endOf (fitX8_endOf_12) wd352 (s_if_eq (tgt := 24) dX8_endOf_15 (by decide) (s_dn tX8_endOf_24) (s_iinc dX8_endOf_18 (by decide) (s_goto (tgt := 2) dX8_endOf_21 (by decide) s_ag))))))))))
set_option maxRecDepth 100000 in
theorem tX8_endOf_0 {l : Launch} {D : zD} {B sz0 : Nat} {post : Option Value → zS → Prop} : zSnd l D B xX8_endOf sz0 post 0 kX8_endOf_0 (z_Jr post) := (s_iload_n dX8_endOf_0 rfl (s_istore_n dX8_endOf_1 rfl tX8_endOf_2))
noncomputable def fX8_endOf : zF := z_fn 3 kX8_endOf_0
theorem mX8_endOf {l : Launch} {D : zD} {B : Nat} : z_MF l D B yX8_endOf xX8_endOf fX8_endOf := z_mf (by decide) rfl (fun h => by cases h) rfl (fun as σ r h => ⟨z_fn_len h, kX8_endOf_0, z_fn_run h, fun _ => tX8_endOf_0⟩)
/-! ===== java/lang/String.isLatin1 ===== -/
theorem dJ0_isLatin1_aae02_0 : decode cJ0_isLatin1_aae02 0 = .ok (.getstatic 38, 3) := by decide +kernel
theorem dJ0_isLatin1_aae02_3 : decode cJ0_isLatin1_aae02 3 = .ok (.ifCond .eq 14, 3) := by decide +kernel
theorem dJ0_isLatin1_aae02_6 : decode cJ0_isLatin1_aae02 6 = .ok (.aload_n 0, 1) := by decide +kernel
theorem dJ0_isLatin1_aae02_7 : decode cJ0_isLatin1_aae02 7 = .ok (.getfield 15, 3) := by decide +kernel
theorem dJ0_isLatin1_aae02_10 : decode cJ0_isLatin1_aae02 10 = .ok (.ifCond .ne 7, 3) := by decide +kernel
theorem dJ0_isLatin1_aae02_13 : decode cJ0_isLatin1_aae02 13 = .ok (.iconst 1, 1) := by decide +kernel
theorem dJ0_isLatin1_aae02_14 : decode cJ0_isLatin1_aae02 14 = .ok (.goto 4, 3) := by decide +kernel
theorem dJ0_isLatin1_aae02_17 : decode cJ0_isLatin1_aae02 17 = .ok (.iconst 0, 1) := by decide +kernel
theorem dJ0_isLatin1_aae02_18 : decode cJ0_isLatin1_aae02 18 = .ok (.ireturn, 1) := by decide +kernel
def xJ0_isLatin1_aae02 : zX := (RJ0, cJ0_isLatin1_aae02, 1, (some .boolean), false, { frames := 1, cells := 0, slots := 0, locals := 90 }, 0, 0, 0, 0)
theorem rmJ0_isLatin1_aae02 : z_Rm xJ0_isLatin1_aae02 := by unfold z_Rm xJ0_isLatin1_aae02; exact ⟨by decide, by decide⟩
theorem reJ0_isLatin1_aae02 : z_Re xJ0_isLatin1_aae02 := ⟨rfl, rfl⟩
theorem rlJ0_isLatin1_aae02 : 1 ≤ xJ0_isLatin1_aae02.2.2.2.2.2.1.frames ∧ 21 ≤ xJ0_isLatin1_aae02.2.2.2.2.2.1.locals := by unfold xJ0_isLatin1_aae02; exact ⟨by decide, by decide⟩
theorem meJ0_isLatin1_aae02 : z_Me yJ0_isLatin1_aae02 xJ0_isLatin1_aae02 0 := ⟨wd356, wd357, by decide, by decide, by decide +kernel⟩
noncomputable def kJ0_isLatin1_aae02_18 : zK zR := q_zret
noncomputable def kJ0_isLatin1_aae02_17 : zK zR := (q_push 0 kJ0_isLatin1_aae02_18)
noncomputable def kJ0_isLatin1_aae02_0 : zK zR := (q_getsC (q_if_eq kJ0_isLatin1_aae02_17 (q_aload 0 (q_getTc (q_if_ne kJ0_isLatin1_aae02_17 (q_push 1 kJ0_isLatin1_aae02_18))))))
set_option maxRecDepth 100000 in
theorem tJ0_isLatin1_aae02_18 {l : Launch} {D : zD} {B sz0 : Nat} {post : Option Value → zS → Prop} : zSnd l D B xJ0_isLatin1_aae02 sz0 post 18 kJ0_isLatin1_aae02_18 (z_Jr post) := (s_zret dJ0_isLatin1_aae02_18 rfl)
set_option maxRecDepth 100000 in
theorem tJ0_isLatin1_aae02_17 {l : Launch} {D : zD} {B sz0 : Nat} {post : Option Value → zS → Prop} : zSnd l D B xJ0_isLatin1_aae02 sz0 post 17 kJ0_isLatin1_aae02_17 (z_Jr post) := (s_iconst dJ0_isLatin1_aae02_17 (by decide) tJ0_isLatin1_aae02_18)
set_option maxRecDepth 100000 in
theorem tJ0_isLatin1_aae02_0 {l : Launch} {D : zD} {B sz0 : Nat} {post : Option Value → zS → Prop} : zSnd l D B xJ0_isLatin1_aae02 sz0 post 0 kJ0_isLatin1_aae02_0 (z_Jr post) := (s_getsC dJ0_isLatin1_aae02_0 wd354 (s_if_eq (tgt := 17) dJ0_isLatin1_aae02_3 (by decide) tJ0_isLatin1_aae02_17 (s_aload_n dJ0_isLatin1_aae02_6 rfl (s_getTc dJ0_isLatin1_aae02_7 wd355 (s_if_ne (tgt := 17) dJ0_isLatin1_aae02_10 (by decide) tJ0_isLatin1_aae02_17 (s_iconst dJ0_isLatin1_aae02_13 (by decide) (s_goto (tgt := 18) dJ0_isLatin1_aae02_14 (by decide) tJ0_isLatin1_aae02_18)))))))
noncomputable def fJ0_isLatin1_aae02 : zF := z_fn 1 kJ0_isLatin1_aae02_0
theorem mJ0_isLatin1_aae02 {l : Launch} {D : zD} {B : Nat} : z_MF l D B yJ0_isLatin1_aae02 xJ0_isLatin1_aae02 fJ0_isLatin1_aae02 := z_mf (by decide) rfl (fun h => by cases h) rfl (fun as σ r h => ⟨z_fn_len h, kJ0_isLatin1_aae02_0, z_fn_run h, fun _ => tJ0_isLatin1_aae02_0⟩)
/-! ===== jdk/internal/util/Preconditions.checkIndex ===== -/
theorem dJ3_checkIndex_8e157_0 : decode cJ3_checkIndex_8e157 0 = .ok (.iload_n 0, 1) := by decide +kernel
theorem dJ3_checkIndex_8e157_1 : decode cJ3_checkIndex_8e157 1 = .ok (.ifCond .lt 8, 3) := by decide +kernel
theorem dJ3_checkIndex_8e157_4 : decode cJ3_checkIndex_8e157 4 = .ok (.iload_n 0, 1) := by decide +kernel
theorem dJ3_checkIndex_8e157_5 : decode cJ3_checkIndex_8e157 5 = .ok (.iload_n 1, 1) := by decide +kernel
theorem dJ3_checkIndex_8e157_6 : decode cJ3_checkIndex_8e157 6 = .ok (.if_icmp .lt 10, 3) := by decide +kernel
theorem dJ3_checkIndex_8e157_9 : decode cJ3_checkIndex_8e157 9 = .ok (.aload_n 2, 1) := by decide +kernel
theorem dJ3_checkIndex_8e157_10 : decode cJ3_checkIndex_8e157 10 = .ok (.iload_n 0, 1) := by decide +kernel
theorem dJ3_checkIndex_8e157_11 : decode cJ3_checkIndex_8e157 11 = .ok (.iload_n 1, 1) := by decide +kernel
theorem dJ3_checkIndex_8e157_12 : decode cJ3_checkIndex_8e157 12 = .ok (.invokestatic 95, 3) := by decide +kernel
theorem dJ3_checkIndex_8e157_15 : decode cJ3_checkIndex_8e157 15 = .ok (.athrow, 1) := by decide +kernel
theorem dJ3_checkIndex_8e157_16 : decode cJ3_checkIndex_8e157 16 = .ok (.iload_n 0, 1) := by decide +kernel
theorem dJ3_checkIndex_8e157_17 : decode cJ3_checkIndex_8e157 17 = .ok (.ireturn, 1) := by decide +kernel
def xJ3_checkIndex_8e157 : zX := (RJ3, cJ3_checkIndex_8e157, 3, (some .int), false, { frames := 1, cells := 0, slots := 0, locals := 90 }, 0, 0, 0, 0)
theorem rmJ3_checkIndex_8e157 : z_Rm xJ3_checkIndex_8e157 := by unfold z_Rm xJ3_checkIndex_8e157; exact ⟨by decide, by decide⟩
theorem reJ3_checkIndex_8e157 : z_Re xJ3_checkIndex_8e157 := ⟨rfl, rfl⟩
theorem rlJ3_checkIndex_8e157 : 1 ≤ xJ3_checkIndex_8e157.2.2.2.2.2.1.frames ∧ 21 ≤ xJ3_checkIndex_8e157.2.2.2.2.2.1.locals := by unfold xJ3_checkIndex_8e157; exact ⟨by decide, by decide⟩
theorem meJ3_checkIndex_8e157 : z_Me yJ3_checkIndex_8e157 xJ3_checkIndex_8e157 3 := ⟨wd358, wd359, by decide, by decide, by decide +kernel⟩
noncomputable def kJ3_checkIndex_8e157_0 : zK zR := (q_iload 0 (q_if_lt q_no (q_iload 0 (q_iload 1 (q_icmp_lt (q_iload 0 q_iret) q_no)))))
set_option maxRecDepth 100000 in
theorem tJ3_checkIndex_8e157_0 {l : Launch} {D : zD} {B sz0 : Nat} {post : Option Value → zS → Prop} : zSnd l D B xJ3_checkIndex_8e157 sz0 post 0 kJ3_checkIndex_8e157_0 (z_Jr post) := (s_iload_n dJ3_checkIndex_8e157_0 rfl (s_if_lt (tgt := 9) dJ3_checkIndex_8e157_1 (by decide) s_no (s_iload_n dJ3_checkIndex_8e157_4 rfl (s_iload_n dJ3_checkIndex_8e157_5 rfl (s_icmp_lt (tgt := 16) dJ3_checkIndex_8e157_6 (by decide) (s_iload_n dJ3_checkIndex_8e157_16 rfl (s_iret dJ3_checkIndex_8e157_17 rfl)) s_no)))))
noncomputable def fJ3_checkIndex_8e157 : zF := z_fn 3 kJ3_checkIndex_8e157_0
theorem mJ3_checkIndex_8e157 {l : Launch} {D : zD} {B : Nat} : z_MF l D B yJ3_checkIndex_8e157 xJ3_checkIndex_8e157 fJ3_checkIndex_8e157 := z_mf (by decide) rfl (fun h => by cases h) rfl (fun as σ r h => ⟨z_fn_len h, kJ3_checkIndex_8e157_0, z_fn_run h, fun _ => tJ3_checkIndex_8e157_0⟩)
/-! ===== java/lang/String.checkIndex ===== -/
theorem dJ0_checkIndex_df160_0 : decode cJ0_checkIndex_df160 0 = .ok (.iload_n 0, 1) := by decide +kernel
theorem dJ0_checkIndex_df160_1 : decode cJ0_checkIndex_df160 1 = .ok (.iload_n 1, 1) := by decide +kernel
theorem dJ0_checkIndex_df160_2 : decode cJ0_checkIndex_df160 2 = .ok (.getstatic 1053, 3) := by decide +kernel
theorem dJ0_checkIndex_df160_5 : decode cJ0_checkIndex_df160 5 = .ok (.invokestatic 1059, 3) := by decide +kernel
theorem dJ0_checkIndex_df160_8 : decode cJ0_checkIndex_df160 8 = .ok (.pop, 1) := by decide +kernel
theorem dJ0_checkIndex_df160_9 : decode cJ0_checkIndex_df160 9 = .ok (.return_, 1) := by decide +kernel
def xJ0_checkIndex_df160 : zX := (RJ0, cJ0_checkIndex_df160, 2, none, false, { frames := 2, cells := 0, slots := 0, locals := 112 }, 0, 0, 0, 0)
theorem rmJ0_checkIndex_df160 : z_Rm xJ0_checkIndex_df160 := by unfold z_Rm xJ0_checkIndex_df160; exact ⟨by decide, by decide⟩
theorem reJ0_checkIndex_df160 : z_Re xJ0_checkIndex_df160 := ⟨rfl, rfl⟩
theorem rlJ0_checkIndex_df160 : 1 ≤ xJ0_checkIndex_df160.2.2.2.2.2.1.frames ∧ 21 ≤ xJ0_checkIndex_df160.2.2.2.2.2.1.locals := by unfold xJ0_checkIndex_df160; exact ⟨by decide, by decide⟩
theorem meJ0_checkIndex_df160 : z_Me yJ0_checkIndex_df160 xJ0_checkIndex_df160 2 := ⟨wd363, wd357, by decide, by decide, by decide +kernel⟩
theorem fitJ0_checkIndex_df160_5 : z_Fit xJ3_checkIndex_8e157 xJ0_checkIndex_df160 := by unfold z_Fit; simp only [xJ3_checkIndex_8e157, xJ0_checkIndex_df160]; exact ⟨by decide, by decide⟩
noncomputable def kJ0_checkIndex_df160_0 : zK zR := (q_iload 0 (q_iload 1 (q_getsF (q_callS fJ3_checkIndex_8e157 3 (q_pop q_vret)))))
set_option maxRecDepth 100000 in
theorem tJ0_checkIndex_df160_0 {l : Launch} {D : zD} {B sz0 : Nat} {post : Option Value → zS → Prop} : zSnd l D B xJ0_checkIndex_df160 sz0 post 0 kJ0_checkIndex_df160_0 (z_Jr post) := (s_iload_n dJ0_checkIndex_df160_0 rfl (s_iload_n dJ0_checkIndex_df160_1 rfl (s_getsF dJ0_checkIndex_df160_2 wd360 (s_callS dJ0_checkIndex_df160_5 mJ3_checkIndex_8e157 meJ3_checkIndex_8e157 wd361 rfl reJ3_checkIndex_8e157 rmJ0_checkIndex_df160 (fitJ0_checkIndex_df160_5) wd362 (s_pop dJ0_checkIndex_df160_8 (s_vret dJ0_checkIndex_df160_9 rfl))))))
noncomputable def fJ0_checkIndex_df160 : zF := z_fn 2 kJ0_checkIndex_df160_0
theorem mJ0_checkIndex_df160 {l : Launch} {D : zD} {B : Nat} : z_MF l D B yJ0_checkIndex_df160 xJ0_checkIndex_df160 fJ0_checkIndex_df160 := z_mf (by decide) rfl (fun h => by cases h) rfl (fun as σ r h => ⟨z_fn_len h, kJ0_checkIndex_df160_0, z_fn_run h, fun _ => tJ0_checkIndex_df160_0⟩)
/-! ===== java/lang/StringLatin1.charAt ===== -/
theorem dJ1_charAt_3b067_0 : decode cJ1_charAt_3b067 0 = .ok (.iload_n 1, 1) := by decide +kernel
theorem dJ1_charAt_3b067_1 : decode cJ1_charAt_3b067 1 = .ok (.aload_n 0, 1) := by decide +kernel
theorem dJ1_charAt_3b067_2 : decode cJ1_charAt_3b067 2 = .ok (.arraylength, 1) := by decide +kernel
theorem dJ1_charAt_3b067_3 : decode cJ1_charAt_3b067 3 = .ok (.invokestatic 9, 3) := by decide +kernel
theorem dJ1_charAt_3b067_6 : decode cJ1_charAt_3b067 6 = .ok (.aload_n 0, 1) := by decide +kernel
theorem dJ1_charAt_3b067_7 : decode cJ1_charAt_3b067 7 = .ok (.iload_n 1, 1) := by decide +kernel
theorem dJ1_charAt_3b067_8 : decode cJ1_charAt_3b067 8 = .ok (.baload, 1) := by decide +kernel
theorem dJ1_charAt_3b067_9 : decode cJ1_charAt_3b067 9 = .ok (.sipush 255, 3) := by decide +kernel
theorem dJ1_charAt_3b067_12 : decode cJ1_charAt_3b067 12 = .ok (.iand, 1) := by decide +kernel
theorem dJ1_charAt_3b067_13 : decode cJ1_charAt_3b067 13 = .ok (.i2c, 1) := by decide +kernel
theorem dJ1_charAt_3b067_14 : decode cJ1_charAt_3b067 14 = .ok (.ireturn, 1) := by decide +kernel
def xJ1_charAt_3b067 : zX := (RJ1, cJ1_charAt_3b067, 2, (some .char), false, { frames := 3, cells := 0, slots := 0, locals := 133 }, 0, 0, 0, 0)
theorem rmJ1_charAt_3b067 : z_Rm xJ1_charAt_3b067 := by unfold z_Rm xJ1_charAt_3b067; exact ⟨by decide, by decide⟩
theorem reJ1_charAt_3b067 : z_Re xJ1_charAt_3b067 := ⟨rfl, rfl⟩
theorem rlJ1_charAt_3b067 : 1 ≤ xJ1_charAt_3b067.2.2.2.2.2.1.frames ∧ 21 ≤ xJ1_charAt_3b067.2.2.2.2.2.1.locals := by unfold xJ1_charAt_3b067; exact ⟨by decide, by decide⟩
theorem meJ1_charAt_3b067 : z_Me yJ1_charAt_3b067 xJ1_charAt_3b067 2 := ⟨wd366, wd367, by decide, by decide, by decide +kernel⟩
theorem fitJ1_charAt_3b067_3 : z_Fit xJ0_checkIndex_df160 xJ1_charAt_3b067 := by unfold z_Fit; simp only [xJ0_checkIndex_df160, xJ1_charAt_3b067]; exact ⟨by decide, by decide⟩
noncomputable def kJ1_charAt_3b067_0 : zK zR := (q_iload 1 (q_aload 0 (q_alenT (q_callS fJ0_checkIndex_df160 2 (q_aload 0 (q_iload 1 (q_baldT (q_push 255 (q_iand (q_i2c (q_cret .char)))))))))))
set_option maxRecDepth 100000 in
theorem tJ1_charAt_3b067_0 {l : Launch} {D : zD} {B sz0 : Nat} {post : Option Value → zS → Prop} : zSnd l D B xJ1_charAt_3b067 sz0 post 0 kJ1_charAt_3b067_0 (z_Jr post) := (s_iload_n dJ1_charAt_3b067_0 rfl (s_aload_n dJ1_charAt_3b067_1 rfl (s_alenT dJ1_charAt_3b067_2 (s_callS dJ1_charAt_3b067_3 mJ0_checkIndex_df160 meJ0_checkIndex_df160 wd364 rfl reJ0_checkIndex_df160 rmJ1_charAt_3b067 (fitJ1_charAt_3b067_3) wd365 (s_aload_n dJ1_charAt_3b067_6 rfl (s_iload_n dJ1_charAt_3b067_7 rfl (s_baldT dJ1_charAt_3b067_8 (s_sipush dJ1_charAt_3b067_9 (by decide) (s_iand dJ1_charAt_3b067_12 (s_i2c dJ1_charAt_3b067_13 (s_cret dJ1_charAt_3b067_14 rfl (fun _ => rfl))))))))))))
noncomputable def fJ1_charAt_3b067 : zF := z_fn 2 kJ1_charAt_3b067_0
theorem mJ1_charAt_3b067 {l : Launch} {D : zD} {B : Nat} : z_MF l D B yJ1_charAt_3b067 xJ1_charAt_3b067 fJ1_charAt_3b067 := z_mf (by decide) rfl (fun h => by cases h) rfl (fun as σ r h => ⟨z_fn_len h, kJ1_charAt_3b067_0, z_fn_run h, fun _ => tJ1_charAt_3b067_0⟩)
/-! ===== java/lang/String.charAt ===== -/
theorem dJ0_charAt_5068e_0 : decode cJ0_charAt_5068e 0 = .ok (.aload_n 0, 1) := by decide +kernel
theorem dJ0_charAt_5068e_1 : decode cJ0_charAt_5068e 1 = .ok (.invokevirtual 492, 3) := by decide +kernel
theorem dJ0_charAt_5068e_4 : decode cJ0_charAt_5068e 4 = .ok (.ifCond .eq 12, 3) := by decide +kernel
theorem dJ0_charAt_5068e_7 : decode cJ0_charAt_5068e 7 = .ok (.aload_n 0, 1) := by decide +kernel
theorem dJ0_charAt_5068e_8 : decode cJ0_charAt_5068e 8 = .ok (.getfield 9, 3) := by decide +kernel
theorem dJ0_charAt_5068e_11 : decode cJ0_charAt_5068e 11 = .ok (.iload_n 1, 1) := by decide +kernel
theorem dJ0_charAt_5068e_12 : decode cJ0_charAt_5068e 12 = .ok (.invokestatic 495, 3) := by decide +kernel
theorem dJ0_charAt_5068e_15 : decode cJ0_charAt_5068e 15 = .ok (.ireturn, 1) := by decide +kernel
theorem dJ0_charAt_5068e_16 : decode cJ0_charAt_5068e 16 = .ok (.aload_n 0, 1) := by decide +kernel
theorem dJ0_charAt_5068e_17 : decode cJ0_charAt_5068e 17 = .ok (.getfield 9, 3) := by decide +kernel
theorem dJ0_charAt_5068e_20 : decode cJ0_charAt_5068e 20 = .ok (.iload_n 1, 1) := by decide +kernel
theorem dJ0_charAt_5068e_21 : decode cJ0_charAt_5068e 21 = .ok (.invokestatic 498, 3) := by decide +kernel
theorem dJ0_charAt_5068e_24 : decode cJ0_charAt_5068e 24 = .ok (.ireturn, 1) := by decide +kernel
def xJ0_charAt_5068e : zX := (RJ0, cJ0_charAt_5068e, 2, (some .char), false, { frames := 4, cells := 0, slots := 0, locals := 154 }, 0, 0, 0, 0)
theorem rmJ0_charAt_5068e : z_Rm xJ0_charAt_5068e := by unfold z_Rm xJ0_charAt_5068e; exact ⟨by decide, by decide⟩
theorem reJ0_charAt_5068e : z_Re xJ0_charAt_5068e := ⟨rfl, rfl⟩
theorem rlJ0_charAt_5068e : 1 ≤ xJ0_charAt_5068e.2.2.2.2.2.1.frames ∧ 21 ≤ xJ0_charAt_5068e.2.2.2.2.2.1.locals := by unfold xJ0_charAt_5068e; exact ⟨by decide, by decide⟩
theorem meJ0_charAt_5068e : z_Me yJ0_charAt_5068e xJ0_charAt_5068e 1 := ⟨wd374, wd357, by decide, by decide, by decide +kernel⟩
theorem fitJ0_charAt_5068e_1 : z_Fit xJ0_isLatin1_aae02 xJ0_charAt_5068e := by unfold z_Fit; simp only [xJ0_isLatin1_aae02, xJ0_charAt_5068e]; exact ⟨by decide, by decide⟩
theorem fitJ0_charAt_5068e_12 : z_Fit xJ1_charAt_3b067 xJ0_charAt_5068e := by unfold z_Fit; simp only [xJ1_charAt_3b067, xJ0_charAt_5068e]; exact ⟨by decide, by decide⟩
noncomputable def kJ0_charAt_5068e_0 : zK zR := (q_aload 0 (q_callT fJ0_isLatin1_aae02 0 (q_if_eq q_no (q_aload 0 (q_getTv (q_iload 1 (q_callS fJ1_charAt_3b067 2 (q_cret .char))))))))
set_option maxRecDepth 100000 in
theorem tJ0_charAt_5068e_0 {l : Launch} {D : zD} {B sz0 : Nat} {post : Option Value → zS → Prop} : zSnd l D B xJ0_charAt_5068e sz0 post 0 kJ0_charAt_5068e_0 (z_Jr post) := (s_aload_n dJ0_charAt_5068e_0 rfl (s_callT dJ0_charAt_5068e_1 mJ0_isLatin1_aae02 meJ0_isLatin1_aae02 wd368 wd369 rfl reJ0_isLatin1_aae02 rmJ0_charAt_5068e (fitJ0_charAt_5068e_1) wd370 (s_if_eq (tgt := 16) dJ0_charAt_5068e_4 (by decide) s_no (s_aload_n dJ0_charAt_5068e_7 rfl (s_getTv dJ0_charAt_5068e_8 wd371 (s_iload_n dJ0_charAt_5068e_11 rfl (s_callS dJ0_charAt_5068e_12 mJ1_charAt_3b067 meJ1_charAt_3b067 wd372 rfl reJ1_charAt_3b067 rmJ0_charAt_5068e (fitJ0_charAt_5068e_12) wd373 (s_cret dJ0_charAt_5068e_15 rfl (fun _ => rfl)))))))))
noncomputable def fJ0_charAt_5068e : zF := z_fn 2 kJ0_charAt_5068e_0
theorem mJ0_charAt_5068e {l : Launch} {D : zD} {B : Nat} : z_MF l D B yJ0_charAt_5068e xJ0_charAt_5068e fJ0_charAt_5068e := z_mf (by decide) rfl (fun h => by cases h) rfl (fun as σ r h => ⟨z_fn_len h, kJ0_charAt_5068e_0, z_fn_run h, fun _ => tJ0_charAt_5068e_0⟩)
/-! ===== RowChildren$Tokens.isWord ===== -/
theorem dX8_isWord_0 : decode cX8_isWord 0 = .ok (.iconst 0, 1) := by decide +kernel
theorem dX8_isWord_1 : decode cX8_isWord 1 = .ok (.istore 4, 2) := by decide +kernel
theorem dX8_isWord_3 : decode cX8_isWord 3 = .ok (.iload 4, 2) := by decide +kernel
theorem dX8_isWord_5 : decode cX8_isWord 5 = .ok (.bipush 8, 2) := by decide +kernel
theorem dX8_isWord_7 : decode cX8_isWord 7 = .ok (.if_icmp .ge 51, 3) := by decide +kernel
theorem dX8_isWord_10 : decode cX8_isWord 10 = .ok (.iload_n 1, 1) := by decide +kernel
theorem dX8_isWord_11 : decode cX8_isWord 11 = .ok (.iload 4, 2) := by decide +kernel
theorem dX8_isWord_13 : decode cX8_isWord 13 = .ok (.iadd, 1) := by decide +kernel
theorem dX8_isWord_14 : decode cX8_isWord 14 = .ok (.iload_n 2, 1) := by decide +kernel
theorem dX8_isWord_15 : decode cX8_isWord 15 = .ok (.if_icmp .ge 14, 3) := by decide +kernel
theorem dX8_isWord_18 : decode cX8_isWord 18 = .ok (.aload_n 0, 1) := by decide +kernel
theorem dX8_isWord_19 : decode cX8_isWord 19 = .ok (.iload_n 1, 1) := by decide +kernel
theorem dX8_isWord_20 : decode cX8_isWord 20 = .ok (.iload 4, 2) := by decide +kernel
theorem dX8_isWord_22 : decode cX8_isWord 22 = .ok (.iadd, 1) := by decide +kernel
theorem dX8_isWord_23 : decode cX8_isWord 23 = .ok (.invokevirtual 59, 3) := by decide +kernel
theorem dX8_isWord_26 : decode cX8_isWord 26 = .ok (.goto 5, 3) := by decide +kernel
theorem dX8_isWord_29 : decode cX8_isWord 29 = .ok (.bipush 32, 2) := by decide +kernel
theorem dX8_isWord_31 : decode cX8_isWord 31 = .ok (.istore 5, 2) := by decide +kernel
theorem dX8_isWord_33 : decode cX8_isWord 33 = .ok (.ldc 74, 2) := by decide +kernel
theorem dX8_isWord_35 : decode cX8_isWord 35 = .ok (.iload_n 3, 1) := by decide +kernel
theorem dX8_isWord_36 : decode cX8_isWord 36 = .ok (.bipush 8, 2) := by decide +kernel
theorem dX8_isWord_38 : decode cX8_isWord 38 = .ok (.imul, 1) := by decide +kernel
theorem dX8_isWord_39 : decode cX8_isWord 39 = .ok (.iload 4, 2) := by decide +kernel
theorem dX8_isWord_41 : decode cX8_isWord 41 = .ok (.iadd, 1) := by decide +kernel
theorem dX8_isWord_42 : decode cX8_isWord 42 = .ok (.invokevirtual 76, 3) := by decide +kernel
theorem dX8_isWord_45 : decode cX8_isWord 45 = .ok (.iload 5, 2) := by decide +kernel
theorem dX8_isWord_47 : decode cX8_isWord 47 = .ok (.if_icmp .eq 5, 3) := by decide +kernel
theorem dX8_isWord_50 : decode cX8_isWord 50 = .ok (.iconst 0, 1) := by decide +kernel
theorem dX8_isWord_51 : decode cX8_isWord 51 = .ok (.ireturn, 1) := by decide +kernel
theorem dX8_isWord_52 : decode cX8_isWord 52 = .ok (.iinc 4 1, 3) := by decide +kernel
theorem dX8_isWord_55 : decode cX8_isWord 55 = .ok (.goto (-52), 3) := by decide +kernel
theorem dX8_isWord_58 : decode cX8_isWord 58 = .ok (.iconst 1, 1) := by decide +kernel
theorem dX8_isWord_59 : decode cX8_isWord 59 = .ok (.ireturn, 1) := by decide +kernel
def xX8_isWord : zX := (RX8, cX8_isWord, 6, (some .boolean), false, { frames := 5, cells := 0, slots := 0, locals := 175 }, 0, 0, 0, 0)
theorem rmX8_isWord : z_Rm xX8_isWord := by unfold z_Rm xX8_isWord; exact ⟨by decide, by decide⟩
theorem reX8_isWord : z_Re xX8_isWord := ⟨rfl, rfl⟩
theorem rlX8_isWord : 1 ≤ xX8_isWord.2.2.2.2.2.1.frames ∧ 21 ≤ xX8_isWord.2.2.2.2.2.1.locals := by unfold xX8_isWord; exact ⟨by decide, by decide⟩
theorem meX8_isWord : z_Me yX8_isWord xX8_isWord 4 := ⟨wd379, wd109, by decide, by decide, by decide +kernel⟩
theorem fitX8_isWord_42 : z_Fit xJ0_charAt_5068e xX8_isWord := by unfold z_Fit; simp only [xJ0_charAt_5068e, xX8_isWord]; exact ⟨by decide, by decide⟩
theorem fitX8_isWord_23 : z_Fit xX6_byteAt xX8_isWord := by unfold z_Fit; simp only [xX6_byteAt, xX8_isWord]; exact ⟨by decide, by decide⟩
noncomputable def kX8_isWord_58 : zK zR := (q_push 1 q_zret)
noncomputable def kX8_isWord_50 : zK zR := (q_push 0 q_zret)
noncomputable def kX8_isWord_31 : zK ((zL × zS) ⊕ zR) := (q_istore 5 (q_ldcS 0 (q_iload 3 (q_push 8 (q_imul (q_iload 4 (q_iadd (q_callT fJ0_charAt_5068e 1 (q_iload 5 (q_icmp_eq (q_iinc 4 1 q_ag) (q_dn kX8_isWord_50)))))))))))
noncomputable def bX8_isWord_3 : zK ((zL × zS) ⊕ zR) := (q_iload 4 (q_push 8 (q_icmp_ge (q_dn kX8_isWord_58) (q_iload 1 (q_iload 4 (q_iadd (q_iload 2 (q_icmp_ge (q_push 32 kX8_isWord_31) (q_aload 0 (q_iload 1 (q_iload 4 (q_iadd (q_callV 6 fX6_byteAt 1 kX8_isWord_31)))))))))))))
noncomputable def kX8_isWord_3 : zK zR := q_lp (bX8_isWord_3)
noncomputable def kX8_isWord_0 : zK zR := (q_push 0 (q_istore 4 kX8_isWord_3))
set_option maxRecDepth 100000 in
theorem tX8_isWord_58 {l : Launch} {D : zD} {B sz0 : Nat} {post : Option Value → zS → Prop} : zSnd l D B xX8_isWord sz0 post 58 kX8_isWord_58 (z_Jr post) := (s_iconst dX8_isWord_58 (by decide) (s_zret dX8_isWord_59 rfl))
set_option maxRecDepth 100000 in
theorem tX8_isWord_50 {l : Launch} {D : zD} {B sz0 : Nat} {post : Option Value → zS → Prop} : zSnd l D B xX8_isWord sz0 post 50 kX8_isWord_50 (z_Jr post) := (s_iconst dX8_isWord_50 (by decide) (s_zret dX8_isWord_51 rfl))
set_option maxRecDepth 100000 in
theorem tX8_isWord_31 {l : Launch} {D : zD} {B sz0 : Nat} {post : Option Value → zS → Prop} : zSnd l D B xX8_isWord sz0 post 31 kX8_isWord_31 (z_Jl l D B xX8_isWord sz0 post 3 (z_Jr post)) := (s_istore dX8_isWord_31 (s_ldcS0 dX8_isWord_33 rfl (s_iload_n dX8_isWord_35 rfl (s_bipush dX8_isWord_36 (by decide) (s_imul dX8_isWord_38 (s_iload dX8_isWord_39 (s_iadd dX8_isWord_41 (s_callT dX8_isWord_42 mJ0_charAt_5068e meJ0_charAt_5068e wd375 wd376 rfl reJ0_charAt_5068e rmX8_isWord (fitX8_isWord_42) wd377 (s_iload dX8_isWord_45 (s_icmp_eq (tgt := 52) dX8_isWord_47 (by decide) (s_iinc dX8_isWord_52 (by decide) (s_goto (tgt := 3) dX8_isWord_55 (by decide) s_ag)) (s_dn tX8_isWord_50)))))))))))
set_option maxRecDepth 100000 in
theorem tX8_isWord_3 {l : Launch} {D : zD} {B sz0 : Nat} {post : Option Value → zS → Prop} : zSnd l D B xX8_isWord sz0 post 3 kX8_isWord_3 (z_Jr post) := s_lp (body := bX8_isWord_3) (s_iload dX8_isWord_3 (s_bipush dX8_isWord_5 (by decide) (s_icmp_ge (tgt := 58) dX8_isWord_7 (by decide) (s_dn tX8_isWord_58) (s_iload_n dX8_isWord_10 rfl (s_iload dX8_isWord_11 (s_iadd dX8_isWord_13 (s_iload_n dX8_isWord_14 rfl (s_icmp_ge (tgt := 29) dX8_isWord_15 (by decide) (s_bipush dX8_isWord_29 (by decide) tX8_isWord_31) (s_aload_n dX8_isWord_18 rfl (s_iload_n dX8_isWord_19 rfl (s_iload dX8_isWord_20 (s_iadd dX8_isWord_22 (s_callV (r := (RX6, TX6, 2)) dX8_isWord_23 mX6_byteAt meX6_byteAt wd301 wd302 rfl rfl reX6_byteAt rmX8_isWord (fitX8_isWord_23) wd378 (s_goto (tgt := 31) dX8_isWord_26 (by decide) tX8_isWord_31))))))))))))))
set_option maxRecDepth 100000 in
theorem tX8_isWord_0 {l : Launch} {D : zD} {B sz0 : Nat} {post : Option Value → zS → Prop} : zSnd l D B xX8_isWord sz0 post 0 kX8_isWord_0 (z_Jr post) := (s_iconst dX8_isWord_0 (by decide) (s_istore dX8_isWord_1 tX8_isWord_3))
noncomputable def fX8_isWord : zF := z_fn 6 kX8_isWord_0
theorem mX8_isWord {l : Launch} {D : zD} {B : Nat} : z_MF l D B yX8_isWord xX8_isWord fX8_isWord := z_mf (by decide) rfl (fun h => by cases h) rfl (fun as σ r h => ⟨z_fn_len h, kX8_isWord_0, z_fn_run h, fun _ => tX8_isWord_0⟩)
/-! ===== RowChildren$Tokens.wordOrName ===== -/
theorem dX8_wordOrName_0 : decode cX8_wordOrName 0 = .ok (.iconst 0, 1) := by decide +kernel
theorem dX8_wordOrName_1 : decode cX8_wordOrName 1 = .ok (.istore_n 3, 1) := by decide +kernel
theorem dX8_wordOrName_2 : decode cX8_wordOrName 2 = .ok (.iload_n 3, 1) := by decide +kernel
theorem dX8_wordOrName_3 : decode cX8_wordOrName 3 = .ok (.bipush 20, 2) := by decide +kernel
theorem dX8_wordOrName_5 : decode cX8_wordOrName 5 = .ok (.if_icmp .ge 21, 3) := by decide +kernel
theorem dX8_wordOrName_8 : decode cX8_wordOrName 8 = .ok (.aload_n 0, 1) := by decide +kernel
theorem dX8_wordOrName_9 : decode cX8_wordOrName 9 = .ok (.iload_n 1, 1) := by decide +kernel
theorem dX8_wordOrName_10 : decode cX8_wordOrName 10 = .ok (.iload_n 2, 1) := by decide +kernel
theorem dX8_wordOrName_11 : decode cX8_wordOrName 11 = .ok (.iload_n 3, 1) := by decide +kernel
theorem dX8_wordOrName_12 : decode cX8_wordOrName 12 = .ok (.invokestatic 70, 3) := by decide +kernel
theorem dX8_wordOrName_15 : decode cX8_wordOrName 15 = .ok (.ifCond .eq 5, 3) := by decide +kernel
theorem dX8_wordOrName_18 : decode cX8_wordOrName 18 = .ok (.iload_n 3, 1) := by decide +kernel
theorem dX8_wordOrName_19 : decode cX8_wordOrName 19 = .ok (.ireturn, 1) := by decide +kernel
theorem dX8_wordOrName_20 : decode cX8_wordOrName 20 = .ok (.iinc 3 1, 3) := by decide +kernel
theorem dX8_wordOrName_23 : decode cX8_wordOrName 23 = .ok (.goto (-21), 3) := by decide +kernel
theorem dX8_wordOrName_26 : decode cX8_wordOrName 26 = .ok (.bipush 20, 2) := by decide +kernel
theorem dX8_wordOrName_28 : decode cX8_wordOrName 28 = .ok (.ireturn, 1) := by decide +kernel
def xX8_wordOrName : zX := (RX8, cX8_wordOrName, 4, (some .int), false, { frames := 6, cells := 0, slots := 0, locals := 200 }, 0, 0, 0, 0)
theorem rmX8_wordOrName : z_Rm xX8_wordOrName := by unfold z_Rm xX8_wordOrName; exact ⟨by decide, by decide⟩
theorem reX8_wordOrName : z_Re xX8_wordOrName := ⟨rfl, rfl⟩
theorem rlX8_wordOrName : 1 ≤ xX8_wordOrName.2.2.2.2.2.1.frames ∧ 21 ≤ xX8_wordOrName.2.2.2.2.2.1.locals := by unfold xX8_wordOrName; exact ⟨by decide, by decide⟩
theorem meX8_wordOrName : z_Me yX8_wordOrName xX8_wordOrName 3 := ⟨wd382, wd109, by decide, by decide, by decide +kernel⟩
theorem fitX8_wordOrName_12 : z_Fit xX8_isWord xX8_wordOrName := by unfold z_Fit; simp only [xX8_isWord, xX8_wordOrName]; exact ⟨by decide, by decide⟩
noncomputable def kX8_wordOrName_26 : zK zR := (q_push 20 q_iret)
noncomputable def kX8_wordOrName_18 : zK zR := (q_iload 3 q_iret)
noncomputable def bX8_wordOrName_2 : zK ((zL × zS) ⊕ zR) := (q_iload 3 (q_push 20 (q_icmp_ge (q_dn kX8_wordOrName_26) (q_aload 0 (q_iload 1 (q_iload 2 (q_iload 3 (q_callS fX8_isWord 4 (q_if_eq (q_iinc 3 1 q_ag) (q_dn kX8_wordOrName_18))))))))))
noncomputable def kX8_wordOrName_2 : zK zR := q_lp (bX8_wordOrName_2)
noncomputable def kX8_wordOrName_0 : zK zR := (q_push 0 (q_istore 3 kX8_wordOrName_2))
set_option maxRecDepth 100000 in
theorem tX8_wordOrName_26 {l : Launch} {D : zD} {B sz0 : Nat} {post : Option Value → zS → Prop} : zSnd l D B xX8_wordOrName sz0 post 26 kX8_wordOrName_26 (z_Jr post) := (s_bipush dX8_wordOrName_26 (by decide) (s_iret dX8_wordOrName_28 rfl))
set_option maxRecDepth 100000 in
theorem tX8_wordOrName_18 {l : Launch} {D : zD} {B sz0 : Nat} {post : Option Value → zS → Prop} : zSnd l D B xX8_wordOrName sz0 post 18 kX8_wordOrName_18 (z_Jr post) := (s_iload_n dX8_wordOrName_18 rfl (s_iret dX8_wordOrName_19 rfl))
set_option maxRecDepth 100000 in
theorem tX8_wordOrName_2 {l : Launch} {D : zD} {B sz0 : Nat} {post : Option Value → zS → Prop} : zSnd l D B xX8_wordOrName sz0 post 2 kX8_wordOrName_2 (z_Jr post) := s_lp (body := bX8_wordOrName_2) (s_iload_n dX8_wordOrName_2 rfl (s_bipush dX8_wordOrName_3 (by decide) (s_icmp_ge (tgt := 26) dX8_wordOrName_5 (by decide) (s_dn tX8_wordOrName_26) (s_aload_n dX8_wordOrName_8 rfl (s_iload_n dX8_wordOrName_9 rfl (s_iload_n dX8_wordOrName_10 rfl (s_iload_n dX8_wordOrName_11 rfl (s_callS dX8_wordOrName_12 mX8_isWord meX8_isWord wd380 rfl reX8_isWord rmX8_wordOrName (fitX8_wordOrName_12) wd381 (s_if_eq (tgt := 20) dX8_wordOrName_15 (by decide) (s_iinc dX8_wordOrName_20 (by decide) (s_goto (tgt := 2) dX8_wordOrName_23 (by decide) s_ag)) (s_dn tX8_wordOrName_18))))))))))
set_option maxRecDepth 100000 in
theorem tX8_wordOrName_0 {l : Launch} {D : zD} {B sz0 : Nat} {post : Option Value → zS → Prop} : zSnd l D B xX8_wordOrName sz0 post 0 kX8_wordOrName_0 (z_Jr post) := (s_iconst dX8_wordOrName_0 (by decide) (s_istore_n dX8_wordOrName_1 rfl tX8_wordOrName_2))
noncomputable def fX8_wordOrName : zF := z_fn 4 kX8_wordOrName_0
theorem mX8_wordOrName {l : Launch} {D : zD} {B : Nat} : z_MF l D B yX8_wordOrName xX8_wordOrName fX8_wordOrName := z_mf (by decide) rfl (fun h => by cases h) rfl (fun as σ r h => ⟨z_fn_len h, kX8_wordOrName_0, z_fn_run h, fun _ => tX8_wordOrName_0⟩)
/-! ===== java/lang/String.coder ===== -/
theorem dJ0_coder_7d493_0 : decode cJ0_coder_7d493 0 = .ok (.getstatic 38, 3) := by decide +kernel
theorem dJ0_coder_7d493_3 : decode cJ0_coder_7d493 3 = .ok (.ifCond .eq 10, 3) := by decide +kernel
theorem dJ0_coder_7d493_6 : decode cJ0_coder_7d493 6 = .ok (.aload_n 0, 1) := by decide +kernel
theorem dJ0_coder_7d493_7 : decode cJ0_coder_7d493 7 = .ok (.getfield 15, 3) := by decide +kernel
theorem dJ0_coder_7d493_10 : decode cJ0_coder_7d493 10 = .ok (.goto 4, 3) := by decide +kernel
theorem dJ0_coder_7d493_13 : decode cJ0_coder_7d493 13 = .ok (.iconst 1, 1) := by decide +kernel
theorem dJ0_coder_7d493_14 : decode cJ0_coder_7d493 14 = .ok (.ireturn, 1) := by decide +kernel
def xJ0_coder_7d493 : zX := (RJ0, cJ0_coder_7d493, 1, (some .byte), false, { frames := 1, cells := 0, slots := 0, locals := 90 }, 0, 0, 0, 0)
theorem rmJ0_coder_7d493 : z_Rm xJ0_coder_7d493 := by unfold z_Rm xJ0_coder_7d493; exact ⟨by decide, by decide⟩
theorem reJ0_coder_7d493 : z_Re xJ0_coder_7d493 := ⟨rfl, rfl⟩
theorem rlJ0_coder_7d493 : 1 ≤ xJ0_coder_7d493.2.2.2.2.2.1.frames ∧ 21 ≤ xJ0_coder_7d493.2.2.2.2.2.1.locals := by unfold xJ0_coder_7d493; exact ⟨by decide, by decide⟩
theorem meJ0_coder_7d493 : z_Me yJ0_coder_7d493 xJ0_coder_7d493 0 := ⟨wd383, wd357, by decide, by decide, by decide +kernel⟩
noncomputable def kJ0_coder_7d493_14 : zK zR := (q_cret .byte)
noncomputable def kJ0_coder_7d493_0 : zK zR := (q_getsC (q_if_eq (q_push 1 kJ0_coder_7d493_14) (q_aload 0 (q_getTc kJ0_coder_7d493_14))))
set_option maxRecDepth 100000 in
theorem tJ0_coder_7d493_14 {l : Launch} {D : zD} {B sz0 : Nat} {post : Option Value → zS → Prop} : zSnd l D B xJ0_coder_7d493 sz0 post 14 kJ0_coder_7d493_14 (z_Jr post) := (s_cret dJ0_coder_7d493_14 rfl (fun _ => rfl))
set_option maxRecDepth 100000 in
theorem tJ0_coder_7d493_0 {l : Launch} {D : zD} {B sz0 : Nat} {post : Option Value → zS → Prop} : zSnd l D B xJ0_coder_7d493 sz0 post 0 kJ0_coder_7d493_0 (z_Jr post) := (s_getsC dJ0_coder_7d493_0 wd354 (s_if_eq (tgt := 13) dJ0_coder_7d493_3 (by decide) (s_iconst dJ0_coder_7d493_13 (by decide) tJ0_coder_7d493_14) (s_aload_n dJ0_coder_7d493_6 rfl (s_getTc dJ0_coder_7d493_7 wd355 (s_goto (tgt := 14) dJ0_coder_7d493_10 (by decide) tJ0_coder_7d493_14)))))
noncomputable def fJ0_coder_7d493 : zF := z_fn 1 kJ0_coder_7d493_0
theorem mJ0_coder_7d493 {l : Launch} {D : zD} {B : Nat} : z_MF l D B yJ0_coder_7d493 xJ0_coder_7d493 fJ0_coder_7d493 := z_mf (by decide) rfl (fun h => by cases h) rfl (fun as σ r h => ⟨z_fn_len h, kJ0_coder_7d493_0, z_fn_run h, fun _ => tJ0_coder_7d493_0⟩)
/-! ===== java/lang/String.length ===== -/
theorem dJ0_length_8abf5_0 : decode cJ0_length_8abf5 0 = .ok (.aload_n 0, 1) := by decide +kernel
theorem dJ0_length_8abf5_1 : decode cJ0_length_8abf5 1 = .ok (.getfield 9, 3) := by decide +kernel
theorem dJ0_length_8abf5_4 : decode cJ0_length_8abf5 4 = .ok (.arraylength, 1) := by decide +kernel
theorem dJ0_length_8abf5_5 : decode cJ0_length_8abf5 5 = .ok (.aload_n 0, 1) := by decide +kernel
theorem dJ0_length_8abf5_6 : decode cJ0_length_8abf5 6 = .ok (.invokevirtual 335, 3) := by decide +kernel
theorem dJ0_length_8abf5_9 : decode cJ0_length_8abf5 9 = .ok (.ishr, 1) := by decide +kernel
theorem dJ0_length_8abf5_10 : decode cJ0_length_8abf5 10 = .ok (.ireturn, 1) := by decide +kernel
def xJ0_length_8abf5 : zX := (RJ0, cJ0_length_8abf5, 1, (some .int), false, { frames := 2, cells := 0, slots := 0, locals := 110 }, 0, 0, 0, 0)
theorem rmJ0_length_8abf5 : z_Rm xJ0_length_8abf5 := by unfold z_Rm xJ0_length_8abf5; exact ⟨by decide, by decide⟩
theorem reJ0_length_8abf5 : z_Re xJ0_length_8abf5 := ⟨rfl, rfl⟩
theorem rlJ0_length_8abf5 : 1 ≤ xJ0_length_8abf5.2.2.2.2.2.1.frames ∧ 21 ≤ xJ0_length_8abf5.2.2.2.2.2.1.locals := by unfold xJ0_length_8abf5; exact ⟨by decide, by decide⟩
theorem meJ0_length_8abf5 : z_Me yJ0_length_8abf5 xJ0_length_8abf5 0 := ⟨wd387, wd357, by decide, by decide, by decide +kernel⟩
theorem fitJ0_length_8abf5_6 : z_Fit xJ0_coder_7d493 xJ0_length_8abf5 := by unfold z_Fit; simp only [xJ0_coder_7d493, xJ0_length_8abf5]; exact ⟨by decide, by decide⟩
noncomputable def kJ0_length_8abf5_0 : zK zR := (q_aload 0 (q_getTv (q_alenT (q_aload 0 (q_callT fJ0_coder_7d493 0 (q_ishr q_iret))))))
set_option maxRecDepth 100000 in
theorem tJ0_length_8abf5_0 {l : Launch} {D : zD} {B sz0 : Nat} {post : Option Value → zS → Prop} : zSnd l D B xJ0_length_8abf5 sz0 post 0 kJ0_length_8abf5_0 (z_Jr post) := (s_aload_n dJ0_length_8abf5_0 rfl (s_getTv dJ0_length_8abf5_1 wd371 (s_alenT dJ0_length_8abf5_4 (s_aload_n dJ0_length_8abf5_5 rfl (s_callT dJ0_length_8abf5_6 mJ0_coder_7d493 meJ0_coder_7d493 wd384 wd385 rfl reJ0_coder_7d493 rmJ0_length_8abf5 (fitJ0_length_8abf5_6) wd386 (s_ishr dJ0_length_8abf5_9 (s_iret dJ0_length_8abf5_10 rfl)))))))
noncomputable def fJ0_length_8abf5 : zF := z_fn 1 kJ0_length_8abf5_0
theorem mJ0_length_8abf5 {l : Launch} {D : zD} {B : Nat} : z_MF l D B yJ0_length_8abf5 xJ0_length_8abf5 fJ0_length_8abf5 := z_mf (by decide) rfl (fun h => by cases h) rfl (fun as σ r h => ⟨z_fn_len h, kJ0_length_8abf5_0, z_fn_run h, fun _ => tJ0_length_8abf5_0⟩)
/-! ===== java/lang/StringLatin1.canEncode ===== -/
theorem dJ1_canEncode_9a6ad_0 : decode cJ1_canEncode_9a6ad 0 = .ok (.iload_n 0, 1) := by decide +kernel
theorem dJ1_canEncode_9a6ad_1 : decode cJ1_canEncode_9a6ad 1 = .ok (.ifCond .lt 14, 3) := by decide +kernel
theorem dJ1_canEncode_9a6ad_4 : decode cJ1_canEncode_9a6ad 4 = .ok (.iload_n 0, 1) := by decide +kernel
theorem dJ1_canEncode_9a6ad_5 : decode cJ1_canEncode_9a6ad 5 = .ok (.sipush 255, 3) := by decide +kernel
theorem dJ1_canEncode_9a6ad_8 : decode cJ1_canEncode_9a6ad 8 = .ok (.if_icmp .gt 7, 3) := by decide +kernel
theorem dJ1_canEncode_9a6ad_11 : decode cJ1_canEncode_9a6ad 11 = .ok (.iconst 1, 1) := by decide +kernel
theorem dJ1_canEncode_9a6ad_12 : decode cJ1_canEncode_9a6ad 12 = .ok (.goto 4, 3) := by decide +kernel
theorem dJ1_canEncode_9a6ad_15 : decode cJ1_canEncode_9a6ad 15 = .ok (.iconst 0, 1) := by decide +kernel
theorem dJ1_canEncode_9a6ad_16 : decode cJ1_canEncode_9a6ad 16 = .ok (.ireturn, 1) := by decide +kernel
def xJ1_canEncode_9a6ad : zX := (RJ1, cJ1_canEncode_9a6ad, 1, (some .boolean), false, { frames := 1, cells := 0, slots := 0, locals := 90 }, 0, 0, 0, 0)
theorem rmJ1_canEncode_9a6ad : z_Rm xJ1_canEncode_9a6ad := by unfold z_Rm xJ1_canEncode_9a6ad; exact ⟨by decide, by decide⟩
theorem reJ1_canEncode_9a6ad : z_Re xJ1_canEncode_9a6ad := ⟨rfl, rfl⟩
theorem rlJ1_canEncode_9a6ad : 1 ≤ xJ1_canEncode_9a6ad.2.2.2.2.2.1.frames ∧ 21 ≤ xJ1_canEncode_9a6ad.2.2.2.2.2.1.locals := by unfold xJ1_canEncode_9a6ad; exact ⟨by decide, by decide⟩
theorem meJ1_canEncode_9a6ad : z_Me yJ1_canEncode_9a6ad xJ1_canEncode_9a6ad 1 := ⟨wd388, wd367, by decide, by decide, by decide +kernel⟩
noncomputable def kJ1_canEncode_9a6ad_16 : zK zR := q_zret
noncomputable def kJ1_canEncode_9a6ad_15 : zK zR := (q_push 0 kJ1_canEncode_9a6ad_16)
noncomputable def kJ1_canEncode_9a6ad_0 : zK zR := (q_iload 0 (q_if_lt kJ1_canEncode_9a6ad_15 (q_iload 0 (q_push 255 (q_icmp_gt kJ1_canEncode_9a6ad_15 (q_push 1 kJ1_canEncode_9a6ad_16))))))
set_option maxRecDepth 100000 in
theorem tJ1_canEncode_9a6ad_16 {l : Launch} {D : zD} {B sz0 : Nat} {post : Option Value → zS → Prop} : zSnd l D B xJ1_canEncode_9a6ad sz0 post 16 kJ1_canEncode_9a6ad_16 (z_Jr post) := (s_zret dJ1_canEncode_9a6ad_16 rfl)
set_option maxRecDepth 100000 in
theorem tJ1_canEncode_9a6ad_15 {l : Launch} {D : zD} {B sz0 : Nat} {post : Option Value → zS → Prop} : zSnd l D B xJ1_canEncode_9a6ad sz0 post 15 kJ1_canEncode_9a6ad_15 (z_Jr post) := (s_iconst dJ1_canEncode_9a6ad_15 (by decide) tJ1_canEncode_9a6ad_16)
set_option maxRecDepth 100000 in
theorem tJ1_canEncode_9a6ad_0 {l : Launch} {D : zD} {B sz0 : Nat} {post : Option Value → zS → Prop} : zSnd l D B xJ1_canEncode_9a6ad sz0 post 0 kJ1_canEncode_9a6ad_0 (z_Jr post) := (s_iload_n dJ1_canEncode_9a6ad_0 rfl (s_if_lt (tgt := 15) dJ1_canEncode_9a6ad_1 (by decide) tJ1_canEncode_9a6ad_15 (s_iload_n dJ1_canEncode_9a6ad_4 rfl (s_sipush dJ1_canEncode_9a6ad_5 (by decide) (s_icmp_gt (tgt := 15) dJ1_canEncode_9a6ad_8 (by decide) tJ1_canEncode_9a6ad_15 (s_iconst dJ1_canEncode_9a6ad_11 (by decide) (s_goto (tgt := 16) dJ1_canEncode_9a6ad_12 (by decide) tJ1_canEncode_9a6ad_16)))))))
noncomputable def fJ1_canEncode_9a6ad : zF := z_fn 1 kJ1_canEncode_9a6ad_0
theorem mJ1_canEncode_9a6ad {l : Launch} {D : zD} {B : Nat} : z_MF l D B yJ1_canEncode_9a6ad xJ1_canEncode_9a6ad fJ1_canEncode_9a6ad := z_mf (by decide) rfl (fun h => by cases h) rfl (fun as σ r h => ⟨z_fn_len h, kJ1_canEncode_9a6ad_0, z_fn_run h, fun _ => tJ1_canEncode_9a6ad_0⟩)
/-! ===== java/lang/StringLatin1.indexOfChar ===== -/
theorem dJ1_indexOfChar_4cfef_0 : decode cJ1_indexOfChar_4cfef 0 = .ok (.iload_n 1, 1) := by decide +kernel
theorem dJ1_indexOfChar_4cfef_1 : decode cJ1_indexOfChar_4cfef 1 = .ok (.i2b, 1) := by decide +kernel
theorem dJ1_indexOfChar_4cfef_2 : decode cJ1_indexOfChar_4cfef 2 = .ok (.istore 4, 2) := by decide +kernel
theorem dJ1_indexOfChar_4cfef_4 : decode cJ1_indexOfChar_4cfef 4 = .ok (.iload_n 2, 1) := by decide +kernel
theorem dJ1_indexOfChar_4cfef_5 : decode cJ1_indexOfChar_4cfef 5 = .ok (.istore 5, 2) := by decide +kernel
theorem dJ1_indexOfChar_4cfef_7 : decode cJ1_indexOfChar_4cfef 7 = .ok (.iload 5, 2) := by decide +kernel
theorem dJ1_indexOfChar_4cfef_9 : decode cJ1_indexOfChar_4cfef 9 = .ok (.iload_n 3, 1) := by decide +kernel
theorem dJ1_indexOfChar_4cfef_10 : decode cJ1_indexOfChar_4cfef 10 = .ok (.if_icmp .ge 21, 3) := by decide +kernel
theorem dJ1_indexOfChar_4cfef_13 : decode cJ1_indexOfChar_4cfef 13 = .ok (.aload_n 0, 1) := by decide +kernel
theorem dJ1_indexOfChar_4cfef_14 : decode cJ1_indexOfChar_4cfef 14 = .ok (.iload 5, 2) := by decide +kernel
theorem dJ1_indexOfChar_4cfef_16 : decode cJ1_indexOfChar_4cfef 16 = .ok (.baload, 1) := by decide +kernel
theorem dJ1_indexOfChar_4cfef_17 : decode cJ1_indexOfChar_4cfef 17 = .ok (.iload 4, 2) := by decide +kernel
theorem dJ1_indexOfChar_4cfef_19 : decode cJ1_indexOfChar_4cfef 19 = .ok (.if_icmp .ne 6, 3) := by decide +kernel
theorem dJ1_indexOfChar_4cfef_22 : decode cJ1_indexOfChar_4cfef 22 = .ok (.iload 5, 2) := by decide +kernel
theorem dJ1_indexOfChar_4cfef_24 : decode cJ1_indexOfChar_4cfef 24 = .ok (.ireturn, 1) := by decide +kernel
theorem dJ1_indexOfChar_4cfef_25 : decode cJ1_indexOfChar_4cfef 25 = .ok (.iinc 5 1, 3) := by decide +kernel
theorem dJ1_indexOfChar_4cfef_28 : decode cJ1_indexOfChar_4cfef 28 = .ok (.goto (-21), 3) := by decide +kernel
theorem dJ1_indexOfChar_4cfef_31 : decode cJ1_indexOfChar_4cfef 31 = .ok (.iconst (-1), 1) := by decide +kernel
theorem dJ1_indexOfChar_4cfef_32 : decode cJ1_indexOfChar_4cfef 32 = .ok (.ireturn, 1) := by decide +kernel
def xJ1_indexOfChar_4cfef : zX := (RJ1, cJ1_indexOfChar_4cfef, 6, (some .int), false, { frames := 1, cells := 0, slots := 0, locals := 90 }, 0, 0, 0, 0)
theorem rmJ1_indexOfChar_4cfef : z_Rm xJ1_indexOfChar_4cfef := by unfold z_Rm xJ1_indexOfChar_4cfef; exact ⟨by decide, by decide⟩
theorem reJ1_indexOfChar_4cfef : z_Re xJ1_indexOfChar_4cfef := ⟨rfl, rfl⟩
theorem rlJ1_indexOfChar_4cfef : 1 ≤ xJ1_indexOfChar_4cfef.2.2.2.2.2.1.frames ∧ 21 ≤ xJ1_indexOfChar_4cfef.2.2.2.2.2.1.locals := by unfold xJ1_indexOfChar_4cfef; exact ⟨by decide, by decide⟩
theorem meJ1_indexOfChar_4cfef : z_Me yJ1_indexOfChar_4cfef xJ1_indexOfChar_4cfef 4 := ⟨wd389, wd367, by decide, by decide, by decide +kernel⟩
noncomputable def kJ1_indexOfChar_4cfef_31 : zK zR := (q_push (-1) q_iret)
noncomputable def kJ1_indexOfChar_4cfef_22 : zK zR := (q_iload 5 q_iret)
noncomputable def bJ1_indexOfChar_4cfef_7 : zK ((zL × zS) ⊕ zR) := (q_iload 5 (q_iload 3 (q_icmp_ge (q_dn kJ1_indexOfChar_4cfef_31) (q_aload 0 (q_iload 5 (q_baldT (q_iload 4 (q_icmp_ne (q_iinc 5 1 q_ag) (q_dn kJ1_indexOfChar_4cfef_22)))))))))
noncomputable def kJ1_indexOfChar_4cfef_7 : zK zR := q_lp (bJ1_indexOfChar_4cfef_7)
noncomputable def kJ1_indexOfChar_4cfef_0 : zK zR := (q_iload 1 (q_i2b (q_istore 4 (q_iload 2 (q_istore 5 kJ1_indexOfChar_4cfef_7)))))
set_option maxRecDepth 100000 in
theorem tJ1_indexOfChar_4cfef_31 {l : Launch} {D : zD} {B sz0 : Nat} {post : Option Value → zS → Prop} : zSnd l D B xJ1_indexOfChar_4cfef sz0 post 31 kJ1_indexOfChar_4cfef_31 (z_Jr post) := (s_iconst dJ1_indexOfChar_4cfef_31 (by decide) (s_iret dJ1_indexOfChar_4cfef_32 rfl))
set_option maxRecDepth 100000 in
theorem tJ1_indexOfChar_4cfef_22 {l : Launch} {D : zD} {B sz0 : Nat} {post : Option Value → zS → Prop} : zSnd l D B xJ1_indexOfChar_4cfef sz0 post 22 kJ1_indexOfChar_4cfef_22 (z_Jr post) := (s_iload dJ1_indexOfChar_4cfef_22 (s_iret dJ1_indexOfChar_4cfef_24 rfl))
set_option maxRecDepth 100000 in
theorem tJ1_indexOfChar_4cfef_7 {l : Launch} {D : zD} {B sz0 : Nat} {post : Option Value → zS → Prop} : zSnd l D B xJ1_indexOfChar_4cfef sz0 post 7 kJ1_indexOfChar_4cfef_7 (z_Jr post) := s_lp (body := bJ1_indexOfChar_4cfef_7) (s_iload dJ1_indexOfChar_4cfef_7 (s_iload_n dJ1_indexOfChar_4cfef_9 rfl (s_icmp_ge (tgt := 31) dJ1_indexOfChar_4cfef_10 (by decide) (s_dn tJ1_indexOfChar_4cfef_31) (s_aload_n dJ1_indexOfChar_4cfef_13 rfl (s_iload dJ1_indexOfChar_4cfef_14 (s_baldT dJ1_indexOfChar_4cfef_16 (s_iload dJ1_indexOfChar_4cfef_17 (s_icmp_ne (tgt := 25) dJ1_indexOfChar_4cfef_19 (by decide) (s_iinc dJ1_indexOfChar_4cfef_25 (by decide) (s_goto (tgt := 7) dJ1_indexOfChar_4cfef_28 (by decide) s_ag)) (s_dn tJ1_indexOfChar_4cfef_22)))))))))
set_option maxRecDepth 100000 in
theorem tJ1_indexOfChar_4cfef_0 {l : Launch} {D : zD} {B sz0 : Nat} {post : Option Value → zS → Prop} : zSnd l D B xJ1_indexOfChar_4cfef sz0 post 0 kJ1_indexOfChar_4cfef_0 (z_Jr post) := (s_iload_n dJ1_indexOfChar_4cfef_0 rfl (s_i2b dJ1_indexOfChar_4cfef_1 (s_istore dJ1_indexOfChar_4cfef_2 (s_iload_n dJ1_indexOfChar_4cfef_4 rfl (s_istore dJ1_indexOfChar_4cfef_5 tJ1_indexOfChar_4cfef_7)))))
noncomputable def fJ1_indexOfChar_4cfef : zF := z_fn 6 kJ1_indexOfChar_4cfef_0
theorem mJ1_indexOfChar_4cfef {l : Launch} {D : zD} {B : Nat} : z_MF l D B yJ1_indexOfChar_4cfef xJ1_indexOfChar_4cfef fJ1_indexOfChar_4cfef := z_mf (by decide) rfl (fun h => by cases h) rfl (fun as σ r h => ⟨z_fn_len h, kJ1_indexOfChar_4cfef_0, z_fn_run h, fun _ => tJ1_indexOfChar_4cfef_0⟩)
/-! ===== java/lang/StringLatin1.indexOf ===== -/
theorem dJ1_indexOf_4cfef_0 : decode cJ1_indexOf_4cfef 0 = .ok (.iload_n 1, 1) := by decide +kernel
theorem dJ1_indexOf_4cfef_1 : decode cJ1_indexOf_4cfef 1 = .ok (.invokestatic 88, 3) := by decide +kernel
theorem dJ1_indexOf_4cfef_4 : decode cJ1_indexOf_4cfef 4 = .ok (.ifCond .ne 5, 3) := by decide +kernel
theorem dJ1_indexOf_4cfef_7 : decode cJ1_indexOf_4cfef 7 = .ok (.iconst (-1), 1) := by decide +kernel
theorem dJ1_indexOf_4cfef_8 : decode cJ1_indexOf_4cfef 8 = .ok (.ireturn, 1) := by decide +kernel
theorem dJ1_indexOf_4cfef_9 : decode cJ1_indexOf_4cfef 9 = .ok (.iload_n 2, 1) := by decide +kernel
theorem dJ1_indexOf_4cfef_10 : decode cJ1_indexOf_4cfef 10 = .ok (.iconst 0, 1) := by decide +kernel
theorem dJ1_indexOf_4cfef_11 : decode cJ1_indexOf_4cfef 11 = .ok (.invokestatic 92, 3) := by decide +kernel
theorem dJ1_indexOf_4cfef_14 : decode cJ1_indexOf_4cfef 14 = .ok (.istore_n 2, 1) := by decide +kernel
theorem dJ1_indexOf_4cfef_15 : decode cJ1_indexOf_4cfef 15 = .ok (.iload_n 3, 1) := by decide +kernel
theorem dJ1_indexOf_4cfef_16 : decode cJ1_indexOf_4cfef 16 = .ok (.aload_n 0, 1) := by decide +kernel
theorem dJ1_indexOf_4cfef_17 : decode cJ1_indexOf_4cfef 17 = .ok (.arraylength, 1) := by decide +kernel
theorem dJ1_indexOf_4cfef_18 : decode cJ1_indexOf_4cfef 18 = .ok (.invokestatic 38, 3) := by decide +kernel
theorem dJ1_indexOf_4cfef_21 : decode cJ1_indexOf_4cfef 21 = .ok (.istore_n 3, 1) := by decide +kernel
theorem dJ1_indexOf_4cfef_22 : decode cJ1_indexOf_4cfef 22 = .ok (.iload_n 2, 1) := by decide +kernel
theorem dJ1_indexOf_4cfef_23 : decode cJ1_indexOf_4cfef 23 = .ok (.iload_n 3, 1) := by decide +kernel
theorem dJ1_indexOf_4cfef_24 : decode cJ1_indexOf_4cfef 24 = .ok (.if_icmp .lt 5, 3) := by decide +kernel
theorem dJ1_indexOf_4cfef_27 : decode cJ1_indexOf_4cfef 27 = .ok (.iconst (-1), 1) := by decide +kernel
theorem dJ1_indexOf_4cfef_28 : decode cJ1_indexOf_4cfef 28 = .ok (.ireturn, 1) := by decide +kernel
theorem dJ1_indexOf_4cfef_29 : decode cJ1_indexOf_4cfef 29 = .ok (.aload_n 0, 1) := by decide +kernel
theorem dJ1_indexOf_4cfef_30 : decode cJ1_indexOf_4cfef 30 = .ok (.iload_n 1, 1) := by decide +kernel
theorem dJ1_indexOf_4cfef_31 : decode cJ1_indexOf_4cfef 31 = .ok (.iload_n 2, 1) := by decide +kernel
theorem dJ1_indexOf_4cfef_32 : decode cJ1_indexOf_4cfef 32 = .ok (.iload_n 3, 1) := by decide +kernel
theorem dJ1_indexOf_4cfef_33 : decode cJ1_indexOf_4cfef 33 = .ok (.invokestatic 95, 3) := by decide +kernel
theorem dJ1_indexOf_4cfef_36 : decode cJ1_indexOf_4cfef 36 = .ok (.ireturn, 1) := by decide +kernel
def xJ1_indexOf_4cfef : zX := (RJ1, cJ1_indexOf_4cfef, 4, (some .int), false, { frames := 2, cells := 0, slots := 0, locals := 115 }, 0, 0, 0, 0)
theorem rmJ1_indexOf_4cfef : z_Rm xJ1_indexOf_4cfef := by unfold z_Rm xJ1_indexOf_4cfef; exact ⟨by decide, by decide⟩
theorem reJ1_indexOf_4cfef : z_Re xJ1_indexOf_4cfef := ⟨rfl, rfl⟩
theorem rlJ1_indexOf_4cfef : 1 ≤ xJ1_indexOf_4cfef.2.2.2.2.2.1.frames ∧ 21 ≤ xJ1_indexOf_4cfef.2.2.2.2.2.1.locals := by unfold xJ1_indexOf_4cfef; exact ⟨by decide, by decide⟩
theorem meJ1_indexOf_4cfef : z_Me yJ1_indexOf_4cfef xJ1_indexOf_4cfef 4 := ⟨wd396, wd367, by decide, by decide, by decide +kernel⟩
theorem fitJ1_indexOf_4cfef_1 : z_Fit xJ1_canEncode_9a6ad xJ1_indexOf_4cfef := by unfold z_Fit; simp only [xJ1_canEncode_9a6ad, xJ1_indexOf_4cfef]; exact ⟨by decide, by decide⟩
theorem fitJ1_indexOf_4cfef_33 : z_Fit xJ1_indexOfChar_4cfef xJ1_indexOf_4cfef := by unfold z_Fit; simp only [xJ1_indexOfChar_4cfef, xJ1_indexOf_4cfef]; exact ⟨by decide, by decide⟩
noncomputable def kJ1_indexOf_4cfef_0 : zK zR := (q_iload 1 (q_callS fJ1_canEncode_9a6ad 1 (q_if_ne (q_iload 2 (q_push 0 (q_mmax (q_istore 2 (q_iload 3 (q_aload 0 (q_alenT (q_mmin (q_istore 3 (q_iload 2 (q_iload 3 (q_icmp_lt (q_aload 0 (q_iload 1 (q_iload 2 (q_iload 3 (q_callS fJ1_indexOfChar_4cfef 4 q_iret))))) (q_push (-1) q_iret))))))))))))) (q_push (-1) q_iret))))
set_option maxRecDepth 100000 in
theorem tJ1_indexOf_4cfef_0 {l : Launch} {D : zD} {B sz0 : Nat} {post : Option Value → zS → Prop} : zSnd l D B xJ1_indexOf_4cfef sz0 post 0 kJ1_indexOf_4cfef_0 (z_Jr post) := (s_iload_n dJ1_indexOf_4cfef_0 rfl (s_callS dJ1_indexOf_4cfef_1 mJ1_canEncode_9a6ad meJ1_canEncode_9a6ad wd390 rfl reJ1_canEncode_9a6ad rmJ1_indexOf_4cfef (fitJ1_indexOf_4cfef_1) wd391 (s_if_ne (tgt := 9) dJ1_indexOf_4cfef_4 (by decide) (s_iload_n dJ1_indexOf_4cfef_9 rfl (s_iconst dJ1_indexOf_4cfef_10 (by decide) (s_mmax dJ1_indexOf_4cfef_11 wd392 wd152 wd149 wd153 (rlJ1_indexOf_4cfef) rmJ1_indexOf_4cfef (s_istore_n dJ1_indexOf_4cfef_14 rfl (s_iload_n dJ1_indexOf_4cfef_15 rfl (s_aload_n dJ1_indexOf_4cfef_16 rfl (s_alenT dJ1_indexOf_4cfef_17 (s_mmin dJ1_indexOf_4cfef_18 wd393 wd148 wd149 wd150 (rlJ1_indexOf_4cfef) rmJ1_indexOf_4cfef (s_istore_n dJ1_indexOf_4cfef_21 rfl (s_iload_n dJ1_indexOf_4cfef_22 rfl (s_iload_n dJ1_indexOf_4cfef_23 rfl (s_icmp_lt (tgt := 29) dJ1_indexOf_4cfef_24 (by decide) (s_aload_n dJ1_indexOf_4cfef_29 rfl (s_iload_n dJ1_indexOf_4cfef_30 rfl (s_iload_n dJ1_indexOf_4cfef_31 rfl (s_iload_n dJ1_indexOf_4cfef_32 rfl (s_callS dJ1_indexOf_4cfef_33 mJ1_indexOfChar_4cfef meJ1_indexOfChar_4cfef wd394 rfl reJ1_indexOfChar_4cfef rmJ1_indexOf_4cfef (fitJ1_indexOf_4cfef_33) wd395 (s_iret dJ1_indexOf_4cfef_36 rfl)))))) (s_iconst dJ1_indexOf_4cfef_27 (by decide) (s_iret dJ1_indexOf_4cfef_28 rfl)))))))))))))) (s_iconst dJ1_indexOf_4cfef_7 (by decide) (s_iret dJ1_indexOf_4cfef_8 rfl)))))
noncomputable def fJ1_indexOf_4cfef : zF := z_fn 4 kJ1_indexOf_4cfef_0
theorem mJ1_indexOf_4cfef {l : Launch} {D : zD} {B : Nat} : z_MF l D B yJ1_indexOf_4cfef xJ1_indexOf_4cfef fJ1_indexOf_4cfef := z_mf (by decide) rfl (fun h => by cases h) rfl (fun as σ r h => ⟨z_fn_len h, kJ1_indexOf_4cfef_0, z_fn_run h, fun _ => tJ1_indexOf_4cfef_0⟩)
/-! ===== java/lang/String.indexOf ===== -/
theorem dJ0_indexOf_7cf53_0 : decode cJ0_indexOf_7cf53 0 = .ok (.aload_n 0, 1) := by decide +kernel
theorem dJ0_indexOf_7cf53_1 : decode cJ0_indexOf_7cf53 1 = .ok (.invokevirtual 492, 3) := by decide +kernel
theorem dJ0_indexOf_7cf53_4 : decode cJ0_indexOf_7cf53 4 = .ok (.ifCond .eq 19, 3) := by decide +kernel
theorem dJ0_indexOf_7cf53_7 : decode cJ0_indexOf_7cf53 7 = .ok (.aload_n 0, 1) := by decide +kernel
theorem dJ0_indexOf_7cf53_8 : decode cJ0_indexOf_7cf53 8 = .ok (.getfield 9, 3) := by decide +kernel
theorem dJ0_indexOf_7cf53_11 : decode cJ0_indexOf_7cf53 11 = .ok (.iload_n 1, 1) := by decide +kernel
theorem dJ0_indexOf_7cf53_12 : decode cJ0_indexOf_7cf53 12 = .ok (.iload_n 2, 1) := by decide +kernel
theorem dJ0_indexOf_7cf53_13 : decode cJ0_indexOf_7cf53 13 = .ok (.aload_n 0, 1) := by decide +kernel
theorem dJ0_indexOf_7cf53_14 : decode cJ0_indexOf_7cf53 14 = .ok (.invokevirtual 505, 3) := by decide +kernel
theorem dJ0_indexOf_7cf53_17 : decode cJ0_indexOf_7cf53 17 = .ok (.invokestatic 637, 3) := by decide +kernel
theorem dJ0_indexOf_7cf53_20 : decode cJ0_indexOf_7cf53 20 = .ok (.goto 16, 3) := by decide +kernel
theorem dJ0_indexOf_7cf53_23 : decode cJ0_indexOf_7cf53 23 = .ok (.aload_n 0, 1) := by decide +kernel
theorem dJ0_indexOf_7cf53_24 : decode cJ0_indexOf_7cf53 24 = .ok (.getfield 9, 3) := by decide +kernel
theorem dJ0_indexOf_7cf53_27 : decode cJ0_indexOf_7cf53 27 = .ok (.iload_n 1, 1) := by decide +kernel
theorem dJ0_indexOf_7cf53_28 : decode cJ0_indexOf_7cf53 28 = .ok (.iload_n 2, 1) := by decide +kernel
theorem dJ0_indexOf_7cf53_29 : decode cJ0_indexOf_7cf53 29 = .ok (.aload_n 0, 1) := by decide +kernel
theorem dJ0_indexOf_7cf53_30 : decode cJ0_indexOf_7cf53 30 = .ok (.invokevirtual 505, 3) := by decide +kernel
theorem dJ0_indexOf_7cf53_33 : decode cJ0_indexOf_7cf53 33 = .ok (.invokestatic 640, 3) := by decide +kernel
theorem dJ0_indexOf_7cf53_36 : decode cJ0_indexOf_7cf53 36 = .ok (.ireturn, 1) := by decide +kernel
def xJ0_indexOf_7cf53 : zX := (RJ0, cJ0_indexOf_7cf53, 3, (some .int), false, { frames := 3, cells := 0, slots := 0, locals := 138 }, 0, 0, 0, 0)
theorem rmJ0_indexOf_7cf53 : z_Rm xJ0_indexOf_7cf53 := by unfold z_Rm xJ0_indexOf_7cf53; exact ⟨by decide, by decide⟩
theorem reJ0_indexOf_7cf53 : z_Re xJ0_indexOf_7cf53 := ⟨rfl, rfl⟩
theorem rlJ0_indexOf_7cf53 : 1 ≤ xJ0_indexOf_7cf53.2.2.2.2.2.1.frames ∧ 21 ≤ xJ0_indexOf_7cf53.2.2.2.2.2.1.locals := by unfold xJ0_indexOf_7cf53; exact ⟨by decide, by decide⟩
theorem meJ0_indexOf_7cf53 : z_Me yJ0_indexOf_7cf53 xJ0_indexOf_7cf53 2 := ⟨wd402, wd357, by decide, by decide, by decide +kernel⟩
theorem fitJ0_indexOf_7cf53_1 : z_Fit xJ0_isLatin1_aae02 xJ0_indexOf_7cf53 := by unfold z_Fit; simp only [xJ0_isLatin1_aae02, xJ0_indexOf_7cf53]; exact ⟨by decide, by decide⟩
theorem fitJ0_indexOf_7cf53_14 : z_Fit xJ0_length_8abf5 xJ0_indexOf_7cf53 := by unfold z_Fit; simp only [xJ0_length_8abf5, xJ0_indexOf_7cf53]; exact ⟨by decide, by decide⟩
theorem fitJ0_indexOf_7cf53_17 : z_Fit xJ1_indexOf_4cfef xJ0_indexOf_7cf53 := by unfold z_Fit; simp only [xJ1_indexOf_4cfef, xJ0_indexOf_7cf53]; exact ⟨by decide, by decide⟩
noncomputable def kJ0_indexOf_7cf53_36 : zK zR := q_iret
noncomputable def kJ0_indexOf_7cf53_0 : zK zR := (q_aload 0 (q_callT fJ0_isLatin1_aae02 0 (q_if_eq q_no (q_aload 0 (q_getTv (q_iload 1 (q_iload 2 (q_aload 0 (q_callT fJ0_length_8abf5 0 (q_callS fJ1_indexOf_4cfef 4 kJ0_indexOf_7cf53_36))))))))))
set_option maxRecDepth 100000 in
theorem tJ0_indexOf_7cf53_36 {l : Launch} {D : zD} {B sz0 : Nat} {post : Option Value → zS → Prop} : zSnd l D B xJ0_indexOf_7cf53 sz0 post 36 kJ0_indexOf_7cf53_36 (z_Jr post) := (s_iret dJ0_indexOf_7cf53_36 rfl)
set_option maxRecDepth 100000 in
theorem tJ0_indexOf_7cf53_0 {l : Launch} {D : zD} {B sz0 : Nat} {post : Option Value → zS → Prop} : zSnd l D B xJ0_indexOf_7cf53 sz0 post 0 kJ0_indexOf_7cf53_0 (z_Jr post) := (s_aload_n dJ0_indexOf_7cf53_0 rfl (s_callT dJ0_indexOf_7cf53_1 mJ0_isLatin1_aae02 meJ0_isLatin1_aae02 wd368 wd369 rfl reJ0_isLatin1_aae02 rmJ0_indexOf_7cf53 (fitJ0_indexOf_7cf53_1) wd370 (s_if_eq (tgt := 23) dJ0_indexOf_7cf53_4 (by decide) s_no (s_aload_n dJ0_indexOf_7cf53_7 rfl (s_getTv dJ0_indexOf_7cf53_8 wd371 (s_iload_n dJ0_indexOf_7cf53_11 rfl (s_iload_n dJ0_indexOf_7cf53_12 rfl (s_aload_n dJ0_indexOf_7cf53_13 rfl (s_callT dJ0_indexOf_7cf53_14 mJ0_length_8abf5 meJ0_length_8abf5 wd397 wd398 rfl reJ0_length_8abf5 rmJ0_indexOf_7cf53 (fitJ0_indexOf_7cf53_14) wd399 (s_callS dJ0_indexOf_7cf53_17 mJ1_indexOf_4cfef meJ1_indexOf_4cfef wd400 rfl reJ1_indexOf_4cfef rmJ0_indexOf_7cf53 (fitJ0_indexOf_7cf53_17) wd401 (s_goto (tgt := 36) dJ0_indexOf_7cf53_20 (by decide) tJ0_indexOf_7cf53_36)))))))))))
noncomputable def fJ0_indexOf_7cf53 : zF := z_fn 3 kJ0_indexOf_7cf53_0
theorem mJ0_indexOf_7cf53 {l : Launch} {D : zD} {B : Nat} : z_MF l D B yJ0_indexOf_7cf53 xJ0_indexOf_7cf53 fJ0_indexOf_7cf53 := z_mf (by decide) rfl (fun h => by cases h) rfl (fun as σ r h => ⟨z_fn_len h, kJ0_indexOf_7cf53_0, z_fn_run h, fun _ => tJ0_indexOf_7cf53_0⟩)
/-! ===== java/lang/String.indexOf ===== -/
theorem dJ0_indexOf_0f7a4_0 : decode cJ0_indexOf_0f7a4 0 = .ok (.aload_n 0, 1) := by decide +kernel
theorem dJ0_indexOf_0f7a4_1 : decode cJ0_indexOf_0f7a4 1 = .ok (.iload_n 1, 1) := by decide +kernel
theorem dJ0_indexOf_0f7a4_2 : decode cJ0_indexOf_0f7a4 2 = .ok (.iconst 0, 1) := by decide +kernel
theorem dJ0_indexOf_0f7a4_3 : decode cJ0_indexOf_0f7a4 3 = .ok (.invokevirtual 633, 3) := by decide +kernel
theorem dJ0_indexOf_0f7a4_6 : decode cJ0_indexOf_0f7a4 6 = .ok (.ireturn, 1) := by decide +kernel
def xJ0_indexOf_0f7a4 : zX := (RJ0, cJ0_indexOf_0f7a4, 2, (some .int), false, { frames := 4, cells := 0, slots := 0, locals := 160 }, 0, 0, 0, 0)
theorem rmJ0_indexOf_0f7a4 : z_Rm xJ0_indexOf_0f7a4 := by unfold z_Rm xJ0_indexOf_0f7a4; exact ⟨by decide, by decide⟩
theorem reJ0_indexOf_0f7a4 : z_Re xJ0_indexOf_0f7a4 := ⟨rfl, rfl⟩
theorem rlJ0_indexOf_0f7a4 : 1 ≤ xJ0_indexOf_0f7a4.2.2.2.2.2.1.frames ∧ 21 ≤ xJ0_indexOf_0f7a4.2.2.2.2.2.1.locals := by unfold xJ0_indexOf_0f7a4; exact ⟨by decide, by decide⟩
theorem meJ0_indexOf_0f7a4 : z_Me yJ0_indexOf_0f7a4 xJ0_indexOf_0f7a4 1 := ⟨wd406, wd357, by decide, by decide, by decide +kernel⟩
theorem fitJ0_indexOf_0f7a4_3 : z_Fit xJ0_indexOf_7cf53 xJ0_indexOf_0f7a4 := by unfold z_Fit; simp only [xJ0_indexOf_7cf53, xJ0_indexOf_0f7a4]; exact ⟨by decide, by decide⟩
noncomputable def kJ0_indexOf_0f7a4_0 : zK zR := (q_aload 0 (q_iload 1 (q_push 0 (q_callT fJ0_indexOf_7cf53 2 q_iret))))
set_option maxRecDepth 100000 in
theorem tJ0_indexOf_0f7a4_0 {l : Launch} {D : zD} {B sz0 : Nat} {post : Option Value → zS → Prop} : zSnd l D B xJ0_indexOf_0f7a4 sz0 post 0 kJ0_indexOf_0f7a4_0 (z_Jr post) := (s_aload_n dJ0_indexOf_0f7a4_0 rfl (s_iload_n dJ0_indexOf_0f7a4_1 rfl (s_iconst dJ0_indexOf_0f7a4_2 (by decide) (s_callT dJ0_indexOf_0f7a4_3 mJ0_indexOf_7cf53 meJ0_indexOf_7cf53 wd403 wd404 rfl reJ0_indexOf_7cf53 rmJ0_indexOf_0f7a4 (fitJ0_indexOf_0f7a4_3) wd405 (s_iret dJ0_indexOf_0f7a4_6 rfl)))))
noncomputable def fJ0_indexOf_0f7a4 : zF := z_fn 2 kJ0_indexOf_0f7a4_0
theorem mJ0_indexOf_0f7a4 {l : Launch} {D : zD} {B : Nat} : z_MF l D B yJ0_indexOf_0f7a4 xJ0_indexOf_0f7a4 fJ0_indexOf_0f7a4 := z_mf (by decide) rfl (fun h => by cases h) rfl (fun as σ r h => ⟨z_fn_len h, kJ0_indexOf_0f7a4_0, z_fn_run h, fun _ => tJ0_indexOf_0f7a4_0⟩)
/-! ===== RowChildren$Tokens.kindOf ===== -/
theorem dX8_kindOf_0 : decode cX8_kindOf 0 = .ok (.iload_n 1, 1) := by decide +kernel
theorem dX8_kindOf_1 : decode cX8_kindOf 1 = .ok (.aload_n 0, 1) := by decide +kernel
theorem dX8_kindOf_2 : decode cX8_kindOf 2 = .ok (.getfield 41, 3) := by decide +kernel
theorem dX8_kindOf_5 : decode cX8_kindOf 5 = .ok (.if_icmp .lt 6, 3) := by decide +kernel
theorem dX8_kindOf_8 : decode cX8_kindOf 8 = .ok (.bipush 22, 2) := by decide +kernel
theorem dX8_kindOf_10 : decode cX8_kindOf 10 = .ok (.ireturn, 1) := by decide +kernel
theorem dX8_kindOf_11 : decode cX8_kindOf 11 = .ok (.aload_n 0, 1) := by decide +kernel
theorem dX8_kindOf_12 : decode cX8_kindOf 12 = .ok (.iload_n 1, 1) := by decide +kernel
theorem dX8_kindOf_13 : decode cX8_kindOf 13 = .ok (.invokevirtual 50, 3) := by decide +kernel
theorem dX8_kindOf_16 : decode cX8_kindOf 16 = .ok (.ifCond .eq 23, 3) := by decide +kernel
theorem dX8_kindOf_19 : decode cX8_kindOf 19 = .ok (.iload_n 2, 1) := by decide +kernel
theorem dX8_kindOf_20 : decode cX8_kindOf 20 = .ok (.iload_n 1, 1) := by decide +kernel
theorem dX8_kindOf_21 : decode cX8_kindOf 21 = .ok (.isub, 1) := by decide +kernel
theorem dX8_kindOf_22 : decode cX8_kindOf 22 = .ok (.bipush 8, 2) := by decide +kernel
theorem dX8_kindOf_24 : decode cX8_kindOf 24 = .ok (.if_icmp .le 8, 3) := by decide +kernel
theorem dX8_kindOf_27 : decode cX8_kindOf 27 = .ok (.bipush 23, 2) := by decide +kernel
theorem dX8_kindOf_29 : decode cX8_kindOf 29 = .ok (.goto 9, 3) := by decide +kernel
theorem dX8_kindOf_32 : decode cX8_kindOf 32 = .ok (.aload_n 0, 1) := by decide +kernel
theorem dX8_kindOf_33 : decode cX8_kindOf 33 = .ok (.iload_n 1, 1) := by decide +kernel
theorem dX8_kindOf_34 : decode cX8_kindOf 34 = .ok (.iload_n 2, 1) := by decide +kernel
theorem dX8_kindOf_35 : decode cX8_kindOf 35 = .ok (.invokestatic 56, 3) := by decide +kernel
theorem dX8_kindOf_38 : decode cX8_kindOf 38 = .ok (.ireturn, 1) := by decide +kernel
theorem dX8_kindOf_39 : decode cX8_kindOf 39 = .ok (.aload_n 0, 1) := by decide +kernel
theorem dX8_kindOf_40 : decode cX8_kindOf 40 = .ok (.iload_n 1, 1) := by decide +kernel
theorem dX8_kindOf_41 : decode cX8_kindOf 41 = .ok (.invokevirtual 53, 3) := by decide +kernel
theorem dX8_kindOf_44 : decode cX8_kindOf 44 = .ok (.ifCond .eq 18, 3) := by decide +kernel
theorem dX8_kindOf_47 : decode cX8_kindOf 47 = .ok (.iload_n 2, 1) := by decide +kernel
theorem dX8_kindOf_48 : decode cX8_kindOf 48 = .ok (.iload_n 1, 1) := by decide +kernel
theorem dX8_kindOf_49 : decode cX8_kindOf 49 = .ok (.isub, 1) := by decide +kernel
theorem dX8_kindOf_50 : decode cX8_kindOf 50 = .ok (.iconst 4, 1) := by decide +kernel
theorem dX8_kindOf_51 : decode cX8_kindOf 51 = .ok (.if_icmp .le 8, 3) := by decide +kernel
theorem dX8_kindOf_54 : decode cX8_kindOf 54 = .ok (.bipush 23, 2) := by decide +kernel
theorem dX8_kindOf_56 : decode cX8_kindOf 56 = .ok (.goto 5, 3) := by decide +kernel
theorem dX8_kindOf_59 : decode cX8_kindOf 59 = .ok (.bipush 21, 2) := by decide +kernel
theorem dX8_kindOf_61 : decode cX8_kindOf 61 = .ok (.ireturn, 1) := by decide +kernel
theorem dX8_kindOf_62 : decode cX8_kindOf 62 = .ok (.aload_n 0, 1) := by decide +kernel
theorem dX8_kindOf_63 : decode cX8_kindOf 63 = .ok (.iload_n 1, 1) := by decide +kernel
theorem dX8_kindOf_64 : decode cX8_kindOf 64 = .ok (.invokevirtual 59, 3) := by decide +kernel
theorem dX8_kindOf_67 : decode cX8_kindOf 67 = .ok (.istore_n 3, 1) := by decide +kernel
theorem dX8_kindOf_68 : decode cX8_kindOf 68 = .ok (.ldc 63, 2) := by decide +kernel
theorem dX8_kindOf_70 : decode cX8_kindOf 70 = .ok (.iload_n 3, 1) := by decide +kernel
theorem dX8_kindOf_71 : decode cX8_kindOf 71 = .ok (.i2c, 1) := by decide +kernel
theorem dX8_kindOf_72 : decode cX8_kindOf 72 = .ok (.invokevirtual 65, 3) := by decide +kernel
theorem dX8_kindOf_75 : decode cX8_kindOf 75 = .ok (.ifCond .lt 7, 3) := by decide +kernel
theorem dX8_kindOf_78 : decode cX8_kindOf 78 = .ok (.iload_n 3, 1) := by decide +kernel
theorem dX8_kindOf_79 : decode cX8_kindOf 79 = .ok (.goto 5, 3) := by decide +kernel
theorem dX8_kindOf_82 : decode cX8_kindOf 82 = .ok (.bipush 23, 2) := by decide +kernel
theorem dX8_kindOf_84 : decode cX8_kindOf 84 = .ok (.ireturn, 1) := by decide +kernel
def xX8_kindOf : zX := (RX8, cX8_kindOf, 4, (some .int), false, { frames := 7, cells := 0, slots := 0, locals := 223 }, 0, 0, 0, 0)
theorem rmX8_kindOf : z_Rm xX8_kindOf := by unfold z_Rm xX8_kindOf; exact ⟨by decide, by decide⟩
theorem reX8_kindOf : z_Re xX8_kindOf := ⟨rfl, rfl⟩
theorem rlX8_kindOf : 1 ≤ xX8_kindOf.2.2.2.2.2.1.frames ∧ 21 ≤ xX8_kindOf.2.2.2.2.2.1.locals := by unfold xX8_kindOf; exact ⟨by decide, by decide⟩
theorem meX8_kindOf : z_Me yX8_kindOf xX8_kindOf 3 := ⟨wd412, wd109, by decide, by decide, by decide +kernel⟩
theorem fitX8_kindOf_13 : z_Fit xX6_isLetter xX8_kindOf := by unfold z_Fit; simp only [xX6_isLetter, xX8_kindOf]; exact ⟨by decide, by decide⟩
theorem fitX8_kindOf_41 : z_Fit xX6_isDigit xX8_kindOf := by unfold z_Fit; simp only [xX6_isDigit, xX8_kindOf]; exact ⟨by decide, by decide⟩
theorem fitX8_kindOf_64 : z_Fit xX6_byteAt xX8_kindOf := by unfold z_Fit; simp only [xX6_byteAt, xX8_kindOf]; exact ⟨by decide, by decide⟩
theorem fitX8_kindOf_72 : z_Fit xJ0_indexOf_0f7a4 xX8_kindOf := by unfold z_Fit; simp only [xJ0_indexOf_0f7a4, xX8_kindOf]; exact ⟨by decide, by decide⟩
theorem fitX8_kindOf_35 : z_Fit xX8_wordOrName xX8_kindOf := by unfold z_Fit; simp only [xX8_wordOrName, xX8_kindOf]; exact ⟨by decide, by decide⟩
noncomputable def kX8_kindOf_84 : zK zR := q_iret
noncomputable def kX8_kindOf_61 : zK zR := q_iret
noncomputable def kX8_kindOf_38 : zK zR := q_iret
noncomputable def kX8_kindOf_0 : zK zR := (q_iload 1 (q_aload 0 (q_getI 6 1 (q_icmp_lt (q_aload 0 (q_iload 1 (q_callV 6 fX6_isLetter 1 (q_if_eq (q_aload 0 (q_iload 1 (q_callV 6 fX6_isDigit 1 (q_if_eq (q_aload 0 (q_iload 1 (q_callV 6 fX6_byteAt 1 (q_istore 3 (q_ldcS 1 (q_iload 3 (q_i2c (q_callT fJ0_indexOf_0f7a4 1 (q_if_lt (q_push 23 kX8_kindOf_84) (q_iload 3 kX8_kindOf_84)))))))))) (q_iload 2 (q_iload 1 (q_isub (q_push 4 (q_icmp_le (q_push 21 kX8_kindOf_61) (q_push 23 kX8_kindOf_61)))))))))) (q_iload 2 (q_iload 1 (q_isub (q_push 8 (q_icmp_le (q_aload 0 (q_iload 1 (q_iload 2 (q_callS fX8_wordOrName 3 kX8_kindOf_38)))) (q_push 23 kX8_kindOf_38)))))))))) (q_push 22 q_iret)))))
set_option maxRecDepth 100000 in
theorem tX8_kindOf_84 {l : Launch} {D : zD} {B sz0 : Nat} {post : Option Value → zS → Prop} : zSnd l D B xX8_kindOf sz0 post 84 kX8_kindOf_84 (z_Jr post) := (s_iret dX8_kindOf_84 rfl)
set_option maxRecDepth 100000 in
theorem tX8_kindOf_61 {l : Launch} {D : zD} {B sz0 : Nat} {post : Option Value → zS → Prop} : zSnd l D B xX8_kindOf sz0 post 61 kX8_kindOf_61 (z_Jr post) := (s_iret dX8_kindOf_61 rfl)
set_option maxRecDepth 100000 in
theorem tX8_kindOf_38 {l : Launch} {D : zD} {B sz0 : Nat} {post : Option Value → zS → Prop} : zSnd l D B xX8_kindOf sz0 post 38 kX8_kindOf_38 (z_Jr post) := (s_iret dX8_kindOf_38 rfl)
set_option maxRecDepth 100000 in
theorem tX8_kindOf_0 {l : Launch} {D : zD} {B sz0 : Nat} {post : Option Value → zS → Prop} : zSnd l D B xX8_kindOf sz0 post 0 kX8_kindOf_0 (z_Jr post) := (s_iload_n dX8_kindOf_0 rfl (s_aload_n dX8_kindOf_1 rfl (s_getI (f := 1) dX8_kindOf_2 clX6 (by decide) rfl wd342 (s_icmp_lt (tgt := 11) dX8_kindOf_5 (by decide) (s_aload_n dX8_kindOf_11 rfl (s_iload_n dX8_kindOf_12 rfl (s_callV (r := (RX6, TX6, 2)) dX8_kindOf_13 mX6_isLetter meX6_isLetter wd350 wd351 rfl rfl reX6_isLetter rmX8_kindOf (fitX8_kindOf_13) wd352 (s_if_eq (tgt := 39) dX8_kindOf_16 (by decide) (s_aload_n dX8_kindOf_39 rfl (s_iload_n dX8_kindOf_40 rfl (s_callV (r := (RX6, TX6, 2)) dX8_kindOf_41 mX6_isDigit meX6_isDigit wd347 wd348 rfl rfl reX6_isDigit rmX8_kindOf (fitX8_kindOf_41) wd349 (s_if_eq (tgt := 62) dX8_kindOf_44 (by decide) (s_aload_n dX8_kindOf_62 rfl (s_iload_n dX8_kindOf_63 rfl (s_callV (r := (RX6, TX6, 2)) dX8_kindOf_64 mX6_byteAt meX6_byteAt wd301 wd302 rfl rfl reX6_byteAt rmX8_kindOf (fitX8_kindOf_64) wd378 (s_istore_n dX8_kindOf_67 rfl (s_ldcS1 dX8_kindOf_68 rfl (s_iload_n dX8_kindOf_70 rfl (s_i2c dX8_kindOf_71 (s_callT dX8_kindOf_72 mJ0_indexOf_0f7a4 meJ0_indexOf_0f7a4 wd407 wd408 rfl reJ0_indexOf_0f7a4 rmX8_kindOf (fitX8_kindOf_72) wd409 (s_if_lt (tgt := 82) dX8_kindOf_75 (by decide) (s_bipush dX8_kindOf_82 (by decide) tX8_kindOf_84) (s_iload_n dX8_kindOf_78 rfl (s_goto (tgt := 84) dX8_kindOf_79 (by decide) tX8_kindOf_84))))))))))) (s_iload_n dX8_kindOf_47 rfl (s_iload_n dX8_kindOf_48 rfl (s_isub dX8_kindOf_49 (s_iconst dX8_kindOf_50 (by decide) (s_icmp_le (tgt := 59) dX8_kindOf_51 (by decide) (s_bipush dX8_kindOf_59 (by decide) tX8_kindOf_61) (s_bipush dX8_kindOf_54 (by decide) (s_goto (tgt := 61) dX8_kindOf_56 (by decide) tX8_kindOf_61))))))))))) (s_iload_n dX8_kindOf_19 rfl (s_iload_n dX8_kindOf_20 rfl (s_isub dX8_kindOf_21 (s_bipush dX8_kindOf_22 (by decide) (s_icmp_le (tgt := 32) dX8_kindOf_24 (by decide) (s_aload_n dX8_kindOf_32 rfl (s_iload_n dX8_kindOf_33 rfl (s_iload_n dX8_kindOf_34 rfl (s_callS dX8_kindOf_35 mX8_wordOrName meX8_wordOrName wd410 rfl reX8_wordOrName rmX8_kindOf (fitX8_kindOf_35) wd411 tX8_kindOf_38)))) (s_bipush dX8_kindOf_27 (by decide) (s_goto (tgt := 38) dX8_kindOf_29 (by decide) tX8_kindOf_38))))))))))) (s_bipush dX8_kindOf_8 (by decide) (s_iret dX8_kindOf_10 rfl))))))
noncomputable def fX8_kindOf : zF := z_fn 4 kX8_kindOf_0
theorem mX8_kindOf {l : Launch} {D : zD} {B : Nat} : z_MF l D B yX8_kindOf xX8_kindOf fX8_kindOf := z_mf (by decide) rfl (fun h => by cases h) rfl (fun as σ r h => ⟨z_fn_len h, kX8_kindOf_0, z_fn_run h, fun _ => tX8_kindOf_0⟩)
/-! ===== RowChildren$Tokens.codeOf ===== -/
theorem dX8_codeOf_0 : decode cX8_codeOf 0 = .ok (.lconst 0, 1) := by decide +kernel
theorem dX8_codeOf_1 : decode cX8_codeOf 1 = .ok (.lstore_n 3, 1) := by decide +kernel
theorem dX8_codeOf_2 : decode cX8_codeOf 2 = .ok (.iload_n 1, 1) := by decide +kernel
theorem dX8_codeOf_3 : decode cX8_codeOf 3 = .ok (.istore 5, 2) := by decide +kernel
theorem dX8_codeOf_5 : decode cX8_codeOf 5 = .ok (.iload 5, 2) := by decide +kernel
theorem dX8_codeOf_7 : decode cX8_codeOf 7 = .ok (.iload_n 2, 1) := by decide +kernel
theorem dX8_codeOf_8 : decode cX8_codeOf 8 = .ok (.if_icmp .ge 59, 3) := by decide +kernel
theorem dX8_codeOf_11 : decode cX8_codeOf 11 = .ok (.aload_n 0, 1) := by decide +kernel
theorem dX8_codeOf_12 : decode cX8_codeOf 12 = .ok (.iload 5, 2) := by decide +kernel
theorem dX8_codeOf_14 : decode cX8_codeOf 14 = .ok (.invokevirtual 53, 3) := by decide +kernel
theorem dX8_codeOf_17 : decode cX8_codeOf 17 = .ok (.ifCond .eq 24, 3) := by decide +kernel
theorem dX8_codeOf_20 : decode cX8_codeOf 20 = .ok (.lload_n 3, 1) := by decide +kernel
theorem dX8_codeOf_21 : decode cX8_codeOf 21 = .ok (.ldc2_w 80, 3) := by decide +kernel
theorem dX8_codeOf_24 : decode cX8_codeOf 24 = .ok (.lmul, 1) := by decide +kernel
theorem dX8_codeOf_25 : decode cX8_codeOf 25 = .ok (.aload_n 0, 1) := by decide +kernel
theorem dX8_codeOf_26 : decode cX8_codeOf 26 = .ok (.iload 5, 2) := by decide +kernel
theorem dX8_codeOf_28 : decode cX8_codeOf 28 = .ok (.invokevirtual 59, 3) := by decide +kernel
theorem dX8_codeOf_31 : decode cX8_codeOf 31 = .ok (.i2l, 1) := by decide +kernel
theorem dX8_codeOf_32 : decode cX8_codeOf 32 = .ok (.ladd, 1) := by decide +kernel
theorem dX8_codeOf_33 : decode cX8_codeOf 33 = .ok (.ldc2_w 82, 3) := by decide +kernel
theorem dX8_codeOf_36 : decode cX8_codeOf 36 = .ok (.lsub, 1) := by decide +kernel
theorem dX8_codeOf_37 : decode cX8_codeOf 37 = .ok (.lstore_n 3, 1) := by decide +kernel
theorem dX8_codeOf_38 : decode cX8_codeOf 38 = .ok (.goto 23, 3) := by decide +kernel
theorem dX8_codeOf_41 : decode cX8_codeOf 41 = .ok (.lload_n 3, 1) := by decide +kernel
theorem dX8_codeOf_42 : decode cX8_codeOf 42 = .ok (.ldc2_w 84, 3) := by decide +kernel
theorem dX8_codeOf_45 : decode cX8_codeOf 45 = .ok (.lmul, 1) := by decide +kernel
theorem dX8_codeOf_46 : decode cX8_codeOf 46 = .ok (.aload_n 0, 1) := by decide +kernel
theorem dX8_codeOf_47 : decode cX8_codeOf 47 = .ok (.iload 5, 2) := by decide +kernel
theorem dX8_codeOf_49 : decode cX8_codeOf 49 = .ok (.invokevirtual 59, 3) := by decide +kernel
theorem dX8_codeOf_52 : decode cX8_codeOf 52 = .ok (.i2l, 1) := by decide +kernel
theorem dX8_codeOf_53 : decode cX8_codeOf 53 = .ok (.ladd, 1) := by decide +kernel
theorem dX8_codeOf_54 : decode cX8_codeOf 54 = .ok (.ldc2_w 86, 3) := by decide +kernel
theorem dX8_codeOf_57 : decode cX8_codeOf 57 = .ok (.lsub, 1) := by decide +kernel
theorem dX8_codeOf_58 : decode cX8_codeOf 58 = .ok (.lconst 1, 1) := by decide +kernel
theorem dX8_codeOf_59 : decode cX8_codeOf 59 = .ok (.ladd, 1) := by decide +kernel
theorem dX8_codeOf_60 : decode cX8_codeOf 60 = .ok (.lstore_n 3, 1) := by decide +kernel
theorem dX8_codeOf_61 : decode cX8_codeOf 61 = .ok (.iinc 5 1, 3) := by decide +kernel
theorem dX8_codeOf_64 : decode cX8_codeOf 64 = .ok (.goto (-59), 3) := by decide +kernel
theorem dX8_codeOf_67 : decode cX8_codeOf 67 = .ok (.lload_n 3, 1) := by decide +kernel
theorem dX8_codeOf_68 : decode cX8_codeOf 68 = .ok (.lreturn, 1) := by decide +kernel
def xX8_codeOf : zX := (RX8, cX8_codeOf, 6, (some .long), false, { frames := 3, cells := 0, slots := 0, locals := 133 }, 0, 0, 0, 0)
theorem rmX8_codeOf : z_Rm xX8_codeOf := by unfold z_Rm xX8_codeOf; exact ⟨by decide, by decide⟩
theorem reX8_codeOf : z_Re xX8_codeOf := ⟨rfl, rfl⟩
theorem rlX8_codeOf : 1 ≤ xX8_codeOf.2.2.2.2.2.1.frames ∧ 21 ≤ xX8_codeOf.2.2.2.2.2.1.locals := by unfold xX8_codeOf; exact ⟨by decide, by decide⟩
theorem meX8_codeOf : z_Me yX8_codeOf xX8_codeOf 3 := ⟨wd417, wd109, by decide, by decide, by decide +kernel⟩
theorem fitX8_codeOf_14 : z_Fit xX6_isDigit xX8_codeOf := by unfold z_Fit; simp only [xX6_isDigit, xX8_codeOf]; exact ⟨by decide, by decide⟩
theorem fitX8_codeOf_49 : z_Fit xX6_byteAt xX8_codeOf := by unfold z_Fit; simp only [xX6_byteAt, xX8_codeOf]; exact ⟨by decide, by decide⟩
theorem fitX8_codeOf_28 : z_Fit xX6_byteAt xX8_codeOf := by unfold z_Fit; simp only [xX6_byteAt, xX8_codeOf]; exact ⟨by decide, by decide⟩
noncomputable def kX8_codeOf_67 : zK zR := (q_lload 3 q_lret)
noncomputable def kX8_codeOf_61 : zK ((zL × zS) ⊕ zR) := (q_iinc 5 1 q_ag)
noncomputable def bX8_codeOf_5 : zK ((zL × zS) ⊕ zR) := (q_iload 5 (q_iload 2 (q_icmp_ge (q_dn kX8_codeOf_67) (q_aload 0 (q_iload 5 (q_callV 6 fX6_isDigit 1 (q_if_eq (q_lload 3 (q_pushl 32 (q_lmul (q_aload 0 (q_iload 5 (q_callV 6 fX6_byteAt 1 (q_i2l (q_ladd (q_pushl 97 (q_lsub (q_pushl 1 (q_ladd (q_lstore 3 kX8_codeOf_61))))))))))))) (q_lload 3 (q_pushl 10 (q_lmul (q_aload 0 (q_iload 5 (q_callV 6 fX6_byteAt 1 (q_i2l (q_ladd (q_pushl 48 (q_lsub (q_lstore 3 kX8_codeOf_61))))))))))))))))))
noncomputable def kX8_codeOf_5 : zK zR := q_lp (bX8_codeOf_5)
noncomputable def kX8_codeOf_0 : zK zR := (q_pushl 0 (q_lstore 3 (q_iload 1 (q_istore 5 kX8_codeOf_5))))
set_option maxRecDepth 100000 in
theorem tX8_codeOf_67 {l : Launch} {D : zD} {B sz0 : Nat} {post : Option Value → zS → Prop} : zSnd l D B xX8_codeOf sz0 post 67 kX8_codeOf_67 (z_Jr post) := (s_lload_n dX8_codeOf_67 rfl (s_lret dX8_codeOf_68 rfl))
set_option maxRecDepth 100000 in
theorem tX8_codeOf_61 {l : Launch} {D : zD} {B sz0 : Nat} {post : Option Value → zS → Prop} : zSnd l D B xX8_codeOf sz0 post 61 kX8_codeOf_61 (z_Jl l D B xX8_codeOf sz0 post 5 (z_Jr post)) := (s_iinc dX8_codeOf_61 (by decide) (s_goto (tgt := 5) dX8_codeOf_64 (by decide) s_ag))
set_option maxRecDepth 100000 in
theorem tX8_codeOf_5 {l : Launch} {D : zD} {B sz0 : Nat} {post : Option Value → zS → Prop} : zSnd l D B xX8_codeOf sz0 post 5 kX8_codeOf_5 (z_Jr post) := s_lp (body := bX8_codeOf_5) (s_iload dX8_codeOf_5 (s_iload_n dX8_codeOf_7 rfl (s_icmp_ge (tgt := 67) dX8_codeOf_8 (by decide) (s_dn tX8_codeOf_67) (s_aload_n dX8_codeOf_11 rfl (s_iload dX8_codeOf_12 (s_callV (r := (RX6, TX6, 2)) dX8_codeOf_14 mX6_isDigit meX6_isDigit wd347 wd348 rfl rfl reX6_isDigit rmX8_codeOf (fitX8_codeOf_14) wd349 (s_if_eq (tgt := 41) dX8_codeOf_17 (by decide) (s_lload_n dX8_codeOf_41 rfl (s_ldc2 dX8_codeOf_42 wd413 (s_lmul dX8_codeOf_45 (s_aload_n dX8_codeOf_46 rfl (s_iload dX8_codeOf_47 (s_callV (r := (RX6, TX6, 2)) dX8_codeOf_49 mX6_byteAt meX6_byteAt wd301 wd302 rfl rfl reX6_byteAt rmX8_codeOf (fitX8_codeOf_49) wd378 (s_i2l dX8_codeOf_52 (s_ladd dX8_codeOf_53 (s_ldc2 dX8_codeOf_54 wd414 (s_lsub dX8_codeOf_57 (s_lconst dX8_codeOf_58 (by decide) (s_ladd dX8_codeOf_59 (s_lstore_n dX8_codeOf_60 rfl tX8_codeOf_61))))))))))))) (s_lload_n dX8_codeOf_20 rfl (s_ldc2 dX8_codeOf_21 wd415 (s_lmul dX8_codeOf_24 (s_aload_n dX8_codeOf_25 rfl (s_iload dX8_codeOf_26 (s_callV (r := (RX6, TX6, 2)) dX8_codeOf_28 mX6_byteAt meX6_byteAt wd301 wd302 rfl rfl reX6_byteAt rmX8_codeOf (fitX8_codeOf_28) wd378 (s_i2l dX8_codeOf_31 (s_ladd dX8_codeOf_32 (s_ldc2 dX8_codeOf_33 wd416 (s_lsub dX8_codeOf_36 (s_lstore_n dX8_codeOf_37 rfl (s_goto (tgt := 61) dX8_codeOf_38 (by decide) tX8_codeOf_61)))))))))))))))))))
set_option maxRecDepth 100000 in
theorem tX8_codeOf_0 {l : Launch} {D : zD} {B sz0 : Nat} {post : Option Value → zS → Prop} : zSnd l D B xX8_codeOf sz0 post 0 kX8_codeOf_0 (z_Jr post) := (s_lconst dX8_codeOf_0 (by decide) (s_lstore_n dX8_codeOf_1 rfl (s_iload_n dX8_codeOf_2 rfl (s_istore dX8_codeOf_3 tX8_codeOf_5))))
noncomputable def fX8_codeOf : zF := z_fn 6 kX8_codeOf_0
theorem mX8_codeOf {l : Launch} {D : zD} {B : Nat} : z_MF l D B yX8_codeOf xX8_codeOf fX8_codeOf := z_mf (by decide) rfl (fun h => by cases h) rfl (fun as σ r h => ⟨z_fn_len h, kX8_codeOf_0, z_fn_run h, fun _ => tX8_codeOf_0⟩)
/-! ===== RowChildren$Tokens.scan ===== -/
theorem dX8_scan_0 : decode cX8_scan 0 = .ok (.aload_n 0, 1) := by decide +kernel
theorem dX8_scan_1 : decode cX8_scan 1 = .ok (.iconst 0, 1) := by decide +kernel
theorem dX8_scan_2 : decode cX8_scan 2 = .ok (.putfield 22, 3) := by decide +kernel
theorem dX8_scan_5 : decode cX8_scan 5 = .ok (.iconst 0, 1) := by decide +kernel
theorem dX8_scan_6 : decode cX8_scan 6 = .ok (.istore_n 2, 1) := by decide +kernel
theorem dX8_scan_7 : decode cX8_scan 7 = .ok (.iconst 1, 1) := by decide +kernel
theorem dX8_scan_8 : decode cX8_scan 8 = .ok (.istore_n 3, 1) := by decide +kernel
theorem dX8_scan_9 : decode cX8_scan 9 = .ok (.iconst 0, 1) := by decide +kernel
theorem dX8_scan_10 : decode cX8_scan 10 = .ok (.istore 4, 2) := by decide +kernel
theorem dX8_scan_12 : decode cX8_scan 12 = .ok (.iload 4, 2) := by decide +kernel
theorem dX8_scan_14 : decode cX8_scan 14 = .ok (.sipush 400, 3) := by decide +kernel
theorem dX8_scan_17 : decode cX8_scan 17 = .ok (.if_icmp .gt 103, 3) := by decide +kernel
theorem dX8_scan_20 : decode cX8_scan 20 = .ok (.iload_n 3, 1) := by decide +kernel
theorem dX8_scan_21 : decode cX8_scan 21 = .ok (.ifCond .eq 99, 3) := by decide +kernel
theorem dX8_scan_24 : decode cX8_scan 24 = .ok (.aload_n 1, 1) := by decide +kernel
theorem dX8_scan_25 : decode cX8_scan 25 = .ok (.iload_n 2, 1) := by decide +kernel
theorem dX8_scan_26 : decode cX8_scan 26 = .ok (.invokestatic 26, 3) := by decide +kernel
theorem dX8_scan_29 : decode cX8_scan 29 = .ok (.istore_n 2, 1) := by decide +kernel
theorem dX8_scan_30 : decode cX8_scan 30 = .ok (.aload_n 1, 1) := by decide +kernel
theorem dX8_scan_31 : decode cX8_scan 31 = .ok (.iload_n 2, 1) := by decide +kernel
theorem dX8_scan_32 : decode cX8_scan 32 = .ok (.invokestatic 30, 3) := by decide +kernel
theorem dX8_scan_35 : decode cX8_scan 35 = .ok (.istore 5, 2) := by decide +kernel
theorem dX8_scan_37 : decode cX8_scan 37 = .ok (.aload_n 0, 1) := by decide +kernel
theorem dX8_scan_38 : decode cX8_scan 38 = .ok (.getfield 19, 3) := by decide +kernel
theorem dX8_scan_41 : decode cX8_scan 41 = .ok (.iload 4, 2) := by decide +kernel
theorem dX8_scan_43 : decode cX8_scan 43 = .ok (.iload_n 2, 1) := by decide +kernel
theorem dX8_scan_44 : decode cX8_scan 44 = .ok (.iastore, 1) := by decide +kernel
theorem dX8_scan_45 : decode cX8_scan 45 = .ok (.aload_n 0, 1) := by decide +kernel
theorem dX8_scan_46 : decode cX8_scan 46 = .ok (.getfield 9, 3) := by decide +kernel
theorem dX8_scan_49 : decode cX8_scan 49 = .ok (.iload 4, 2) := by decide +kernel
theorem dX8_scan_51 : decode cX8_scan 51 = .ok (.aload_n 1, 1) := by decide +kernel
theorem dX8_scan_52 : decode cX8_scan 52 = .ok (.iload_n 2, 1) := by decide +kernel
theorem dX8_scan_53 : decode cX8_scan 53 = .ok (.iload 5, 2) := by decide +kernel
theorem dX8_scan_55 : decode cX8_scan 55 = .ok (.invokestatic 33, 3) := by decide +kernel
theorem dX8_scan_58 : decode cX8_scan 58 = .ok (.iastore, 1) := by decide +kernel
theorem dX8_scan_59 : decode cX8_scan 59 = .ok (.aload_n 0, 1) := by decide +kernel
theorem dX8_scan_60 : decode cX8_scan 60 = .ok (.getfield 15, 3) := by decide +kernel
theorem dX8_scan_63 : decode cX8_scan 63 = .ok (.iload 4, 2) := by decide +kernel
theorem dX8_scan_65 : decode cX8_scan 65 = .ok (.aload_n 1, 1) := by decide +kernel
theorem dX8_scan_66 : decode cX8_scan 66 = .ok (.iload_n 2, 1) := by decide +kernel
theorem dX8_scan_67 : decode cX8_scan 67 = .ok (.iload 5, 2) := by decide +kernel
theorem dX8_scan_69 : decode cX8_scan 69 = .ok (.invokestatic 37, 3) := by decide +kernel
theorem dX8_scan_72 : decode cX8_scan 72 = .ok (.lastore, 1) := by decide +kernel
theorem dX8_scan_73 : decode cX8_scan 73 = .ok (.aload_n 0, 1) := by decide +kernel
theorem dX8_scan_74 : decode cX8_scan 74 = .ok (.getfield 9, 3) := by decide +kernel
theorem dX8_scan_77 : decode cX8_scan 77 = .ok (.iload 4, 2) := by decide +kernel
theorem dX8_scan_79 : decode cX8_scan 79 = .ok (.iaload, 1) := by decide +kernel
theorem dX8_scan_80 : decode cX8_scan 80 = .ok (.bipush 22, 2) := by decide +kernel
theorem dX8_scan_82 : decode cX8_scan 82 = .ok (.if_icmp .eq 19, 3) := by decide +kernel
theorem dX8_scan_85 : decode cX8_scan 85 = .ok (.aload_n 0, 1) := by decide +kernel
theorem dX8_scan_86 : decode cX8_scan 86 = .ok (.getfield 9, 3) := by decide +kernel
theorem dX8_scan_89 : decode cX8_scan 89 = .ok (.iload 4, 2) := by decide +kernel
theorem dX8_scan_91 : decode cX8_scan 91 = .ok (.iaload, 1) := by decide +kernel
theorem dX8_scan_92 : decode cX8_scan 92 = .ok (.bipush 23, 2) := by decide +kernel
theorem dX8_scan_94 : decode cX8_scan 94 = .ok (.if_icmp .eq 7, 3) := by decide +kernel
theorem dX8_scan_97 : decode cX8_scan 97 = .ok (.iconst 1, 1) := by decide +kernel
theorem dX8_scan_98 : decode cX8_scan 98 = .ok (.goto 4, 3) := by decide +kernel
theorem dX8_scan_101 : decode cX8_scan 101 = .ok (.iconst 0, 1) := by decide +kernel
theorem dX8_scan_102 : decode cX8_scan 102 = .ok (.istore_n 3, 1) := by decide +kernel
theorem dX8_scan_103 : decode cX8_scan 103 = .ok (.iload 5, 2) := by decide +kernel
theorem dX8_scan_105 : decode cX8_scan 105 = .ok (.istore_n 2, 1) := by decide +kernel
theorem dX8_scan_106 : decode cX8_scan 106 = .ok (.aload_n 0, 1) := by decide +kernel
theorem dX8_scan_107 : decode cX8_scan 107 = .ok (.iload 4, 2) := by decide +kernel
theorem dX8_scan_109 : decode cX8_scan 109 = .ok (.iconst 1, 1) := by decide +kernel
theorem dX8_scan_110 : decode cX8_scan 110 = .ok (.iadd, 1) := by decide +kernel
theorem dX8_scan_111 : decode cX8_scan 111 = .ok (.putfield 22, 3) := by decide +kernel
theorem dX8_scan_114 : decode cX8_scan 114 = .ok (.iinc 4 1, 3) := by decide +kernel
theorem dX8_scan_117 : decode cX8_scan 117 = .ok (.goto (-105), 3) := by decide +kernel
theorem dX8_scan_120 : decode cX8_scan 120 = .ok (.return_, 1) := by decide +kernel
def xX8_scan : zX := (RX8, cX8_scan, 6, none, false, { frames := 8, cells := 0, slots := 0, locals := 246 }, 0, 0, 0, 0)
theorem rmX8_scan : z_Rm xX8_scan := by unfold z_Rm xX8_scan; exact ⟨by decide, by decide⟩
theorem reX8_scan : z_Re xX8_scan := ⟨rfl, rfl⟩
theorem rlX8_scan : 1 ≤ xX8_scan.2.2.2.2.2.1.frames ∧ 21 ≤ xX8_scan.2.2.2.2.2.1.locals := by unfold xX8_scan; exact ⟨by decide, by decide⟩
theorem meX8_scan : z_Me yX8_scan xX8_scan 1 := ⟨wd426, wd109, by decide, by decide, by decide +kernel⟩
theorem fitX8_scan_26 : z_Fit xX8_pastBlanks xX8_scan := by unfold z_Fit; simp only [xX8_pastBlanks, xX8_scan]; exact ⟨by decide, by decide⟩
theorem fitX8_scan_32 : z_Fit xX8_endOf xX8_scan := by unfold z_Fit; simp only [xX8_endOf, xX8_scan]; exact ⟨by decide, by decide⟩
theorem fitX8_scan_55 : z_Fit xX8_kindOf xX8_scan := by unfold z_Fit; simp only [xX8_kindOf, xX8_scan]; exact ⟨by decide, by decide⟩
theorem fitX8_scan_69 : z_Fit xX8_codeOf xX8_scan := by unfold z_Fit; simp only [xX8_codeOf, xX8_scan]; exact ⟨by decide, by decide⟩
noncomputable def kX8_scan_120 : zK zR := q_vret
noncomputable def kX8_scan_102 : zK ((zL × zS) ⊕ zR) := (q_istore 3 (q_iload 5 (q_istore 2 (q_aload 0 (q_iload 4 (q_push 1 (q_iadd (q_putI 8 3 (q_iinc 4 1 q_ag)))))))))
noncomputable def kX8_scan_101 : zK ((zL × zS) ⊕ zR) := (q_push 0 kX8_scan_102)
noncomputable def bX8_scan_12 : zK ((zL × zS) ⊕ zR) := (q_iload 4 (q_push 400 (q_icmp_gt (q_dn kX8_scan_120) (q_iload 3 (q_if_eq (q_dn kX8_scan_120) (q_aload 1 (q_iload 2 (q_callS fX8_pastBlanks 2 (q_istore 2 (q_aload 1 (q_iload 2 (q_callS fX8_endOf 2 (q_istore 5 (q_aload 0 (q_getR 8 2 (q_iload 4 (q_iload 2 (q_iast (q_aload 0 (q_getR 8 0 (q_iload 4 (q_aload 1 (q_iload 2 (q_iload 5 (q_callS fX8_kindOf 3 (q_iast (q_aload 0 (q_getR 8 1 (q_iload 4 (q_aload 1 (q_iload 2 (q_iload 5 (q_callS fX8_codeOf 3 (q_last (q_aload 0 (q_getR 8 0 (q_iload 4 (q_iald (q_push 22 (q_icmp_eq kX8_scan_101 (q_aload 0 (q_getR 8 0 (q_iload 4 (q_iald (q_push 23 (q_icmp_eq kX8_scan_101 (q_push 1 kX8_scan_102)))))))))))))))))))))))))))))))))))))))))))))))
noncomputable def kX8_scan_12 : zK zR := q_lp (bX8_scan_12)
noncomputable def kX8_scan_0 : zK zR := (q_aload 0 (q_push 0 (q_putI 8 3 (q_push 0 (q_istore 2 (q_push 1 (q_istore 3 (q_push 0 (q_istore 4 kX8_scan_12)))))))))
set_option maxRecDepth 100000 in
theorem tX8_scan_120 {l : Launch} {D : zD} {B sz0 : Nat} {post : Option Value → zS → Prop} : zSnd l D B xX8_scan sz0 post 120 kX8_scan_120 (z_Jr post) := (s_vret dX8_scan_120 rfl)
set_option maxRecDepth 100000 in
theorem tX8_scan_102 {l : Launch} {D : zD} {B sz0 : Nat} {post : Option Value → zS → Prop} : zSnd l D B xX8_scan sz0 post 102 kX8_scan_102 (z_Jl l D B xX8_scan sz0 post 12 (z_Jr post)) := (s_istore_n dX8_scan_102 rfl (s_iload dX8_scan_103 (s_istore_n dX8_scan_105 rfl (s_aload_n dX8_scan_106 rfl (s_iload dX8_scan_107 (s_iconst dX8_scan_109 (by decide) (s_iadd dX8_scan_110 (s_putI (f := 3) dX8_scan_111 clX8 (by decide) rfl rfl rfl wd106 (s_iinc dX8_scan_114 (by decide) (s_goto (tgt := 12) dX8_scan_117 (by decide) s_ag))))))))))
set_option maxRecDepth 100000 in
theorem tX8_scan_101 {l : Launch} {D : zD} {B sz0 : Nat} {post : Option Value → zS → Prop} : zSnd l D B xX8_scan sz0 post 101 kX8_scan_101 (z_Jl l D B xX8_scan sz0 post 12 (z_Jr post)) := (s_iconst dX8_scan_101 (by decide) tX8_scan_102)
set_option maxRecDepth 100000 in
theorem tX8_scan_12 {l : Launch} {D : zD} {B sz0 : Nat} {post : Option Value → zS → Prop} : zSnd l D B xX8_scan sz0 post 12 kX8_scan_12 (z_Jr post) := s_lp (body := bX8_scan_12) (s_iload dX8_scan_12 (s_sipush dX8_scan_14 (by decide) (s_icmp_gt (tgt := 120) dX8_scan_17 (by decide) (s_dn tX8_scan_120) (s_iload_n dX8_scan_20 rfl (s_if_eq (tgt := 120) dX8_scan_21 (by decide) (s_dn tX8_scan_120) (s_aload_n dX8_scan_24 rfl (s_iload_n dX8_scan_25 rfl (s_callS dX8_scan_26 mX8_pastBlanks meX8_pastBlanks wd418 rfl reX8_pastBlanks rmX8_scan (fitX8_scan_26) wd419 (s_istore_n dX8_scan_29 rfl (s_aload_n dX8_scan_30 rfl (s_iload_n dX8_scan_31 rfl (s_callS dX8_scan_32 mX8_endOf meX8_endOf wd420 rfl reX8_endOf rmX8_scan (fitX8_scan_32) wd421 (s_istore dX8_scan_35 (s_aload_n dX8_scan_37 rfl (s_getR (f := 2) dX8_scan_38 clX8 (by decide) rfl wd309 (s_iload dX8_scan_41 (s_iload_n dX8_scan_43 rfl (s_iast dX8_scan_44 (s_aload_n dX8_scan_45 rfl (s_getR (f := 0) dX8_scan_46 clX8 (by decide) rfl wd107 (s_iload dX8_scan_49 (s_aload_n dX8_scan_51 rfl (s_iload_n dX8_scan_52 rfl (s_iload dX8_scan_53 (s_callS dX8_scan_55 mX8_kindOf meX8_kindOf wd422 rfl reX8_kindOf rmX8_scan (fitX8_scan_55) wd423 (s_iast dX8_scan_58 (s_aload_n dX8_scan_59 rfl (s_getR (f := 1) dX8_scan_60 clX8 (by decide) rfl wd114 (s_iload dX8_scan_63 (s_aload_n dX8_scan_65 rfl (s_iload_n dX8_scan_66 rfl (s_iload dX8_scan_67 (s_callS dX8_scan_69 mX8_codeOf meX8_codeOf wd424 rfl reX8_codeOf rmX8_scan (fitX8_scan_69) wd425 (s_last dX8_scan_72 (s_aload_n dX8_scan_73 rfl (s_getR (f := 0) dX8_scan_74 clX8 (by decide) rfl wd107 (s_iload dX8_scan_77 (s_iald dX8_scan_79 (s_bipush dX8_scan_80 (by decide) (s_icmp_eq (tgt := 101) dX8_scan_82 (by decide) tX8_scan_101 (s_aload_n dX8_scan_85 rfl (s_getR (f := 0) dX8_scan_86 clX8 (by decide) rfl wd107 (s_iload dX8_scan_89 (s_iald dX8_scan_91 (s_bipush dX8_scan_92 (by decide) (s_icmp_eq (tgt := 101) dX8_scan_94 (by decide) tX8_scan_101 (s_iconst dX8_scan_97 (by decide) (s_goto (tgt := 102) dX8_scan_98 (by decide) tX8_scan_102))))))))))))))))))))))))))))))))))))))))))))))))
set_option maxRecDepth 100000 in
theorem tX8_scan_0 {l : Launch} {D : zD} {B sz0 : Nat} {post : Option Value → zS → Prop} : zSnd l D B xX8_scan sz0 post 0 kX8_scan_0 (z_Jr post) := (s_aload_n dX8_scan_0 rfl (s_iconst dX8_scan_1 (by decide) (s_putI (f := 3) dX8_scan_2 clX8 (by decide) rfl rfl rfl wd106 (s_iconst dX8_scan_5 (by decide) (s_istore_n dX8_scan_6 rfl (s_iconst dX8_scan_7 (by decide) (s_istore_n dX8_scan_8 rfl (s_iconst dX8_scan_9 (by decide) (s_istore dX8_scan_10 tX8_scan_12)))))))))
noncomputable def fX8_scan : zF := z_fn 6 kX8_scan_0
theorem mX8_scan {l : Launch} {D : zD} {B : Nat} : z_MF l D B yX8_scan xX8_scan fX8_scan := z_mf (by decide) rfl (fun h => by cases h) rfl (fun as σ r h => ⟨z_fn_len h, kX8_scan_0, z_fn_run h, fun _ => tX8_scan_0⟩)
