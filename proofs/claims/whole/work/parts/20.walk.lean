/-! ===== RowChildren.ring ===== -/
theorem dX11_ring_0 : decode cX11_ring 0 = .ok (.aload_n 0, 1) := by decide +kernel
theorem dX11_ring_1 : decode cX11_ring 1 = .ok (.iload_n 1, 1) := by decide +kernel
theorem dX11_ring_2 : decode cX11_ring 2 = .ok (.invokevirtual 134, 3) := by decide +kernel
theorem dX11_ring_5 : decode cX11_ring 5 = .ok (.ifCond .eq 10, 3) := by decide +kernel
theorem dX11_ring_8 : decode cX11_ring 8 = .ok (.iload_n 2, 1) := by decide +kernel
theorem dX11_ring_9 : decode cX11_ring 9 = .ok (.invokestatic 184, 3) := by decide +kernel
theorem dX11_ring_12 : decode cX11_ring 12 = .ok (.ifCond .ne 5, 3) := by decide +kernel
theorem dX11_ring_15 : decode cX11_ring 15 = .ok (.iconst (-1), 1) := by decide +kernel
theorem dX11_ring_16 : decode cX11_ring 16 = .ok (.ireturn, 1) := by decide +kernel
theorem dX11_ring_17 : decode cX11_ring 17 = .ok (.aload_n 0, 1) := by decide +kernel
theorem dX11_ring_18 : decode cX11_ring 18 = .ok (.getfield 19, 3) := by decide +kernel
theorem dX11_ring_21 : decode cX11_ring 21 = .ok (.getfield 124, 3) := by decide +kernel
theorem dX11_ring_24 : decode cX11_ring 24 = .ok (.aload_n 0, 1) := by decide +kernel
theorem dX11_ring_25 : decode cX11_ring 25 = .ok (.getfield 33, 3) := by decide +kernel
theorem dX11_ring_28 : decode cX11_ring 28 = .ok (.iload_n 1, 1) := by decide +kernel
theorem dX11_ring_29 : decode cX11_ring 29 = .ok (.invokevirtual 271, 3) := by decide +kernel
theorem dX11_ring_32 : decode cX11_ring 32 = .ok (.aload_n 0, 1) := by decide +kernel
theorem dX11_ring_33 : decode cX11_ring 33 = .ok (.getfield 33, 3) := by decide +kernel
theorem dX11_ring_36 : decode cX11_ring 36 = .ok (.iload_n 1, 1) := by decide +kernel
theorem dX11_ring_37 : decode cX11_ring 37 = .ok (.invokevirtual 141, 3) := by decide +kernel
theorem dX11_ring_40 : decode cX11_ring 40 = .ok (.invokevirtual 274, 3) := by decide +kernel
theorem dX11_ring_43 : decode cX11_ring 43 = .ok (.iload_n 2, 1) := by decide +kernel
theorem dX11_ring_44 : decode cX11_ring 44 = .ok (.ifCond .ne 16, 3) := by decide +kernel
theorem dX11_ring_47 : decode cX11_ring 47 = .ok (.aload_n 0, 1) := by decide +kernel
theorem dX11_ring_48 : decode cX11_ring 48 = .ok (.getfield 19, 3) := by decide +kernel
theorem dX11_ring_51 : decode cX11_ring 51 = .ok (.getfield 124, 3) := by decide +kernel
theorem dX11_ring_54 : decode cX11_ring 54 = .ok (.getfield 277, 3) := by decide +kernel
theorem dX11_ring_57 : decode cX11_ring 57 = .ok (.goto 13, 3) := by decide +kernel
theorem dX11_ring_60 : decode cX11_ring 60 = .ok (.aload_n 0, 1) := by decide +kernel
theorem dX11_ring_61 : decode cX11_ring 61 = .ok (.getfield 19, 3) := by decide +kernel
theorem dX11_ring_64 : decode cX11_ring 64 = .ok (.getfield 124, 3) := by decide +kernel
theorem dX11_ring_67 : decode cX11_ring 67 = .ok (.getfield 280, 3) := by decide +kernel
theorem dX11_ring_70 : decode cX11_ring 70 = .ok (.ireturn, 1) := by decide +kernel
def xX11_ring : zX := (RX11, cX11_ring, 3, (some .int), false, { frames := 5, cells := 0, slots := 0, locals := 190 }, 0, 0, 0, 0)
theorem rmX11_ring : z_Rm xX11_ring := by unfold z_Rm xX11_ring; exact ⟨by decide, by decide⟩
theorem reX11_ring : z_Re xX11_ring := ⟨rfl, rfl⟩
theorem rlX11_ring : 1 ≤ xX11_ring.2.2.2.2.2.1.frames ∧ 21 ≤ xX11_ring.2.2.2.2.2.1.locals := by unfold xX11_ring; exact ⟨by decide, by decide⟩
theorem meX11_ring : z_Me yX11_ring xX11_ring 2 := ⟨wd787, wd275, by decide, by decide, by decide +kernel⟩
theorem fitX11_ring_2 : z_Fit xX11_isRow xX11_ring := by unfold z_Fit; simp only [xX11_isRow, xX11_ring]; exact ⟨by decide, by decide⟩
theorem fitX11_ring_9 : z_Fit xX11_isOneOfTwo xX11_ring := by unfold z_Fit; simp only [xX11_isOneOfTwo, xX11_ring]; exact ⟨by decide, by decide⟩
theorem fitX11_ring_29 : z_Fit xX1_packed xX11_ring := by unfold z_Fit; simp only [xX1_packed, xX11_ring]; exact ⟨by decide, by decide⟩
theorem fitX11_ring_37 : z_Fit xX1_lengthOf xX11_ring := by unfold z_Fit; simp only [xX1_lengthOf, xX11_ring]; exact ⟨by decide, by decide⟩
theorem fitX11_ring_40 : z_Fit xX5_findRing xX11_ring := by unfold z_Fit; simp only [xX5_findRing, xX11_ring]; exact ⟨by decide, by decide⟩
noncomputable def kX11_ring_15 : zK zR := (q_push (-1) q_iret)
noncomputable def kX11_ring_70 : zK zR := q_iret
noncomputable def kX11_ring_0 : zK zR := (q_aload 0 (q_iload 1 (q_callV 11 fX11_isRow 1 (q_if_eq kX11_ring_15 (q_iload 2 (q_callS fX11_isOneOfTwo 1 (q_if_ne (q_aload 0 (q_getR 11 1 (q_getR 7 1 (q_aload 0 (q_getR 11 4 (q_iload 1 (q_callV 1 fX1_packed 1 (q_aload 0 (q_getR 11 4 (q_iload 1 (q_callV 1 fX1_lengthOf 1 (q_callV 5 fX5_findRing 2 (q_iload 2 (q_if_ne (q_aload 0 (q_getR 11 1 (q_getR 7 1 (q_getI 5 2 kX11_ring_70)))) (q_aload 0 (q_getR 11 1 (q_getR 7 1 (q_getI 5 1 kX11_ring_70)))))))))))))))))) kX11_ring_15)))))))
set_option maxRecDepth 100000 in
theorem tX11_ring_15 {l : Launch} {D : zD} {B sz0 : Nat} {post : Option Value → zS → Prop} : zSnd l D B xX11_ring sz0 post 15 kX11_ring_15 (z_Jr post) := (s_iconst dX11_ring_15 (by decide) (s_iret dX11_ring_16 rfl))
set_option maxRecDepth 100000 in
theorem tX11_ring_70 {l : Launch} {D : zD} {B sz0 : Nat} {post : Option Value → zS → Prop} : zSnd l D B xX11_ring sz0 post 70 kX11_ring_70 (z_Jr post) := (s_iret dX11_ring_70 rfl)
set_option maxRecDepth 100000 in
theorem tX11_ring_0 {l : Launch} {D : zD} {B sz0 : Nat} {post : Option Value → zS → Prop} : zSnd l D B xX11_ring sz0 post 0 kX11_ring_0 (z_Jr post) := (s_aload_n dX11_ring_0 rfl (s_iload_n dX11_ring_1 rfl (s_callV (r := (RX11, TX11, 13)) dX11_ring_2 mX11_isRow meX11_isRow wd655 wd656 rfl rfl reX11_isRow rmX11_ring (fitX11_ring_2) wd657 (s_if_eq (tgt := 15) dX11_ring_5 (by decide) tX11_ring_15 (s_iload_n dX11_ring_8 rfl (s_callS dX11_ring_9 mX11_isOneOfTwo meX11_isOneOfTwo wd681 rfl reX11_isOneOfTwo rmX11_ring (fitX11_ring_9) wd682 (s_if_ne (tgt := 17) dX11_ring_12 (by decide) (s_aload_n dX11_ring_17 rfl (s_getR (f := 1) dX11_ring_18 clX11 (by decide) rfl wd572 (s_getR (f := 1) dX11_ring_21 clX7 (by decide) rfl wd628 (s_aload_n dX11_ring_24 rfl (s_getR (f := 4) dX11_ring_25 clX11 (by decide) rfl wd576 (s_iload_n dX11_ring_28 rfl (s_callV (r := (RX1, TX1, 5)) dX11_ring_29 mX1_packed meX1_packed wd781 wd782 rfl rfl reX1_packed rmX11_ring (fitX11_ring_29) wd783 (s_aload_n dX11_ring_32 rfl (s_getR (f := 4) dX11_ring_33 clX11 (by decide) rfl wd576 (s_iload_n dX11_ring_36 rfl (s_callV (r := (RX1, TX1, 5)) dX11_ring_37 mX1_lengthOf meX1_lengthOf wd65 wd66 rfl rfl reX1_lengthOf rmX11_ring (fitX11_ring_37) wd661 (s_callV (r := (RX5, TX5, 7)) dX11_ring_40 mX5_findRing meX5_findRing wd289 wd290 rfl rfl reX5_findRing rmX11_ring (fitX11_ring_40) wd784 (s_iload_n dX11_ring_43 rfl (s_if_ne (tgt := 60) dX11_ring_44 (by decide) (s_aload_n dX11_ring_60 rfl (s_getR (f := 1) dX11_ring_61 clX11 (by decide) rfl wd572 (s_getR (f := 1) dX11_ring_64 clX7 (by decide) rfl wd628 (s_getI (f := 2) dX11_ring_67 clX5 (by decide) rfl wd785 tX11_ring_70)))) (s_aload_n dX11_ring_47 rfl (s_getR (f := 1) dX11_ring_48 clX11 (by decide) rfl wd572 (s_getR (f := 1) dX11_ring_51 clX7 (by decide) rfl wd628 (s_getI (f := 1) dX11_ring_54 clX5 (by decide) rfl wd786 (s_goto (tgt := 70) dX11_ring_57 (by decide) tX11_ring_70))))))))))))))))))) tX11_ring_15)))))))
noncomputable def fX11_ring : zF := z_fn 3 kX11_ring_0
theorem mX11_ring {l : Launch} {D : zD} {B : Nat} : z_MF l D B yX11_ring xX11_ring fX11_ring := z_mf (by decide) rfl (fun h => by cases h) rfl (fun as σ r h => ⟨z_fn_len h, kX11_ring_0, z_fn_run h, fun _ => tX11_ring_0⟩)
/-! ===== RowChildren.isFar ===== -/
theorem dX11_isFar_0 : decode cX11_isFar 0 = .ok (.iload_n 0, 1) := by decide +kernel
theorem dX11_isFar_1 : decode cX11_isFar 1 = .ok (.ifCond .lt 14, 3) := by decide +kernel
theorem dX11_isFar_4 : decode cX11_isFar 4 = .ok (.iload_n 0, 1) := by decide +kernel
theorem dX11_isFar_5 : decode cX11_isFar 5 = .ok (.ldc_w 376, 3) := by decide +kernel
theorem dX11_isFar_8 : decode cX11_isFar 8 = .ok (.if_icmp .gt 7, 3) := by decide +kernel
theorem dX11_isFar_11 : decode cX11_isFar 11 = .ok (.iconst 1, 1) := by decide +kernel
theorem dX11_isFar_12 : decode cX11_isFar 12 = .ok (.goto 4, 3) := by decide +kernel
theorem dX11_isFar_15 : decode cX11_isFar 15 = .ok (.iconst 0, 1) := by decide +kernel
theorem dX11_isFar_16 : decode cX11_isFar 16 = .ok (.ireturn, 1) := by decide +kernel
def xX11_isFar : zX := (RX11, cX11_isFar, 1, (some .boolean), false, { frames := 1, cells := 0, slots := 0, locals := 90 }, 0, 0, 0, 0)
theorem rmX11_isFar : z_Rm xX11_isFar := by unfold z_Rm xX11_isFar; exact ⟨by decide, by decide⟩
theorem reX11_isFar : z_Re xX11_isFar := ⟨rfl, rfl⟩
theorem rlX11_isFar : 1 ≤ xX11_isFar.2.2.2.2.2.1.frames ∧ 21 ≤ xX11_isFar.2.2.2.2.2.1.locals := by unfold xX11_isFar; exact ⟨by decide, by decide⟩
theorem meX11_isFar : z_Me yX11_isFar xX11_isFar 1 := ⟨wd789, wd275, by decide, by decide, by decide +kernel⟩
noncomputable def kX11_isFar_16 : zK zR := q_zret
noncomputable def kX11_isFar_15 : zK zR := (q_push 0 kX11_isFar_16)
noncomputable def kX11_isFar_0 : zK zR := (q_iload 0 (q_if_lt kX11_isFar_15 (q_iload 0 (q_push 1000000000 (q_icmp_gt kX11_isFar_15 (q_push 1 kX11_isFar_16))))))
set_option maxRecDepth 100000 in
theorem tX11_isFar_16 {l : Launch} {D : zD} {B sz0 : Nat} {post : Option Value → zS → Prop} : zSnd l D B xX11_isFar sz0 post 16 kX11_isFar_16 (z_Jr post) := (s_zret dX11_isFar_16 rfl)
set_option maxRecDepth 100000 in
theorem tX11_isFar_15 {l : Launch} {D : zD} {B sz0 : Nat} {post : Option Value → zS → Prop} : zSnd l D B xX11_isFar sz0 post 15 kX11_isFar_15 (z_Jr post) := (s_iconst dX11_isFar_15 (by decide) tX11_isFar_16)
set_option maxRecDepth 100000 in
theorem tX11_isFar_0 {l : Launch} {D : zD} {B sz0 : Nat} {post : Option Value → zS → Prop} : zSnd l D B xX11_isFar sz0 post 0 kX11_isFar_0 (z_Jr post) := (s_iload_n dX11_isFar_0 rfl (s_if_lt (tgt := 15) dX11_isFar_1 (by decide) tX11_isFar_15 (s_iload_n dX11_isFar_4 rfl (s_ldcw dX11_isFar_5 wd788 (s_icmp_gt (tgt := 15) dX11_isFar_8 (by decide) tX11_isFar_15 (s_iconst dX11_isFar_11 (by decide) (s_goto (tgt := 16) dX11_isFar_12 (by decide) tX11_isFar_16)))))))
noncomputable def fX11_isFar : zF := z_fn 1 kX11_isFar_0
theorem mX11_isFar {l : Launch} {D : zD} {B : Nat} : z_MF l D B yX11_isFar xX11_isFar fX11_isFar := z_mf (by decide) rfl (fun h => by cases h) rfl (fun as σ r h => ⟨z_fn_len h, kX11_isFar_0, z_fn_run h, fun _ => tX11_isFar_0⟩)
/-! ===== RowChildren.after ===== -/
theorem dX11_after_0 : decode cX11_after 0 = .ok (.aload_n 0, 1) := by decide +kernel
theorem dX11_after_1 : decode cX11_after 1 = .ok (.iload_n 1, 1) := by decide +kernel
theorem dX11_after_2 : decode cX11_after 2 = .ok (.invokevirtual 134, 3) := by decide +kernel
theorem dX11_after_5 : decode cX11_after 5 = .ok (.ifCond .eq 26, 3) := by decide +kernel
theorem dX11_after_8 : decode cX11_after 8 = .ok (.iload_n 2, 1) := by decide +kernel
theorem dX11_after_9 : decode cX11_after 9 = .ok (.invokestatic 283, 3) := by decide +kernel
theorem dX11_after_12 : decode cX11_after 12 = .ok (.ifCond .eq 19, 3) := by decide +kernel
theorem dX11_after_15 : decode cX11_after 15 = .ok (.iload_n 3, 1) := by decide +kernel
theorem dX11_after_16 : decode cX11_after 16 = .ok (.ifCond .lt 15, 3) := by decide +kernel
theorem dX11_after_19 : decode cX11_after 19 = .ok (.iload_n 3, 1) := by decide +kernel
theorem dX11_after_20 : decode cX11_after 20 = .ok (.aload_n 0, 1) := by decide +kernel
theorem dX11_after_21 : decode cX11_after 21 = .ok (.getfield 33, 3) := by decide +kernel
theorem dX11_after_24 : decode cX11_after 24 = .ok (.iload_n 1, 1) := by decide +kernel
theorem dX11_after_25 : decode cX11_after 25 = .ok (.invokevirtual 141, 3) := by decide +kernel
theorem dX11_after_28 : decode cX11_after 28 = .ok (.if_icmp .lt 5, 3) := by decide +kernel
theorem dX11_after_31 : decode cX11_after 31 = .ok (.iconst (-1), 1) := by decide +kernel
theorem dX11_after_32 : decode cX11_after 32 = .ok (.ireturn, 1) := by decide +kernel
theorem dX11_after_33 : decode cX11_after 33 = .ok (.aload_n 0, 1) := by decide +kernel
theorem dX11_after_34 : decode cX11_after 34 = .ok (.getfield 33, 3) := by decide +kernel
theorem dX11_after_37 : decode cX11_after 37 = .ok (.iload_n 1, 1) := by decide +kernel
theorem dX11_after_38 : decode cX11_after 38 = .ok (.invokevirtual 141, 3) := by decide +kernel
theorem dX11_after_41 : decode cX11_after 41 = .ok (.istore 4, 2) := by decide +kernel
theorem dX11_after_43 : decode cX11_after 43 = .ok (.aload_n 0, 1) := by decide +kernel
theorem dX11_after_44 : decode cX11_after 44 = .ok (.getfield 19, 3) := by decide +kernel
theorem dX11_after_47 : decode cX11_after 47 = .ok (.getfield 124, 3) := by decide +kernel
theorem dX11_after_50 : decode cX11_after 50 = .ok (.aload_n 0, 1) := by decide +kernel
theorem dX11_after_51 : decode cX11_after 51 = .ok (.getfield 33, 3) := by decide +kernel
theorem dX11_after_54 : decode cX11_after 54 = .ok (.iload_n 1, 1) := by decide +kernel
theorem dX11_after_55 : decode cX11_after 55 = .ok (.invokevirtual 271, 3) := by decide +kernel
theorem dX11_after_58 : decode cX11_after 58 = .ok (.iload 4, 2) := by decide +kernel
theorem dX11_after_60 : decode cX11_after 60 = .ok (.iload_n 2, 1) := by decide +kernel
theorem dX11_after_61 : decode cX11_after 61 = .ok (.invokevirtual 286, 3) := by decide +kernel
theorem dX11_after_64 : decode cX11_after 64 = .ok (.istore 5, 2) := by decide +kernel
theorem dX11_after_66 : decode cX11_after 66 = .ok (.iload 5, 2) := by decide +kernel
theorem dX11_after_68 : decode cX11_after 68 = .ok (.iload 4, 2) := by decide +kernel
theorem dX11_after_70 : decode cX11_after 70 = .ok (.iload_n 3, 1) := by decide +kernel
theorem dX11_after_71 : decode cX11_after 71 = .ok (.invokestatic 289, 3) := by decide +kernel
theorem dX11_after_74 : decode cX11_after 74 = .ok (.ireturn, 1) := by decide +kernel
def xX11_after : zX := (RX11, cX11_after, 6, (some .int), false, { frames := 6, cells := 0, slots := 0, locals := 215 }, 0, 0, 0, 0)
theorem rmX11_after : z_Rm xX11_after := by unfold z_Rm xX11_after; exact ⟨by decide, by decide⟩
theorem reX11_after : z_Re xX11_after := ⟨rfl, rfl⟩
theorem rlX11_after : 1 ≤ xX11_after.2.2.2.2.2.1.frames ∧ 21 ≤ xX11_after.2.2.2.2.2.1.locals := by unfold xX11_after; exact ⟨by decide, by decide⟩
theorem meX11_after : z_Me yX11_after xX11_after 3 := ⟨wd796, wd275, by decide, by decide, by decide +kernel⟩
theorem fitX11_after_2 : z_Fit xX11_isRow xX11_after := by unfold z_Fit; simp only [xX11_isRow, xX11_after]; exact ⟨by decide, by decide⟩
theorem fitX11_after_9 : z_Fit xX11_isFar xX11_after := by unfold z_Fit; simp only [xX11_isFar, xX11_after]; exact ⟨by decide, by decide⟩
theorem fitX11_after_25 : z_Fit xX1_lengthOf xX11_after := by unfold z_Fit; simp only [xX1_lengthOf, xX11_after]; exact ⟨by decide, by decide⟩
theorem fitX11_after_38 : z_Fit xX1_lengthOf xX11_after := by unfold z_Fit; simp only [xX1_lengthOf, xX11_after]; exact ⟨by decide, by decide⟩
theorem fitX11_after_55 : z_Fit xX1_packed xX11_after := by unfold z_Fit; simp only [xX1_packed, xX11_after]; exact ⟨by decide, by decide⟩
theorem fitX11_after_61 : z_Fit xX5_ringAfter xX11_after := by unfold z_Fit; simp only [xX5_ringAfter, xX11_after]; exact ⟨by decide, by decide⟩
theorem fitX11_after_71 : z_Fit xX11_unpacked xX11_after := by unfold z_Fit; simp only [xX11_unpacked, xX11_after]; exact ⟨by decide, by decide⟩
noncomputable def kX11_after_31 : zK zR := (q_push (-1) q_iret)
noncomputable def kX11_after_0 : zK zR := (q_aload 0 (q_iload 1 (q_callV 11 fX11_isRow 1 (q_if_eq kX11_after_31 (q_iload 2 (q_callS fX11_isFar 1 (q_if_eq kX11_after_31 (q_iload 3 (q_if_lt kX11_after_31 (q_iload 3 (q_aload 0 (q_getR 11 4 (q_iload 1 (q_callV 1 fX1_lengthOf 1 (q_icmp_lt (q_aload 0 (q_getR 11 4 (q_iload 1 (q_callV 1 fX1_lengthOf 1 (q_istore 4 (q_aload 0 (q_getR 11 1 (q_getR 7 1 (q_aload 0 (q_getR 11 4 (q_iload 1 (q_callV 1 fX1_packed 1 (q_iload 4 (q_iload 2 (q_callV 5 fX5_ringAfter 3 (q_istore 5 (q_iload 5 (q_iload 4 (q_iload 3 (q_callS fX11_unpacked 3 q_iret)))))))))))))))))))) kX11_after_31)))))))))))))))
set_option maxRecDepth 100000 in
theorem tX11_after_31 {l : Launch} {D : zD} {B sz0 : Nat} {post : Option Value → zS → Prop} : zSnd l D B xX11_after sz0 post 31 kX11_after_31 (z_Jr post) := (s_iconst dX11_after_31 (by decide) (s_iret dX11_after_32 rfl))
set_option maxRecDepth 100000 in
theorem tX11_after_0 {l : Launch} {D : zD} {B sz0 : Nat} {post : Option Value → zS → Prop} : zSnd l D B xX11_after sz0 post 0 kX11_after_0 (z_Jr post) := (s_aload_n dX11_after_0 rfl (s_iload_n dX11_after_1 rfl (s_callV (r := (RX11, TX11, 13)) dX11_after_2 mX11_isRow meX11_isRow wd655 wd656 rfl rfl reX11_isRow rmX11_after (fitX11_after_2) wd657 (s_if_eq (tgt := 31) dX11_after_5 (by decide) tX11_after_31 (s_iload_n dX11_after_8 rfl (s_callS dX11_after_9 mX11_isFar meX11_isFar wd790 rfl reX11_isFar rmX11_after (fitX11_after_9) wd791 (s_if_eq (tgt := 31) dX11_after_12 (by decide) tX11_after_31 (s_iload_n dX11_after_15 rfl (s_if_lt (tgt := 31) dX11_after_16 (by decide) tX11_after_31 (s_iload_n dX11_after_19 rfl (s_aload_n dX11_after_20 rfl (s_getR (f := 4) dX11_after_21 clX11 (by decide) rfl wd576 (s_iload_n dX11_after_24 rfl (s_callV (r := (RX1, TX1, 5)) dX11_after_25 mX1_lengthOf meX1_lengthOf wd65 wd66 rfl rfl reX1_lengthOf rmX11_after (fitX11_after_25) wd661 (s_icmp_lt (tgt := 33) dX11_after_28 (by decide) (s_aload_n dX11_after_33 rfl (s_getR (f := 4) dX11_after_34 clX11 (by decide) rfl wd576 (s_iload_n dX11_after_37 rfl (s_callV (r := (RX1, TX1, 5)) dX11_after_38 mX1_lengthOf meX1_lengthOf wd65 wd66 rfl rfl reX1_lengthOf rmX11_after (fitX11_after_38) wd661 (s_istore dX11_after_41 (s_aload_n dX11_after_43 rfl (s_getR (f := 1) dX11_after_44 clX11 (by decide) rfl wd572 (s_getR (f := 1) dX11_after_47 clX7 (by decide) rfl wd628 (s_aload_n dX11_after_50 rfl (s_getR (f := 4) dX11_after_51 clX11 (by decide) rfl wd576 (s_iload_n dX11_after_54 rfl (s_callV (r := (RX1, TX1, 5)) dX11_after_55 mX1_packed meX1_packed wd781 wd782 rfl rfl reX1_packed rmX11_after (fitX11_after_55) wd783 (s_iload dX11_after_58 (s_iload_n dX11_after_60 rfl (s_callV (r := (RX5, TX5, 7)) dX11_after_61 mX5_ringAfter meX5_ringAfter wd792 wd793 rfl rfl reX5_ringAfter rmX11_after (fitX11_after_61) wd794 (s_istore dX11_after_64 (s_iload dX11_after_66 (s_iload dX11_after_68 (s_iload_n dX11_after_70 rfl (s_callS dX11_after_71 mX11_unpacked meX11_unpacked wd276 rfl reX11_unpacked rmX11_after (fitX11_after_71) wd795 (s_iret dX11_after_74 rfl))))))))))))))))))))) tX11_after_31)))))))))))))))
noncomputable def fX11_after : zF := z_fn 6 kX11_after_0
theorem mX11_after {l : Launch} {D : zD} {B : Nat} : z_MF l D B yX11_after xX11_after fX11_after := z_mf (by decide) rfl (fun h => by cases h) rfl (fun as σ r h => ⟨z_fn_len h, kX11_after_0, z_fn_run h, fun _ => tX11_after_0⟩)
/-! ===== RowChildren.ways ===== -/
theorem dX11_ways_0 : decode cX11_ways 0 = .ok (.aload_n 0, 1) := by decide +kernel
theorem dX11_ways_1 : decode cX11_ways 1 = .ok (.getfield 19, 3) := by decide +kernel
theorem dX11_ways_4 : decode cX11_ways 4 = .ok (.getfield 124, 3) := by decide +kernel
theorem dX11_ways_7 : decode cX11_ways 7 = .ok (.astore_n 1, 1) := by decide +kernel
theorem dX11_ways_8 : decode cX11_ways 8 = .ok (.aload_n 1, 1) := by decide +kernel
theorem dX11_ways_9 : decode cX11_ways 9 = .ok (.invokevirtual 292, 3) := by decide +kernel
theorem dX11_ways_12 : decode cX11_ways 12 = .ok (.ifCond .eq 7, 3) := by decide +kernel
theorem dX11_ways_15 : decode cX11_ways 15 = .ok (.iconst 1, 1) := by decide +kernel
theorem dX11_ways_16 : decode cX11_ways 16 = .ok (.goto 4, 3) := by decide +kernel
theorem dX11_ways_19 : decode cX11_ways 19 = .ok (.iconst 0, 1) := by decide +kernel
theorem dX11_ways_20 : decode cX11_ways 20 = .ok (.istore_n 2, 1) := by decide +kernel
theorem dX11_ways_21 : decode cX11_ways 21 = .ok (.iload_n 2, 1) := by decide +kernel
theorem dX11_ways_22 : decode cX11_ways 22 = .ok (.aload_n 1, 1) := by decide +kernel
theorem dX11_ways_23 : decode cX11_ways 23 = .ok (.iconst 1, 1) := by decide +kernel
theorem dX11_ways_24 : decode cX11_ways 24 = .ok (.invokevirtual 295, 3) := by decide +kernel
theorem dX11_ways_27 : decode cX11_ways 27 = .ok (.ifCond .eq 7, 3) := by decide +kernel
theorem dX11_ways_30 : decode cX11_ways 30 = .ok (.iconst 2, 1) := by decide +kernel
theorem dX11_ways_31 : decode cX11_ways 31 = .ok (.goto 4, 3) := by decide +kernel
theorem dX11_ways_34 : decode cX11_ways 34 = .ok (.iconst 0, 1) := by decide +kernel
theorem dX11_ways_35 : decode cX11_ways 35 = .ok (.ior, 1) := by decide +kernel
theorem dX11_ways_36 : decode cX11_ways 36 = .ok (.istore_n 2, 1) := by decide +kernel
theorem dX11_ways_37 : decode cX11_ways 37 = .ok (.iload_n 2, 1) := by decide +kernel
theorem dX11_ways_38 : decode cX11_ways 38 = .ok (.aload_n 1, 1) := by decide +kernel
theorem dX11_ways_39 : decode cX11_ways 39 = .ok (.iconst 0, 1) := by decide +kernel
theorem dX11_ways_40 : decode cX11_ways 40 = .ok (.invokevirtual 295, 3) := by decide +kernel
theorem dX11_ways_43 : decode cX11_ways 43 = .ok (.ifCond .eq 7, 3) := by decide +kernel
theorem dX11_ways_46 : decode cX11_ways 46 = .ok (.iconst 4, 1) := by decide +kernel
theorem dX11_ways_47 : decode cX11_ways 47 = .ok (.goto 4, 3) := by decide +kernel
theorem dX11_ways_50 : decode cX11_ways 50 = .ok (.iconst 0, 1) := by decide +kernel
theorem dX11_ways_51 : decode cX11_ways 51 = .ok (.ior, 1) := by decide +kernel
theorem dX11_ways_52 : decode cX11_ways 52 = .ok (.istore_n 2, 1) := by decide +kernel
theorem dX11_ways_53 : decode cX11_ways 53 = .ok (.iload_n 2, 1) := by decide +kernel
theorem dX11_ways_54 : decode cX11_ways 54 = .ok (.aload_n 1, 1) := by decide +kernel
theorem dX11_ways_55 : decode cX11_ways 55 = .ok (.invokevirtual 299, 3) := by decide +kernel
theorem dX11_ways_58 : decode cX11_ways 58 = .ok (.ifCond .eq 8, 3) := by decide +kernel
theorem dX11_ways_61 : decode cX11_ways 61 = .ok (.bipush 8, 2) := by decide +kernel
theorem dX11_ways_63 : decode cX11_ways 63 = .ok (.goto 4, 3) := by decide +kernel
theorem dX11_ways_66 : decode cX11_ways 66 = .ok (.iconst 0, 1) := by decide +kernel
theorem dX11_ways_67 : decode cX11_ways 67 = .ok (.ior, 1) := by decide +kernel
theorem dX11_ways_68 : decode cX11_ways 68 = .ok (.istore_n 2, 1) := by decide +kernel
theorem dX11_ways_69 : decode cX11_ways 69 = .ok (.iload_n 2, 1) := by decide +kernel
theorem dX11_ways_70 : decode cX11_ways 70 = .ok (.aload_n 1, 1) := by decide +kernel
theorem dX11_ways_71 : decode cX11_ways 71 = .ok (.invokevirtual 302, 3) := by decide +kernel
theorem dX11_ways_74 : decode cX11_ways 74 = .ok (.ifCond .eq 8, 3) := by decide +kernel
theorem dX11_ways_77 : decode cX11_ways 77 = .ok (.bipush 16, 2) := by decide +kernel
theorem dX11_ways_79 : decode cX11_ways 79 = .ok (.goto 4, 3) := by decide +kernel
theorem dX11_ways_82 : decode cX11_ways 82 = .ok (.iconst 0, 1) := by decide +kernel
theorem dX11_ways_83 : decode cX11_ways 83 = .ok (.ior, 1) := by decide +kernel
theorem dX11_ways_84 : decode cX11_ways 84 = .ok (.istore_n 2, 1) := by decide +kernel
theorem dX11_ways_85 : decode cX11_ways 85 = .ok (.iload_n 2, 1) := by decide +kernel
theorem dX11_ways_86 : decode cX11_ways 86 = .ok (.aload_n 1, 1) := by decide +kernel
theorem dX11_ways_87 : decode cX11_ways 87 = .ok (.invokevirtual 305, 3) := by decide +kernel
theorem dX11_ways_90 : decode cX11_ways 90 = .ok (.ifCond .eq 8, 3) := by decide +kernel
theorem dX11_ways_93 : decode cX11_ways 93 = .ok (.bipush 32, 2) := by decide +kernel
theorem dX11_ways_95 : decode cX11_ways 95 = .ok (.goto 4, 3) := by decide +kernel
theorem dX11_ways_98 : decode cX11_ways 98 = .ok (.iconst 0, 1) := by decide +kernel
theorem dX11_ways_99 : decode cX11_ways 99 = .ok (.ior, 1) := by decide +kernel
theorem dX11_ways_100 : decode cX11_ways 100 = .ok (.istore_n 2, 1) := by decide +kernel
theorem dX11_ways_101 : decode cX11_ways 101 = .ok (.iload_n 2, 1) := by decide +kernel
theorem dX11_ways_102 : decode cX11_ways 102 = .ok (.ireturn, 1) := by decide +kernel
def xX11_ways : zX := (RX11, cX11_ways, 3, (some .int), false, { frames := 3, cells := 0, slots := 0, locals := 136 }, 0, 0, 0, 0)
theorem rmX11_ways : z_Rm xX11_ways := by unfold z_Rm xX11_ways; exact ⟨by decide, by decide⟩
theorem reX11_ways : z_Re xX11_ways := ⟨rfl, rfl⟩
theorem rlX11_ways : 1 ≤ xX11_ways.2.2.2.2.2.1.frames ∧ 21 ≤ xX11_ways.2.2.2.2.2.1.locals := by unfold xX11_ways; exact ⟨by decide, by decide⟩
theorem meX11_ways : z_Me yX11_ways xX11_ways 0 := ⟨wd812, wd275, by decide, by decide, by decide +kernel⟩
theorem fitX11_ways_9 : z_Fit xX5_isAlikeBothWays xX11_ways := by unfold z_Fit; simp only [xX5_isAlikeBothWays, xX11_ways]; exact ⟨by decide, by decide⟩
theorem fitX11_ways_24 : z_Fit xX5_isUnlike xX11_ways := by unfold z_Fit; simp only [xX5_isUnlike, xX11_ways]; exact ⟨by decide, by decide⟩
theorem fitX11_ways_40 : z_Fit xX5_isUnlike xX11_ways := by unfold z_Fit; simp only [xX5_isUnlike, xX11_ways]; exact ⟨by decide, by decide⟩
theorem fitX11_ways_55 : z_Fit xX5_isAssociative xX11_ways := by unfold z_Fit; simp only [xX5_isAssociative, xX11_ways]; exact ⟨by decide, by decide⟩
theorem fitX11_ways_71 : z_Fit xX5_keepsAlike xX11_ways := by unfold z_Fit; simp only [xX5_keepsAlike, xX11_ways]; exact ⟨by decide, by decide⟩
theorem fitX11_ways_87 : z_Fit xX5_hasNeutral xX11_ways := by unfold z_Fit; simp only [xX5_hasNeutral, xX11_ways]; exact ⟨by decide, by decide⟩
noncomputable def kX11_ways_99 : zK zR := (q_ior (q_istore 2 (q_iload 2 q_iret)))
noncomputable def kX11_ways_83 : zK zR := (q_ior (q_istore 2 (q_iload 2 (q_aload 1 (q_callV 5 fX5_hasNeutral 0 (q_if_eq (q_push 0 kX11_ways_99) (q_push 32 kX11_ways_99)))))))
noncomputable def kX11_ways_67 : zK zR := (q_ior (q_istore 2 (q_iload 2 (q_aload 1 (q_callV 5 fX5_keepsAlike 0 (q_if_eq (q_push 0 kX11_ways_83) (q_push 16 kX11_ways_83)))))))
noncomputable def kX11_ways_51 : zK zR := (q_ior (q_istore 2 (q_iload 2 (q_aload 1 (q_callV 5 fX5_isAssociative 0 (q_if_eq (q_push 0 kX11_ways_67) (q_push 8 kX11_ways_67)))))))
noncomputable def kX11_ways_35 : zK zR := (q_ior (q_istore 2 (q_iload 2 (q_aload 1 (q_push 0 (q_callV 5 fX5_isUnlike 1 (q_if_eq (q_push 0 kX11_ways_51) (q_push 4 kX11_ways_51))))))))
noncomputable def kX11_ways_20 : zK zR := (q_istore 2 (q_iload 2 (q_aload 1 (q_push 1 (q_callV 5 fX5_isUnlike 1 (q_if_eq (q_push 0 kX11_ways_35) (q_push 2 kX11_ways_35)))))))
noncomputable def kX11_ways_0 : zK zR := (q_aload 0 (q_getR 11 1 (q_getR 7 1 (q_astore 1 (q_aload 1 (q_callV 5 fX5_isAlikeBothWays 0 (q_if_eq (q_push 0 kX11_ways_20) (q_push 1 kX11_ways_20))))))))
set_option maxRecDepth 100000 in
theorem tX11_ways_99 {l : Launch} {D : zD} {B sz0 : Nat} {post : Option Value → zS → Prop} : zSnd l D B xX11_ways sz0 post 99 kX11_ways_99 (z_Jr post) := (s_ior dX11_ways_99 (s_istore_n dX11_ways_100 rfl (s_iload_n dX11_ways_101 rfl (s_iret dX11_ways_102 rfl))))
set_option maxRecDepth 100000 in
theorem tX11_ways_83 {l : Launch} {D : zD} {B sz0 : Nat} {post : Option Value → zS → Prop} : zSnd l D B xX11_ways sz0 post 83 kX11_ways_83 (z_Jr post) := (s_ior dX11_ways_83 (s_istore_n dX11_ways_84 rfl (s_iload_n dX11_ways_85 rfl (s_aload_n dX11_ways_86 rfl (s_callV (r := (RX5, TX5, 7)) dX11_ways_87 mX5_hasNeutral meX5_hasNeutral wd809 wd810 rfl rfl reX5_hasNeutral rmX11_ways (fitX11_ways_87) wd811 (s_if_eq (tgt := 98) dX11_ways_90 (by decide) (s_iconst dX11_ways_98 (by decide) tX11_ways_99) (s_bipush dX11_ways_93 (by decide) (s_goto (tgt := 99) dX11_ways_95 (by decide) tX11_ways_99))))))))
set_option maxRecDepth 100000 in
theorem tX11_ways_67 {l : Launch} {D : zD} {B sz0 : Nat} {post : Option Value → zS → Prop} : zSnd l D B xX11_ways sz0 post 67 kX11_ways_67 (z_Jr post) := (s_ior dX11_ways_67 (s_istore_n dX11_ways_68 rfl (s_iload_n dX11_ways_69 rfl (s_aload_n dX11_ways_70 rfl (s_callV (r := (RX5, TX5, 7)) dX11_ways_71 mX5_keepsAlike meX5_keepsAlike wd806 wd807 rfl rfl reX5_keepsAlike rmX11_ways (fitX11_ways_71) wd808 (s_if_eq (tgt := 82) dX11_ways_74 (by decide) (s_iconst dX11_ways_82 (by decide) tX11_ways_83) (s_bipush dX11_ways_77 (by decide) (s_goto (tgt := 83) dX11_ways_79 (by decide) tX11_ways_83))))))))
set_option maxRecDepth 100000 in
theorem tX11_ways_51 {l : Launch} {D : zD} {B sz0 : Nat} {post : Option Value → zS → Prop} : zSnd l D B xX11_ways sz0 post 51 kX11_ways_51 (z_Jr post) := (s_ior dX11_ways_51 (s_istore_n dX11_ways_52 rfl (s_iload_n dX11_ways_53 rfl (s_aload_n dX11_ways_54 rfl (s_callV (r := (RX5, TX5, 7)) dX11_ways_55 mX5_isAssociative meX5_isAssociative wd803 wd804 rfl rfl reX5_isAssociative rmX11_ways (fitX11_ways_55) wd805 (s_if_eq (tgt := 66) dX11_ways_58 (by decide) (s_iconst dX11_ways_66 (by decide) tX11_ways_67) (s_bipush dX11_ways_61 (by decide) (s_goto (tgt := 67) dX11_ways_63 (by decide) tX11_ways_67))))))))
set_option maxRecDepth 100000 in
theorem tX11_ways_35 {l : Launch} {D : zD} {B sz0 : Nat} {post : Option Value → zS → Prop} : zSnd l D B xX11_ways sz0 post 35 kX11_ways_35 (z_Jr post) := (s_ior dX11_ways_35 (s_istore_n dX11_ways_36 rfl (s_iload_n dX11_ways_37 rfl (s_aload_n dX11_ways_38 rfl (s_iconst dX11_ways_39 (by decide) (s_callV (r := (RX5, TX5, 7)) dX11_ways_40 mX5_isUnlike meX5_isUnlike wd800 wd801 rfl rfl reX5_isUnlike rmX11_ways (fitX11_ways_40) wd802 (s_if_eq (tgt := 50) dX11_ways_43 (by decide) (s_iconst dX11_ways_50 (by decide) tX11_ways_51) (s_iconst dX11_ways_46 (by decide) (s_goto (tgt := 51) dX11_ways_47 (by decide) tX11_ways_51)))))))))
set_option maxRecDepth 100000 in
theorem tX11_ways_20 {l : Launch} {D : zD} {B sz0 : Nat} {post : Option Value → zS → Prop} : zSnd l D B xX11_ways sz0 post 20 kX11_ways_20 (z_Jr post) := (s_istore_n dX11_ways_20 rfl (s_iload_n dX11_ways_21 rfl (s_aload_n dX11_ways_22 rfl (s_iconst dX11_ways_23 (by decide) (s_callV (r := (RX5, TX5, 7)) dX11_ways_24 mX5_isUnlike meX5_isUnlike wd800 wd801 rfl rfl reX5_isUnlike rmX11_ways (fitX11_ways_24) wd802 (s_if_eq (tgt := 34) dX11_ways_27 (by decide) (s_iconst dX11_ways_34 (by decide) tX11_ways_35) (s_iconst dX11_ways_30 (by decide) (s_goto (tgt := 35) dX11_ways_31 (by decide) tX11_ways_35))))))))
set_option maxRecDepth 100000 in
theorem tX11_ways_0 {l : Launch} {D : zD} {B sz0 : Nat} {post : Option Value → zS → Prop} : zSnd l D B xX11_ways sz0 post 0 kX11_ways_0 (z_Jr post) := (s_aload_n dX11_ways_0 rfl (s_getR (f := 1) dX11_ways_1 clX11 (by decide) rfl wd572 (s_getR (f := 1) dX11_ways_4 clX7 (by decide) rfl wd628 (s_astore_n dX11_ways_7 rfl (s_aload_n dX11_ways_8 rfl (s_callV (r := (RX5, TX5, 7)) dX11_ways_9 mX5_isAlikeBothWays meX5_isAlikeBothWays wd797 wd798 rfl rfl reX5_isAlikeBothWays rmX11_ways (fitX11_ways_9) wd799 (s_if_eq (tgt := 19) dX11_ways_12 (by decide) (s_iconst dX11_ways_19 (by decide) tX11_ways_20) (s_iconst dX11_ways_15 (by decide) (s_goto (tgt := 20) dX11_ways_16 (by decide) tX11_ways_20)))))))))
noncomputable def fX11_ways : zF := z_fn 3 kX11_ways_0
theorem mX11_ways {l : Launch} {D : zD} {B : Nat} : z_MF l D B yX11_ways xX11_ways fX11_ways := z_mf (by decide) rfl (fun h => by cases h) rfl (fun as σ r h => ⟨z_fn_len h, kX11_ways_0, z_fn_run h, fun _ => tX11_ways_0⟩)
/-! ===== RowChildren.shut ===== -/
theorem dX11_shut_0 : decode cX11_shut 0 = .ok (.iload_n 1, 1) := by decide +kernel
theorem dX11_shut_1 : decode cX11_shut 1 = .ok (.iconst 1, 1) := by decide +kernel
theorem dX11_shut_2 : decode cX11_shut 2 = .ok (.if_icmp .lt 19, 3) := by decide +kernel
theorem dX11_shut_5 : decode cX11_shut 5 = .ok (.iload_n 1, 1) := by decide +kernel
theorem dX11_shut_6 : decode cX11_shut 6 = .ok (.iconst 1, 1) := by decide +kernel
theorem dX11_shut_7 : decode cX11_shut 7 = .ok (.aload_n 0, 1) := by decide +kernel
theorem dX11_shut_8 : decode cX11_shut 8 = .ok (.getfield 19, 3) := by decide +kernel
theorem dX11_shut_11 : decode cX11_shut 11 = .ok (.getfield 124, 3) := by decide +kernel
theorem dX11_shut_14 : decode cX11_shut 14 = .ok (.getfield 145, 3) := by decide +kernel
theorem dX11_shut_17 : decode cX11_shut 17 = .ok (.ishl, 1) := by decide +kernel
theorem dX11_shut_18 : decode cX11_shut 18 = .ok (.if_icmp .lt 5, 3) := by decide +kernel
theorem dX11_shut_21 : decode cX11_shut 21 = .ok (.iconst (-1), 1) := by decide +kernel
theorem dX11_shut_22 : decode cX11_shut 22 = .ok (.ireturn, 1) := by decide +kernel
theorem dX11_shut_23 : decode cX11_shut 23 = .ok (.aload_n 0, 1) := by decide +kernel
theorem dX11_shut_24 : decode cX11_shut 24 = .ok (.getfield 19, 3) := by decide +kernel
theorem dX11_shut_27 : decode cX11_shut 27 = .ok (.getfield 124, 3) := by decide +kernel
theorem dX11_shut_30 : decode cX11_shut 30 = .ok (.iload_n 1, 1) := by decide +kernel
theorem dX11_shut_31 : decode cX11_shut 31 = .ok (.invokevirtual 308, 3) := by decide +kernel
theorem dX11_shut_34 : decode cX11_shut 34 = .ok (.ireturn, 1) := by decide +kernel
def xX11_shut : zX := (RX11, cX11_shut, 2, (some .int), false, { frames := 3, cells := 0, slots := 0, locals := 137 }, 0, 0, 0, 0)
theorem rmX11_shut : z_Rm xX11_shut := by unfold z_Rm xX11_shut; exact ⟨by decide, by decide⟩
theorem reX11_shut : z_Re xX11_shut := ⟨rfl, rfl⟩
theorem rlX11_shut : 1 ≤ xX11_shut.2.2.2.2.2.1.frames ∧ 21 ≤ xX11_shut.2.2.2.2.2.1.locals := by unfold xX11_shut; exact ⟨by decide, by decide⟩
theorem meX11_shut : z_Me yX11_shut xX11_shut 1 := ⟨wd816, wd275, by decide, by decide, by decide +kernel⟩
theorem fitX11_shut_31 : z_Fit xX5_closureOf xX11_shut := by unfold z_Fit; simp only [xX5_closureOf, xX11_shut]; exact ⟨by decide, by decide⟩
noncomputable def kX11_shut_21 : zK zR := (q_push (-1) q_iret)
noncomputable def kX11_shut_0 : zK zR := (q_iload 1 (q_push 1 (q_icmp_lt kX11_shut_21 (q_iload 1 (q_push 1 (q_aload 0 (q_getR 11 1 (q_getR 7 1 (q_getI 5 0 (q_ishl (q_icmp_lt (q_aload 0 (q_getR 11 1 (q_getR 7 1 (q_iload 1 (q_callV 5 fX5_closureOf 1 q_iret))))) kX11_shut_21)))))))))))
set_option maxRecDepth 100000 in
theorem tX11_shut_21 {l : Launch} {D : zD} {B sz0 : Nat} {post : Option Value → zS → Prop} : zSnd l D B xX11_shut sz0 post 21 kX11_shut_21 (z_Jr post) := (s_iconst dX11_shut_21 (by decide) (s_iret dX11_shut_22 rfl))
set_option maxRecDepth 100000 in
theorem tX11_shut_0 {l : Launch} {D : zD} {B sz0 : Nat} {post : Option Value → zS → Prop} : zSnd l D B xX11_shut sz0 post 0 kX11_shut_0 (z_Jr post) := (s_iload_n dX11_shut_0 rfl (s_iconst dX11_shut_1 (by decide) (s_icmp_lt (tgt := 21) dX11_shut_2 (by decide) tX11_shut_21 (s_iload_n dX11_shut_5 rfl (s_iconst dX11_shut_6 (by decide) (s_aload_n dX11_shut_7 rfl (s_getR (f := 1) dX11_shut_8 clX11 (by decide) rfl wd572 (s_getR (f := 1) dX11_shut_11 clX7 (by decide) rfl wd628 (s_getI (f := 0) dX11_shut_14 clX5 (by decide) rfl wd629 (s_ishl dX11_shut_17 (s_icmp_lt (tgt := 23) dX11_shut_18 (by decide) (s_aload_n dX11_shut_23 rfl (s_getR (f := 1) dX11_shut_24 clX11 (by decide) rfl wd572 (s_getR (f := 1) dX11_shut_27 clX7 (by decide) rfl wd628 (s_iload_n dX11_shut_30 rfl (s_callV (r := (RX5, TX5, 7)) dX11_shut_31 mX5_closureOf meX5_closureOf wd813 wd814 rfl rfl reX5_closureOf rmX11_shut (fitX11_shut_31) wd815 (s_iret dX11_shut_34 rfl)))))) tX11_shut_21)))))))))))
noncomputable def fX11_shut : zF := z_fn 2 kX11_shut_0
theorem mX11_shut {l : Launch} {D : zD} {B : Nat} : z_MF l D B yX11_shut xX11_shut fX11_shut := z_mf (by decide) rfl (fun h => by cases h) rfl (fun as σ r h => ⟨z_fn_len h, kX11_shut_0, z_fn_run h, fun _ => tX11_shut_0⟩)
/-! ===== RowChildren.restOfWaysDown ===== -/
theorem dX11_restOfWaysDown_0 : decode cX11_restOfWaysDown 0 = .ok (.iconst 1, 1) := by decide +kernel
theorem dX11_restOfWaysDown_1 : decode cX11_restOfWaysDown 1 = .ok (.istore_n 3, 1) := by decide +kernel
theorem dX11_restOfWaysDown_2 : decode cX11_restOfWaysDown 2 = .ok (.iload_n 0, 1) := by decide +kernel
theorem dX11_restOfWaysDown_3 : decode cX11_restOfWaysDown 3 = .ok (.istore 4, 2) := by decide +kernel
theorem dX11_restOfWaysDown_5 : decode cX11_restOfWaysDown 5 = .ok (.iload_n 1, 1) := by decide +kernel
theorem dX11_restOfWaysDown_6 : decode cX11_restOfWaysDown 6 = .ok (.istore 5, 2) := by decide +kernel
theorem dX11_restOfWaysDown_8 : decode cX11_restOfWaysDown 8 = .ok (.iconst 0, 1) := by decide +kernel
theorem dX11_restOfWaysDown_9 : decode cX11_restOfWaysDown 9 = .ok (.istore 6, 2) := by decide +kernel
theorem dX11_restOfWaysDown_11 : decode cX11_restOfWaysDown 11 = .ok (.iload 6, 2) := by decide +kernel
theorem dX11_restOfWaysDown_13 : decode cX11_restOfWaysDown 13 = .ok (.bipush 32, 2) := by decide +kernel
theorem dX11_restOfWaysDown_15 : decode cX11_restOfWaysDown 15 = .ok (.if_icmp .ge 104, 3) := by decide +kernel
theorem dX11_restOfWaysDown_18 : decode cX11_restOfWaysDown 18 = .ok (.iload_n 2, 1) := by decide +kernel
theorem dX11_restOfWaysDown_19 : decode cX11_restOfWaysDown 19 = .ok (.ifCond .eq 10, 3) := by decide +kernel
theorem dX11_restOfWaysDown_22 : decode cX11_restOfWaysDown 22 = .ok (.iload 4, 2) := by decide +kernel
theorem dX11_restOfWaysDown_24 : decode cX11_restOfWaysDown 24 = .ok (.iconst 3, 1) := by decide +kernel
theorem dX11_restOfWaysDown_25 : decode cX11_restOfWaysDown 25 = .ok (.irem, 1) := by decide +kernel
theorem dX11_restOfWaysDown_26 : decode cX11_restOfWaysDown 26 = .ok (.goto 7, 3) := by decide +kernel
theorem dX11_restOfWaysDown_29 : decode cX11_restOfWaysDown 29 = .ok (.iload 4, 2) := by decide +kernel
theorem dX11_restOfWaysDown_31 : decode cX11_restOfWaysDown 31 = .ok (.iconst 2, 1) := by decide +kernel
theorem dX11_restOfWaysDown_32 : decode cX11_restOfWaysDown 32 = .ok (.irem, 1) := by decide +kernel
theorem dX11_restOfWaysDown_33 : decode cX11_restOfWaysDown 33 = .ok (.istore 7, 2) := by decide +kernel
theorem dX11_restOfWaysDown_35 : decode cX11_restOfWaysDown 35 = .ok (.iload_n 2, 1) := by decide +kernel
theorem dX11_restOfWaysDown_36 : decode cX11_restOfWaysDown 36 = .ok (.ifCond .eq 10, 3) := by decide +kernel
theorem dX11_restOfWaysDown_39 : decode cX11_restOfWaysDown 39 = .ok (.iload 5, 2) := by decide +kernel
theorem dX11_restOfWaysDown_41 : decode cX11_restOfWaysDown 41 = .ok (.iconst 3, 1) := by decide +kernel
theorem dX11_restOfWaysDown_42 : decode cX11_restOfWaysDown 42 = .ok (.irem, 1) := by decide +kernel
theorem dX11_restOfWaysDown_43 : decode cX11_restOfWaysDown 43 = .ok (.goto 7, 3) := by decide +kernel
theorem dX11_restOfWaysDown_46 : decode cX11_restOfWaysDown 46 = .ok (.iload 5, 2) := by decide +kernel
theorem dX11_restOfWaysDown_48 : decode cX11_restOfWaysDown 48 = .ok (.iconst 2, 1) := by decide +kernel
theorem dX11_restOfWaysDown_49 : decode cX11_restOfWaysDown 49 = .ok (.irem, 1) := by decide +kernel
theorem dX11_restOfWaysDown_50 : decode cX11_restOfWaysDown 50 = .ok (.istore 8, 2) := by decide +kernel
theorem dX11_restOfWaysDown_52 : decode cX11_restOfWaysDown 52 = .ok (.iload 8, 2) := by decide +kernel
theorem dX11_restOfWaysDown_54 : decode cX11_restOfWaysDown 54 = .ok (.iload 7, 2) := by decide +kernel
theorem dX11_restOfWaysDown_56 : decode cX11_restOfWaysDown 56 = .ok (.if_icmp .le 5, 3) := by decide +kernel
theorem dX11_restOfWaysDown_59 : decode cX11_restOfWaysDown 59 = .ok (.iconst 0, 1) := by decide +kernel
theorem dX11_restOfWaysDown_60 : decode cX11_restOfWaysDown 60 = .ok (.ireturn, 1) := by decide +kernel
theorem dX11_restOfWaysDown_61 : decode cX11_restOfWaysDown 61 = .ok (.iload 7, 2) := by decide +kernel
theorem dX11_restOfWaysDown_63 : decode cX11_restOfWaysDown 63 = .ok (.iconst 2, 1) := by decide +kernel
theorem dX11_restOfWaysDown_64 : decode cX11_restOfWaysDown 64 = .ok (.if_icmp .ne 15, 3) := by decide +kernel
theorem dX11_restOfWaysDown_67 : decode cX11_restOfWaysDown 67 = .ok (.iload 8, 2) := by decide +kernel
theorem dX11_restOfWaysDown_69 : decode cX11_restOfWaysDown 69 = .ok (.iconst 1, 1) := by decide +kernel
theorem dX11_restOfWaysDown_70 : decode cX11_restOfWaysDown 70 = .ok (.if_icmp .ne 9, 3) := by decide +kernel
theorem dX11_restOfWaysDown_73 : decode cX11_restOfWaysDown 73 = .ok (.iload_n 3, 1) := by decide +kernel
theorem dX11_restOfWaysDown_74 : decode cX11_restOfWaysDown 74 = .ok (.iconst 2, 1) := by decide +kernel
theorem dX11_restOfWaysDown_75 : decode cX11_restOfWaysDown 75 = .ok (.imul, 1) := by decide +kernel
theorem dX11_restOfWaysDown_76 : decode cX11_restOfWaysDown 76 = .ok (.iconst 3, 1) := by decide +kernel
theorem dX11_restOfWaysDown_77 : decode cX11_restOfWaysDown 77 = .ok (.irem, 1) := by decide +kernel
theorem dX11_restOfWaysDown_78 : decode cX11_restOfWaysDown 78 = .ok (.istore_n 3, 1) := by decide +kernel
theorem dX11_restOfWaysDown_79 : decode cX11_restOfWaysDown 79 = .ok (.iload_n 2, 1) := by decide +kernel
theorem dX11_restOfWaysDown_80 : decode cX11_restOfWaysDown 80 = .ok (.ifCond .eq 10, 3) := by decide +kernel
theorem dX11_restOfWaysDown_83 : decode cX11_restOfWaysDown 83 = .ok (.iload 4, 2) := by decide +kernel
theorem dX11_restOfWaysDown_85 : decode cX11_restOfWaysDown 85 = .ok (.iconst 3, 1) := by decide +kernel
theorem dX11_restOfWaysDown_86 : decode cX11_restOfWaysDown 86 = .ok (.idiv, 1) := by decide +kernel
theorem dX11_restOfWaysDown_87 : decode cX11_restOfWaysDown 87 = .ok (.goto 7, 3) := by decide +kernel
theorem dX11_restOfWaysDown_90 : decode cX11_restOfWaysDown 90 = .ok (.iload 4, 2) := by decide +kernel
theorem dX11_restOfWaysDown_92 : decode cX11_restOfWaysDown 92 = .ok (.iconst 2, 1) := by decide +kernel
theorem dX11_restOfWaysDown_93 : decode cX11_restOfWaysDown 93 = .ok (.idiv, 1) := by decide +kernel
theorem dX11_restOfWaysDown_94 : decode cX11_restOfWaysDown 94 = .ok (.istore 4, 2) := by decide +kernel
theorem dX11_restOfWaysDown_96 : decode cX11_restOfWaysDown 96 = .ok (.iload_n 2, 1) := by decide +kernel
theorem dX11_restOfWaysDown_97 : decode cX11_restOfWaysDown 97 = .ok (.ifCond .eq 10, 3) := by decide +kernel
theorem dX11_restOfWaysDown_100 : decode cX11_restOfWaysDown 100 = .ok (.iload 5, 2) := by decide +kernel
theorem dX11_restOfWaysDown_102 : decode cX11_restOfWaysDown 102 = .ok (.iconst 3, 1) := by decide +kernel
theorem dX11_restOfWaysDown_103 : decode cX11_restOfWaysDown 103 = .ok (.idiv, 1) := by decide +kernel
theorem dX11_restOfWaysDown_104 : decode cX11_restOfWaysDown 104 = .ok (.goto 7, 3) := by decide +kernel
theorem dX11_restOfWaysDown_107 : decode cX11_restOfWaysDown 107 = .ok (.iload 5, 2) := by decide +kernel
theorem dX11_restOfWaysDown_109 : decode cX11_restOfWaysDown 109 = .ok (.iconst 2, 1) := by decide +kernel
theorem dX11_restOfWaysDown_110 : decode cX11_restOfWaysDown 110 = .ok (.idiv, 1) := by decide +kernel
theorem dX11_restOfWaysDown_111 : decode cX11_restOfWaysDown 111 = .ok (.istore 5, 2) := by decide +kernel
theorem dX11_restOfWaysDown_113 : decode cX11_restOfWaysDown 113 = .ok (.iinc 6 1, 3) := by decide +kernel
theorem dX11_restOfWaysDown_116 : decode cX11_restOfWaysDown 116 = .ok (.goto (-105), 3) := by decide +kernel
theorem dX11_restOfWaysDown_119 : decode cX11_restOfWaysDown 119 = .ok (.iload_n 3, 1) := by decide +kernel
theorem dX11_restOfWaysDown_120 : decode cX11_restOfWaysDown 120 = .ok (.ireturn, 1) := by decide +kernel
def xX11_restOfWaysDown : zX := (RX11, cX11_restOfWaysDown, 9, (some .int), false, { frames := 1, cells := 0, slots := 0, locals := 90 }, 0, 0, 0, 0)
theorem rmX11_restOfWaysDown : z_Rm xX11_restOfWaysDown := by unfold z_Rm xX11_restOfWaysDown; exact ⟨by decide, by decide⟩
theorem reX11_restOfWaysDown : z_Re xX11_restOfWaysDown := ⟨rfl, rfl⟩
theorem rlX11_restOfWaysDown : 1 ≤ xX11_restOfWaysDown.2.2.2.2.2.1.frames ∧ 21 ≤ xX11_restOfWaysDown.2.2.2.2.2.1.locals := by unfold xX11_restOfWaysDown; exact ⟨by decide, by decide⟩
theorem meX11_restOfWaysDown : z_Me yX11_restOfWaysDown xX11_restOfWaysDown 3 := ⟨wd817, wd275, by decide, by decide, by decide +kernel⟩
noncomputable def kX11_restOfWaysDown_119 : zK zR := (q_iload 3 q_iret)
noncomputable def kX11_restOfWaysDown_111 : zK ((zL × zS) ⊕ zR) := (q_istore 5 (q_iinc 6 1 q_ag))
noncomputable def kX11_restOfWaysDown_94 : zK ((zL × zS) ⊕ zR) := (q_istore 4 (q_iload 2 (q_if_eq (q_iload 5 (q_push 2 (q_idiv kX11_restOfWaysDown_111))) (q_iload 5 (q_push 3 (q_idiv kX11_restOfWaysDown_111))))))
noncomputable def kX11_restOfWaysDown_79 : zK ((zL × zS) ⊕ zR) := (q_iload 2 (q_if_eq (q_iload 4 (q_push 2 (q_idiv kX11_restOfWaysDown_94))) (q_iload 4 (q_push 3 (q_idiv kX11_restOfWaysDown_94)))))
noncomputable def kX11_restOfWaysDown_59 : zK zR := (q_push 0 q_iret)
noncomputable def kX11_restOfWaysDown_50 : zK ((zL × zS) ⊕ zR) := (q_istore 8 (q_iload 8 (q_iload 7 (q_icmp_le (q_iload 7 (q_push 2 (q_icmp_ne kX11_restOfWaysDown_79 (q_iload 8 (q_push 1 (q_icmp_ne kX11_restOfWaysDown_79 (q_iload 3 (q_push 2 (q_imul (q_push 3 (q_irem (q_istore 3 kX11_restOfWaysDown_79)))))))))))) (q_dn kX11_restOfWaysDown_59)))))
noncomputable def kX11_restOfWaysDown_33 : zK ((zL × zS) ⊕ zR) := (q_istore 7 (q_iload 2 (q_if_eq (q_iload 5 (q_push 2 (q_irem kX11_restOfWaysDown_50))) (q_iload 5 (q_push 3 (q_irem kX11_restOfWaysDown_50))))))
noncomputable def bX11_restOfWaysDown_11 : zK ((zL × zS) ⊕ zR) := (q_iload 6 (q_push 32 (q_icmp_ge (q_dn kX11_restOfWaysDown_119) (q_iload 2 (q_if_eq (q_iload 4 (q_push 2 (q_irem kX11_restOfWaysDown_33))) (q_iload 4 (q_push 3 (q_irem kX11_restOfWaysDown_33))))))))
noncomputable def kX11_restOfWaysDown_11 : zK zR := q_lp (bX11_restOfWaysDown_11)
noncomputable def kX11_restOfWaysDown_0 : zK zR := (q_push 1 (q_istore 3 (q_iload 0 (q_istore 4 (q_iload 1 (q_istore 5 (q_push 0 (q_istore 6 kX11_restOfWaysDown_11))))))))
set_option maxRecDepth 100000 in
theorem tX11_restOfWaysDown_119 {l : Launch} {D : zD} {B sz0 : Nat} {post : Option Value → zS → Prop} : zSnd l D B xX11_restOfWaysDown sz0 post 119 kX11_restOfWaysDown_119 (z_Jr post) := (s_iload_n dX11_restOfWaysDown_119 rfl (s_iret dX11_restOfWaysDown_120 rfl))
set_option maxRecDepth 100000 in
theorem tX11_restOfWaysDown_111 {l : Launch} {D : zD} {B sz0 : Nat} {post : Option Value → zS → Prop} : zSnd l D B xX11_restOfWaysDown sz0 post 111 kX11_restOfWaysDown_111 (z_Jl l D B xX11_restOfWaysDown sz0 post 11 (z_Jr post)) := (s_istore dX11_restOfWaysDown_111 (s_iinc dX11_restOfWaysDown_113 (by decide) (s_goto (tgt := 11) dX11_restOfWaysDown_116 (by decide) s_ag)))
set_option maxRecDepth 100000 in
theorem tX11_restOfWaysDown_94 {l : Launch} {D : zD} {B sz0 : Nat} {post : Option Value → zS → Prop} : zSnd l D B xX11_restOfWaysDown sz0 post 94 kX11_restOfWaysDown_94 (z_Jl l D B xX11_restOfWaysDown sz0 post 11 (z_Jr post)) := (s_istore dX11_restOfWaysDown_94 (s_iload_n dX11_restOfWaysDown_96 rfl (s_if_eq (tgt := 107) dX11_restOfWaysDown_97 (by decide) (s_iload dX11_restOfWaysDown_107 (s_iconst dX11_restOfWaysDown_109 (by decide) (s_idiv dX11_restOfWaysDown_110 tX11_restOfWaysDown_111))) (s_iload dX11_restOfWaysDown_100 (s_iconst dX11_restOfWaysDown_102 (by decide) (s_idiv dX11_restOfWaysDown_103 (s_goto (tgt := 111) dX11_restOfWaysDown_104 (by decide) tX11_restOfWaysDown_111)))))))
set_option maxRecDepth 100000 in
theorem tX11_restOfWaysDown_79 {l : Launch} {D : zD} {B sz0 : Nat} {post : Option Value → zS → Prop} : zSnd l D B xX11_restOfWaysDown sz0 post 79 kX11_restOfWaysDown_79 (z_Jl l D B xX11_restOfWaysDown sz0 post 11 (z_Jr post)) := (s_iload_n dX11_restOfWaysDown_79 rfl (s_if_eq (tgt := 90) dX11_restOfWaysDown_80 (by decide) (s_iload dX11_restOfWaysDown_90 (s_iconst dX11_restOfWaysDown_92 (by decide) (s_idiv dX11_restOfWaysDown_93 tX11_restOfWaysDown_94))) (s_iload dX11_restOfWaysDown_83 (s_iconst dX11_restOfWaysDown_85 (by decide) (s_idiv dX11_restOfWaysDown_86 (s_goto (tgt := 94) dX11_restOfWaysDown_87 (by decide) tX11_restOfWaysDown_94))))))
set_option maxRecDepth 100000 in
theorem tX11_restOfWaysDown_59 {l : Launch} {D : zD} {B sz0 : Nat} {post : Option Value → zS → Prop} : zSnd l D B xX11_restOfWaysDown sz0 post 59 kX11_restOfWaysDown_59 (z_Jr post) := (s_iconst dX11_restOfWaysDown_59 (by decide) (s_iret dX11_restOfWaysDown_60 rfl))
set_option maxRecDepth 100000 in
theorem tX11_restOfWaysDown_50 {l : Launch} {D : zD} {B sz0 : Nat} {post : Option Value → zS → Prop} : zSnd l D B xX11_restOfWaysDown sz0 post 50 kX11_restOfWaysDown_50 (z_Jl l D B xX11_restOfWaysDown sz0 post 11 (z_Jr post)) := (s_istore dX11_restOfWaysDown_50 (s_iload dX11_restOfWaysDown_52 (s_iload dX11_restOfWaysDown_54 (s_icmp_le (tgt := 61) dX11_restOfWaysDown_56 (by decide) (s_iload dX11_restOfWaysDown_61 (s_iconst dX11_restOfWaysDown_63 (by decide) (s_icmp_ne (tgt := 79) dX11_restOfWaysDown_64 (by decide) tX11_restOfWaysDown_79 (s_iload dX11_restOfWaysDown_67 (s_iconst dX11_restOfWaysDown_69 (by decide) (s_icmp_ne (tgt := 79) dX11_restOfWaysDown_70 (by decide) tX11_restOfWaysDown_79 (s_iload_n dX11_restOfWaysDown_73 rfl (s_iconst dX11_restOfWaysDown_74 (by decide) (s_imul dX11_restOfWaysDown_75 (s_iconst dX11_restOfWaysDown_76 (by decide) (s_irem dX11_restOfWaysDown_77 (s_istore_n dX11_restOfWaysDown_78 rfl tX11_restOfWaysDown_79)))))))))))) (s_dn tX11_restOfWaysDown_59)))))
set_option maxRecDepth 100000 in
theorem tX11_restOfWaysDown_33 {l : Launch} {D : zD} {B sz0 : Nat} {post : Option Value → zS → Prop} : zSnd l D B xX11_restOfWaysDown sz0 post 33 kX11_restOfWaysDown_33 (z_Jl l D B xX11_restOfWaysDown sz0 post 11 (z_Jr post)) := (s_istore dX11_restOfWaysDown_33 (s_iload_n dX11_restOfWaysDown_35 rfl (s_if_eq (tgt := 46) dX11_restOfWaysDown_36 (by decide) (s_iload dX11_restOfWaysDown_46 (s_iconst dX11_restOfWaysDown_48 (by decide) (s_irem dX11_restOfWaysDown_49 tX11_restOfWaysDown_50))) (s_iload dX11_restOfWaysDown_39 (s_iconst dX11_restOfWaysDown_41 (by decide) (s_irem dX11_restOfWaysDown_42 (s_goto (tgt := 50) dX11_restOfWaysDown_43 (by decide) tX11_restOfWaysDown_50)))))))
set_option maxRecDepth 100000 in
theorem tX11_restOfWaysDown_11 {l : Launch} {D : zD} {B sz0 : Nat} {post : Option Value → zS → Prop} : zSnd l D B xX11_restOfWaysDown sz0 post 11 kX11_restOfWaysDown_11 (z_Jr post) := s_lp (body := bX11_restOfWaysDown_11) (s_iload dX11_restOfWaysDown_11 (s_bipush dX11_restOfWaysDown_13 (by decide) (s_icmp_ge (tgt := 119) dX11_restOfWaysDown_15 (by decide) (s_dn tX11_restOfWaysDown_119) (s_iload_n dX11_restOfWaysDown_18 rfl (s_if_eq (tgt := 29) dX11_restOfWaysDown_19 (by decide) (s_iload dX11_restOfWaysDown_29 (s_iconst dX11_restOfWaysDown_31 (by decide) (s_irem dX11_restOfWaysDown_32 tX11_restOfWaysDown_33))) (s_iload dX11_restOfWaysDown_22 (s_iconst dX11_restOfWaysDown_24 (by decide) (s_irem dX11_restOfWaysDown_25 (s_goto (tgt := 33) dX11_restOfWaysDown_26 (by decide) tX11_restOfWaysDown_33)))))))))
set_option maxRecDepth 100000 in
theorem tX11_restOfWaysDown_0 {l : Launch} {D : zD} {B sz0 : Nat} {post : Option Value → zS → Prop} : zSnd l D B xX11_restOfWaysDown sz0 post 0 kX11_restOfWaysDown_0 (z_Jr post) := (s_iconst dX11_restOfWaysDown_0 (by decide) (s_istore_n dX11_restOfWaysDown_1 rfl (s_iload_n dX11_restOfWaysDown_2 rfl (s_istore dX11_restOfWaysDown_3 (s_iload_n dX11_restOfWaysDown_5 rfl (s_istore dX11_restOfWaysDown_6 (s_iconst dX11_restOfWaysDown_8 (by decide) (s_istore dX11_restOfWaysDown_9 tX11_restOfWaysDown_11))))))))
noncomputable def fX11_restOfWaysDown : zF := z_fn 9 kX11_restOfWaysDown_0
theorem mX11_restOfWaysDown {l : Launch} {D : zD} {B : Nat} : z_MF l D B yX11_restOfWaysDown xX11_restOfWaysDown fX11_restOfWaysDown := z_mf (by decide) rfl (fun h => by cases h) rfl (fun as σ r h => ⟨z_fn_len h, kX11_restOfWaysDown_0, z_fn_run h, fun _ => tX11_restOfWaysDown_0⟩)
/-! ===== RowChildren.deep ===== -/
theorem dX11_deep_0 : decode cX11_deep 0 = .ok (.iload_n 1, 1) := by decide +kernel
theorem dX11_deep_1 : decode cX11_deep 1 = .ok (.invokestatic 283, 3) := by decide +kernel
theorem dX11_deep_4 : decode cX11_deep 4 = .ok (.ifCond .eq 12, 3) := by decide +kernel
theorem dX11_deep_7 : decode cX11_deep 7 = .ok (.iload_n 2, 1) := by decide +kernel
theorem dX11_deep_8 : decode cX11_deep 8 = .ok (.ifCond .lt 8, 3) := by decide +kernel
theorem dX11_deep_11 : decode cX11_deep 11 = .ok (.iload_n 2, 1) := by decide +kernel
theorem dX11_deep_12 : decode cX11_deep 12 = .ok (.iload_n 1, 1) := by decide +kernel
theorem dX11_deep_13 : decode cX11_deep 13 = .ok (.if_icmp .le 5, 3) := by decide +kernel
theorem dX11_deep_16 : decode cX11_deep 16 = .ok (.iconst (-1), 1) := by decide +kernel
theorem dX11_deep_17 : decode cX11_deep 17 = .ok (.ireturn, 1) := by decide +kernel
theorem dX11_deep_18 : decode cX11_deep 18 = .ok (.aload_n 0, 1) := by decide +kernel
theorem dX11_deep_19 : decode cX11_deep 19 = .ok (.getfield 19, 3) := by decide +kernel
theorem dX11_deep_22 : decode cX11_deep 22 = .ok (.getfield 124, 3) := by decide +kernel
theorem dX11_deep_25 : decode cX11_deep 25 = .ok (.getfield 145, 3) := by decide +kernel
theorem dX11_deep_28 : decode cX11_deep 28 = .ok (.iconst 4, 1) := by decide +kernel
theorem dX11_deep_29 : decode cX11_deep 29 = .ok (.if_icmp .ne 8, 3) := by decide +kernel
theorem dX11_deep_32 : decode cX11_deep 32 = .ok (.bipush (-2), 2) := by decide +kernel
theorem dX11_deep_34 : decode cX11_deep 34 = .ok (.goto 27, 3) := by decide +kernel
theorem dX11_deep_37 : decode cX11_deep 37 = .ok (.iload_n 1, 1) := by decide +kernel
theorem dX11_deep_38 : decode cX11_deep 38 = .ok (.iload_n 2, 1) := by decide +kernel
theorem dX11_deep_39 : decode cX11_deep 39 = .ok (.aload_n 0, 1) := by decide +kernel
theorem dX11_deep_40 : decode cX11_deep 40 = .ok (.getfield 19, 3) := by decide +kernel
theorem dX11_deep_43 : decode cX11_deep 43 = .ok (.getfield 124, 3) := by decide +kernel
theorem dX11_deep_46 : decode cX11_deep 46 = .ok (.getfield 145, 3) := by decide +kernel
theorem dX11_deep_49 : decode cX11_deep 49 = .ok (.iconst 3, 1) := by decide +kernel
theorem dX11_deep_50 : decode cX11_deep 50 = .ok (.if_icmp .ne 7, 3) := by decide +kernel
theorem dX11_deep_53 : decode cX11_deep 53 = .ok (.iconst 1, 1) := by decide +kernel
theorem dX11_deep_54 : decode cX11_deep 54 = .ok (.goto 4, 3) := by decide +kernel
theorem dX11_deep_57 : decode cX11_deep 57 = .ok (.iconst 0, 1) := by decide +kernel
theorem dX11_deep_58 : decode cX11_deep 58 = .ok (.invokestatic 311, 3) := by decide +kernel
theorem dX11_deep_61 : decode cX11_deep 61 = .ok (.ireturn, 1) := by decide +kernel
def xX11_deep : zX := (RX11, cX11_deep, 3, (some .int), false, { frames := 2, cells := 0, slots := 0, locals := 118 }, 0, 0, 0, 0)
theorem rmX11_deep : z_Rm xX11_deep := by unfold z_Rm xX11_deep; exact ⟨by decide, by decide⟩
theorem reX11_deep : z_Re xX11_deep := ⟨rfl, rfl⟩
theorem rlX11_deep : 1 ≤ xX11_deep.2.2.2.2.2.1.frames ∧ 21 ≤ xX11_deep.2.2.2.2.2.1.locals := by unfold xX11_deep; exact ⟨by decide, by decide⟩
theorem meX11_deep : z_Me yX11_deep xX11_deep 2 := ⟨wd820, wd275, by decide, by decide, by decide +kernel⟩
theorem fitX11_deep_1 : z_Fit xX11_isFar xX11_deep := by unfold z_Fit; simp only [xX11_isFar, xX11_deep]; exact ⟨by decide, by decide⟩
theorem fitX11_deep_58 : z_Fit xX11_restOfWaysDown xX11_deep := by unfold z_Fit; simp only [xX11_restOfWaysDown, xX11_deep]; exact ⟨by decide, by decide⟩
noncomputable def kX11_deep_16 : zK zR := (q_push (-1) q_iret)
noncomputable def kX11_deep_61 : zK zR := q_iret
noncomputable def kX11_deep_58 : zK zR := (q_callS fX11_restOfWaysDown 3 kX11_deep_61)
noncomputable def kX11_deep_0 : zK zR := (q_iload 1 (q_callS fX11_isFar 1 (q_if_eq kX11_deep_16 (q_iload 2 (q_if_lt kX11_deep_16 (q_iload 2 (q_iload 1 (q_icmp_le (q_aload 0 (q_getR 11 1 (q_getR 7 1 (q_getI 5 0 (q_push 4 (q_icmp_ne (q_iload 1 (q_iload 2 (q_aload 0 (q_getR 11 1 (q_getR 7 1 (q_getI 5 0 (q_push 3 (q_icmp_ne (q_push 0 kX11_deep_58) (q_push 1 kX11_deep_58))))))))) (q_push (-2) kX11_deep_61))))))) kX11_deep_16))))))))
set_option maxRecDepth 100000 in
theorem tX11_deep_16 {l : Launch} {D : zD} {B sz0 : Nat} {post : Option Value → zS → Prop} : zSnd l D B xX11_deep sz0 post 16 kX11_deep_16 (z_Jr post) := (s_iconst dX11_deep_16 (by decide) (s_iret dX11_deep_17 rfl))
set_option maxRecDepth 100000 in
theorem tX11_deep_61 {l : Launch} {D : zD} {B sz0 : Nat} {post : Option Value → zS → Prop} : zSnd l D B xX11_deep sz0 post 61 kX11_deep_61 (z_Jr post) := (s_iret dX11_deep_61 rfl)
set_option maxRecDepth 100000 in
theorem tX11_deep_58 {l : Launch} {D : zD} {B sz0 : Nat} {post : Option Value → zS → Prop} : zSnd l D B xX11_deep sz0 post 58 kX11_deep_58 (z_Jr post) := (s_callS dX11_deep_58 mX11_restOfWaysDown meX11_restOfWaysDown wd818 rfl reX11_restOfWaysDown rmX11_deep (fitX11_deep_58) wd819 tX11_deep_61)
set_option maxRecDepth 100000 in
theorem tX11_deep_0 {l : Launch} {D : zD} {B sz0 : Nat} {post : Option Value → zS → Prop} : zSnd l D B xX11_deep sz0 post 0 kX11_deep_0 (z_Jr post) := (s_iload_n dX11_deep_0 rfl (s_callS dX11_deep_1 mX11_isFar meX11_isFar wd790 rfl reX11_isFar rmX11_deep (fitX11_deep_1) wd791 (s_if_eq (tgt := 16) dX11_deep_4 (by decide) tX11_deep_16 (s_iload_n dX11_deep_7 rfl (s_if_lt (tgt := 16) dX11_deep_8 (by decide) tX11_deep_16 (s_iload_n dX11_deep_11 rfl (s_iload_n dX11_deep_12 rfl (s_icmp_le (tgt := 18) dX11_deep_13 (by decide) (s_aload_n dX11_deep_18 rfl (s_getR (f := 1) dX11_deep_19 clX11 (by decide) rfl wd572 (s_getR (f := 1) dX11_deep_22 clX7 (by decide) rfl wd628 (s_getI (f := 0) dX11_deep_25 clX5 (by decide) rfl wd629 (s_iconst dX11_deep_28 (by decide) (s_icmp_ne (tgt := 37) dX11_deep_29 (by decide) (s_iload_n dX11_deep_37 rfl (s_iload_n dX11_deep_38 rfl (s_aload_n dX11_deep_39 rfl (s_getR (f := 1) dX11_deep_40 clX11 (by decide) rfl wd572 (s_getR (f := 1) dX11_deep_43 clX7 (by decide) rfl wd628 (s_getI (f := 0) dX11_deep_46 clX5 (by decide) rfl wd629 (s_iconst dX11_deep_49 (by decide) (s_icmp_ne (tgt := 57) dX11_deep_50 (by decide) (s_iconst dX11_deep_57 (by decide) tX11_deep_58) (s_iconst dX11_deep_53 (by decide) (s_goto (tgt := 58) dX11_deep_54 (by decide) tX11_deep_58)))))))))) (s_bipush dX11_deep_32 (by decide) (s_goto (tgt := 61) dX11_deep_34 (by decide) tX11_deep_61)))))))) tX11_deep_16))))))))
noncomputable def fX11_deep : zF := z_fn 3 kX11_deep_0
theorem mX11_deep {l : Launch} {D : zD} {B : Nat} : z_MF l D B yX11_deep xX11_deep fX11_deep := z_mf (by decide) rfl (fun h => by cases h) rfl (fun as σ r h => ⟨z_fn_len h, kX11_deep_0, z_fn_run h, fun _ => tX11_deep_0⟩)
/-! ===== RowChildren.game ===== -/
theorem dX11_game_0 : decode cX11_game 0 = .ok (.aload_n 0, 1) := by decide +kernel
theorem dX11_game_1 : decode cX11_game 1 = .ok (.iload_n 1, 1) := by decide +kernel
theorem dX11_game_2 : decode cX11_game 2 = .ok (.invokevirtual 120, 3) := by decide +kernel
theorem dX11_game_5 : decode cX11_game 5 = .ok (.ifCond .eq 17, 3) := by decide +kernel
theorem dX11_game_8 : decode cX11_game 8 = .ok (.iload_n 2, 1) := by decide +kernel
theorem dX11_game_9 : decode cX11_game 9 = .ok (.invokestatic 233, 3) := by decide +kernel
theorem dX11_game_12 : decode cX11_game 12 = .ok (.ifCond .eq 10, 3) := by decide +kernel
theorem dX11_game_15 : decode cX11_game 15 = .ok (.iload_n 3, 1) := by decide +kernel
theorem dX11_game_16 : decode cX11_game 16 = .ok (.invokestatic 184, 3) := by decide +kernel
theorem dX11_game_19 : decode cX11_game 19 = .ok (.ifCond .ne 5, 3) := by decide +kernel
theorem dX11_game_22 : decode cX11_game 22 = .ok (.iconst (-1), 1) := by decide +kernel
theorem dX11_game_23 : decode cX11_game 23 = .ok (.ireturn, 1) := by decide +kernel
theorem dX11_game_24 : decode cX11_game 24 = .ok (.aload_n 0, 1) := by decide +kernel
theorem dX11_game_25 : decode cX11_game 25 = .ok (.getfield 68, 3) := by decide +kernel
theorem dX11_game_28 : decode cX11_game 28 = .ok (.aload_n 0, 1) := by decide +kernel
theorem dX11_game_29 : decode cX11_game 29 = .ok (.getfield 19, 3) := by decide +kernel
theorem dX11_game_32 : decode cX11_game 32 = .ok (.getfield 124, 3) := by decide +kernel
theorem dX11_game_35 : decode cX11_game 35 = .ok (.iload_n 2, 1) := by decide +kernel
theorem dX11_game_36 : decode cX11_game 36 = .ok (.invokevirtual 236, 3) := by decide +kernel
theorem dX11_game_39 : decode cX11_game 39 = .ok (.aload_n 0, 1) := by decide +kernel
theorem dX11_game_40 : decode cX11_game 40 = .ok (.getfield 68, 3) := by decide +kernel
theorem dX11_game_43 : decode cX11_game 43 = .ok (.iload_n 2, 1) := by decide +kernel
theorem dX11_game_44 : decode cX11_game 44 = .ok (.iload_n 1, 1) := by decide +kernel
theorem dX11_game_45 : decode cX11_game 45 = .ok (.aload_n 0, 1) := by decide +kernel
theorem dX11_game_46 : decode cX11_game 46 = .ok (.getfield 19, 3) := by decide +kernel
theorem dX11_game_49 : decode cX11_game 49 = .ok (.getfield 124, 3) := by decide +kernel
theorem dX11_game_52 : decode cX11_game 52 = .ok (.getfield 145, 3) := by decide +kernel
theorem dX11_game_55 : decode cX11_game 55 = .ok (.invokevirtual 315, 3) := by decide +kernel
theorem dX11_game_58 : decode cX11_game 58 = .ok (.istore 4, 2) := by decide +kernel
theorem dX11_game_60 : decode cX11_game 60 = .ok (.iload_n 3, 1) := by decide +kernel
theorem dX11_game_61 : decode cX11_game 61 = .ok (.ifCond .ne 16, 3) := by decide +kernel
theorem dX11_game_64 : decode cX11_game 64 = .ok (.iload 4, 2) := by decide +kernel
theorem dX11_game_66 : decode cX11_game 66 = .ok (.bipush (-2), 2) := by decide +kernel
theorem dX11_game_68 : decode cX11_game 68 = .ok (.if_icmp .ne 7, 3) := by decide +kernel
theorem dX11_game_71 : decode cX11_game 71 = .ok (.iconst 2, 1) := by decide +kernel
theorem dX11_game_72 : decode cX11_game 72 = .ok (.goto 4, 3) := by decide +kernel
theorem dX11_game_75 : decode cX11_game 75 = .ok (.iconst 1, 1) := by decide +kernel
theorem dX11_game_76 : decode cX11_game 76 = .ok (.ireturn, 1) := by decide +kernel
theorem dX11_game_77 : decode cX11_game 77 = .ok (.iload 4, 2) := by decide +kernel
theorem dX11_game_79 : decode cX11_game 79 = .ok (.ireturn, 1) := by decide +kernel
def xX11_game : zX := (RX11, cX11_game, 5, (some .int), false, { frames := 16, cells := 0, slots := 0, locals := 487 }, 0, 0, 0, 0)
theorem rmX11_game : z_Rm xX11_game := by unfold z_Rm xX11_game; exact ⟨by decide, by decide⟩
theorem reX11_game : z_Re xX11_game := ⟨rfl, rfl⟩
theorem rlX11_game : 1 ≤ xX11_game.2.2.2.2.2.1.frames ∧ 21 ≤ xX11_game.2.2.2.2.2.1.locals := by unfold xX11_game; exact ⟨by decide, by decide⟩
theorem meX11_game : z_Me yX11_game xX11_game 3 := ⟨wd824, wd275, by decide, by decide, by decide +kernel⟩
theorem fitX11_game_2 : z_Fit xX11_isColour xX11_game := by unfold z_Fit; simp only [xX11_isColour, xX11_game]; exact ⟨by decide, by decide⟩
theorem fitX11_game_9 : z_Fit xX11_isRowLength xX11_game := by unfold z_Fit; simp only [xX11_isRowLength, xX11_game]; exact ⟨by decide, by decide⟩
theorem fitX11_game_16 : z_Fit xX11_isOneOfTwo xX11_game := by unfold z_Fit; simp only [xX11_isOneOfTwo, xX11_game]; exact ⟨by decide, by decide⟩
theorem fitX11_game_36 : z_Fit xX0_take xX11_game := by unfold z_Fit; simp only [xX0_take, xX11_game]; exact ⟨by decide, by decide⟩
theorem fitX11_game_55 : z_Fit xX0_winningStart xX11_game := by unfold z_Fit; simp only [xX0_winningStart, xX11_game]; exact ⟨by decide, by decide⟩
noncomputable def kX11_game_22 : zK zR := (q_push (-1) q_iret)
noncomputable def kX11_game_76 : zK zR := q_iret
noncomputable def kX11_game_0 : zK zR := (q_aload 0 (q_iload 1 (q_callV 11 fX11_isColour 1 (q_if_eq kX11_game_22 (q_iload 2 (q_callS fX11_isRowLength 1 (q_if_eq kX11_game_22 (q_iload 3 (q_callS fX11_isOneOfTwo 1 (q_if_ne (q_aload 0 (q_getR 11 10 (q_aload 0 (q_getR 11 1 (q_getR 7 1 (q_iload 2 (q_callV 0 fX0_take 2 (q_aload 0 (q_getR 11 10 (q_iload 2 (q_iload 1 (q_aload 0 (q_getR 11 1 (q_getR 7 1 (q_getI 5 0 (q_callV 0 fX0_winningStart 3 (q_istore 4 (q_iload 3 (q_if_ne (q_iload 4 q_iret) (q_iload 4 (q_push (-2) (q_icmp_ne (q_push 1 kX11_game_76) (q_push 2 kX11_game_76))))))))))))))))))))))) kX11_game_22))))))))))
set_option maxRecDepth 100000 in
theorem tX11_game_22 {l : Launch} {D : zD} {B sz0 : Nat} {post : Option Value → zS → Prop} : zSnd l D B xX11_game sz0 post 22 kX11_game_22 (z_Jr post) := (s_iconst dX11_game_22 (by decide) (s_iret dX11_game_23 rfl))
set_option maxRecDepth 100000 in
theorem tX11_game_76 {l : Launch} {D : zD} {B sz0 : Nat} {post : Option Value → zS → Prop} : zSnd l D B xX11_game sz0 post 76 kX11_game_76 (z_Jr post) := (s_iret dX11_game_76 rfl)
set_option maxRecDepth 100000 in
theorem tX11_game_0 {l : Launch} {D : zD} {B sz0 : Nat} {post : Option Value → zS → Prop} : zSnd l D B xX11_game sz0 post 0 kX11_game_0 (z_Jr post) := (s_aload_n dX11_game_0 rfl (s_iload_n dX11_game_1 rfl (s_callV (r := (RX11, TX11, 13)) dX11_game_2 mX11_isColour meX11_isColour wd631 wd632 rfl rfl reX11_isColour rmX11_game (fitX11_game_2) wd633 (s_if_eq (tgt := 22) dX11_game_5 (by decide) tX11_game_22 (s_iload_n dX11_game_8 rfl (s_callS dX11_game_9 mX11_isRowLength meX11_isRowLength wd734 rfl reX11_isRowLength rmX11_game (fitX11_game_9) wd735 (s_if_eq (tgt := 22) dX11_game_12 (by decide) tX11_game_22 (s_iload_n dX11_game_15 rfl (s_callS dX11_game_16 mX11_isOneOfTwo meX11_isOneOfTwo wd681 rfl reX11_isOneOfTwo rmX11_game (fitX11_game_16) wd682 (s_if_ne (tgt := 24) dX11_game_19 (by decide) (s_aload_n dX11_game_24 rfl (s_getR (f := 10) dX11_game_25 clX11 (by decide) rfl wd593 (s_aload_n dX11_game_28 rfl (s_getR (f := 1) dX11_game_29 clX11 (by decide) rfl wd572 (s_getR (f := 1) dX11_game_32 clX7 (by decide) rfl wd628 (s_iload_n dX11_game_35 rfl (s_callV (r := (RX0, TX0, 5)) dX11_game_36 mX0_take meX0_take wd736 wd737 rfl rfl reX0_take rmX11_game (fitX11_game_36) wd738 (s_aload_n dX11_game_39 rfl (s_getR (f := 10) dX11_game_40 clX11 (by decide) rfl wd593 (s_iload_n dX11_game_43 rfl (s_iload_n dX11_game_44 rfl (s_aload_n dX11_game_45 rfl (s_getR (f := 1) dX11_game_46 clX11 (by decide) rfl wd572 (s_getR (f := 1) dX11_game_49 clX7 (by decide) rfl wd628 (s_getI (f := 0) dX11_game_52 clX5 (by decide) rfl wd629 (s_callV (r := (RX0, TX0, 5)) dX11_game_55 mX0_winningStart meX0_winningStart wd821 wd822 rfl rfl reX0_winningStart rmX11_game (fitX11_game_55) wd823 (s_istore dX11_game_58 (s_iload_n dX11_game_60 rfl (s_if_ne (tgt := 77) dX11_game_61 (by decide) (s_iload dX11_game_77 (s_iret dX11_game_79 rfl)) (s_iload dX11_game_64 (s_bipush dX11_game_66 (by decide) (s_icmp_ne (tgt := 75) dX11_game_68 (by decide) (s_iconst dX11_game_75 (by decide) tX11_game_76) (s_iconst dX11_game_71 (by decide) (s_goto (tgt := 76) dX11_game_72 (by decide) tX11_game_76)))))))))))))))))))))))) tX11_game_22))))))))))
noncomputable def fX11_game : zF := z_fn 5 kX11_game_0
theorem mX11_game {l : Launch} {D : zD} {B : Nat} : z_MF l D B yX11_game xX11_game fX11_game := z_mf (by decide) rfl (fun h => by cases h) rfl (fun as σ r h => ⟨z_fn_len h, kX11_game_0, z_fn_run h, fun _ => tX11_game_0⟩)
/-! ===== RowChildren.then ===== -/
theorem dX11_then_0 : decode cX11_then 0 = .ok (.aload_n 0, 1) := by decide +kernel
theorem dX11_then_1 : decode cX11_then 1 = .ok (.iload_n 1, 1) := by decide +kernel
theorem dX11_then_2 : decode cX11_then 2 = .ok (.invokevirtual 134, 3) := by decide +kernel
theorem dX11_then_5 : decode cX11_then 5 = .ok (.ifCond .eq 20, 3) := by decide +kernel
theorem dX11_then_8 : decode cX11_then 8 = .ok (.iload_n 2, 1) := by decide +kernel
theorem dX11_then_9 : decode cX11_then 9 = .ok (.invokestatic 216, 3) := by decide +kernel
theorem dX11_then_12 : decode cX11_then 12 = .ok (.ifCond .eq 13, 3) := by decide +kernel
theorem dX11_then_15 : decode cX11_then 15 = .ok (.iload_n 3, 1) := by decide +kernel
theorem dX11_then_16 : decode cX11_then 16 = .ok (.ifCond .lt 9, 3) := by decide +kernel
theorem dX11_then_19 : decode cX11_then 19 = .ok (.iload_n 3, 1) := by decide +kernel
theorem dX11_then_20 : decode cX11_then 20 = .ok (.bipush 8, 2) := by decide +kernel
theorem dX11_then_22 : decode cX11_then 22 = .ok (.if_icmp .lt 5, 3) := by decide +kernel
theorem dX11_then_25 : decode cX11_then 25 = .ok (.iconst (-1), 1) := by decide +kernel
theorem dX11_then_26 : decode cX11_then 26 = .ok (.ireturn, 1) := by decide +kernel
theorem dX11_then_27 : decode cX11_then 27 = .ok (.aload_n 0, 1) := by decide +kernel
theorem dX11_then_28 : decode cX11_then 28 = .ok (.getfield 37, 3) := by decide +kernel
theorem dX11_then_31 : decode cX11_then 31 = .ok (.aload_n 0, 1) := by decide +kernel
theorem dX11_then_32 : decode cX11_then 32 = .ok (.getfield 33, 3) := by decide +kernel
theorem dX11_then_35 : decode cX11_then 35 = .ok (.invokevirtual 104, 3) := by decide +kernel
theorem dX11_then_38 : decode cX11_then 38 = .ok (.aload_n 0, 1) := by decide +kernel
theorem dX11_then_39 : decode cX11_then 39 = .ok (.aload_n 0, 1) := by decide +kernel
theorem dX11_then_40 : decode cX11_then 40 = .ok (.getfield 37, 3) := by decide +kernel
theorem dX11_then_43 : decode cX11_then 43 = .ok (.iload_n 2, 1) := by decide +kernel
theorem dX11_then_44 : decode cX11_then 44 = .ok (.aload_n 0, 1) := by decide +kernel
theorem dX11_then_45 : decode cX11_then 45 = .ok (.getfield 19, 3) := by decide +kernel
theorem dX11_then_48 : decode cX11_then 48 = .ok (.getfield 219, 3) := by decide +kernel
theorem dX11_then_51 : decode cX11_then 51 = .ok (.invokevirtual 222, 3) := by decide +kernel
theorem dX11_then_54 : decode cX11_then 54 = .ok (.iload_n 3, 1) := by decide +kernel
theorem dX11_then_55 : decode cX11_then 55 = .ok (.aload_n 0, 1) := by decide +kernel
theorem dX11_then_56 : decode cX11_then 56 = .ok (.getfield 37, 3) := by decide +kernel
theorem dX11_then_59 : decode cX11_then 59 = .ok (.iload_n 1, 1) := by decide +kernel
theorem dX11_then_60 : decode cX11_then 60 = .ok (.invokevirtual 141, 3) := by decide +kernel
theorem dX11_then_63 : decode cX11_then 63 = .ok (.if_icmp .ge 15, 3) := by decide +kernel
theorem dX11_then_66 : decode cX11_then 66 = .ok (.aload_n 0, 1) := by decide +kernel
theorem dX11_then_67 : decode cX11_then 67 = .ok (.getfield 37, 3) := by decide +kernel
theorem dX11_then_70 : decode cX11_then 70 = .ok (.iload_n 1, 1) := by decide +kernel
theorem dX11_then_71 : decode cX11_then 71 = .ok (.iload_n 3, 1) := by decide +kernel
theorem dX11_then_72 : decode cX11_then 72 = .ok (.invokevirtual 318, 3) := by decide +kernel
theorem dX11_then_75 : decode cX11_then 75 = .ok (.goto 5, 3) := by decide +kernel
theorem dX11_then_78 : decode cX11_then 78 = .ok (.bipush (-2), 2) := by decide +kernel
theorem dX11_then_80 : decode cX11_then 80 = .ok (.ireturn, 1) := by decide +kernel
def xX11_then : zX := (RX11, cX11_then, 4, (some .int), false, { frames := 23, cells := 0, slots := 0, locals := 653 }, 0, 0, 0, 0)
theorem rmX11_then : z_Rm xX11_then := by unfold z_Rm xX11_then; exact ⟨by decide, by decide⟩
theorem reX11_then : z_Re xX11_then := ⟨rfl, rfl⟩
theorem rlX11_then : 1 ≤ xX11_then.2.2.2.2.2.1.frames ∧ 21 ≤ xX11_then.2.2.2.2.2.1.locals := by unfold xX11_then; exact ⟨by decide, by decide⟩
theorem meX11_then : z_Me yX11_then xX11_then 3 := ⟨wd825, wd275, by decide, by decide, by decide +kernel⟩
theorem fitX11_then_2 : z_Fit xX11_isRow xX11_then := by unfold z_Fit; simp only [xX11_isRow, xX11_then]; exact ⟨by decide, by decide⟩
theorem fitX11_then_9 : z_Fit xX11_isGenerations xX11_then := by unfold z_Fit; simp only [xX11_isGenerations, xX11_then]; exact ⟨by decide, by decide⟩
theorem fitX11_then_35 : z_Fit xX1_copyFrom xX11_then := by unfold z_Fit; simp only [xX1_copyFrom, xX11_then]; exact ⟨by decide, by decide⟩
theorem fitX11_then_51 : z_Fit xX11_passGenerations xX11_then := by unfold z_Fit; simp only [xX11_passGenerations, xX11_then]; exact ⟨by decide, by decide⟩
theorem fitX11_then_60 : z_Fit xX1_lengthOf xX11_then := by unfold z_Fit; simp only [xX1_lengthOf, xX11_then]; exact ⟨by decide, by decide⟩
theorem fitX11_then_72 : z_Fit xX1_colourAt xX11_then := by unfold z_Fit; simp only [xX1_colourAt, xX11_then]; exact ⟨by decide, by decide⟩
noncomputable def kX11_then_25 : zK zR := (q_push (-1) q_iret)
noncomputable def kX11_then_80 : zK zR := q_iret
noncomputable def kX11_then_0 : zK zR := (q_aload 0 (q_iload 1 (q_callV 11 fX11_isRow 1 (q_if_eq kX11_then_25 (q_iload 2 (q_callS fX11_isGenerations 1 (q_if_eq kX11_then_25 (q_iload 3 (q_if_lt kX11_then_25 (q_iload 3 (q_push 8 (q_icmp_lt (q_aload 0 (q_getR 11 5 (q_aload 0 (q_getR 11 4 (q_callV 1 fX1_copyFrom 1 (q_aload 0 (q_aload 0 (q_getR 11 5 (q_iload 2 (q_aload 0 (q_getR 11 1 (q_getI 7 5 (q_callV 11 fX11_passGenerations 3 (q_iload 3 (q_aload 0 (q_getR 11 5 (q_iload 1 (q_callV 1 fX1_lengthOf 1 (q_icmp_ge (q_push (-2) kX11_then_80) (q_aload 0 (q_getR 11 5 (q_iload 1 (q_iload 3 (q_callV 1 fX1_colourAt 2 kX11_then_80)))))))))))))))))))))))) kX11_then_25))))))))))))
set_option maxRecDepth 100000 in
theorem tX11_then_25 {l : Launch} {D : zD} {B sz0 : Nat} {post : Option Value → zS → Prop} : zSnd l D B xX11_then sz0 post 25 kX11_then_25 (z_Jr post) := (s_iconst dX11_then_25 (by decide) (s_iret dX11_then_26 rfl))
set_option maxRecDepth 100000 in
theorem tX11_then_80 {l : Launch} {D : zD} {B sz0 : Nat} {post : Option Value → zS → Prop} : zSnd l D B xX11_then sz0 post 80 kX11_then_80 (z_Jr post) := (s_iret dX11_then_80 rfl)
set_option maxRecDepth 100000 in
theorem tX11_then_0 {l : Launch} {D : zD} {B sz0 : Nat} {post : Option Value → zS → Prop} : zSnd l D B xX11_then sz0 post 0 kX11_then_0 (z_Jr post) := (s_aload_n dX11_then_0 rfl (s_iload_n dX11_then_1 rfl (s_callV (r := (RX11, TX11, 13)) dX11_then_2 mX11_isRow meX11_isRow wd655 wd656 rfl rfl reX11_isRow rmX11_then (fitX11_then_2) wd657 (s_if_eq (tgt := 25) dX11_then_5 (by decide) tX11_then_25 (s_iload_n dX11_then_8 rfl (s_callS dX11_then_9 mX11_isGenerations meX11_isGenerations wd722 rfl reX11_isGenerations rmX11_then (fitX11_then_9) wd723 (s_if_eq (tgt := 25) dX11_then_12 (by decide) tX11_then_25 (s_iload_n dX11_then_15 rfl (s_if_lt (tgt := 25) dX11_then_16 (by decide) tX11_then_25 (s_iload_n dX11_then_19 rfl (s_bipush dX11_then_20 (by decide) (s_icmp_lt (tgt := 27) dX11_then_22 (by decide) (s_aload_n dX11_then_27 rfl (s_getR (f := 5) dX11_then_28 clX11 (by decide) rfl wd577 (s_aload_n dX11_then_31 rfl (s_getR (f := 4) dX11_then_32 clX11 (by decide) rfl wd576 (s_callV (r := (RX1, TX1, 5)) dX11_then_35 mX1_copyFrom meX1_copyFrom wd168 wd169 rfl rfl reX1_copyFrom rmX11_then (fitX11_then_35) wd615 (s_aload_n dX11_then_38 rfl (s_aload_n dX11_then_39 rfl (s_getR (f := 5) dX11_then_40 clX11 (by decide) rfl wd577 (s_iload_n dX11_then_43 rfl (s_aload_n dX11_then_44 rfl (s_getR (f := 1) dX11_then_45 clX11 (by decide) rfl wd572 (s_getI (f := 5) dX11_then_48 clX7 (by decide) rfl wd724 (s_callV (r := (RX11, TX11, 13)) dX11_then_51 mX11_passGenerations meX11_passGenerations wd725 wd726 rfl rfl reX11_passGenerations rmX11_then (fitX11_then_51) wd727 (s_iload_n dX11_then_54 rfl (s_aload_n dX11_then_55 rfl (s_getR (f := 5) dX11_then_56 clX11 (by decide) rfl wd577 (s_iload_n dX11_then_59 rfl (s_callV (r := (RX1, TX1, 5)) dX11_then_60 mX1_lengthOf meX1_lengthOf wd65 wd66 rfl rfl reX1_lengthOf rmX11_then (fitX11_then_60) wd661 (s_icmp_ge (tgt := 78) dX11_then_63 (by decide) (s_bipush dX11_then_78 (by decide) tX11_then_80) (s_aload_n dX11_then_66 rfl (s_getR (f := 5) dX11_then_67 clX11 (by decide) rfl wd577 (s_iload_n dX11_then_70 rfl (s_iload_n dX11_then_71 rfl (s_callV (r := (RX1, TX1, 5)) dX11_then_72 mX1_colourAt meX1_colourAt wd75 wd76 rfl rfl reX1_colourAt rmX11_then (fitX11_then_72) wd638 (s_goto (tgt := 80) dX11_then_75 (by decide) tX11_then_80))))))))))))))))))))))))) tX11_then_25))))))))))))
noncomputable def fX11_then : zF := z_fn 4 kX11_then_0
theorem mX11_then {l : Launch} {D : zD} {B : Nat} : z_MF l D B yX11_then xX11_then fX11_then := z_mf (by decide) rfl (fun h => by cases h) rfl (fun as σ r h => ⟨z_fn_len h, kX11_then_0, z_fn_run h, fun _ => tX11_then_0⟩)
/-! ===== RowChildren.paidIn ===== -/
theorem dX11_paidIn_0 : decode cX11_paidIn 0 = .ok (.iload_n 1, 1) := by decide +kernel
theorem dX11_paidIn_1 : decode cX11_paidIn 1 = .ok (.invokestatic 216, 3) := by decide +kernel
theorem dX11_paidIn_4 : decode cX11_paidIn 4 = .ok (.ifCond .ne 5, 3) := by decide +kernel
theorem dX11_paidIn_7 : decode cX11_paidIn 7 = .ok (.iconst (-1), 1) := by decide +kernel
theorem dX11_paidIn_8 : decode cX11_paidIn 8 = .ok (.ireturn, 1) := by decide +kernel
theorem dX11_paidIn_9 : decode cX11_paidIn 9 = .ok (.aload_n 0, 1) := by decide +kernel
theorem dX11_paidIn_10 : decode cX11_paidIn 10 = .ok (.getfield 37, 3) := by decide +kernel
theorem dX11_paidIn_13 : decode cX11_paidIn 13 = .ok (.aload_n 0, 1) := by decide +kernel
theorem dX11_paidIn_14 : decode cX11_paidIn 14 = .ok (.getfield 33, 3) := by decide +kernel
theorem dX11_paidIn_17 : decode cX11_paidIn 17 = .ok (.invokevirtual 104, 3) := by decide +kernel
theorem dX11_paidIn_20 : decode cX11_paidIn 20 = .ok (.aload_n 0, 1) := by decide +kernel
theorem dX11_paidIn_21 : decode cX11_paidIn 21 = .ok (.aload_n 0, 1) := by decide +kernel
theorem dX11_paidIn_22 : decode cX11_paidIn 22 = .ok (.getfield 37, 3) := by decide +kernel
theorem dX11_paidIn_25 : decode cX11_paidIn 25 = .ok (.iload_n 1, 1) := by decide +kernel
theorem dX11_paidIn_26 : decode cX11_paidIn 26 = .ok (.aload_n 0, 1) := by decide +kernel
theorem dX11_paidIn_27 : decode cX11_paidIn 27 = .ok (.getfield 19, 3) := by decide +kernel
theorem dX11_paidIn_30 : decode cX11_paidIn 30 = .ok (.getfield 219, 3) := by decide +kernel
theorem dX11_paidIn_33 : decode cX11_paidIn 33 = .ok (.invokevirtual 222, 3) := by decide +kernel
theorem dX11_paidIn_36 : decode cX11_paidIn 36 = .ok (.aload_n 0, 1) := by decide +kernel
theorem dX11_paidIn_37 : decode cX11_paidIn 37 = .ok (.getfield 37, 3) := by decide +kernel
theorem dX11_paidIn_40 : decode cX11_paidIn 40 = .ok (.getfield 203, 3) := by decide +kernel
theorem dX11_paidIn_43 : decode cX11_paidIn 43 = .ok (.ireturn, 1) := by decide +kernel
def xX11_paidIn : zX := (RX11, cX11_paidIn, 2, (some .int), false, { frames := 23, cells := 0, slots := 0, locals := 653 }, 0, 0, 0, 0)
theorem rmX11_paidIn : z_Rm xX11_paidIn := by unfold z_Rm xX11_paidIn; exact ⟨by decide, by decide⟩
theorem reX11_paidIn : z_Re xX11_paidIn := ⟨rfl, rfl⟩
theorem rlX11_paidIn : 1 ≤ xX11_paidIn.2.2.2.2.2.1.frames ∧ 21 ≤ xX11_paidIn.2.2.2.2.2.1.locals := by unfold xX11_paidIn; exact ⟨by decide, by decide⟩
theorem meX11_paidIn : z_Me yX11_paidIn xX11_paidIn 1 := ⟨wd826, wd275, by decide, by decide, by decide +kernel⟩
theorem fitX11_paidIn_1 : z_Fit xX11_isGenerations xX11_paidIn := by unfold z_Fit; simp only [xX11_isGenerations, xX11_paidIn]; exact ⟨by decide, by decide⟩
theorem fitX11_paidIn_17 : z_Fit xX1_copyFrom xX11_paidIn := by unfold z_Fit; simp only [xX1_copyFrom, xX11_paidIn]; exact ⟨by decide, by decide⟩
theorem fitX11_paidIn_33 : z_Fit xX11_passGenerations xX11_paidIn := by unfold z_Fit; simp only [xX11_passGenerations, xX11_paidIn]; exact ⟨by decide, by decide⟩
noncomputable def kX11_paidIn_0 : zK zR := (q_iload 1 (q_callS fX11_isGenerations 1 (q_if_ne (q_aload 0 (q_getR 11 5 (q_aload 0 (q_getR 11 4 (q_callV 1 fX1_copyFrom 1 (q_aload 0 (q_aload 0 (q_getR 11 5 (q_iload 1 (q_aload 0 (q_getR 11 1 (q_getI 7 5 (q_callV 11 fX11_passGenerations 3 (q_aload 0 (q_getR 11 5 (q_getI 1 2 q_iret)))))))))))))))) (q_push (-1) q_iret))))
set_option maxRecDepth 100000 in
theorem tX11_paidIn_0 {l : Launch} {D : zD} {B sz0 : Nat} {post : Option Value → zS → Prop} : zSnd l D B xX11_paidIn sz0 post 0 kX11_paidIn_0 (z_Jr post) := (s_iload_n dX11_paidIn_0 rfl (s_callS dX11_paidIn_1 mX11_isGenerations meX11_isGenerations wd722 rfl reX11_isGenerations rmX11_paidIn (fitX11_paidIn_1) wd723 (s_if_ne (tgt := 9) dX11_paidIn_4 (by decide) (s_aload_n dX11_paidIn_9 rfl (s_getR (f := 5) dX11_paidIn_10 clX11 (by decide) rfl wd577 (s_aload_n dX11_paidIn_13 rfl (s_getR (f := 4) dX11_paidIn_14 clX11 (by decide) rfl wd576 (s_callV (r := (RX1, TX1, 5)) dX11_paidIn_17 mX1_copyFrom meX1_copyFrom wd168 wd169 rfl rfl reX1_copyFrom rmX11_paidIn (fitX11_paidIn_17) wd615 (s_aload_n dX11_paidIn_20 rfl (s_aload_n dX11_paidIn_21 rfl (s_getR (f := 5) dX11_paidIn_22 clX11 (by decide) rfl wd577 (s_iload_n dX11_paidIn_25 rfl (s_aload_n dX11_paidIn_26 rfl (s_getR (f := 1) dX11_paidIn_27 clX11 (by decide) rfl wd572 (s_getI (f := 5) dX11_paidIn_30 clX7 (by decide) rfl wd724 (s_callV (r := (RX11, TX11, 13)) dX11_paidIn_33 mX11_passGenerations meX11_passGenerations wd725 wd726 rfl rfl reX11_passGenerations rmX11_paidIn (fitX11_paidIn_33) wd727 (s_aload_n dX11_paidIn_36 rfl (s_getR (f := 5) dX11_paidIn_37 clX11 (by decide) rfl wd577 (s_getI (f := 2) dX11_paidIn_40 clX1 (by decide) rfl wd698 (s_iret dX11_paidIn_43 rfl))))))))))))))))) (s_iconst dX11_paidIn_7 (by decide) (s_iret dX11_paidIn_8 rfl)))))
noncomputable def fX11_paidIn : zF := z_fn 2 kX11_paidIn_0
theorem mX11_paidIn {l : Launch} {D : zD} {B : Nat} : z_MF l D B yX11_paidIn xX11_paidIn fX11_paidIn := z_mf (by decide) rfl (fun h => by cases h) rfl (fun as σ r h => ⟨z_fn_len h, kX11_paidIn_0, z_fn_run h, fun _ => tX11_paidIn_0⟩)
/-! ===== RowChildren.year ===== -/
theorem dX11_year_0 : decode cX11_year 0 = .ok (.aload_n 0, 1) := by decide +kernel
theorem dX11_year_1 : decode cX11_year 1 = .ok (.iload_n 1, 1) := by decide +kernel
theorem dX11_year_2 : decode cX11_year 2 = .ok (.invokevirtual 134, 3) := by decide +kernel
theorem dX11_year_5 : decode cX11_year 5 = .ok (.ifCond .eq 31, 3) := by decide +kernel
theorem dX11_year_8 : decode cX11_year 8 = .ok (.aload_n 0, 1) := by decide +kernel
theorem dX11_year_9 : decode cX11_year 9 = .ok (.iload_n 2, 1) := by decide +kernel
theorem dX11_year_10 : decode cX11_year 10 = .ok (.invokevirtual 120, 3) := by decide +kernel
theorem dX11_year_13 : decode cX11_year 13 = .ok (.ifCond .eq 23, 3) := by decide +kernel
theorem dX11_year_16 : decode cX11_year 16 = .ok (.iload_n 3, 1) := by decide +kernel
theorem dX11_year_17 : decode cX11_year 17 = .ok (.invokestatic 216, 3) := by decide +kernel
theorem dX11_year_20 : decode cX11_year 20 = .ok (.ifCond .eq 16, 3) := by decide +kernel
theorem dX11_year_23 : decode cX11_year 23 = .ok (.iload 4, 2) := by decide +kernel
theorem dX11_year_25 : decode cX11_year 25 = .ok (.iconst 1, 1) := by decide +kernel
theorem dX11_year_26 : decode cX11_year 26 = .ok (.if_icmp .lt 10, 3) := by decide +kernel
theorem dX11_year_29 : decode cX11_year 29 = .ok (.iload 4, 2) := by decide +kernel
theorem dX11_year_31 : decode cX11_year 31 = .ok (.bipush 20, 2) := by decide +kernel
theorem dX11_year_33 : decode cX11_year 33 = .ok (.if_icmp .le 5, 3) := by decide +kernel
theorem dX11_year_36 : decode cX11_year 36 = .ok (.iconst (-1), 1) := by decide +kernel
theorem dX11_year_37 : decode cX11_year 37 = .ok (.ireturn, 1) := by decide +kernel
theorem dX11_year_38 : decode cX11_year 38 = .ok (.iconst 0, 1) := by decide +kernel
theorem dX11_year_39 : decode cX11_year 39 = .ok (.istore 5, 2) := by decide +kernel
theorem dX11_year_41 : decode cX11_year 41 = .ok (.iconst 0, 1) := by decide +kernel
theorem dX11_year_42 : decode cX11_year 42 = .ok (.istore 6, 2) := by decide +kernel
theorem dX11_year_44 : decode cX11_year 44 = .ok (.iload 6, 2) := by decide +kernel
theorem dX11_year_46 : decode cX11_year 46 = .ok (.iload 4, 2) := by decide +kernel
theorem dX11_year_48 : decode cX11_year 48 = .ok (.if_icmp .ge 55, 3) := by decide +kernel
theorem dX11_year_51 : decode cX11_year 51 = .ok (.aload_n 0, 1) := by decide +kernel
theorem dX11_year_52 : decode cX11_year 52 = .ok (.getfield 37, 3) := by decide +kernel
theorem dX11_year_55 : decode cX11_year 55 = .ok (.aload_n 0, 1) := by decide +kernel
theorem dX11_year_56 : decode cX11_year 56 = .ok (.getfield 33, 3) := by decide +kernel
theorem dX11_year_59 : decode cX11_year 59 = .ok (.invokevirtual 104, 3) := by decide +kernel
theorem dX11_year_62 : decode cX11_year 62 = .ok (.aload_n 0, 1) := by decide +kernel
theorem dX11_year_63 : decode cX11_year 63 = .ok (.aload_n 0, 1) := by decide +kernel
theorem dX11_year_64 : decode cX11_year 64 = .ok (.getfield 37, 3) := by decide +kernel
theorem dX11_year_67 : decode cX11_year 67 = .ok (.iload_n 3, 1) := by decide +kernel
theorem dX11_year_68 : decode cX11_year 68 = .ok (.aload_n 0, 1) := by decide +kernel
theorem dX11_year_69 : decode cX11_year 69 = .ok (.getfield 19, 3) := by decide +kernel
theorem dX11_year_72 : decode cX11_year 72 = .ok (.getfield 219, 3) := by decide +kernel
theorem dX11_year_75 : decode cX11_year 75 = .ok (.iload 6, 2) := by decide +kernel
theorem dX11_year_77 : decode cX11_year 77 = .ok (.iadd, 1) := by decide +kernel
theorem dX11_year_78 : decode cX11_year 78 = .ok (.invokevirtual 222, 3) := by decide +kernel
theorem dX11_year_81 : decode cX11_year 81 = .ok (.aload_n 0, 1) := by decide +kernel
theorem dX11_year_82 : decode cX11_year 82 = .ok (.getfield 37, 3) := by decide +kernel
theorem dX11_year_85 : decode cX11_year 85 = .ok (.iload_n 1, 1) := by decide +kernel
theorem dX11_year_86 : decode cX11_year 86 = .ok (.iconst 0, 1) := by decide +kernel
theorem dX11_year_87 : decode cX11_year 87 = .ok (.invokevirtual 318, 3) := by decide +kernel
theorem dX11_year_90 : decode cX11_year 90 = .ok (.iload_n 2, 1) := by decide +kernel
theorem dX11_year_91 : decode cX11_year 91 = .ok (.if_icmp .ne 6, 3) := by decide +kernel
theorem dX11_year_94 : decode cX11_year 94 = .ok (.iinc 5 1, 3) := by decide +kernel
theorem dX11_year_97 : decode cX11_year 97 = .ok (.iinc 6 1, 3) := by decide +kernel
theorem dX11_year_100 : decode cX11_year 100 = .ok (.goto (-56), 3) := by decide +kernel
theorem dX11_year_103 : decode cX11_year 103 = .ok (.iload 5, 2) := by decide +kernel
theorem dX11_year_105 : decode cX11_year 105 = .ok (.ireturn, 1) := by decide +kernel
def xX11_year : zX := (RX11, cX11_year, 7, (some .int), false, { frames := 23, cells := 0, slots := 0, locals := 653 }, 0, 0, 0, 0)
theorem rmX11_year : z_Rm xX11_year := by unfold z_Rm xX11_year; exact ⟨by decide, by decide⟩
theorem reX11_year : z_Re xX11_year := ⟨rfl, rfl⟩
theorem rlX11_year : 1 ≤ xX11_year.2.2.2.2.2.1.frames ∧ 21 ≤ xX11_year.2.2.2.2.2.1.locals := by unfold xX11_year; exact ⟨by decide, by decide⟩
theorem meX11_year : z_Me yX11_year xX11_year 4 := ⟨wd827, wd275, by decide, by decide, by decide +kernel⟩
theorem fitX11_year_2 : z_Fit xX11_isRow xX11_year := by unfold z_Fit; simp only [xX11_isRow, xX11_year]; exact ⟨by decide, by decide⟩
theorem fitX11_year_10 : z_Fit xX11_isColour xX11_year := by unfold z_Fit; simp only [xX11_isColour, xX11_year]; exact ⟨by decide, by decide⟩
theorem fitX11_year_17 : z_Fit xX11_isGenerations xX11_year := by unfold z_Fit; simp only [xX11_isGenerations, xX11_year]; exact ⟨by decide, by decide⟩
theorem fitX11_year_59 : z_Fit xX1_copyFrom xX11_year := by unfold z_Fit; simp only [xX1_copyFrom, xX11_year]; exact ⟨by decide, by decide⟩
theorem fitX11_year_78 : z_Fit xX11_passGenerations xX11_year := by unfold z_Fit; simp only [xX11_passGenerations, xX11_year]; exact ⟨by decide, by decide⟩
theorem fitX11_year_87 : z_Fit xX1_colourAt xX11_year := by unfold z_Fit; simp only [xX1_colourAt, xX11_year]; exact ⟨by decide, by decide⟩
noncomputable def kX11_year_36 : zK zR := (q_push (-1) q_iret)
noncomputable def kX11_year_103 : zK zR := (q_iload 5 q_iret)
noncomputable def kX11_year_97 : zK ((zL × zS) ⊕ zR) := (q_iinc 6 1 q_ag)
noncomputable def bX11_year_44 : zK ((zL × zS) ⊕ zR) := (q_iload 6 (q_iload 4 (q_icmp_ge (q_dn kX11_year_103) (q_aload 0 (q_getR 11 5 (q_aload 0 (q_getR 11 4 (q_callV 1 fX1_copyFrom 1 (q_aload 0 (q_aload 0 (q_getR 11 5 (q_iload 3 (q_aload 0 (q_getR 11 1 (q_getI 7 5 (q_iload 6 (q_iadd (q_callV 11 fX11_passGenerations 3 (q_aload 0 (q_getR 11 5 (q_iload 1 (q_push 0 (q_callV 1 fX1_colourAt 2 (q_iload 2 (q_icmp_ne kX11_year_97 (q_iinc 5 1 kX11_year_97))))))))))))))))))))))))))
noncomputable def kX11_year_44 : zK zR := q_lp (bX11_year_44)
noncomputable def kX11_year_0 : zK zR := (q_aload 0 (q_iload 1 (q_callV 11 fX11_isRow 1 (q_if_eq kX11_year_36 (q_aload 0 (q_iload 2 (q_callV 11 fX11_isColour 1 (q_if_eq kX11_year_36 (q_iload 3 (q_callS fX11_isGenerations 1 (q_if_eq kX11_year_36 (q_iload 4 (q_push 1 (q_icmp_lt kX11_year_36 (q_iload 4 (q_push 20 (q_icmp_le (q_push 0 (q_istore 5 (q_push 0 (q_istore 6 kX11_year_44)))) kX11_year_36)))))))))))))))))
set_option maxRecDepth 100000 in
theorem tX11_year_36 {l : Launch} {D : zD} {B sz0 : Nat} {post : Option Value → zS → Prop} : zSnd l D B xX11_year sz0 post 36 kX11_year_36 (z_Jr post) := (s_iconst dX11_year_36 (by decide) (s_iret dX11_year_37 rfl))
set_option maxRecDepth 100000 in
theorem tX11_year_103 {l : Launch} {D : zD} {B sz0 : Nat} {post : Option Value → zS → Prop} : zSnd l D B xX11_year sz0 post 103 kX11_year_103 (z_Jr post) := (s_iload dX11_year_103 (s_iret dX11_year_105 rfl))
set_option maxRecDepth 100000 in
theorem tX11_year_97 {l : Launch} {D : zD} {B sz0 : Nat} {post : Option Value → zS → Prop} : zSnd l D B xX11_year sz0 post 97 kX11_year_97 (z_Jl l D B xX11_year sz0 post 44 (z_Jr post)) := (s_iinc dX11_year_97 (by decide) (s_goto (tgt := 44) dX11_year_100 (by decide) s_ag))
set_option maxRecDepth 100000 in
theorem tX11_year_44 {l : Launch} {D : zD} {B sz0 : Nat} {post : Option Value → zS → Prop} : zSnd l D B xX11_year sz0 post 44 kX11_year_44 (z_Jr post) := s_lp (body := bX11_year_44) (s_iload dX11_year_44 (s_iload dX11_year_46 (s_icmp_ge (tgt := 103) dX11_year_48 (by decide) (s_dn tX11_year_103) (s_aload_n dX11_year_51 rfl (s_getR (f := 5) dX11_year_52 clX11 (by decide) rfl wd577 (s_aload_n dX11_year_55 rfl (s_getR (f := 4) dX11_year_56 clX11 (by decide) rfl wd576 (s_callV (r := (RX1, TX1, 5)) dX11_year_59 mX1_copyFrom meX1_copyFrom wd168 wd169 rfl rfl reX1_copyFrom rmX11_year (fitX11_year_59) wd615 (s_aload_n dX11_year_62 rfl (s_aload_n dX11_year_63 rfl (s_getR (f := 5) dX11_year_64 clX11 (by decide) rfl wd577 (s_iload_n dX11_year_67 rfl (s_aload_n dX11_year_68 rfl (s_getR (f := 1) dX11_year_69 clX11 (by decide) rfl wd572 (s_getI (f := 5) dX11_year_72 clX7 (by decide) rfl wd724 (s_iload dX11_year_75 (s_iadd dX11_year_77 (s_callV (r := (RX11, TX11, 13)) dX11_year_78 mX11_passGenerations meX11_passGenerations wd725 wd726 rfl rfl reX11_passGenerations rmX11_year (fitX11_year_78) wd727 (s_aload_n dX11_year_81 rfl (s_getR (f := 5) dX11_year_82 clX11 (by decide) rfl wd577 (s_iload_n dX11_year_85 rfl (s_iconst dX11_year_86 (by decide) (s_callV (r := (RX1, TX1, 5)) dX11_year_87 mX1_colourAt meX1_colourAt wd75 wd76 rfl rfl reX1_colourAt rmX11_year (fitX11_year_87) wd638 (s_iload_n dX11_year_90 rfl (s_icmp_ne (tgt := 97) dX11_year_91 (by decide) tX11_year_97 (s_iinc dX11_year_94 (by decide) tX11_year_97))))))))))))))))))))))))))
set_option maxRecDepth 100000 in
theorem tX11_year_0 {l : Launch} {D : zD} {B sz0 : Nat} {post : Option Value → zS → Prop} : zSnd l D B xX11_year sz0 post 0 kX11_year_0 (z_Jr post) := (s_aload_n dX11_year_0 rfl (s_iload_n dX11_year_1 rfl (s_callV (r := (RX11, TX11, 13)) dX11_year_2 mX11_isRow meX11_isRow wd655 wd656 rfl rfl reX11_isRow rmX11_year (fitX11_year_2) wd657 (s_if_eq (tgt := 36) dX11_year_5 (by decide) tX11_year_36 (s_aload_n dX11_year_8 rfl (s_iload_n dX11_year_9 rfl (s_callV (r := (RX11, TX11, 13)) dX11_year_10 mX11_isColour meX11_isColour wd631 wd632 rfl rfl reX11_isColour rmX11_year (fitX11_year_10) wd633 (s_if_eq (tgt := 36) dX11_year_13 (by decide) tX11_year_36 (s_iload_n dX11_year_16 rfl (s_callS dX11_year_17 mX11_isGenerations meX11_isGenerations wd722 rfl reX11_isGenerations rmX11_year (fitX11_year_17) wd723 (s_if_eq (tgt := 36) dX11_year_20 (by decide) tX11_year_36 (s_iload dX11_year_23 (s_iconst dX11_year_25 (by decide) (s_icmp_lt (tgt := 36) dX11_year_26 (by decide) tX11_year_36 (s_iload dX11_year_29 (s_bipush dX11_year_31 (by decide) (s_icmp_le (tgt := 38) dX11_year_33 (by decide) (s_iconst dX11_year_38 (by decide) (s_istore dX11_year_39 (s_iconst dX11_year_41 (by decide) (s_istore dX11_year_42 tX11_year_44)))) tX11_year_36)))))))))))))))))
noncomputable def fX11_year : zF := z_fn 7 kX11_year_0
theorem mX11_year {l : Launch} {D : zD} {B : Nat} : z_MF l D B yX11_year xX11_year fX11_year := z_mf (by decide) rfl (fun h => by cases h) rfl (fun as σ r h => ⟨z_fn_len h, kX11_year_0, z_fn_run h, fun _ => tX11_year_0⟩)
/-! ===== RowChildren.tell ===== -/
theorem dX11_tell_0 : decode cX11_tell 0 = .ok (.iload_n 1, 1) := by decide +kernel
theorem dX11_tell_1 : decode cX11_tell 1 = .ok (.ifCond .lt 23, 3) := by decide +kernel
theorem dX11_tell_4 : decode cX11_tell 4 = .ok (.iload_n 1, 1) := by decide +kernel
theorem dX11_tell_5 : decode cX11_tell 5 = .ok (.bipush 6, 2) := by decide +kernel
theorem dX11_tell_7 : decode cX11_tell 7 = .ok (.if_icmp .ge 17, 3) := by decide +kernel
theorem dX11_tell_10 : decode cX11_tell 10 = .ok (.iload_n 2, 1) := by decide +kernel
theorem dX11_tell_11 : decode cX11_tell 11 = .ok (.ifCond .lt 13, 3) := by decide +kernel
theorem dX11_tell_14 : decode cX11_tell 14 = .ok (.iload_n 2, 1) := by decide +kernel
theorem dX11_tell_15 : decode cX11_tell 15 = .ok (.bipush 6, 2) := by decide +kernel
theorem dX11_tell_17 : decode cX11_tell 17 = .ok (.if_icmp .ge 7, 3) := by decide +kernel
theorem dX11_tell_20 : decode cX11_tell 20 = .ok (.iconst 1, 1) := by decide +kernel
theorem dX11_tell_21 : decode cX11_tell 21 = .ok (.goto 4, 3) := by decide +kernel
theorem dX11_tell_24 : decode cX11_tell 24 = .ok (.iconst 0, 1) := by decide +kernel
theorem dX11_tell_25 : decode cX11_tell 25 = .ok (.istore 5, 2) := by decide +kernel
theorem dX11_tell_27 : decode cX11_tell 27 = .ok (.iload 5, 2) := by decide +kernel
theorem dX11_tell_29 : decode cX11_tell 29 = .ok (.ifCond .eq 23, 3) := by decide +kernel
theorem dX11_tell_32 : decode cX11_tell 32 = .ok (.aload_n 0, 1) := by decide +kernel
theorem dX11_tell_33 : decode cX11_tell 33 = .ok (.iload_n 3, 1) := by decide +kernel
theorem dX11_tell_34 : decode cX11_tell 34 = .ok (.invokevirtual 120, 3) := by decide +kernel
theorem dX11_tell_37 : decode cX11_tell 37 = .ok (.ifCond .eq 15, 3) := by decide +kernel
theorem dX11_tell_40 : decode cX11_tell 40 = .ok (.aload_n 0, 1) := by decide +kernel
theorem dX11_tell_41 : decode cX11_tell 41 = .ok (.getfield 82, 3) := by decide +kernel
theorem dX11_tell_44 : decode cX11_tell 44 = .ok (.getfield 114, 3) := by decide +kernel
theorem dX11_tell_47 : decode cX11_tell 47 = .ok (.bipush 20, 2) := by decide +kernel
theorem dX11_tell_49 : decode cX11_tell 49 = .ok (.if_icmp .lt 5, 3) := by decide +kernel
theorem dX11_tell_52 : decode cX11_tell 52 = .ok (.iconst (-1), 1) := by decide +kernel
theorem dX11_tell_53 : decode cX11_tell 53 = .ok (.ireturn, 1) := by decide +kernel
theorem dX11_tell_54 : decode cX11_tell 54 = .ok (.aload_n 0, 1) := by decide +kernel
theorem dX11_tell_55 : decode cX11_tell 55 = .ok (.getfield 82, 3) := by decide +kernel
theorem dX11_tell_58 : decode cX11_tell 58 = .ok (.iload_n 1, 1) := by decide +kernel
theorem dX11_tell_59 : decode cX11_tell 59 = .ok (.iload_n 2, 1) := by decide +kernel
theorem dX11_tell_60 : decode cX11_tell 60 = .ok (.iload_n 3, 1) := by decide +kernel
theorem dX11_tell_61 : decode cX11_tell 61 = .ok (.iload 4, 2) := by decide +kernel
theorem dX11_tell_63 : decode cX11_tell 63 = .ok (.invokevirtual 321, 3) := by decide +kernel
theorem dX11_tell_66 : decode cX11_tell 66 = .ok (.aload_n 0, 1) := by decide +kernel
theorem dX11_tell_67 : decode cX11_tell 67 = .ok (.getfield 82, 3) := by decide +kernel
theorem dX11_tell_70 : decode cX11_tell 70 = .ok (.getfield 114, 3) := by decide +kernel
theorem dX11_tell_73 : decode cX11_tell 73 = .ok (.iconst 1, 1) := by decide +kernel
theorem dX11_tell_74 : decode cX11_tell 74 = .ok (.isub, 1) := by decide +kernel
theorem dX11_tell_75 : decode cX11_tell 75 = .ok (.ireturn, 1) := by decide +kernel
def xX11_tell : zX := (RX11, cX11_tell, 6, (some .int), false, { frames := 2, cells := 0, slots := 0, locals := 114 }, 0, 0, 0, 0)
theorem rmX11_tell : z_Rm xX11_tell := by unfold z_Rm xX11_tell; exact ⟨by decide, by decide⟩
theorem reX11_tell : z_Re xX11_tell := ⟨rfl, rfl⟩
theorem rlX11_tell : 1 ≤ xX11_tell.2.2.2.2.2.1.frames ∧ 21 ≤ xX11_tell.2.2.2.2.2.1.locals := by unfold xX11_tell; exact ⟨by decide, by decide⟩
theorem meX11_tell : z_Me yX11_tell xX11_tell 4 := ⟨wd831, wd275, by decide, by decide, by decide +kernel⟩
theorem fitX11_tell_34 : z_Fit xX11_isColour xX11_tell := by unfold z_Fit; simp only [xX11_isColour, xX11_tell]; exact ⟨by decide, by decide⟩
theorem fitX11_tell_63 : z_Fit xX9_append xX11_tell := by unfold z_Fit; simp only [xX9_append, xX11_tell]; exact ⟨by decide, by decide⟩
noncomputable def kX11_tell_52 : zK zR := (q_push (-1) q_iret)
noncomputable def kX11_tell_25 : zK zR := (q_istore 5 (q_iload 5 (q_if_eq kX11_tell_52 (q_aload 0 (q_iload 3 (q_callV 11 fX11_isColour 1 (q_if_eq kX11_tell_52 (q_aload 0 (q_getR 11 12 (q_getI 9 0 (q_push 20 (q_icmp_lt (q_aload 0 (q_getR 11 12 (q_iload 1 (q_iload 2 (q_iload 3 (q_iload 4 (q_callV 9 fX9_append 4 (q_aload 0 (q_getR 11 12 (q_getI 9 0 (q_push 1 (q_isub q_iret)))))))))))) kX11_tell_52))))))))))))
noncomputable def kX11_tell_24 : zK zR := (q_push 0 kX11_tell_25)
noncomputable def kX11_tell_0 : zK zR := (q_iload 1 (q_if_lt kX11_tell_24 (q_iload 1 (q_push 6 (q_icmp_ge kX11_tell_24 (q_iload 2 (q_if_lt kX11_tell_24 (q_iload 2 (q_push 6 (q_icmp_ge kX11_tell_24 (q_push 1 kX11_tell_25)))))))))))
set_option maxRecDepth 100000 in
theorem tX11_tell_52 {l : Launch} {D : zD} {B sz0 : Nat} {post : Option Value → zS → Prop} : zSnd l D B xX11_tell sz0 post 52 kX11_tell_52 (z_Jr post) := (s_iconst dX11_tell_52 (by decide) (s_iret dX11_tell_53 rfl))
set_option maxRecDepth 100000 in
theorem tX11_tell_25 {l : Launch} {D : zD} {B sz0 : Nat} {post : Option Value → zS → Prop} : zSnd l D B xX11_tell sz0 post 25 kX11_tell_25 (z_Jr post) := (s_istore dX11_tell_25 (s_iload dX11_tell_27 (s_if_eq (tgt := 52) dX11_tell_29 (by decide) tX11_tell_52 (s_aload_n dX11_tell_32 rfl (s_iload_n dX11_tell_33 rfl (s_callV (r := (RX11, TX11, 13)) dX11_tell_34 mX11_isColour meX11_isColour wd631 wd632 rfl rfl reX11_isColour rmX11_tell (fitX11_tell_34) wd633 (s_if_eq (tgt := 52) dX11_tell_37 (by decide) tX11_tell_52 (s_aload_n dX11_tell_40 rfl (s_getR (f := 12) dX11_tell_41 clX11 (by decide) rfl wd601 (s_getI (f := 0) dX11_tell_44 clX9 (by decide) rfl wd622 (s_bipush dX11_tell_47 (by decide) (s_icmp_lt (tgt := 54) dX11_tell_49 (by decide) (s_aload_n dX11_tell_54 rfl (s_getR (f := 12) dX11_tell_55 clX11 (by decide) rfl wd601 (s_iload_n dX11_tell_58 rfl (s_iload_n dX11_tell_59 rfl (s_iload_n dX11_tell_60 rfl (s_iload dX11_tell_61 (s_callV (r := (RX9, TX9, 9)) dX11_tell_63 mX9_append meX9_append wd828 wd829 rfl rfl reX9_append rmX11_tell (fitX11_tell_63) wd830 (s_aload_n dX11_tell_66 rfl (s_getR (f := 12) dX11_tell_67 clX11 (by decide) rfl wd601 (s_getI (f := 0) dX11_tell_70 clX9 (by decide) rfl wd622 (s_iconst dX11_tell_73 (by decide) (s_isub dX11_tell_74 (s_iret dX11_tell_75 rfl))))))))))))) tX11_tell_52))))))))))))
set_option maxRecDepth 100000 in
theorem tX11_tell_24 {l : Launch} {D : zD} {B sz0 : Nat} {post : Option Value → zS → Prop} : zSnd l D B xX11_tell sz0 post 24 kX11_tell_24 (z_Jr post) := (s_iconst dX11_tell_24 (by decide) tX11_tell_25)
set_option maxRecDepth 100000 in
theorem tX11_tell_0 {l : Launch} {D : zD} {B sz0 : Nat} {post : Option Value → zS → Prop} : zSnd l D B xX11_tell sz0 post 0 kX11_tell_0 (z_Jr post) := (s_iload_n dX11_tell_0 rfl (s_if_lt (tgt := 24) dX11_tell_1 (by decide) tX11_tell_24 (s_iload_n dX11_tell_4 rfl (s_bipush dX11_tell_5 (by decide) (s_icmp_ge (tgt := 24) dX11_tell_7 (by decide) tX11_tell_24 (s_iload_n dX11_tell_10 rfl (s_if_lt (tgt := 24) dX11_tell_11 (by decide) tX11_tell_24 (s_iload_n dX11_tell_14 rfl (s_bipush dX11_tell_15 (by decide) (s_icmp_ge (tgt := 24) dX11_tell_17 (by decide) tX11_tell_24 (s_iconst dX11_tell_20 (by decide) (s_goto (tgt := 25) dX11_tell_21 (by decide) tX11_tell_25))))))))))))
noncomputable def fX11_tell : zF := z_fn 6 kX11_tell_0
theorem mX11_tell {l : Launch} {D : zD} {B : Nat} : z_MF l D B yX11_tell xX11_tell fX11_tell := z_mf (by decide) rfl (fun h => by cases h) rfl (fun as σ r h => ⟨z_fn_len h, kX11_tell_0, z_fn_run h, fun _ => tX11_tell_0⟩)
/-! ===== RowChildren.forget ===== -/
theorem dX11_forget_0 : decode cX11_forget 0 = .ok (.aload_n 0, 1) := by decide +kernel
theorem dX11_forget_1 : decode cX11_forget 1 = .ok (.getfield 82, 3) := by decide +kernel
theorem dX11_forget_4 : decode cX11_forget 4 = .ok (.getfield 114, 3) := by decide +kernel
theorem dX11_forget_7 : decode cX11_forget 7 = .ok (.istore_n 1, 1) := by decide +kernel
theorem dX11_forget_8 : decode cX11_forget 8 = .ok (.aload_n 0, 1) := by decide +kernel
theorem dX11_forget_9 : decode cX11_forget 9 = .ok (.getfield 82, 3) := by decide +kernel
theorem dX11_forget_12 : decode cX11_forget 12 = .ok (.iconst 0, 1) := by decide +kernel
theorem dX11_forget_13 : decode cX11_forget 13 = .ok (.putfield 114, 3) := by decide +kernel
theorem dX11_forget_16 : decode cX11_forget 16 = .ok (.iload_n 1, 1) := by decide +kernel
theorem dX11_forget_17 : decode cX11_forget 17 = .ok (.ireturn, 1) := by decide +kernel
def xX11_forget : zX := (RX11, cX11_forget, 2, (some .int), false, { frames := 1, cells := 0, slots := 0, locals := 90 }, 0, 0, 0, 0)
theorem rmX11_forget : z_Rm xX11_forget := by unfold z_Rm xX11_forget; exact ⟨by decide, by decide⟩
theorem reX11_forget : z_Re xX11_forget := ⟨rfl, rfl⟩
theorem rlX11_forget : 1 ≤ xX11_forget.2.2.2.2.2.1.frames ∧ 21 ≤ xX11_forget.2.2.2.2.2.1.locals := by unfold xX11_forget; exact ⟨by decide, by decide⟩
theorem meX11_forget : z_Me yX11_forget xX11_forget 0 := ⟨wd832, wd275, by decide, by decide, by decide +kernel⟩
noncomputable def kX11_forget_0 : zK zR := (q_aload 0 (q_getR 11 12 (q_getI 9 0 (q_istore 1 (q_aload 0 (q_getR 11 12 (q_push 0 (q_putI 9 0 (q_iload 1 q_iret)))))))))
set_option maxRecDepth 100000 in
theorem tX11_forget_0 {l : Launch} {D : zD} {B sz0 : Nat} {post : Option Value → zS → Prop} : zSnd l D B xX11_forget sz0 post 0 kX11_forget_0 (z_Jr post) := (s_aload_n dX11_forget_0 rfl (s_getR (f := 12) dX11_forget_1 clX11 (by decide) rfl wd601 (s_getI (f := 0) dX11_forget_4 clX9 (by decide) rfl wd622 (s_istore_n dX11_forget_7 rfl (s_aload_n dX11_forget_8 rfl (s_getR (f := 12) dX11_forget_9 clX11 (by decide) rfl wd601 (s_iconst dX11_forget_12 (by decide) (s_putI (f := 0) dX11_forget_13 clX9 (by decide) rfl rfl rfl wd622 (s_iload_n dX11_forget_16 rfl (s_iret dX11_forget_17 rfl))))))))))
noncomputable def fX11_forget : zF := z_fn 2 kX11_forget_0
theorem mX11_forget {l : Launch} {D : zD} {B : Nat} : z_MF l D B yX11_forget xX11_forget fX11_forget := z_mf (by decide) rfl (fun h => by cases h) rfl (fun as σ r h => ⟨z_fn_len h, kX11_forget_0, z_fn_run h, fun _ => tX11_forget_0⟩)
/-! ===== RowChildren.isKnown ===== -/
theorem dX11_isKnown_0 : decode cX11_isKnown 0 = .ok (.iload_n 1, 1) := by decide +kernel
theorem dX11_isKnown_1 : decode cX11_isKnown 1 = .ok (.ifCond .lt 18, 3) := by decide +kernel
theorem dX11_isKnown_4 : decode cX11_isKnown 4 = .ok (.iload_n 1, 1) := by decide +kernel
theorem dX11_isKnown_5 : decode cX11_isKnown 5 = .ok (.aload_n 0, 1) := by decide +kernel
theorem dX11_isKnown_6 : decode cX11_isKnown 6 = .ok (.getfield 82, 3) := by decide +kernel
theorem dX11_isKnown_9 : decode cX11_isKnown 9 = .ok (.getfield 114, 3) := by decide +kernel
theorem dX11_isKnown_12 : decode cX11_isKnown 12 = .ok (.if_icmp .gt 7, 3) := by decide +kernel
theorem dX11_isKnown_15 : decode cX11_isKnown 15 = .ok (.iconst 1, 1) := by decide +kernel
theorem dX11_isKnown_16 : decode cX11_isKnown 16 = .ok (.goto 4, 3) := by decide +kernel
theorem dX11_isKnown_19 : decode cX11_isKnown 19 = .ok (.iconst 0, 1) := by decide +kernel
theorem dX11_isKnown_20 : decode cX11_isKnown 20 = .ok (.ireturn, 1) := by decide +kernel
def xX11_isKnown : zX := (RX11, cX11_isKnown, 2, (some .boolean), false, { frames := 1, cells := 0, slots := 0, locals := 90 }, 0, 0, 0, 0)
theorem rmX11_isKnown : z_Rm xX11_isKnown := by unfold z_Rm xX11_isKnown; exact ⟨by decide, by decide⟩
theorem reX11_isKnown : z_Re xX11_isKnown := ⟨rfl, rfl⟩
theorem rlX11_isKnown : 1 ≤ xX11_isKnown.2.2.2.2.2.1.frames ∧ 21 ≤ xX11_isKnown.2.2.2.2.2.1.locals := by unfold xX11_isKnown; exact ⟨by decide, by decide⟩
theorem meX11_isKnown : z_Me yX11_isKnown xX11_isKnown 1 := ⟨wd833, wd275, by decide, by decide, by decide +kernel⟩
noncomputable def kX11_isKnown_20 : zK zR := q_zret
noncomputable def kX11_isKnown_19 : zK zR := (q_push 0 kX11_isKnown_20)
noncomputable def kX11_isKnown_0 : zK zR := (q_iload 1 (q_if_lt kX11_isKnown_19 (q_iload 1 (q_aload 0 (q_getR 11 12 (q_getI 9 0 (q_icmp_gt kX11_isKnown_19 (q_push 1 kX11_isKnown_20))))))))
set_option maxRecDepth 100000 in
theorem tX11_isKnown_20 {l : Launch} {D : zD} {B sz0 : Nat} {post : Option Value → zS → Prop} : zSnd l D B xX11_isKnown sz0 post 20 kX11_isKnown_20 (z_Jr post) := (s_zret dX11_isKnown_20 rfl)
set_option maxRecDepth 100000 in
theorem tX11_isKnown_19 {l : Launch} {D : zD} {B sz0 : Nat} {post : Option Value → zS → Prop} : zSnd l D B xX11_isKnown sz0 post 19 kX11_isKnown_19 (z_Jr post) := (s_iconst dX11_isKnown_19 (by decide) tX11_isKnown_20)
set_option maxRecDepth 100000 in
theorem tX11_isKnown_0 {l : Launch} {D : zD} {B sz0 : Nat} {post : Option Value → zS → Prop} : zSnd l D B xX11_isKnown sz0 post 0 kX11_isKnown_0 (z_Jr post) := (s_iload_n dX11_isKnown_0 rfl (s_if_lt (tgt := 19) dX11_isKnown_1 (by decide) tX11_isKnown_19 (s_iload_n dX11_isKnown_4 rfl (s_aload_n dX11_isKnown_5 rfl (s_getR (f := 12) dX11_isKnown_6 clX11 (by decide) rfl wd601 (s_getI (f := 0) dX11_isKnown_9 clX9 (by decide) rfl wd622 (s_icmp_gt (tgt := 19) dX11_isKnown_12 (by decide) tX11_isKnown_19 (s_iconst dX11_isKnown_15 (by decide) (s_goto (tgt := 20) dX11_isKnown_16 (by decide) tX11_isKnown_20)))))))))
noncomputable def fX11_isKnown : zF := z_fn 2 kX11_isKnown_0
theorem mX11_isKnown {l : Launch} {D : zD} {B : Nat} : z_MF l D B yX11_isKnown xX11_isKnown fX11_isKnown := z_mf (by decide) rfl (fun h => by cases h) rfl (fun as σ r h => ⟨z_fn_len h, kX11_isKnown_0, z_fn_run h, fun _ => tX11_isKnown_0⟩)
/-! ===== RowChildren.isToldLength ===== -/
theorem dX11_isToldLength_0 : decode cX11_isToldLength 0 = .ok (.iload_n 0, 1) := by decide +kernel
theorem dX11_isToldLength_1 : decode cX11_isToldLength 1 = .ok (.iconst 1, 1) := by decide +kernel
theorem dX11_isToldLength_2 : decode cX11_isToldLength 2 = .ok (.if_icmp .lt 13, 3) := by decide +kernel
theorem dX11_isToldLength_5 : decode cX11_isToldLength 5 = .ok (.iload_n 0, 1) := by decide +kernel
theorem dX11_isToldLength_6 : decode cX11_isToldLength 6 = .ok (.bipush 6, 2) := by decide +kernel
theorem dX11_isToldLength_8 : decode cX11_isToldLength 8 = .ok (.if_icmp .gt 7, 3) := by decide +kernel
theorem dX11_isToldLength_11 : decode cX11_isToldLength 11 = .ok (.iconst 1, 1) := by decide +kernel
theorem dX11_isToldLength_12 : decode cX11_isToldLength 12 = .ok (.goto 4, 3) := by decide +kernel
theorem dX11_isToldLength_15 : decode cX11_isToldLength 15 = .ok (.iconst 0, 1) := by decide +kernel
theorem dX11_isToldLength_16 : decode cX11_isToldLength 16 = .ok (.ireturn, 1) := by decide +kernel
def xX11_isToldLength : zX := (RX11, cX11_isToldLength, 1, (some .boolean), false, { frames := 1, cells := 0, slots := 0, locals := 90 }, 0, 0, 0, 0)
theorem rmX11_isToldLength : z_Rm xX11_isToldLength := by unfold z_Rm xX11_isToldLength; exact ⟨by decide, by decide⟩
theorem reX11_isToldLength : z_Re xX11_isToldLength := ⟨rfl, rfl⟩
theorem rlX11_isToldLength : 1 ≤ xX11_isToldLength.2.2.2.2.2.1.frames ∧ 21 ≤ xX11_isToldLength.2.2.2.2.2.1.locals := by unfold xX11_isToldLength; exact ⟨by decide, by decide⟩
theorem meX11_isToldLength : z_Me yX11_isToldLength xX11_isToldLength 1 := ⟨wd834, wd275, by decide, by decide, by decide +kernel⟩
noncomputable def kX11_isToldLength_16 : zK zR := q_zret
noncomputable def kX11_isToldLength_15 : zK zR := (q_push 0 kX11_isToldLength_16)
noncomputable def kX11_isToldLength_0 : zK zR := (q_iload 0 (q_push 1 (q_icmp_lt kX11_isToldLength_15 (q_iload 0 (q_push 6 (q_icmp_gt kX11_isToldLength_15 (q_push 1 kX11_isToldLength_16)))))))
set_option maxRecDepth 100000 in
theorem tX11_isToldLength_16 {l : Launch} {D : zD} {B sz0 : Nat} {post : Option Value → zS → Prop} : zSnd l D B xX11_isToldLength sz0 post 16 kX11_isToldLength_16 (z_Jr post) := (s_zret dX11_isToldLength_16 rfl)
set_option maxRecDepth 100000 in
theorem tX11_isToldLength_15 {l : Launch} {D : zD} {B sz0 : Nat} {post : Option Value → zS → Prop} : zSnd l D B xX11_isToldLength sz0 post 15 kX11_isToldLength_15 (z_Jr post) := (s_iconst dX11_isToldLength_15 (by decide) tX11_isToldLength_16)
set_option maxRecDepth 100000 in
theorem tX11_isToldLength_0 {l : Launch} {D : zD} {B sz0 : Nat} {post : Option Value → zS → Prop} : zSnd l D B xX11_isToldLength sz0 post 0 kX11_isToldLength_0 (z_Jr post) := (s_iload_n dX11_isToldLength_0 rfl (s_iconst dX11_isToldLength_1 (by decide) (s_icmp_lt (tgt := 15) dX11_isToldLength_2 (by decide) tX11_isToldLength_15 (s_iload_n dX11_isToldLength_5 rfl (s_bipush dX11_isToldLength_6 (by decide) (s_icmp_gt (tgt := 15) dX11_isToldLength_8 (by decide) tX11_isToldLength_15 (s_iconst dX11_isToldLength_11 (by decide) (s_goto (tgt := 16) dX11_isToldLength_12 (by decide) tX11_isToldLength_16))))))))
noncomputable def fX11_isToldLength : zF := z_fn 1 kX11_isToldLength_0
theorem mX11_isToldLength {l : Launch} {D : zD} {B : Nat} : z_MF l D B yX11_isToldLength xX11_isToldLength fX11_isToldLength := z_mf (by decide) rfl (fun h => by cases h) rfl (fun as σ r h => ⟨z_fn_len h, kX11_isToldLength_0, z_fn_run h, fun _ => tX11_isToldLength_0⟩)
/-! ===== RowChildren.rows ===== -/
theorem dX11_rows_0 : decode cX11_rows 0 = .ok (.aload_n 0, 1) := by decide +kernel
theorem dX11_rows_1 : decode cX11_rows 1 = .ok (.iload_n 1, 1) := by decide +kernel
theorem dX11_rows_2 : decode cX11_rows 2 = .ok (.invokevirtual 324, 3) := by decide +kernel
theorem dX11_rows_5 : decode cX11_rows 5 = .ok (.ifCond .eq 17, 3) := by decide +kernel
theorem dX11_rows_8 : decode cX11_rows 8 = .ok (.iload_n 2, 1) := by decide +kernel
theorem dX11_rows_9 : decode cX11_rows 9 = .ok (.invokestatic 327, 3) := by decide +kernel
theorem dX11_rows_12 : decode cX11_rows 12 = .ok (.ifCond .eq 10, 3) := by decide +kernel
theorem dX11_rows_15 : decode cX11_rows 15 = .ok (.iload_n 3, 1) := by decide +kernel
theorem dX11_rows_16 : decode cX11_rows 16 = .ok (.invokestatic 184, 3) := by decide +kernel
theorem dX11_rows_19 : decode cX11_rows 19 = .ok (.ifCond .ne 5, 3) := by decide +kernel
theorem dX11_rows_22 : decode cX11_rows 22 = .ok (.iconst (-1), 1) := by decide +kernel
theorem dX11_rows_23 : decode cX11_rows 23 = .ok (.ireturn, 1) := by decide +kernel
theorem dX11_rows_24 : decode cX11_rows 24 = .ok (.aload_n 0, 1) := by decide +kernel
theorem dX11_rows_25 : decode cX11_rows 25 = .ok (.getfield 82, 3) := by decide +kernel
theorem dX11_rows_28 : decode cX11_rows 28 = .ok (.aload_n 0, 1) := by decide +kernel
theorem dX11_rows_29 : decode cX11_rows 29 = .ok (.getfield 19, 3) := by decide +kernel
theorem dX11_rows_32 : decode cX11_rows 32 = .ok (.getfield 124, 3) := by decide +kernel
theorem dX11_rows_35 : decode cX11_rows 35 = .ok (.iload_n 1, 1) := by decide +kernel
theorem dX11_rows_36 : decode cX11_rows 36 = .ok (.iload_n 2, 1) := by decide +kernel
theorem dX11_rows_37 : decode cX11_rows 37 = .ok (.invokevirtual 330, 3) := by decide +kernel
theorem dX11_rows_40 : decode cX11_rows 40 = .ok (.iload_n 3, 1) := by decide +kernel
theorem dX11_rows_41 : decode cX11_rows 41 = .ok (.ifCond .ne 13, 3) := by decide +kernel
theorem dX11_rows_44 : decode cX11_rows 44 = .ok (.aload_n 0, 1) := by decide +kernel
theorem dX11_rows_45 : decode cX11_rows 45 = .ok (.getfield 82, 3) := by decide +kernel
theorem dX11_rows_48 : decode cX11_rows 48 = .ok (.getfield 333, 3) := by decide +kernel
theorem dX11_rows_51 : decode cX11_rows 51 = .ok (.goto 10, 3) := by decide +kernel
theorem dX11_rows_54 : decode cX11_rows 54 = .ok (.aload_n 0, 1) := by decide +kernel
theorem dX11_rows_55 : decode cX11_rows 55 = .ok (.getfield 82, 3) := by decide +kernel
theorem dX11_rows_58 : decode cX11_rows 58 = .ok (.getfield 336, 3) := by decide +kernel
theorem dX11_rows_61 : decode cX11_rows 61 = .ok (.ireturn, 1) := by decide +kernel
def xX11_rows : zX := (RX11, cX11_rows, 4, (some .int), false, { frames := 15, cells := 0, slots := 0, locals := 445 }, 0, 0, 0, 0)
theorem rmX11_rows : z_Rm xX11_rows := by unfold z_Rm xX11_rows; exact ⟨by decide, by decide⟩
theorem reX11_rows : z_Re xX11_rows := ⟨rfl, rfl⟩
theorem rlX11_rows : 1 ≤ xX11_rows.2.2.2.2.2.1.frames ∧ 21 ≤ xX11_rows.2.2.2.2.2.1.locals := by unfold xX11_rows; exact ⟨by decide, by decide⟩
theorem meX11_rows : z_Me yX11_rows xX11_rows 3 := ⟨wd845, wd275, by decide, by decide, by decide +kernel⟩
theorem fitX11_rows_2 : z_Fit xX11_isKnown xX11_rows := by unfold z_Fit; simp only [xX11_isKnown, xX11_rows]; exact ⟨by decide, by decide⟩
theorem fitX11_rows_9 : z_Fit xX11_isToldLength xX11_rows := by unfold z_Fit; simp only [xX11_isToldLength, xX11_rows]; exact ⟨by decide, by decide⟩
theorem fitX11_rows_16 : z_Fit xX11_isOneOfTwo xX11_rows := by unfold z_Fit; simp only [xX11_isOneOfTwo, xX11_rows]; exact ⟨by decide, by decide⟩
theorem fitX11_rows_37 : z_Fit xX9_findFits xX11_rows := by unfold z_Fit; simp only [xX9_findFits, xX11_rows]; exact ⟨by decide, by decide⟩
noncomputable def kX11_rows_22 : zK zR := (q_push (-1) q_iret)
noncomputable def kX11_rows_61 : zK zR := q_iret
noncomputable def kX11_rows_0 : zK zR := (q_aload 0 (q_iload 1 (q_callV 11 fX11_isKnown 1 (q_if_eq kX11_rows_22 (q_iload 2 (q_callS fX11_isToldLength 1 (q_if_eq kX11_rows_22 (q_iload 3 (q_callS fX11_isOneOfTwo 1 (q_if_ne (q_aload 0 (q_getR 11 12 (q_aload 0 (q_getR 11 1 (q_getR 7 1 (q_iload 1 (q_iload 2 (q_callV 9 fX9_findFits 3 (q_iload 3 (q_if_ne (q_aload 0 (q_getR 11 12 (q_getI 9 2 kX11_rows_61))) (q_aload 0 (q_getR 11 12 (q_getI 9 1 kX11_rows_61))))))))))))) kX11_rows_22))))))))))
set_option maxRecDepth 100000 in
theorem tX11_rows_22 {l : Launch} {D : zD} {B sz0 : Nat} {post : Option Value → zS → Prop} : zSnd l D B xX11_rows sz0 post 22 kX11_rows_22 (z_Jr post) := (s_iconst dX11_rows_22 (by decide) (s_iret dX11_rows_23 rfl))
set_option maxRecDepth 100000 in
theorem tX11_rows_61 {l : Launch} {D : zD} {B sz0 : Nat} {post : Option Value → zS → Prop} : zSnd l D B xX11_rows sz0 post 61 kX11_rows_61 (z_Jr post) := (s_iret dX11_rows_61 rfl)
set_option maxRecDepth 100000 in
theorem tX11_rows_0 {l : Launch} {D : zD} {B sz0 : Nat} {post : Option Value → zS → Prop} : zSnd l D B xX11_rows sz0 post 0 kX11_rows_0 (z_Jr post) := (s_aload_n dX11_rows_0 rfl (s_iload_n dX11_rows_1 rfl (s_callV (r := (RX11, TX11, 13)) dX11_rows_2 mX11_isKnown meX11_isKnown wd835 wd836 rfl rfl reX11_isKnown rmX11_rows (fitX11_rows_2) wd837 (s_if_eq (tgt := 22) dX11_rows_5 (by decide) tX11_rows_22 (s_iload_n dX11_rows_8 rfl (s_callS dX11_rows_9 mX11_isToldLength meX11_isToldLength wd838 rfl reX11_isToldLength rmX11_rows (fitX11_rows_9) wd839 (s_if_eq (tgt := 22) dX11_rows_12 (by decide) tX11_rows_22 (s_iload_n dX11_rows_15 rfl (s_callS dX11_rows_16 mX11_isOneOfTwo meX11_isOneOfTwo wd681 rfl reX11_isOneOfTwo rmX11_rows (fitX11_rows_16) wd682 (s_if_ne (tgt := 24) dX11_rows_19 (by decide) (s_aload_n dX11_rows_24 rfl (s_getR (f := 12) dX11_rows_25 clX11 (by decide) rfl wd601 (s_aload_n dX11_rows_28 rfl (s_getR (f := 1) dX11_rows_29 clX11 (by decide) rfl wd572 (s_getR (f := 1) dX11_rows_32 clX7 (by decide) rfl wd628 (s_iload_n dX11_rows_35 rfl (s_iload_n dX11_rows_36 rfl (s_callV (r := (RX9, TX9, 9)) dX11_rows_37 mX9_findFits meX9_findFits wd840 wd841 rfl rfl reX9_findFits rmX11_rows (fitX11_rows_37) wd842 (s_iload_n dX11_rows_40 rfl (s_if_ne (tgt := 54) dX11_rows_41 (by decide) (s_aload_n dX11_rows_54 rfl (s_getR (f := 12) dX11_rows_55 clX11 (by decide) rfl wd601 (s_getI (f := 2) dX11_rows_58 clX9 (by decide) rfl wd843 tX11_rows_61))) (s_aload_n dX11_rows_44 rfl (s_getR (f := 12) dX11_rows_45 clX11 (by decide) rfl wd601 (s_getI (f := 1) dX11_rows_48 clX9 (by decide) rfl wd844 (s_goto (tgt := 61) dX11_rows_51 (by decide) tX11_rows_61)))))))))))))) tX11_rows_22))))))))))
noncomputable def fX11_rows : zF := z_fn 4 kX11_rows_0
theorem mX11_rows {l : Launch} {D : zD} {B : Nat} : z_MF l D B yX11_rows xX11_rows fX11_rows := z_mf (by decide) rfl (fun h => by cases h) rfl (fun as σ r h => ⟨z_fn_len h, kX11_rows_0, z_fn_run h, fun _ => tX11_rows_0⟩)
/-! ===== RowChildren.look ===== -/
theorem dX11_look_0 : decode cX11_look 0 = .ok (.aload_n 0, 1) := by decide +kernel
theorem dX11_look_1 : decode cX11_look 1 = .ok (.iload_n 1, 1) := by decide +kernel
theorem dX11_look_2 : decode cX11_look 2 = .ok (.invokevirtual 324, 3) := by decide +kernel
theorem dX11_look_5 : decode cX11_look 5 = .ok (.ifCond .eq 10, 3) := by decide +kernel
theorem dX11_look_8 : decode cX11_look 8 = .ok (.iload_n 2, 1) := by decide +kernel
theorem dX11_look_9 : decode cX11_look 9 = .ok (.invokestatic 327, 3) := by decide +kernel
theorem dX11_look_12 : decode cX11_look 12 = .ok (.ifCond .ne 5, 3) := by decide +kernel
theorem dX11_look_15 : decode cX11_look 15 = .ok (.iconst (-1), 1) := by decide +kernel
theorem dX11_look_16 : decode cX11_look 16 = .ok (.ireturn, 1) := by decide +kernel
theorem dX11_look_17 : decode cX11_look 17 = .ok (.aload_n 0, 1) := by decide +kernel
theorem dX11_look_18 : decode cX11_look 18 = .ok (.getfield 82, 3) := by decide +kernel
theorem dX11_look_21 : decode cX11_look 21 = .ok (.aload_n 0, 1) := by decide +kernel
theorem dX11_look_22 : decode cX11_look 22 = .ok (.getfield 19, 3) := by decide +kernel
theorem dX11_look_25 : decode cX11_look 25 = .ok (.getfield 124, 3) := by decide +kernel
theorem dX11_look_28 : decode cX11_look 28 = .ok (.iload_n 1, 1) := by decide +kernel
theorem dX11_look_29 : decode cX11_look 29 = .ok (.iload_n 2, 1) := by decide +kernel
theorem dX11_look_30 : decode cX11_look 30 = .ok (.invokevirtual 330, 3) := by decide +kernel
theorem dX11_look_33 : decode cX11_look 33 = .ok (.aload_n 0, 1) := by decide +kernel
theorem dX11_look_34 : decode cX11_look 34 = .ok (.getfield 82, 3) := by decide +kernel
theorem dX11_look_37 : decode cX11_look 37 = .ok (.getfield 333, 3) := by decide +kernel
theorem dX11_look_40 : decode cX11_look 40 = .ok (.ifCond .ne 8, 3) := by decide +kernel
theorem dX11_look_43 : decode cX11_look 43 = .ok (.bipush (-2), 2) := by decide +kernel
theorem dX11_look_45 : decode cX11_look 45 = .ok (.goto 11, 3) := by decide +kernel
theorem dX11_look_48 : decode cX11_look 48 = .ok (.aload_n 0, 1) := by decide +kernel
theorem dX11_look_49 : decode cX11_look 49 = .ok (.getfield 82, 3) := by decide +kernel
theorem dX11_look_52 : decode cX11_look 52 = .ok (.iload_n 2, 1) := by decide +kernel
theorem dX11_look_53 : decode cX11_look 53 = .ok (.invokevirtual 339, 3) := by decide +kernel
theorem dX11_look_56 : decode cX11_look 56 = .ok (.ireturn, 1) := by decide +kernel
def xX11_look : zX := (RX11, cX11_look, 3, (some .int), false, { frames := 15, cells := 0, slots := 0, locals := 445 }, 0, 0, 0, 0)
theorem rmX11_look : z_Rm xX11_look := by unfold z_Rm xX11_look; exact ⟨by decide, by decide⟩
theorem reX11_look : z_Re xX11_look := ⟨rfl, rfl⟩
theorem rlX11_look : 1 ≤ xX11_look.2.2.2.2.2.1.frames ∧ 21 ≤ xX11_look.2.2.2.2.2.1.locals := by unfold xX11_look; exact ⟨by decide, by decide⟩
theorem meX11_look : z_Me yX11_look xX11_look 2 := ⟨wd849, wd275, by decide, by decide, by decide +kernel⟩
theorem fitX11_look_2 : z_Fit xX11_isKnown xX11_look := by unfold z_Fit; simp only [xX11_isKnown, xX11_look]; exact ⟨by decide, by decide⟩
theorem fitX11_look_9 : z_Fit xX11_isToldLength xX11_look := by unfold z_Fit; simp only [xX11_isToldLength, xX11_look]; exact ⟨by decide, by decide⟩
theorem fitX11_look_30 : z_Fit xX9_findFits xX11_look := by unfold z_Fit; simp only [xX9_findFits, xX11_look]; exact ⟨by decide, by decide⟩
theorem fitX11_look_53 : z_Fit xX9_bestLook xX11_look := by unfold z_Fit; simp only [xX9_bestLook, xX11_look]; exact ⟨by decide, by decide⟩
noncomputable def kX11_look_15 : zK zR := (q_push (-1) q_iret)
noncomputable def kX11_look_56 : zK zR := q_iret
noncomputable def kX11_look_0 : zK zR := (q_aload 0 (q_iload 1 (q_callV 11 fX11_isKnown 1 (q_if_eq kX11_look_15 (q_iload 2 (q_callS fX11_isToldLength 1 (q_if_ne (q_aload 0 (q_getR 11 12 (q_aload 0 (q_getR 11 1 (q_getR 7 1 (q_iload 1 (q_iload 2 (q_callV 9 fX9_findFits 3 (q_aload 0 (q_getR 11 12 (q_getI 9 1 (q_if_ne (q_aload 0 (q_getR 11 12 (q_iload 2 (q_callV 9 fX9_bestLook 1 kX11_look_56)))) (q_push (-2) kX11_look_56))))))))))))) kX11_look_15)))))))
set_option maxRecDepth 100000 in
theorem tX11_look_15 {l : Launch} {D : zD} {B sz0 : Nat} {post : Option Value → zS → Prop} : zSnd l D B xX11_look sz0 post 15 kX11_look_15 (z_Jr post) := (s_iconst dX11_look_15 (by decide) (s_iret dX11_look_16 rfl))
set_option maxRecDepth 100000 in
theorem tX11_look_56 {l : Launch} {D : zD} {B sz0 : Nat} {post : Option Value → zS → Prop} : zSnd l D B xX11_look sz0 post 56 kX11_look_56 (z_Jr post) := (s_iret dX11_look_56 rfl)
set_option maxRecDepth 100000 in
theorem tX11_look_0 {l : Launch} {D : zD} {B sz0 : Nat} {post : Option Value → zS → Prop} : zSnd l D B xX11_look sz0 post 0 kX11_look_0 (z_Jr post) := (s_aload_n dX11_look_0 rfl (s_iload_n dX11_look_1 rfl (s_callV (r := (RX11, TX11, 13)) dX11_look_2 mX11_isKnown meX11_isKnown wd835 wd836 rfl rfl reX11_isKnown rmX11_look (fitX11_look_2) wd837 (s_if_eq (tgt := 15) dX11_look_5 (by decide) tX11_look_15 (s_iload_n dX11_look_8 rfl (s_callS dX11_look_9 mX11_isToldLength meX11_isToldLength wd838 rfl reX11_isToldLength rmX11_look (fitX11_look_9) wd839 (s_if_ne (tgt := 17) dX11_look_12 (by decide) (s_aload_n dX11_look_17 rfl (s_getR (f := 12) dX11_look_18 clX11 (by decide) rfl wd601 (s_aload_n dX11_look_21 rfl (s_getR (f := 1) dX11_look_22 clX11 (by decide) rfl wd572 (s_getR (f := 1) dX11_look_25 clX7 (by decide) rfl wd628 (s_iload_n dX11_look_28 rfl (s_iload_n dX11_look_29 rfl (s_callV (r := (RX9, TX9, 9)) dX11_look_30 mX9_findFits meX9_findFits wd840 wd841 rfl rfl reX9_findFits rmX11_look (fitX11_look_30) wd842 (s_aload_n dX11_look_33 rfl (s_getR (f := 12) dX11_look_34 clX11 (by decide) rfl wd601 (s_getI (f := 1) dX11_look_37 clX9 (by decide) rfl wd844 (s_if_ne (tgt := 48) dX11_look_40 (by decide) (s_aload_n dX11_look_48 rfl (s_getR (f := 12) dX11_look_49 clX11 (by decide) rfl wd601 (s_iload_n dX11_look_52 rfl (s_callV (r := (RX9, TX9, 9)) dX11_look_53 mX9_bestLook meX9_bestLook wd846 wd847 rfl rfl reX9_bestLook rmX11_look (fitX11_look_53) wd848 tX11_look_56)))) (s_bipush dX11_look_43 (by decide) (s_goto (tgt := 56) dX11_look_45 (by decide) tX11_look_56)))))))))))))) tX11_look_15)))))))
noncomputable def fX11_look : zF := z_fn 3 kX11_look_0
theorem mX11_look {l : Launch} {D : zD} {B : Nat} : z_MF l D B yX11_look xX11_look fX11_look := z_mf (by decide) rfl (fun h => by cases h) rfl (fun as σ r h => ⟨z_fn_len h, kX11_look_0, z_fn_run h, fun _ => tX11_look_0⟩)
/-! ===== RowChildren.hold ===== -/
theorem dX11_hold_0 : decode cX11_hold 0 = .ok (.aload_n 0, 1) := by decide +kernel
theorem dX11_hold_1 : decode cX11_hold 1 = .ok (.getfield 61, 3) := by decide +kernel
theorem dX11_hold_4 : decode cX11_hold 4 = .ok (.iload_n 1, 1) := by decide +kernel
theorem dX11_hold_5 : decode cX11_hold 5 = .ok (.aload_n 0, 1) := by decide +kernel
theorem dX11_hold_6 : decode cX11_hold 6 = .ok (.getfield 33, 3) := by decide +kernel
theorem dX11_hold_9 : decode cX11_hold 9 = .ok (.invokevirtual 342, 3) := by decide +kernel
theorem dX11_hold_12 : decode cX11_hold 12 = .ok (.ireturn, 1) := by decide +kernel
def xX11_hold : zX := (RX11, cX11_hold, 2, (some .boolean), false, { frames := 3, cells := 0, slots := 0, locals := 133 }, 0, 0, 0, 0)
theorem rmX11_hold : z_Rm xX11_hold := by unfold z_Rm xX11_hold; exact ⟨by decide, by decide⟩
theorem reX11_hold : z_Re xX11_hold := ⟨rfl, rfl⟩
theorem rlX11_hold : 1 ≤ xX11_hold.2.2.2.2.2.1.frames ∧ 21 ≤ xX11_hold.2.2.2.2.2.1.locals := by unfold xX11_hold; exact ⟨by decide, by decide⟩
theorem meX11_hold : z_Me yX11_hold xX11_hold 1 := ⟨wd853, wd275, by decide, by decide, by decide +kernel⟩
theorem fitX11_hold_9 : z_Fit xX3_keep xX11_hold := by unfold z_Fit; simp only [xX3_keep, xX11_hold]; exact ⟨by decide, by decide⟩
noncomputable def kX11_hold_0 : zK zR := (q_aload 0 (q_getR 11 9 (q_iload 1 (q_aload 0 (q_getR 11 4 (q_callV 3 fX3_keep 2 q_zret))))))
set_option maxRecDepth 100000 in
theorem tX11_hold_0 {l : Launch} {D : zD} {B sz0 : Nat} {post : Option Value → zS → Prop} : zSnd l D B xX11_hold sz0 post 0 kX11_hold_0 (z_Jr post) := (s_aload_n dX11_hold_0 rfl (s_getR (f := 9) dX11_hold_1 clX11 (by decide) rfl wd589 (s_iload_n dX11_hold_4 rfl (s_aload_n dX11_hold_5 rfl (s_getR (f := 4) dX11_hold_6 clX11 (by decide) rfl wd576 (s_callV (r := (RX3, TX3, 5)) dX11_hold_9 mX3_keep meX3_keep wd850 wd851 rfl rfl reX3_keep rmX11_hold (fitX11_hold_9) wd852 (s_zret dX11_hold_12 rfl)))))))
noncomputable def fX11_hold : zF := z_fn 2 kX11_hold_0
theorem mX11_hold {l : Launch} {D : zD} {B : Nat} : z_MF l D B yX11_hold xX11_hold fX11_hold := z_mf (by decide) rfl (fun h => by cases h) rfl (fun as σ r h => ⟨z_fn_len h, kX11_hold_0, z_fn_run h, fun _ => tX11_hold_0⟩)
/-! ===== RowChildren.restore ===== -/
theorem dX11_restore_0 : decode cX11_restore 0 = .ok (.aload_n 0, 1) := by decide +kernel
theorem dX11_restore_1 : decode cX11_restore 1 = .ok (.getfield 61, 3) := by decide +kernel
theorem dX11_restore_4 : decode cX11_restore 4 = .ok (.iload_n 1, 1) := by decide +kernel
theorem dX11_restore_5 : decode cX11_restore 5 = .ok (.aload_n 0, 1) := by decide +kernel
theorem dX11_restore_6 : decode cX11_restore 6 = .ok (.getfield 33, 3) := by decide +kernel
theorem dX11_restore_9 : decode cX11_restore 9 = .ok (.invokevirtual 346, 3) := by decide +kernel
theorem dX11_restore_12 : decode cX11_restore 12 = .ok (.ifCond .ne 5, 3) := by decide +kernel
theorem dX11_restore_15 : decode cX11_restore 15 = .ok (.iconst 0, 1) := by decide +kernel
theorem dX11_restore_16 : decode cX11_restore 16 = .ok (.ireturn, 1) := by decide +kernel
theorem dX11_restore_17 : decode cX11_restore 17 = .ok (.aload_n 0, 1) := by decide +kernel
theorem dX11_restore_18 : decode cX11_restore 18 = .ok (.getfield 61, 3) := by decide +kernel
theorem dX11_restore_21 : decode cX11_restore 21 = .ok (.invokevirtual 108, 3) := by decide +kernel
theorem dX11_restore_24 : decode cX11_restore 24 = .ok (.iconst 1, 1) := by decide +kernel
theorem dX11_restore_25 : decode cX11_restore 25 = .ok (.ireturn, 1) := by decide +kernel
def xX11_restore : zX := (RX11, cX11_restore, 2, (some .boolean), false, { frames := 3, cells := 0, slots := 0, locals := 133 }, 0, 0, 0, 0)
theorem rmX11_restore : z_Rm xX11_restore := by unfold z_Rm xX11_restore; exact ⟨by decide, by decide⟩
theorem reX11_restore : z_Re xX11_restore := ⟨rfl, rfl⟩
theorem rlX11_restore : 1 ≤ xX11_restore.2.2.2.2.2.1.frames ∧ 21 ≤ xX11_restore.2.2.2.2.2.1.locals := by unfold xX11_restore; exact ⟨by decide, by decide⟩
theorem meX11_restore : z_Me yX11_restore xX11_restore 1 := ⟨wd857, wd275, by decide, by decide, by decide +kernel⟩
theorem fitX11_restore_9 : z_Fit xX3_bringBack xX11_restore := by unfold z_Fit; simp only [xX3_bringBack, xX11_restore]; exact ⟨by decide, by decide⟩
theorem fitX11_restore_21 : z_Fit xX3_clearUndone xX11_restore := by unfold z_Fit; simp only [xX3_clearUndone, xX11_restore]; exact ⟨by decide, by decide⟩
noncomputable def kX11_restore_0 : zK zR := (q_aload 0 (q_getR 11 9 (q_iload 1 (q_aload 0 (q_getR 11 4 (q_callV 3 fX3_bringBack 2 (q_if_ne (q_aload 0 (q_getR 11 9 (q_callV 3 fX3_clearUndone 0 (q_push 1 q_zret)))) (q_push 0 q_zret))))))))
set_option maxRecDepth 100000 in
theorem tX11_restore_0 {l : Launch} {D : zD} {B sz0 : Nat} {post : Option Value → zS → Prop} : zSnd l D B xX11_restore sz0 post 0 kX11_restore_0 (z_Jr post) := (s_aload_n dX11_restore_0 rfl (s_getR (f := 9) dX11_restore_1 clX11 (by decide) rfl wd589 (s_iload_n dX11_restore_4 rfl (s_aload_n dX11_restore_5 rfl (s_getR (f := 4) dX11_restore_6 clX11 (by decide) rfl wd576 (s_callV (r := (RX3, TX3, 5)) dX11_restore_9 mX3_bringBack meX3_bringBack wd854 wd855 rfl rfl reX3_bringBack rmX11_restore (fitX11_restore_9) wd856 (s_if_ne (tgt := 17) dX11_restore_12 (by decide) (s_aload_n dX11_restore_17 rfl (s_getR (f := 9) dX11_restore_18 clX11 (by decide) rfl wd589 (s_callV (r := (RX3, TX3, 5)) dX11_restore_21 mX3_clearUndone meX3_clearUndone wd616 wd617 rfl rfl reX3_clearUndone rmX11_restore (fitX11_restore_21) wd618 (s_iconst dX11_restore_24 (by decide) (s_zret dX11_restore_25 rfl))))) (s_iconst dX11_restore_15 (by decide) (s_zret dX11_restore_16 rfl)))))))))
noncomputable def fX11_restore : zF := z_fn 2 kX11_restore_0
theorem mX11_restore {l : Launch} {D : zD} {B : Nat} : z_MF l D B yX11_restore xX11_restore fX11_restore := z_mf (by decide) rfl (fun h => by cases h) rfl (fun as σ r h => ⟨z_fn_len h, kX11_restore_0, z_fn_run h, fun _ => tX11_restore_0⟩)
/-! ===== RowChildren.fairRows ===== -/
theorem dX11_fairRows_0 : decode cX11_fairRows 0 = .ok (.iconst 0, 1) := by decide +kernel
theorem dX11_fairRows_1 : decode cX11_fairRows 1 = .ok (.istore_n 1, 1) := by decide +kernel
theorem dX11_fairRows_2 : decode cX11_fairRows 2 = .ok (.iconst 0, 1) := by decide +kernel
theorem dX11_fairRows_3 : decode cX11_fairRows 3 = .ok (.istore_n 2, 1) := by decide +kernel
theorem dX11_fairRows_4 : decode cX11_fairRows 4 = .ok (.iload_n 2, 1) := by decide +kernel
theorem dX11_fairRows_5 : decode cX11_fairRows 5 = .ok (.aload_n 0, 1) := by decide +kernel
theorem dX11_fairRows_6 : decode cX11_fairRows 6 = .ok (.getfield 33, 3) := by decide +kernel
theorem dX11_fairRows_9 : decode cX11_fairRows 9 = .ok (.getfield 349, 3) := by decide +kernel
theorem dX11_fairRows_12 : decode cX11_fairRows 12 = .ok (.if_icmp .ge 54, 3) := by decide +kernel
theorem dX11_fairRows_15 : decode cX11_fairRows 15 = .ok (.aload_n 0, 1) := by decide +kernel
theorem dX11_fairRows_16 : decode cX11_fairRows 16 = .ok (.getfield 54, 3) := by decide +kernel
theorem dX11_fairRows_19 : decode cX11_fairRows 19 = .ok (.aload_n 0, 1) := by decide +kernel
theorem dX11_fairRows_20 : decode cX11_fairRows 20 = .ok (.getfield 19, 3) := by decide +kernel
theorem dX11_fairRows_23 : decode cX11_fairRows 23 = .ok (.getfield 124, 3) := by decide +kernel
theorem dX11_fairRows_26 : decode cX11_fairRows 26 = .ok (.aload_n 0, 1) := by decide +kernel
theorem dX11_fairRows_27 : decode cX11_fairRows 27 = .ok (.getfield 33, 3) := by decide +kernel
theorem dX11_fairRows_30 : decode cX11_fairRows 30 = .ok (.iload_n 2, 1) := by decide +kernel
theorem dX11_fairRows_31 : decode cX11_fairRows 31 = .ok (.invokevirtual 137, 3) := by decide +kernel
theorem dX11_fairRows_34 : decode cX11_fairRows 34 = .ok (.aload_n 0, 1) := by decide +kernel
theorem dX11_fairRows_35 : decode cX11_fairRows 35 = .ok (.getfield 54, 3) := by decide +kernel
theorem dX11_fairRows_38 : decode cX11_fairRows 38 = .ok (.aload_n 0, 1) := by decide +kernel
theorem dX11_fairRows_39 : decode cX11_fairRows 39 = .ok (.getfield 19, 3) := by decide +kernel
theorem dX11_fairRows_42 : decode cX11_fairRows 42 = .ok (.getfield 124, 3) := by decide +kernel
theorem dX11_fairRows_45 : decode cX11_fairRows 45 = .ok (.getfield 145, 3) := by decide +kernel
theorem dX11_fairRows_48 : decode cX11_fairRows 48 = .ok (.invokevirtual 159, 3) := by decide +kernel
theorem dX11_fairRows_51 : decode cX11_fairRows 51 = .ok (.ifCond .eq 9, 3) := by decide +kernel
theorem dX11_fairRows_54 : decode cX11_fairRows 54 = .ok (.iload_n 1, 1) := by decide +kernel
theorem dX11_fairRows_55 : decode cX11_fairRows 55 = .ok (.iconst 1, 1) := by decide +kernel
theorem dX11_fairRows_56 : decode cX11_fairRows 56 = .ok (.iload_n 2, 1) := by decide +kernel
theorem dX11_fairRows_57 : decode cX11_fairRows 57 = .ok (.ishl, 1) := by decide +kernel
theorem dX11_fairRows_58 : decode cX11_fairRows 58 = .ok (.ior, 1) := by decide +kernel
theorem dX11_fairRows_59 : decode cX11_fairRows 59 = .ok (.istore_n 1, 1) := by decide +kernel
theorem dX11_fairRows_60 : decode cX11_fairRows 60 = .ok (.iinc 2 1, 3) := by decide +kernel
theorem dX11_fairRows_63 : decode cX11_fairRows 63 = .ok (.goto (-59), 3) := by decide +kernel
theorem dX11_fairRows_66 : decode cX11_fairRows 66 = .ok (.iload_n 1, 1) := by decide +kernel
theorem dX11_fairRows_67 : decode cX11_fairRows 67 = .ok (.ireturn, 1) := by decide +kernel
def xX11_fairRows : zX := (RX11, cX11_fairRows, 3, (some .int), false, { frames := 4, cells := 0, slots := 0, locals := 159 }, 0, 0, 0, 0)
theorem rmX11_fairRows : z_Rm xX11_fairRows := by unfold z_Rm xX11_fairRows; exact ⟨by decide, by decide⟩
theorem reX11_fairRows : z_Re xX11_fairRows := ⟨rfl, rfl⟩
theorem rlX11_fairRows : 1 ≤ xX11_fairRows.2.2.2.2.2.1.frames ∧ 21 ≤ xX11_fairRows.2.2.2.2.2.1.locals := by unfold xX11_fairRows; exact ⟨by decide, by decide⟩
theorem meX11_fairRows : z_Me yX11_fairRows xX11_fairRows 0 := ⟨wd858, wd275, by decide, by decide, by decide +kernel⟩
theorem fitX11_fairRows_31 : z_Fit xX10_fill xX11_fairRows := by unfold z_Fit; simp only [xX10_fill, xX11_fairRows]; exact ⟨by decide, by decide⟩
theorem fitX11_fairRows_48 : z_Fit xX10_isFair xX11_fairRows := by unfold z_Fit; simp only [xX10_isFair, xX11_fairRows]; exact ⟨by decide, by decide⟩
noncomputable def kX11_fairRows_66 : zK zR := (q_iload 1 q_iret)
noncomputable def kX11_fairRows_60 : zK ((zL × zS) ⊕ zR) := (q_iinc 2 1 q_ag)
noncomputable def bX11_fairRows_4 : zK ((zL × zS) ⊕ zR) := (q_iload 2 (q_aload 0 (q_getR 11 4 (q_getI 1 0 (q_icmp_ge (q_dn kX11_fairRows_66) (q_aload 0 (q_getR 11 8 (q_aload 0 (q_getR 11 1 (q_getR 7 1 (q_aload 0 (q_getR 11 4 (q_iload 2 (q_callV 10 fX10_fill 3 (q_aload 0 (q_getR 11 8 (q_aload 0 (q_getR 11 1 (q_getR 7 1 (q_getI 5 0 (q_callV 10 fX10_isFair 1 (q_if_eq kX11_fairRows_60 (q_iload 1 (q_push 1 (q_iload 2 (q_ishl (q_ior (q_istore 1 kX11_fairRows_60))))))))))))))))))))))))))))
noncomputable def kX11_fairRows_4 : zK zR := q_lp (bX11_fairRows_4)
noncomputable def kX11_fairRows_0 : zK zR := (q_push 0 (q_istore 1 (q_push 0 (q_istore 2 kX11_fairRows_4))))
set_option maxRecDepth 100000 in
theorem tX11_fairRows_66 {l : Launch} {D : zD} {B sz0 : Nat} {post : Option Value → zS → Prop} : zSnd l D B xX11_fairRows sz0 post 66 kX11_fairRows_66 (z_Jr post) := (s_iload_n dX11_fairRows_66 rfl (s_iret dX11_fairRows_67 rfl))
set_option maxRecDepth 100000 in
theorem tX11_fairRows_60 {l : Launch} {D : zD} {B sz0 : Nat} {post : Option Value → zS → Prop} : zSnd l D B xX11_fairRows sz0 post 60 kX11_fairRows_60 (z_Jl l D B xX11_fairRows sz0 post 4 (z_Jr post)) := (s_iinc dX11_fairRows_60 (by decide) (s_goto (tgt := 4) dX11_fairRows_63 (by decide) s_ag))
set_option maxRecDepth 100000 in
theorem tX11_fairRows_4 {l : Launch} {D : zD} {B sz0 : Nat} {post : Option Value → zS → Prop} : zSnd l D B xX11_fairRows sz0 post 4 kX11_fairRows_4 (z_Jr post) := s_lp (body := bX11_fairRows_4) (s_iload_n dX11_fairRows_4 rfl (s_aload_n dX11_fairRows_5 rfl (s_getR (f := 4) dX11_fairRows_6 clX11 (by decide) rfl wd576 (s_getI (f := 0) dX11_fairRows_9 clX1 (by decide) rfl wd636 (s_icmp_ge (tgt := 66) dX11_fairRows_12 (by decide) (s_dn tX11_fairRows_66) (s_aload_n dX11_fairRows_15 rfl (s_getR (f := 8) dX11_fairRows_16 clX11 (by decide) rfl wd584 (s_aload_n dX11_fairRows_19 rfl (s_getR (f := 1) dX11_fairRows_20 clX11 (by decide) rfl wd572 (s_getR (f := 1) dX11_fairRows_23 clX7 (by decide) rfl wd628 (s_aload_n dX11_fairRows_26 rfl (s_getR (f := 4) dX11_fairRows_27 clX11 (by decide) rfl wd576 (s_iload_n dX11_fairRows_30 rfl (s_callV (r := (RX10, TX10, 3)) dX11_fairRows_31 mX10_fill meX10_fill wd658 wd659 rfl rfl reX10_fill rmX11_fairRows (fitX11_fairRows_31) wd660 (s_aload_n dX11_fairRows_34 rfl (s_getR (f := 8) dX11_fairRows_35 clX11 (by decide) rfl wd584 (s_aload_n dX11_fairRows_38 rfl (s_getR (f := 1) dX11_fairRows_39 clX11 (by decide) rfl wd572 (s_getR (f := 1) dX11_fairRows_42 clX7 (by decide) rfl wd628 (s_getI (f := 0) dX11_fairRows_45 clX5 (by decide) rfl wd629 (s_callV (r := (RX10, TX10, 3)) dX11_fairRows_48 mX10_isFair meX10_isFair wd199 wd200 rfl rfl reX10_isFair rmX11_fairRows (fitX11_fairRows_48) wd667 (s_if_eq (tgt := 60) dX11_fairRows_51 (by decide) tX11_fairRows_60 (s_iload_n dX11_fairRows_54 rfl (s_iconst dX11_fairRows_55 (by decide) (s_iload_n dX11_fairRows_56 rfl (s_ishl dX11_fairRows_57 (s_ior dX11_fairRows_58 (s_istore_n dX11_fairRows_59 rfl tX11_fairRows_60))))))))))))))))))))))))))))
set_option maxRecDepth 100000 in
theorem tX11_fairRows_0 {l : Launch} {D : zD} {B sz0 : Nat} {post : Option Value → zS → Prop} : zSnd l D B xX11_fairRows sz0 post 0 kX11_fairRows_0 (z_Jr post) := (s_iconst dX11_fairRows_0 (by decide) (s_istore_n dX11_fairRows_1 rfl (s_iconst dX11_fairRows_2 (by decide) (s_istore_n dX11_fairRows_3 rfl tX11_fairRows_4))))
noncomputable def fX11_fairRows : zF := z_fn 3 kX11_fairRows_0
theorem mX11_fairRows {l : Launch} {D : zD} {B : Nat} : z_MF l D B yX11_fairRows xX11_fairRows fX11_fairRows := z_mf (by decide) rfl (fun h => by cases h) rfl (fun as σ r h => ⟨z_fn_len h, kX11_fairRows_0, z_fn_run h, fun _ => tX11_fairRows_0⟩)
/-! ===== RowChildren.allPays ===== -/
theorem dX11_allPays_0 : decode cX11_allPays 0 = .ok (.iconst 0, 1) := by decide +kernel
theorem dX11_allPays_1 : decode cX11_allPays 1 = .ok (.istore_n 1, 1) := by decide +kernel
theorem dX11_allPays_2 : decode cX11_allPays 2 = .ok (.iconst 0, 1) := by decide +kernel
theorem dX11_allPays_3 : decode cX11_allPays 3 = .ok (.istore_n 2, 1) := by decide +kernel
theorem dX11_allPays_4 : decode cX11_allPays 4 = .ok (.iload_n 2, 1) := by decide +kernel
theorem dX11_allPays_5 : decode cX11_allPays 5 = .ok (.aload_n 0, 1) := by decide +kernel
theorem dX11_allPays_6 : decode cX11_allPays 6 = .ok (.getfield 33, 3) := by decide +kernel
theorem dX11_allPays_9 : decode cX11_allPays 9 = .ok (.getfield 349, 3) := by decide +kernel
theorem dX11_allPays_12 : decode cX11_allPays 12 = .ok (.if_icmp .ge 21, 3) := by decide +kernel
theorem dX11_allPays_15 : decode cX11_allPays 15 = .ok (.iload_n 1, 1) := by decide +kernel
theorem dX11_allPays_16 : decode cX11_allPays 16 = .ok (.aload_n 0, 1) := by decide +kernel
theorem dX11_allPays_17 : decode cX11_allPays 17 = .ok (.aload_n 0, 1) := by decide +kernel
theorem dX11_allPays_18 : decode cX11_allPays 18 = .ok (.getfield 33, 3) := by decide +kernel
theorem dX11_allPays_21 : decode cX11_allPays 21 = .ok (.iload_n 2, 1) := by decide +kernel
theorem dX11_allPays_22 : decode cX11_allPays 22 = .ok (.invokevirtual 155, 3) := by decide +kernel
theorem dX11_allPays_25 : decode cX11_allPays 25 = .ok (.iadd, 1) := by decide +kernel
theorem dX11_allPays_26 : decode cX11_allPays 26 = .ok (.istore_n 1, 1) := by decide +kernel
theorem dX11_allPays_27 : decode cX11_allPays 27 = .ok (.iinc 2 1, 3) := by decide +kernel
theorem dX11_allPays_30 : decode cX11_allPays 30 = .ok (.goto (-26), 3) := by decide +kernel
theorem dX11_allPays_33 : decode cX11_allPays 33 = .ok (.iload_n 1, 1) := by decide +kernel
theorem dX11_allPays_34 : decode cX11_allPays 34 = .ok (.ireturn, 1) := by decide +kernel
def xX11_allPays : zX := (RX11, cX11_allPays, 3, (some .int), false, { frames := 22, cells := 0, slots := 0, locals := 620 }, 0, 0, 0, 0)
theorem rmX11_allPays : z_Rm xX11_allPays := by unfold z_Rm xX11_allPays; exact ⟨by decide, by decide⟩
theorem reX11_allPays : z_Re xX11_allPays := ⟨rfl, rfl⟩
theorem rlX11_allPays : 1 ≤ xX11_allPays.2.2.2.2.2.1.frames ∧ 21 ≤ xX11_allPays.2.2.2.2.2.1.locals := by unfold xX11_allPays; exact ⟨by decide, by decide⟩
theorem meX11_allPays : z_Me yX11_allPays xX11_allPays 0 := ⟨wd859, wd275, by decide, by decide, by decide +kernel⟩
theorem fitX11_allPays_22 : z_Fit xX11_paysOf xX11_allPays := by unfold z_Fit; simp only [xX11_paysOf, xX11_allPays]; exact ⟨by decide, by decide⟩
noncomputable def kX11_allPays_33 : zK zR := (q_iload 1 q_iret)
noncomputable def bX11_allPays_4 : zK ((zL × zS) ⊕ zR) := (q_iload 2 (q_aload 0 (q_getR 11 4 (q_getI 1 0 (q_icmp_ge (q_dn kX11_allPays_33) (q_iload 1 (q_aload 0 (q_aload 0 (q_getR 11 4 (q_iload 2 (q_callV 11 fX11_paysOf 2 (q_iadd (q_istore 1 (q_iinc 2 1 q_ag))))))))))))))
noncomputable def kX11_allPays_4 : zK zR := q_lp (bX11_allPays_4)
noncomputable def kX11_allPays_0 : zK zR := (q_push 0 (q_istore 1 (q_push 0 (q_istore 2 kX11_allPays_4))))
set_option maxRecDepth 100000 in
theorem tX11_allPays_33 {l : Launch} {D : zD} {B sz0 : Nat} {post : Option Value → zS → Prop} : zSnd l D B xX11_allPays sz0 post 33 kX11_allPays_33 (z_Jr post) := (s_iload_n dX11_allPays_33 rfl (s_iret dX11_allPays_34 rfl))
set_option maxRecDepth 100000 in
theorem tX11_allPays_4 {l : Launch} {D : zD} {B sz0 : Nat} {post : Option Value → zS → Prop} : zSnd l D B xX11_allPays sz0 post 4 kX11_allPays_4 (z_Jr post) := s_lp (body := bX11_allPays_4) (s_iload_n dX11_allPays_4 rfl (s_aload_n dX11_allPays_5 rfl (s_getR (f := 4) dX11_allPays_6 clX11 (by decide) rfl wd576 (s_getI (f := 0) dX11_allPays_9 clX1 (by decide) rfl wd636 (s_icmp_ge (tgt := 33) dX11_allPays_12 (by decide) (s_dn tX11_allPays_33) (s_iload_n dX11_allPays_15 rfl (s_aload_n dX11_allPays_16 rfl (s_aload_n dX11_allPays_17 rfl (s_getR (f := 4) dX11_allPays_18 clX11 (by decide) rfl wd576 (s_iload_n dX11_allPays_21 rfl (s_callV (r := (RX11, TX11, 13)) dX11_allPays_22 mX11_paysOf meX11_paysOf wd664 wd665 rfl rfl reX11_paysOf rmX11_allPays (fitX11_allPays_22) wd666 (s_iadd dX11_allPays_25 (s_istore_n dX11_allPays_26 rfl (s_iinc dX11_allPays_27 (by decide) (s_goto (tgt := 4) dX11_allPays_30 (by decide) s_ag)))))))))))))))
set_option maxRecDepth 100000 in
theorem tX11_allPays_0 {l : Launch} {D : zD} {B sz0 : Nat} {post : Option Value → zS → Prop} : zSnd l D B xX11_allPays sz0 post 0 kX11_allPays_0 (z_Jr post) := (s_iconst dX11_allPays_0 (by decide) (s_istore_n dX11_allPays_1 rfl (s_iconst dX11_allPays_2 (by decide) (s_istore_n dX11_allPays_3 rfl tX11_allPays_4))))
noncomputable def fX11_allPays : zF := z_fn 3 kX11_allPays_0
theorem mX11_allPays {l : Launch} {D : zD} {B : Nat} : z_MF l D B yX11_allPays xX11_allPays fX11_allPays := z_mf (by decide) rfl (fun h => by cases h) rfl (fun as σ r h => ⟨z_fn_len h, kX11_allPays_0, z_fn_run h, fun _ => tX11_allPays_0⟩)
/-! ===== RowChildren.lastColours ===== -/
theorem dX11_lastColours_0 : decode cX11_lastColours 0 = .ok (.iconst 0, 1) := by decide +kernel
theorem dX11_lastColours_1 : decode cX11_lastColours 1 = .ok (.istore_n 1, 1) := by decide +kernel
theorem dX11_lastColours_2 : decode cX11_lastColours 2 = .ok (.iconst 0, 1) := by decide +kernel
theorem dX11_lastColours_3 : decode cX11_lastColours 3 = .ok (.istore_n 2, 1) := by decide +kernel
theorem dX11_lastColours_4 : decode cX11_lastColours 4 = .ok (.iload_n 2, 1) := by decide +kernel
theorem dX11_lastColours_5 : decode cX11_lastColours 5 = .ok (.aload_n 0, 1) := by decide +kernel
theorem dX11_lastColours_6 : decode cX11_lastColours 6 = .ok (.getfield 33, 3) := by decide +kernel
theorem dX11_lastColours_9 : decode cX11_lastColours 9 = .ok (.getfield 349, 3) := by decide +kernel
theorem dX11_lastColours_12 : decode cX11_lastColours 12 = .ok (.if_icmp .ge 40, 3) := by decide +kernel
theorem dX11_lastColours_15 : decode cX11_lastColours 15 = .ok (.aload_n 0, 1) := by decide +kernel
theorem dX11_lastColours_16 : decode cX11_lastColours 16 = .ok (.getfield 54, 3) := by decide +kernel
theorem dX11_lastColours_19 : decode cX11_lastColours 19 = .ok (.aload_n 0, 1) := by decide +kernel
theorem dX11_lastColours_20 : decode cX11_lastColours 20 = .ok (.getfield 19, 3) := by decide +kernel
theorem dX11_lastColours_23 : decode cX11_lastColours 23 = .ok (.getfield 124, 3) := by decide +kernel
theorem dX11_lastColours_26 : decode cX11_lastColours 26 = .ok (.aload_n 0, 1) := by decide +kernel
theorem dX11_lastColours_27 : decode cX11_lastColours 27 = .ok (.getfield 33, 3) := by decide +kernel
theorem dX11_lastColours_30 : decode cX11_lastColours 30 = .ok (.iload_n 2, 1) := by decide +kernel
theorem dX11_lastColours_31 : decode cX11_lastColours 31 = .ok (.invokevirtual 137, 3) := by decide +kernel
theorem dX11_lastColours_34 : decode cX11_lastColours 34 = .ok (.iload_n 1, 1) := by decide +kernel
theorem dX11_lastColours_35 : decode cX11_lastColours 35 = .ok (.iconst 1, 1) := by decide +kernel
theorem dX11_lastColours_36 : decode cX11_lastColours 36 = .ok (.aload_n 0, 1) := by decide +kernel
theorem dX11_lastColours_37 : decode cX11_lastColours 37 = .ok (.getfield 54, 3) := by decide +kernel
theorem dX11_lastColours_40 : decode cX11_lastColours 40 = .ok (.invokevirtual 151, 3) := by decide +kernel
theorem dX11_lastColours_43 : decode cX11_lastColours 43 = .ok (.ishl, 1) := by decide +kernel
theorem dX11_lastColours_44 : decode cX11_lastColours 44 = .ok (.ior, 1) := by decide +kernel
theorem dX11_lastColours_45 : decode cX11_lastColours 45 = .ok (.istore_n 1, 1) := by decide +kernel
theorem dX11_lastColours_46 : decode cX11_lastColours 46 = .ok (.iinc 2 1, 3) := by decide +kernel
theorem dX11_lastColours_49 : decode cX11_lastColours 49 = .ok (.goto (-45), 3) := by decide +kernel
theorem dX11_lastColours_52 : decode cX11_lastColours 52 = .ok (.iload_n 1, 1) := by decide +kernel
theorem dX11_lastColours_53 : decode cX11_lastColours 53 = .ok (.ireturn, 1) := by decide +kernel
def xX11_lastColours : zX := (RX11, cX11_lastColours, 3, (some .int), false, { frames := 4, cells := 0, slots := 0, locals := 159 }, 0, 0, 0, 0)
theorem rmX11_lastColours : z_Rm xX11_lastColours := by unfold z_Rm xX11_lastColours; exact ⟨by decide, by decide⟩
theorem reX11_lastColours : z_Re xX11_lastColours := ⟨rfl, rfl⟩
theorem rlX11_lastColours : 1 ≤ xX11_lastColours.2.2.2.2.2.1.frames ∧ 21 ≤ xX11_lastColours.2.2.2.2.2.1.locals := by unfold xX11_lastColours; exact ⟨by decide, by decide⟩
theorem meX11_lastColours : z_Me yX11_lastColours xX11_lastColours 0 := ⟨wd860, wd275, by decide, by decide, by decide +kernel⟩
theorem fitX11_lastColours_31 : z_Fit xX10_fill xX11_lastColours := by unfold z_Fit; simp only [xX10_fill, xX11_lastColours]; exact ⟨by decide, by decide⟩
theorem fitX11_lastColours_40 : z_Fit xX10_lastChild xX11_lastColours := by unfold z_Fit; simp only [xX10_lastChild, xX11_lastColours]; exact ⟨by decide, by decide⟩
noncomputable def kX11_lastColours_52 : zK zR := (q_iload 1 q_iret)
noncomputable def bX11_lastColours_4 : zK ((zL × zS) ⊕ zR) := (q_iload 2 (q_aload 0 (q_getR 11 4 (q_getI 1 0 (q_icmp_ge (q_dn kX11_lastColours_52) (q_aload 0 (q_getR 11 8 (q_aload 0 (q_getR 11 1 (q_getR 7 1 (q_aload 0 (q_getR 11 4 (q_iload 2 (q_callV 10 fX10_fill 3 (q_iload 1 (q_push 1 (q_aload 0 (q_getR 11 8 (q_callV 10 fX10_lastChild 0 (q_ishl (q_ior (q_istore 1 (q_iinc 2 1 q_ag)))))))))))))))))))))))
noncomputable def kX11_lastColours_4 : zK zR := q_lp (bX11_lastColours_4)
noncomputable def kX11_lastColours_0 : zK zR := (q_push 0 (q_istore 1 (q_push 0 (q_istore 2 kX11_lastColours_4))))
set_option maxRecDepth 100000 in
theorem tX11_lastColours_52 {l : Launch} {D : zD} {B sz0 : Nat} {post : Option Value → zS → Prop} : zSnd l D B xX11_lastColours sz0 post 52 kX11_lastColours_52 (z_Jr post) := (s_iload_n dX11_lastColours_52 rfl (s_iret dX11_lastColours_53 rfl))
set_option maxRecDepth 100000 in
theorem tX11_lastColours_4 {l : Launch} {D : zD} {B sz0 : Nat} {post : Option Value → zS → Prop} : zSnd l D B xX11_lastColours sz0 post 4 kX11_lastColours_4 (z_Jr post) := s_lp (body := bX11_lastColours_4) (s_iload_n dX11_lastColours_4 rfl (s_aload_n dX11_lastColours_5 rfl (s_getR (f := 4) dX11_lastColours_6 clX11 (by decide) rfl wd576 (s_getI (f := 0) dX11_lastColours_9 clX1 (by decide) rfl wd636 (s_icmp_ge (tgt := 52) dX11_lastColours_12 (by decide) (s_dn tX11_lastColours_52) (s_aload_n dX11_lastColours_15 rfl (s_getR (f := 8) dX11_lastColours_16 clX11 (by decide) rfl wd584 (s_aload_n dX11_lastColours_19 rfl (s_getR (f := 1) dX11_lastColours_20 clX11 (by decide) rfl wd572 (s_getR (f := 1) dX11_lastColours_23 clX7 (by decide) rfl wd628 (s_aload_n dX11_lastColours_26 rfl (s_getR (f := 4) dX11_lastColours_27 clX11 (by decide) rfl wd576 (s_iload_n dX11_lastColours_30 rfl (s_callV (r := (RX10, TX10, 3)) dX11_lastColours_31 mX10_fill meX10_fill wd658 wd659 rfl rfl reX10_fill rmX11_lastColours (fitX11_lastColours_31) wd660 (s_iload_n dX11_lastColours_34 rfl (s_iconst dX11_lastColours_35 (by decide) (s_aload_n dX11_lastColours_36 rfl (s_getR (f := 8) dX11_lastColours_37 clX11 (by decide) rfl wd584 (s_callV (r := (RX10, TX10, 3)) dX11_lastColours_40 mX10_lastChild meX10_lastChild wd27 wd28 rfl rfl reX10_lastChild rmX11_lastColours (fitX11_lastColours_40) wd663 (s_ishl dX11_lastColours_43 (s_ior dX11_lastColours_44 (s_istore_n dX11_lastColours_45 rfl (s_iinc dX11_lastColours_46 (by decide) (s_goto (tgt := 4) dX11_lastColours_49 (by decide) s_ag))))))))))))))))))))))))
set_option maxRecDepth 100000 in
theorem tX11_lastColours_0 {l : Launch} {D : zD} {B sz0 : Nat} {post : Option Value → zS → Prop} : zSnd l D B xX11_lastColours sz0 post 0 kX11_lastColours_0 (z_Jr post) := (s_iconst dX11_lastColours_0 (by decide) (s_istore_n dX11_lastColours_1 rfl (s_iconst dX11_lastColours_2 (by decide) (s_istore_n dX11_lastColours_3 rfl tX11_lastColours_4))))
noncomputable def fX11_lastColours : zF := z_fn 3 kX11_lastColours_0
theorem mX11_lastColours {l : Launch} {D : zD} {B : Nat} : z_MF l D B yX11_lastColours xX11_lastColours fX11_lastColours := z_mf (by decide) rfl (fun h => by cases h) rfl (fun as σ r h => ⟨z_fn_len h, kX11_lastColours_0, z_fn_run h, fun _ => tX11_lastColours_0⟩)
/-! ===== RowChildren.count ===== -/
theorem dX11_count_0 : decode cX11_count 0 = .ok (.iload_n 1, 1) := by decide +kernel
theorem dX11_count_1 : decode cX11_count 1 = .ok (.tableswitch 177 0 13 #[71, 82, 90, 98, 106, 114, 119, 124, 129, 137, 145, 153, 161, 169], 71) := by decide +kernel
theorem dX11_count_72 : decode cX11_count 72 = .ok (.aload_n 0, 1) := by decide +kernel
theorem dX11_count_73 : decode cX11_count 73 = .ok (.getfield 19, 3) := by decide +kernel
theorem dX11_count_76 : decode cX11_count 76 = .ok (.getfield 124, 3) := by decide +kernel
theorem dX11_count_79 : decode cX11_count 79 = .ok (.getfield 145, 3) := by decide +kernel
theorem dX11_count_82 : decode cX11_count 82 = .ok (.ireturn, 1) := by decide +kernel
theorem dX11_count_83 : decode cX11_count 83 = .ok (.aload_n 0, 1) := by decide +kernel
theorem dX11_count_84 : decode cX11_count 84 = .ok (.getfield 33, 3) := by decide +kernel
theorem dX11_count_87 : decode cX11_count 87 = .ok (.getfield 349, 3) := by decide +kernel
theorem dX11_count_90 : decode cX11_count 90 = .ok (.ireturn, 1) := by decide +kernel
theorem dX11_count_91 : decode cX11_count 91 = .ok (.aload_n 0, 1) := by decide +kernel
theorem dX11_count_92 : decode cX11_count 92 = .ok (.getfield 33, 3) := by decide +kernel
theorem dX11_count_95 : decode cX11_count 95 = .ok (.getfield 226, 3) := by decide +kernel
theorem dX11_count_98 : decode cX11_count 98 = .ok (.ireturn, 1) := by decide +kernel
theorem dX11_count_99 : decode cX11_count 99 = .ok (.aload_n 0, 1) := by decide +kernel
theorem dX11_count_100 : decode cX11_count 100 = .ok (.getfield 33, 3) := by decide +kernel
theorem dX11_count_103 : decode cX11_count 103 = .ok (.getfield 203, 3) := by decide +kernel
theorem dX11_count_106 : decode cX11_count 106 = .ok (.ireturn, 1) := by decide +kernel
theorem dX11_count_107 : decode cX11_count 107 = .ok (.aload_n 0, 1) := by decide +kernel
theorem dX11_count_108 : decode cX11_count 108 = .ok (.getfield 33, 3) := by decide +kernel
theorem dX11_count_111 : decode cX11_count 111 = .ok (.invokevirtual 352, 3) := by decide +kernel
theorem dX11_count_114 : decode cX11_count 114 = .ok (.ireturn, 1) := by decide +kernel
theorem dX11_count_115 : decode cX11_count 115 = .ok (.aload_n 0, 1) := by decide +kernel
theorem dX11_count_116 : decode cX11_count 116 = .ok (.invokevirtual 355, 3) := by decide +kernel
theorem dX11_count_119 : decode cX11_count 119 = .ok (.ireturn, 1) := by decide +kernel
theorem dX11_count_120 : decode cX11_count 120 = .ok (.aload_n 0, 1) := by decide +kernel
theorem dX11_count_121 : decode cX11_count 121 = .ok (.invokevirtual 358, 3) := by decide +kernel
theorem dX11_count_124 : decode cX11_count 124 = .ok (.ireturn, 1) := by decide +kernel
theorem dX11_count_125 : decode cX11_count 125 = .ok (.aload_n 0, 1) := by decide +kernel
theorem dX11_count_126 : decode cX11_count 126 = .ok (.invokevirtual 361, 3) := by decide +kernel
theorem dX11_count_129 : decode cX11_count 129 = .ok (.ireturn, 1) := by decide +kernel
theorem dX11_count_130 : decode cX11_count 130 = .ok (.aload_n 0, 1) := by decide +kernel
theorem dX11_count_131 : decode cX11_count 131 = .ok (.getfield 10, 3) := by decide +kernel
theorem dX11_count_134 : decode cX11_count 134 = .ok (.getfield 86, 3) := by decide +kernel
theorem dX11_count_137 : decode cX11_count 137 = .ok (.ireturn, 1) := by decide +kernel
theorem dX11_count_138 : decode cX11_count 138 = .ok (.aload_n 0, 1) := by decide +kernel
theorem dX11_count_139 : decode cX11_count 139 = .ok (.getfield 61, 3) := by decide +kernel
theorem dX11_count_142 : decode cX11_count 142 = .ok (.getfield 364, 3) := by decide +kernel
theorem dX11_count_145 : decode cX11_count 145 = .ok (.ireturn, 1) := by decide +kernel
theorem dX11_count_146 : decode cX11_count 146 = .ok (.aload_n 0, 1) := by decide +kernel
theorem dX11_count_147 : decode cX11_count 147 = .ok (.getfield 82, 3) := by decide +kernel
theorem dX11_count_150 : decode cX11_count 150 = .ok (.getfield 114, 3) := by decide +kernel
theorem dX11_count_153 : decode cX11_count 153 = .ok (.ireturn, 1) := by decide +kernel
theorem dX11_count_154 : decode cX11_count 154 = .ok (.aload_n 0, 1) := by decide +kernel
theorem dX11_count_155 : decode cX11_count 155 = .ok (.getfield 61, 3) := by decide +kernel
theorem dX11_count_158 : decode cX11_count 158 = .ok (.invokevirtual 367, 3) := by decide +kernel
theorem dX11_count_161 : decode cX11_count 161 = .ok (.ireturn, 1) := by decide +kernel
theorem dX11_count_162 : decode cX11_count 162 = .ok (.aload_n 0, 1) := by decide +kernel
theorem dX11_count_163 : decode cX11_count 163 = .ok (.getfield 33, 3) := by decide +kernel
theorem dX11_count_166 : decode cX11_count 166 = .ok (.invokevirtual 370, 3) := by decide +kernel
theorem dX11_count_169 : decode cX11_count 169 = .ok (.ireturn, 1) := by decide +kernel
theorem dX11_count_170 : decode cX11_count 170 = .ok (.aload_n 0, 1) := by decide +kernel
theorem dX11_count_171 : decode cX11_count 171 = .ok (.getfield 33, 3) := by decide +kernel
theorem dX11_count_174 : decode cX11_count 174 = .ok (.invokevirtual 373, 3) := by decide +kernel
theorem dX11_count_177 : decode cX11_count 177 = .ok (.ireturn, 1) := by decide +kernel
theorem dX11_count_178 : decode cX11_count 178 = .ok (.iconst (-1), 1) := by decide +kernel
theorem dX11_count_179 : decode cX11_count 179 = .ok (.ireturn, 1) := by decide +kernel
def xX11_count : zX := (RX11, cX11_count, 2, (some .int), false, { frames := 23, cells := 0, slots := 0, locals := 642 }, 0, 0, 0, 0)
theorem rmX11_count : z_Rm xX11_count := by unfold z_Rm xX11_count; exact ⟨by decide, by decide⟩
theorem reX11_count : z_Re xX11_count := ⟨rfl, rfl⟩
theorem rlX11_count : 1 ≤ xX11_count.2.2.2.2.2.1.frames ∧ 21 ≤ xX11_count.2.2.2.2.2.1.locals := by unfold xX11_count; exact ⟨by decide, by decide⟩
theorem meX11_count : z_Me yX11_count xX11_count 1 := ⟨wd883, wd275, by decide, by decide, by decide +kernel⟩
theorem fitX11_count_111 : z_Fit xX1_allLengths xX11_count := by unfold z_Fit; simp only [xX1_allLengths, xX11_count]; exact ⟨by decide, by decide⟩
theorem fitX11_count_116 : z_Fit xX11_fairRows xX11_count := by unfold z_Fit; simp only [xX11_fairRows, xX11_count]; exact ⟨by decide, by decide⟩
theorem fitX11_count_121 : z_Fit xX11_allPays xX11_count := by unfold z_Fit; simp only [xX11_allPays, xX11_count]; exact ⟨by decide, by decide⟩
theorem fitX11_count_126 : z_Fit xX11_lastColours xX11_count := by unfold z_Fit; simp only [xX11_lastColours, xX11_count]; exact ⟨by decide, by decide⟩
theorem fitX11_count_158 : z_Fit xX3_slotsHeld xX11_count := by unfold z_Fit; simp only [xX3_slotsHeld, xX11_count]; exact ⟨by decide, by decide⟩
theorem fitX11_count_166 : z_Fit xX1_allColours xX11_count := by unfold z_Fit; simp only [xX1_allColours, xX11_count]; exact ⟨by decide, by decide⟩
theorem fitX11_count_174 : z_Fit xX1_singleRows xX11_count := by unfold z_Fit; simp only [xX1_singleRows, xX11_count]; exact ⟨by decide, by decide⟩
noncomputable def kX11_count_0 : zK zR := (q_iload 1 (q_sw 0 [(q_aload 0 (q_getR 11 1 (q_getR 7 1 (q_getI 5 0 q_iret)))), (q_aload 0 (q_getR 11 4 (q_getI 1 0 q_iret))), (q_aload 0 (q_getR 11 4 (q_getI 1 1 q_iret))), (q_aload 0 (q_getR 11 4 (q_getI 1 2 q_iret))), (q_aload 0 (q_getR 11 4 (q_callV 1 fX1_allLengths 0 q_iret))), (q_aload 0 (q_callV 11 fX11_fairRows 0 q_iret)), (q_aload 0 (q_callV 11 fX11_allPays 0 q_iret)), (q_aload 0 (q_callV 11 fX11_lastColours 0 q_iret)), (q_aload 0 (q_getR 11 0 (q_getI 6 1 q_iret))), (q_aload 0 (q_getR 11 9 (q_getI 3 0 q_iret))), (q_aload 0 (q_getR 11 12 (q_getI 9 0 q_iret))), (q_aload 0 (q_getR 11 9 (q_callV 3 fX3_slotsHeld 0 q_iret))), (q_aload 0 (q_getR 11 4 (q_callV 1 fX1_allColours 0 q_iret))), (q_aload 0 (q_getR 11 4 (q_callV 1 fX1_singleRows 0 q_iret)))] (q_push (-1) q_iret)))
set_option maxRecDepth 100000 in
theorem tX11_count_0 {l : Launch} {D : zD} {B sz0 : Nat} {post : Option Value → zS → Prop} : zSnd l D B xX11_count sz0 post 0 kX11_count_0 (z_Jr post) := (s_iload_n dX11_count_0 rfl (s_swL (tgts := [72, 83, 91, 99, 107, 115, 120, 125, 130, 138, 146, 154, 162, 170]) (td := 178) dX11_count_1 (by decide) (by decide) (by decide) ⟨(s_aload_n dX11_count_72 rfl (s_getR (f := 1) dX11_count_73 clX11 (by decide) rfl wd572 (s_getR (f := 1) dX11_count_76 clX7 (by decide) rfl wd628 (s_getI (f := 0) dX11_count_79 clX5 (by decide) rfl wd629 (s_iret dX11_count_82 rfl))))), ⟨(s_aload_n dX11_count_83 rfl (s_getR (f := 4) dX11_count_84 clX11 (by decide) rfl wd576 (s_getI (f := 0) dX11_count_87 clX1 (by decide) rfl wd636 (s_iret dX11_count_90 rfl)))), ⟨(s_aload_n dX11_count_91 rfl (s_getR (f := 4) dX11_count_92 clX11 (by decide) rfl wd576 (s_getI (f := 1) dX11_count_95 clX1 (by decide) rfl wd711 (s_iret dX11_count_98 rfl)))), ⟨(s_aload_n dX11_count_99 rfl (s_getR (f := 4) dX11_count_100 clX11 (by decide) rfl wd576 (s_getI (f := 2) dX11_count_103 clX1 (by decide) rfl wd698 (s_iret dX11_count_106 rfl)))), ⟨(s_aload_n dX11_count_107 rfl (s_getR (f := 4) dX11_count_108 clX11 (by decide) rfl wd576 (s_callV (r := (RX1, TX1, 5)) dX11_count_111 mX1_allLengths meX1_allLengths wd861 wd862 rfl rfl reX1_allLengths rmX11_count (fitX11_count_111) wd863 (s_iret dX11_count_114 rfl)))), ⟨(s_aload_n dX11_count_115 rfl (s_callV (r := (RX11, TX11, 13)) dX11_count_116 mX11_fairRows meX11_fairRows wd864 wd865 rfl rfl reX11_fairRows rmX11_count (fitX11_count_116) wd866 (s_iret dX11_count_119 rfl))), ⟨(s_aload_n dX11_count_120 rfl (s_callV (r := (RX11, TX11, 13)) dX11_count_121 mX11_allPays meX11_allPays wd867 wd868 rfl rfl reX11_allPays rmX11_count (fitX11_count_121) wd869 (s_iret dX11_count_124 rfl))), ⟨(s_aload_n dX11_count_125 rfl (s_callV (r := (RX11, TX11, 13)) dX11_count_126 mX11_lastColours meX11_lastColours wd870 wd871 rfl rfl reX11_lastColours rmX11_count (fitX11_count_126) wd872 (s_iret dX11_count_129 rfl))), ⟨(s_aload_n dX11_count_130 rfl (s_getR (f := 0) dX11_count_131 clX11 (by decide) rfl wd567 (s_getI (f := 1) dX11_count_134 clX6 (by decide) rfl wd603 (s_iret dX11_count_137 rfl)))), ⟨(s_aload_n dX11_count_138 rfl (s_getR (f := 9) dX11_count_139 clX11 (by decide) rfl wd589 (s_getI (f := 0) dX11_count_142 clX3 (by decide) rfl wd873 (s_iret dX11_count_145 rfl)))), ⟨(s_aload_n dX11_count_146 rfl (s_getR (f := 12) dX11_count_147 clX11 (by decide) rfl wd601 (s_getI (f := 0) dX11_count_150 clX9 (by decide) rfl wd622 (s_iret dX11_count_153 rfl)))), ⟨(s_aload_n dX11_count_154 rfl (s_getR (f := 9) dX11_count_155 clX11 (by decide) rfl wd589 (s_callV (r := (RX3, TX3, 5)) dX11_count_158 mX3_slotsHeld meX3_slotsHeld wd874 wd875 rfl rfl reX3_slotsHeld rmX11_count (fitX11_count_158) wd876 (s_iret dX11_count_161 rfl)))), ⟨(s_aload_n dX11_count_162 rfl (s_getR (f := 4) dX11_count_163 clX11 (by decide) rfl wd576 (s_callV (r := (RX1, TX1, 5)) dX11_count_166 mX1_allColours meX1_allColours wd877 wd878 rfl rfl reX1_allColours rmX11_count (fitX11_count_166) wd879 (s_iret dX11_count_169 rfl)))), ⟨(s_aload_n dX11_count_170 rfl (s_getR (f := 4) dX11_count_171 clX11 (by decide) rfl wd576 (s_callV (r := (RX1, TX1, 5)) dX11_count_174 mX1_singleRows meX1_singleRows wd880 wd881 rfl rfl reX1_singleRows rmX11_count (fitX11_count_174) wd882 (s_iret dX11_count_177 rfl)))), True.intro⟩⟩⟩⟩⟩⟩⟩⟩⟩⟩⟩⟩⟩⟩ (s_iconst dX11_count_178 (by decide) (s_iret dX11_count_179 rfl))))
noncomputable def fX11_count : zF := z_fn 2 kX11_count_0
theorem mX11_count {l : Launch} {D : zD} {B : Nat} : z_MF l D B yX11_count xX11_count fX11_count := z_mf (by decide) rfl (fun h => by cases h) rfl (fun as σ r h => ⟨z_fn_len h, kX11_count_0, z_fn_run h, fun _ => tX11_count_0⟩)
