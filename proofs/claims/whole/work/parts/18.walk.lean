/-! ===== RowChildren$Told.cellIndex ===== -/
theorem dX9_cellIndex_0 : decode cX9_cellIndex 0 = .ok (.iload_n 0, 1) := by decide +kernel
theorem dX9_cellIndex_1 : decode cX9_cellIndex 1 = .ok (.bipush 6, 2) := by decide +kernel
theorem dX9_cellIndex_3 : decode cX9_cellIndex 3 = .ok (.imul, 1) := by decide +kernel
theorem dX9_cellIndex_4 : decode cX9_cellIndex 4 = .ok (.iload_n 1, 1) := by decide +kernel
theorem dX9_cellIndex_5 : decode cX9_cellIndex 5 = .ok (.iadd, 1) := by decide +kernel
theorem dX9_cellIndex_6 : decode cX9_cellIndex 6 = .ok (.iconst 4, 1) := by decide +kernel
theorem dX9_cellIndex_7 : decode cX9_cellIndex 7 = .ok (.imul, 1) := by decide +kernel
theorem dX9_cellIndex_8 : decode cX9_cellIndex 8 = .ok (.ireturn, 1) := by decide +kernel
def xX9_cellIndex : zX := (RX9, cX9_cellIndex, 2, (some .int), false, { frames := 1, cells := 0, slots := 0, locals := 90 }, 0, 0, 0, 0)
theorem rmX9_cellIndex : z_Rm xX9_cellIndex := by unfold z_Rm xX9_cellIndex; exact ⟨by decide, by decide⟩
theorem reX9_cellIndex : z_Re xX9_cellIndex := ⟨rfl, rfl⟩
theorem rlX9_cellIndex : 1 ≤ xX9_cellIndex.2.2.2.2.2.1.frames ∧ 21 ≤ xX9_cellIndex.2.2.2.2.2.1.locals := by unfold xX9_cellIndex; exact ⟨by decide, by decide⟩
theorem meX9_cellIndex : z_Me yX9_cellIndex xX9_cellIndex 2 := ⟨wd522, wd513, by decide, by decide, by decide +kernel⟩
noncomputable def kX9_cellIndex_0 : zK zR := (q_iload 0 (q_push 6 (q_imul (q_iload 1 (q_iadd (q_push 4 (q_imul q_iret)))))))
set_option maxRecDepth 100000 in
theorem tX9_cellIndex_0 {l : Launch} {D : zD} {B sz0 : Nat} {post : Option Value → zS → Prop} : zSnd l D B xX9_cellIndex sz0 post 0 kX9_cellIndex_0 (z_Jr post) := (s_iload_n dX9_cellIndex_0 rfl (s_bipush dX9_cellIndex_1 (by decide) (s_imul dX9_cellIndex_3 (s_iload_n dX9_cellIndex_4 rfl (s_iadd dX9_cellIndex_5 (s_iconst dX9_cellIndex_6 (by decide) (s_imul dX9_cellIndex_7 (s_iret dX9_cellIndex_8 rfl))))))))
noncomputable def fX9_cellIndex : zF := z_fn 2 kX9_cellIndex_0
theorem mX9_cellIndex {l : Launch} {D : zD} {B : Nat} : z_MF l D B yX9_cellIndex xX9_cellIndex fX9_cellIndex := z_mf (by decide) rfl (fun h => by cases h) rfl (fun as σ r h => ⟨z_fn_len h, kX9_cellIndex_0, z_fn_run h, fun _ => tX9_cellIndex_0⟩)
/-! ===== RowChildren$Told.noteRow ===== -/
theorem dX9_noteRow_0 : decode cX9_noteRow 0 = .ok (.aload_n 0, 1) := by decide +kernel
theorem dX9_noteRow_1 : decode cX9_noteRow 1 = .ok (.getfield 39, 3) := by decide +kernel
theorem dX9_noteRow_4 : decode cX9_noteRow 4 = .ok (.ifCond .ne 8, 3) := by decide +kernel
theorem dX9_noteRow_7 : decode cX9_noteRow 7 = .ok (.aload_n 0, 1) := by decide +kernel
theorem dX9_noteRow_8 : decode cX9_noteRow 8 = .ok (.iload_n 1, 1) := by decide +kernel
theorem dX9_noteRow_9 : decode cX9_noteRow 9 = .ok (.putfield 42, 3) := by decide +kernel
theorem dX9_noteRow_12 : decode cX9_noteRow 12 = .ok (.aload_n 0, 1) := by decide +kernel
theorem dX9_noteRow_13 : decode cX9_noteRow 13 = .ok (.dup, 1) := by decide +kernel
theorem dX9_noteRow_14 : decode cX9_noteRow 14 = .ok (.getfield 39, 3) := by decide +kernel
theorem dX9_noteRow_17 : decode cX9_noteRow 17 = .ok (.iconst 1, 1) := by decide +kernel
theorem dX9_noteRow_18 : decode cX9_noteRow 18 = .ok (.iadd, 1) := by decide +kernel
theorem dX9_noteRow_19 : decode cX9_noteRow 19 = .ok (.putfield 39, 3) := by decide +kernel
theorem dX9_noteRow_22 : decode cX9_noteRow 22 = .ok (.iconst 0, 1) := by decide +kernel
theorem dX9_noteRow_23 : decode cX9_noteRow 23 = .ok (.istore_n 2, 1) := by decide +kernel
theorem dX9_noteRow_24 : decode cX9_noteRow 24 = .ok (.iload_n 2, 1) := by decide +kernel
theorem dX9_noteRow_25 : decode cX9_noteRow 25 = .ok (.aload_n 0, 1) := by decide +kernel
theorem dX9_noteRow_26 : decode cX9_noteRow 26 = .ok (.getfield 28, 3) := by decide +kernel
theorem dX9_noteRow_29 : decode cX9_noteRow 29 = .ok (.getfield 78, 3) := by decide +kernel
theorem dX9_noteRow_32 : decode cX9_noteRow 32 = .ok (.if_icmp .ge 54, 3) := by decide +kernel
theorem dX9_noteRow_35 : decode cX9_noteRow 35 = .ok (.iconst 0, 1) := by decide +kernel
theorem dX9_noteRow_36 : decode cX9_noteRow 36 = .ok (.istore_n 3, 1) := by decide +kernel
theorem dX9_noteRow_37 : decode cX9_noteRow 37 = .ok (.iload_n 3, 1) := by decide +kernel
theorem dX9_noteRow_38 : decode cX9_noteRow 38 = .ok (.aload_n 0, 1) := by decide +kernel
theorem dX9_noteRow_39 : decode cX9_noteRow 39 = .ok (.getfield 28, 3) := by decide +kernel
theorem dX9_noteRow_42 : decode cX9_noteRow 42 = .ok (.getfield 78, 3) := by decide +kernel
theorem dX9_noteRow_45 : decode cX9_noteRow 45 = .ok (.iload_n 2, 1) := by decide +kernel
theorem dX9_noteRow_46 : decode cX9_noteRow 46 = .ok (.isub, 1) := by decide +kernel
theorem dX9_noteRow_47 : decode cX9_noteRow 47 = .ok (.if_icmp .ge 33, 3) := by decide +kernel
theorem dX9_noteRow_50 : decode cX9_noteRow 50 = .ok (.aload_n 0, 1) := by decide +kernel
theorem dX9_noteRow_51 : decode cX9_noteRow 51 = .ok (.getfield 32, 3) := by decide +kernel
theorem dX9_noteRow_54 : decode cX9_noteRow 54 = .ok (.iload_n 2, 1) := by decide +kernel
theorem dX9_noteRow_55 : decode cX9_noteRow 55 = .ok (.iload_n 3, 1) := by decide +kernel
theorem dX9_noteRow_56 : decode cX9_noteRow 56 = .ok (.invokestatic 81, 3) := by decide +kernel
theorem dX9_noteRow_59 : decode cX9_noteRow 59 = .ok (.aload_n 0, 1) := by decide +kernel
theorem dX9_noteRow_60 : decode cX9_noteRow 60 = .ok (.getfield 28, 3) := by decide +kernel
theorem dX9_noteRow_63 : decode cX9_noteRow 63 = .ok (.iload_n 2, 1) := by decide +kernel
theorem dX9_noteRow_64 : decode cX9_noteRow 64 = .ok (.iload_n 3, 1) := by decide +kernel
theorem dX9_noteRow_65 : decode cX9_noteRow 65 = .ok (.invokevirtual 75, 3) := by decide +kernel
theorem dX9_noteRow_68 : decode cX9_noteRow 68 = .ok (.iadd, 1) := by decide +kernel
theorem dX9_noteRow_69 : decode cX9_noteRow 69 = .ok (.dup2, 1) := by decide +kernel
theorem dX9_noteRow_70 : decode cX9_noteRow 70 = .ok (.iaload, 1) := by decide +kernel
theorem dX9_noteRow_71 : decode cX9_noteRow 71 = .ok (.iconst 1, 1) := by decide +kernel
theorem dX9_noteRow_72 : decode cX9_noteRow 72 = .ok (.iadd, 1) := by decide +kernel
theorem dX9_noteRow_73 : decode cX9_noteRow 73 = .ok (.iastore, 1) := by decide +kernel
theorem dX9_noteRow_74 : decode cX9_noteRow 74 = .ok (.iinc 3 1, 3) := by decide +kernel
theorem dX9_noteRow_77 : decode cX9_noteRow 77 = .ok (.goto (-40), 3) := by decide +kernel
theorem dX9_noteRow_80 : decode cX9_noteRow 80 = .ok (.iinc 2 1, 3) := by decide +kernel
theorem dX9_noteRow_83 : decode cX9_noteRow 83 = .ok (.goto (-59), 3) := by decide +kernel
theorem dX9_noteRow_86 : decode cX9_noteRow 86 = .ok (.return_, 1) := by decide +kernel
def xX9_noteRow : zX := (RX9, cX9_noteRow, 4, none, false, { frames := 2, cells := 0, slots := 0, locals := 112 }, 0, 0, 0, 0)
theorem rmX9_noteRow : z_Rm xX9_noteRow := by unfold z_Rm xX9_noteRow; exact ⟨by decide, by decide⟩
theorem reX9_noteRow : z_Re xX9_noteRow := ⟨rfl, rfl⟩
theorem rlX9_noteRow : 1 ≤ xX9_noteRow.2.2.2.2.2.1.frames ∧ 21 ≤ xX9_noteRow.2.2.2.2.2.1.locals := by unfold xX9_noteRow; exact ⟨by decide, by decide⟩
theorem meX9_noteRow : z_Me yX9_noteRow xX9_noteRow 1 := ⟨wd528, wd513, by decide, by decide, by decide +kernel⟩
theorem fitX9_noteRow_56 : z_Fit xX9_cellIndex xX9_noteRow := by unfold z_Fit; simp only [xX9_cellIndex, xX9_noteRow]; exact ⟨by decide, by decide⟩
theorem fitX9_noteRow_65 : z_Fit xX10_cell xX9_noteRow := by unfold z_Fit; simp only [xX10_cell, xX9_noteRow]; exact ⟨by decide, by decide⟩
noncomputable def kX9_noteRow_86 : zK zR := q_vret
noncomputable def kX9_noteRow_80 : zK ((zL × zS) ⊕ zR) := (q_iinc 2 1 q_ag)
noncomputable def bX9_noteRow_37 : zK ((zL × zS) ⊕ ((zL × zS) ⊕ zR)) := (q_iload 3 (q_aload 0 (q_getR 9 7 (q_getI 10 0 (q_iload 2 (q_isub (q_icmp_ge (q_dn kX9_noteRow_80) (q_aload 0 (q_getR 9 8 (q_iload 2 (q_iload 3 (q_callS fX9_cellIndex 2 (q_aload 0 (q_getR 9 7 (q_iload 2 (q_iload 3 (q_callV 10 fX10_cell 2 (q_iadd (q_dup2 (q_iald (q_push 1 (q_iadd (q_iast (q_iinc 3 1 q_ag))))))))))))))))))))))))
noncomputable def kX9_noteRow_37 : zK ((zL × zS) ⊕ zR) := q_lp (bX9_noteRow_37)
noncomputable def bX9_noteRow_24 : zK ((zL × zS) ⊕ zR) := (q_iload 2 (q_aload 0 (q_getR 9 7 (q_getI 10 0 (q_icmp_ge (q_dn kX9_noteRow_86) (q_push 0 (q_istore 3 kX9_noteRow_37)))))))
noncomputable def kX9_noteRow_24 : zK zR := q_lp (bX9_noteRow_24)
noncomputable def kX9_noteRow_12 : zK zR := (q_aload 0 (q_dup (q_getI 9 1 (q_push 1 (q_iadd (q_putI 9 1 (q_push 0 (q_istore 2 kX9_noteRow_24))))))))
noncomputable def kX9_noteRow_0 : zK zR := (q_aload 0 (q_getI 9 1 (q_if_ne kX9_noteRow_12 (q_aload 0 (q_iload 1 (q_putI 9 2 kX9_noteRow_12))))))
set_option maxRecDepth 100000 in
theorem tX9_noteRow_86 {l : Launch} {D : zD} {B sz0 : Nat} {post : Option Value → zS → Prop} : zSnd l D B xX9_noteRow sz0 post 86 kX9_noteRow_86 (z_Jr post) := (s_vret dX9_noteRow_86 rfl)
set_option maxRecDepth 100000 in
theorem tX9_noteRow_80 {l : Launch} {D : zD} {B sz0 : Nat} {post : Option Value → zS → Prop} : zSnd l D B xX9_noteRow sz0 post 80 kX9_noteRow_80 (z_Jl l D B xX9_noteRow sz0 post 24 (z_Jr post)) := (s_iinc dX9_noteRow_80 (by decide) (s_goto (tgt := 24) dX9_noteRow_83 (by decide) s_ag))
set_option maxRecDepth 100000 in
theorem tX9_noteRow_37 {l : Launch} {D : zD} {B sz0 : Nat} {post : Option Value → zS → Prop} : zSnd l D B xX9_noteRow sz0 post 37 kX9_noteRow_37 (z_Jl l D B xX9_noteRow sz0 post 24 (z_Jr post)) := s_lp (body := bX9_noteRow_37) (s_iload_n dX9_noteRow_37 rfl (s_aload_n dX9_noteRow_38 rfl (s_getR (f := 7) dX9_noteRow_39 clX9 (by decide) rfl wd510 (s_getI (f := 0) dX9_noteRow_42 clX10 (by decide) rfl wd524 (s_iload_n dX9_noteRow_45 rfl (s_isub dX9_noteRow_46 (s_icmp_ge (tgt := 80) dX9_noteRow_47 (by decide) (s_dn tX9_noteRow_80) (s_aload_n dX9_noteRow_50 rfl (s_getR (f := 8) dX9_noteRow_51 clX9 (by decide) rfl wd511 (s_iload_n dX9_noteRow_54 rfl (s_iload_n dX9_noteRow_55 rfl (s_callS dX9_noteRow_56 mX9_cellIndex meX9_cellIndex wd525 rfl reX9_cellIndex rmX9_noteRow (fitX9_noteRow_56) wd526 (s_aload_n dX9_noteRow_59 rfl (s_getR (f := 7) dX9_noteRow_60 clX9 (by decide) rfl wd510 (s_iload_n dX9_noteRow_63 rfl (s_iload_n dX9_noteRow_64 rfl (s_callV (r := (RX10, TX10, 3)) dX9_noteRow_65 mX10_cell meX10_cell wd23 wd24 rfl rfl reX10_cell rmX9_noteRow (fitX9_noteRow_65) wd520 (s_iadd dX9_noteRow_68 (s_dup2 dX9_noteRow_69 (s_iald dX9_noteRow_70 (s_iconst dX9_noteRow_71 (by decide) (s_iadd dX9_noteRow_72 (s_iast dX9_noteRow_73 (s_iinc dX9_noteRow_74 (by decide) (s_goto (tgt := 37) dX9_noteRow_77 (by decide) s_ag)))))))))))))))))))))))))
set_option maxRecDepth 100000 in
theorem tX9_noteRow_24 {l : Launch} {D : zD} {B sz0 : Nat} {post : Option Value → zS → Prop} : zSnd l D B xX9_noteRow sz0 post 24 kX9_noteRow_24 (z_Jr post) := s_lp (body := bX9_noteRow_24) (s_iload_n dX9_noteRow_24 rfl (s_aload_n dX9_noteRow_25 rfl (s_getR (f := 7) dX9_noteRow_26 clX9 (by decide) rfl wd510 (s_getI (f := 0) dX9_noteRow_29 clX10 (by decide) rfl wd524 (s_icmp_ge (tgt := 86) dX9_noteRow_32 (by decide) (s_dn tX9_noteRow_86) (s_iconst dX9_noteRow_35 (by decide) (s_istore_n dX9_noteRow_36 rfl tX9_noteRow_37)))))))
set_option maxRecDepth 100000 in
theorem tX9_noteRow_12 {l : Launch} {D : zD} {B sz0 : Nat} {post : Option Value → zS → Prop} : zSnd l D B xX9_noteRow sz0 post 12 kX9_noteRow_12 (z_Jr post) := (s_aload_n dX9_noteRow_12 rfl (s_dup dX9_noteRow_13 (s_getI (f := 1) dX9_noteRow_14 clX9 (by decide) rfl wd523 (s_iconst dX9_noteRow_17 (by decide) (s_iadd dX9_noteRow_18 (s_putI (f := 1) dX9_noteRow_19 clX9 (by decide) rfl rfl rfl wd523 (s_iconst dX9_noteRow_22 (by decide) (s_istore_n dX9_noteRow_23 rfl tX9_noteRow_24))))))))
set_option maxRecDepth 100000 in
theorem tX9_noteRow_0 {l : Launch} {D : zD} {B sz0 : Nat} {post : Option Value → zS → Prop} : zSnd l D B xX9_noteRow sz0 post 0 kX9_noteRow_0 (z_Jr post) := (s_aload_n dX9_noteRow_0 rfl (s_getI (f := 1) dX9_noteRow_1 clX9 (by decide) rfl wd523 (s_if_ne (tgt := 12) dX9_noteRow_4 (by decide) tX9_noteRow_12 (s_aload_n dX9_noteRow_7 rfl (s_iload_n dX9_noteRow_8 rfl (s_putI (f := 2) dX9_noteRow_9 clX9 (by decide) rfl rfl rfl wd527 tX9_noteRow_12))))))
noncomputable def fX9_noteRow : zF := z_fn 4 kX9_noteRow_0
theorem mX9_noteRow {l : Launch} {D : zD} {B : Nat} : z_MF l D B yX9_noteRow xX9_noteRow fX9_noteRow := z_mf (by decide) rfl (fun h => by cases h) rfl (fun as σ r h => ⟨z_fn_len h, kX9_noteRow_0, z_fn_run h, fun _ => tX9_noteRow_0⟩)
/-! ===== RowChildren$Told.goThrough ===== -/
theorem dX9_goThrough_0 : decode cX9_goThrough 0 = .ok (.iload 4, 2) := by decide +kernel
theorem dX9_goThrough_2 : decode cX9_goThrough 2 = .ok (.iload_n 3, 1) := by decide +kernel
theorem dX9_goThrough_3 : decode cX9_goThrough 3 = .ok (.if_icmp .lt 18, 3) := by decide +kernel
theorem dX9_goThrough_6 : decode cX9_goThrough 6 = .ok (.aload_n 0, 1) := by decide +kernel
theorem dX9_goThrough_7 : decode cX9_goThrough 7 = .ok (.iload_n 2, 1) := by decide +kernel
theorem dX9_goThrough_8 : decode cX9_goThrough 8 = .ok (.invokevirtual 55, 3) := by decide +kernel
theorem dX9_goThrough_11 : decode cX9_goThrough 11 = .ok (.ifCond .eq 9, 3) := by decide +kernel
theorem dX9_goThrough_14 : decode cX9_goThrough 14 = .ok (.aload_n 0, 1) := by decide +kernel
theorem dX9_goThrough_15 : decode cX9_goThrough 15 = .ok (.iload 5, 2) := by decide +kernel
theorem dX9_goThrough_17 : decode cX9_goThrough 17 = .ok (.invokevirtual 59, 3) := by decide +kernel
theorem dX9_goThrough_20 : decode cX9_goThrough 20 = .ok (.return_, 1) := by decide +kernel
theorem dX9_goThrough_21 : decode cX9_goThrough 21 = .ok (.iconst 0, 1) := by decide +kernel
theorem dX9_goThrough_22 : decode cX9_goThrough 22 = .ok (.istore 6, 2) := by decide +kernel
theorem dX9_goThrough_24 : decode cX9_goThrough 24 = .ok (.iload 6, 2) := by decide +kernel
theorem dX9_goThrough_26 : decode cX9_goThrough 26 = .ok (.aload_n 1, 1) := by decide +kernel
theorem dX9_goThrough_27 : decode cX9_goThrough 27 = .ok (.getfield 63, 3) := by decide +kernel
theorem dX9_goThrough_30 : decode cX9_goThrough 30 = .ok (.if_icmp .ge 42, 3) := by decide +kernel
theorem dX9_goThrough_33 : decode cX9_goThrough 33 = .ok (.aload_n 0, 1) := by decide +kernel
theorem dX9_goThrough_34 : decode cX9_goThrough 34 = .ok (.getfield 28, 3) := by decide +kernel
theorem dX9_goThrough_37 : decode cX9_goThrough 37 = .ok (.aload_n 1, 1) := by decide +kernel
theorem dX9_goThrough_38 : decode cX9_goThrough 38 = .ok (.iload 4, 2) := by decide +kernel
theorem dX9_goThrough_40 : decode cX9_goThrough 40 = .ok (.iload 6, 2) := by decide +kernel
theorem dX9_goThrough_42 : decode cX9_goThrough 42 = .ok (.invokevirtual 67, 3) := by decide +kernel
theorem dX9_goThrough_45 : decode cX9_goThrough 45 = .ok (.aload_n 0, 1) := by decide +kernel
theorem dX9_goThrough_46 : decode cX9_goThrough 46 = .ok (.aload_n 1, 1) := by decide +kernel
theorem dX9_goThrough_47 : decode cX9_goThrough 47 = .ok (.iload_n 2, 1) := by decide +kernel
theorem dX9_goThrough_48 : decode cX9_goThrough 48 = .ok (.iload_n 3, 1) := by decide +kernel
theorem dX9_goThrough_49 : decode cX9_goThrough 49 = .ok (.iload 4, 2) := by decide +kernel
theorem dX9_goThrough_51 : decode cX9_goThrough 51 = .ok (.iconst 1, 1) := by decide +kernel
theorem dX9_goThrough_52 : decode cX9_goThrough 52 = .ok (.iadd, 1) := by decide +kernel
theorem dX9_goThrough_53 : decode cX9_goThrough 53 = .ok (.iload 5, 2) := by decide +kernel
theorem dX9_goThrough_55 : decode cX9_goThrough 55 = .ok (.aload_n 1, 1) := by decide +kernel
theorem dX9_goThrough_56 : decode cX9_goThrough 56 = .ok (.getfield 63, 3) := by decide +kernel
theorem dX9_goThrough_59 : decode cX9_goThrough 59 = .ok (.imul, 1) := by decide +kernel
theorem dX9_goThrough_60 : decode cX9_goThrough 60 = .ok (.iload 6, 2) := by decide +kernel
theorem dX9_goThrough_62 : decode cX9_goThrough 62 = .ok (.iadd, 1) := by decide +kernel
theorem dX9_goThrough_63 : decode cX9_goThrough 63 = .ok (.invokestatic 51, 3) := by decide +kernel
theorem dX9_goThrough_66 : decode cX9_goThrough 66 = .ok (.iinc 6 1, 3) := by decide +kernel
theorem dX9_goThrough_69 : decode cX9_goThrough 69 = .ok (.goto (-45), 3) := by decide +kernel
theorem dX9_goThrough_72 : decode cX9_goThrough 72 = .ok (.return_, 1) := by decide +kernel
def xX9_goThrough (d : Nat) : zX := (RX9, cX9_goThrough, 7, none, false, { frames := 3 + 1 * d, cells := 0, slots := 0, locals := 135 + 26 * d }, 0, 0, 0, 0)
theorem rmX9_goThrough (d : Nat) : z_Rm (xX9_goThrough d) := by unfold z_Rm xX9_goThrough; exact ⟨by simp, by simp⟩
theorem reX9_goThrough (d : Nat) : z_Re (xX9_goThrough d) := ⟨rfl, rfl⟩
theorem rlX9_goThrough (d : Nat) : 1 ≤ (xX9_goThrough d).2.2.2.2.2.1.frames ∧ 21 ≤ (xX9_goThrough d).2.2.2.2.2.1.locals := by unfold xX9_goThrough; exact ⟨by simp; try omega, by simp; try omega⟩
theorem meX9_goThrough (d : Nat) : z_Me yX9_goThrough (xX9_goThrough d) 6 := ⟨wd539, wd513, by decide, by decide, by decide +kernel⟩
theorem fitX9_goThrough_42 (d : Nat) : z_Fit xX10_put (xX9_goThrough (d + 1)) := by unfold z_Fit; simp only [xX10_put, xX9_goThrough]; exact ⟨by omega, by omega⟩
theorem fitX9_goThrough_63 (d : Nat) : z_Fit (xX9_goThrough d) (xX9_goThrough (d + 1)) := by unfold z_Fit; simp only [xX9_goThrough, xX9_goThrough]; exact ⟨by omega, by omega⟩
theorem fitX9_goThrough_8 (d : Nat) : z_Fit xX9_isFit (xX9_goThrough (d + 1)) := by unfold z_Fit; simp only [xX9_isFit, xX9_goThrough]; exact ⟨by omega, by omega⟩
theorem fitX9_goThrough_17 (d : Nat) : z_Fit xX9_noteRow (xX9_goThrough (d + 1)) := by unfold z_Fit; simp only [xX9_noteRow, xX9_goThrough]; exact ⟨by omega, by omega⟩
noncomputable def kX9_goThrough_72 (g : zF) : zK zR := q_vret
noncomputable def bX9_goThrough_24 (g : zF) : zK ((zL × zS) ⊕ zR) := (q_iload 6 (q_aload 1 (q_getI 5 0 (q_icmp_ge (q_dn (kX9_goThrough_72 g)) (q_aload 0 (q_getR 9 7 (q_aload 1 (q_iload 4 (q_iload 6 (q_callV 10 fX10_put 3 (q_aload 0 (q_aload 1 (q_iload 2 (q_iload 3 (q_iload 4 (q_push 1 (q_iadd (q_iload 5 (q_aload 1 (q_getI 5 0 (q_imul (q_iload 6 (q_iadd (q_callS g 6 (q_iinc 6 1 q_ag)))))))))))))))))))))))))
noncomputable def kX9_goThrough_24 (g : zF) : zK zR := q_lp (bX9_goThrough_24 g)
noncomputable def kX9_goThrough_20 (g : zF) : zK zR := q_vret
noncomputable def kX9_goThrough_0 (g : zF) : zK zR := (q_iload 4 (q_iload 3 (q_icmp_lt (q_push 0 (q_istore 6 (kX9_goThrough_24 g))) (q_aload 0 (q_iload 2 (q_callV 9 fX9_isFit 1 (q_if_eq (kX9_goThrough_20 g) (q_aload 0 (q_iload 5 (q_callV 9 fX9_noteRow 1 (kX9_goThrough_20 g)))))))))))
set_option maxRecDepth 100000 in
theorem tX9_goThrough_72 (d : Nat) {g : zF} {l : Launch} {D : zD} {B sz0 : Nat} {post : Option Value → zS → Prop} (hg : z_MF l D B yX9_goThrough (xX9_goThrough d) g) : zSnd l D B (xX9_goThrough (d + 1)) sz0 post 72 (kX9_goThrough_72 g) (z_Jr post) := (s_vret dX9_goThrough_72 rfl)
set_option maxRecDepth 100000 in
theorem tX9_goThrough_24 (d : Nat) {g : zF} {l : Launch} {D : zD} {B sz0 : Nat} {post : Option Value → zS → Prop} (hg : z_MF l D B yX9_goThrough (xX9_goThrough d) g) : zSnd l D B (xX9_goThrough (d + 1)) sz0 post 24 (kX9_goThrough_24 g) (z_Jr post) := s_lp (body := bX9_goThrough_24 g) (s_iload dX9_goThrough_24 (s_aload_n dX9_goThrough_26 rfl (s_getI (f := 0) dX9_goThrough_27 clX5 (by decide) rfl wd529 (s_icmp_ge (tgt := 72) dX9_goThrough_30 (by decide) (s_dn (tX9_goThrough_72 d hg)) (s_aload_n dX9_goThrough_33 rfl (s_getR (f := 7) dX9_goThrough_34 clX9 (by decide) rfl wd510 (s_aload_n dX9_goThrough_37 rfl (s_iload dX9_goThrough_38 (s_iload dX9_goThrough_40 (s_callV (r := (RX10, TX10, 3)) dX9_goThrough_42 mX10_put meX10_put wd34 wd35 rfl rfl reX10_put (rmX9_goThrough (d + 1)) (fitX9_goThrough_42 d) wd530 (s_aload_n dX9_goThrough_45 rfl (s_aload_n dX9_goThrough_46 rfl (s_iload_n dX9_goThrough_47 rfl (s_iload_n dX9_goThrough_48 rfl (s_iload dX9_goThrough_49 (s_iconst dX9_goThrough_51 (by decide) (s_iadd dX9_goThrough_52 (s_iload dX9_goThrough_53 (s_aload_n dX9_goThrough_55 rfl (s_getI (f := 0) dX9_goThrough_56 clX5 (by decide) rfl wd529 (s_imul dX9_goThrough_59 (s_iload dX9_goThrough_60 (s_iadd dX9_goThrough_62 (s_callS dX9_goThrough_63 hg (meX9_goThrough d) wd531 rfl (reX9_goThrough d) (rmX9_goThrough (d + 1)) (fitX9_goThrough_63 d) wd532 (s_iinc dX9_goThrough_66 (by decide) (s_goto (tgt := 24) dX9_goThrough_69 (by decide) s_ag))))))))))))))))))))))))))
set_option maxRecDepth 100000 in
theorem tX9_goThrough_20 (d : Nat) {g : zF} {l : Launch} {D : zD} {B sz0 : Nat} {post : Option Value → zS → Prop} (hg : z_MF l D B yX9_goThrough (xX9_goThrough d) g) : zSnd l D B (xX9_goThrough (d + 1)) sz0 post 20 (kX9_goThrough_20 g) (z_Jr post) := (s_vret dX9_goThrough_20 rfl)
set_option maxRecDepth 100000 in
theorem tX9_goThrough_0 (d : Nat) {g : zF} {l : Launch} {D : zD} {B sz0 : Nat} {post : Option Value → zS → Prop} (hg : z_MF l D B yX9_goThrough (xX9_goThrough d) g) : zSnd l D B (xX9_goThrough (d + 1)) sz0 post 0 (kX9_goThrough_0 g) (z_Jr post) := (s_iload dX9_goThrough_0 (s_iload_n dX9_goThrough_2 rfl (s_icmp_lt (tgt := 21) dX9_goThrough_3 (by decide) (s_iconst dX9_goThrough_21 (by decide) (s_istore dX9_goThrough_22 (tX9_goThrough_24 d hg))) (s_aload_n dX9_goThrough_6 rfl (s_iload_n dX9_goThrough_7 rfl (s_callV (r := (RX9, TX9, 9)) dX9_goThrough_8 mX9_isFit meX9_isFit wd533 wd534 rfl rfl reX9_isFit (rmX9_goThrough (d + 1)) (fitX9_goThrough_8 d) wd535 (s_if_eq (tgt := 20) dX9_goThrough_11 (by decide) (tX9_goThrough_20 d hg) (s_aload_n dX9_goThrough_14 rfl (s_iload dX9_goThrough_15 (s_callV (r := (RX9, TX9, 9)) dX9_goThrough_17 mX9_noteRow meX9_noteRow wd536 wd537 rfl rfl reX9_noteRow (rmX9_goThrough (d + 1)) (fitX9_goThrough_17 d) wd538 (tX9_goThrough_20 d hg)))))))))))
noncomputable def fX9_goThrough : Nat → zF
  | 0 => fun _ _ => none
  | d + 1 => z_fn 7 (kX9_goThrough_0 (fX9_goThrough d))
theorem mX9_goThrough {l : Launch} {D : zD} {B : Nat} : ∀ d : Nat, z_MF l D B yX9_goThrough (xX9_goThrough d) (fX9_goThrough d)
  | 0 => fun _ _ _ h => by cases h
  | d + 1 => z_mf (by decide) rfl (fun h => by cases h) rfl (fun as σ r h => ⟨z_fn_len (k := kX9_goThrough_0 (fX9_goThrough d)) h, kX9_goThrough_0 (fX9_goThrough d), z_fn_run (k := kX9_goThrough_0 (fX9_goThrough d)) h, fun _ => tX9_goThrough_0 d (mX9_goThrough d)⟩)
/-! ===== RowChildren$Told.findFits ===== -/
theorem dX9_findFits_0 : decode cX9_findFits 0 = .ok (.aload_n 0, 1) := by decide +kernel
theorem dX9_findFits_1 : decode cX9_findFits 1 = .ok (.iconst 0, 1) := by decide +kernel
theorem dX9_findFits_2 : decode cX9_findFits 2 = .ok (.putfield 39, 3) := by decide +kernel
theorem dX9_findFits_5 : decode cX9_findFits 5 = .ok (.aload_n 0, 1) := by decide +kernel
theorem dX9_findFits_6 : decode cX9_findFits 6 = .ok (.bipush (-2), 2) := by decide +kernel
theorem dX9_findFits_8 : decode cX9_findFits 8 = .ok (.putfield 42, 3) := by decide +kernel
theorem dX9_findFits_11 : decode cX9_findFits 11 = .ok (.iconst 0, 1) := by decide +kernel
theorem dX9_findFits_12 : decode cX9_findFits 12 = .ok (.istore 4, 2) := by decide +kernel
theorem dX9_findFits_14 : decode cX9_findFits 14 = .ok (.iload 4, 2) := by decide +kernel
theorem dX9_findFits_16 : decode cX9_findFits 16 = .ok (.aload_n 0, 1) := by decide +kernel
theorem dX9_findFits_17 : decode cX9_findFits 17 = .ok (.getfield 32, 3) := by decide +kernel
theorem dX9_findFits_20 : decode cX9_findFits 20 = .ok (.arraylength, 1) := by decide +kernel
theorem dX9_findFits_21 : decode cX9_findFits 21 = .ok (.if_icmp .ge 17, 3) := by decide +kernel
theorem dX9_findFits_24 : decode cX9_findFits 24 = .ok (.aload_n 0, 1) := by decide +kernel
theorem dX9_findFits_25 : decode cX9_findFits 25 = .ok (.getfield 32, 3) := by decide +kernel
theorem dX9_findFits_28 : decode cX9_findFits 28 = .ok (.iload 4, 2) := by decide +kernel
theorem dX9_findFits_30 : decode cX9_findFits 30 = .ok (.iconst 0, 1) := by decide +kernel
theorem dX9_findFits_31 : decode cX9_findFits 31 = .ok (.iastore, 1) := by decide +kernel
theorem dX9_findFits_32 : decode cX9_findFits 32 = .ok (.iinc 4 1, 3) := by decide +kernel
theorem dX9_findFits_35 : decode cX9_findFits 35 = .ok (.goto (-21), 3) := by decide +kernel
theorem dX9_findFits_38 : decode cX9_findFits 38 = .ok (.aload_n 0, 1) := by decide +kernel
theorem dX9_findFits_39 : decode cX9_findFits 39 = .ok (.aload_n 1, 1) := by decide +kernel
theorem dX9_findFits_40 : decode cX9_findFits 40 = .ok (.iload_n 2, 1) := by decide +kernel
theorem dX9_findFits_41 : decode cX9_findFits 41 = .ok (.aload_n 0, 1) := by decide +kernel
theorem dX9_findFits_42 : decode cX9_findFits 42 = .ok (.getfield 35, 3) := by decide +kernel
theorem dX9_findFits_45 : decode cX9_findFits 45 = .ok (.invokestatic 45, 3) := by decide +kernel
theorem dX9_findFits_48 : decode cX9_findFits 48 = .ok (.iload_n 3, 1) := by decide +kernel
theorem dX9_findFits_49 : decode cX9_findFits 49 = .ok (.bipush 6, 2) := by decide +kernel
theorem dX9_findFits_51 : decode cX9_findFits 51 = .ok (.invokestatic 45, 3) := by decide +kernel
theorem dX9_findFits_54 : decode cX9_findFits 54 = .ok (.iconst 0, 1) := by decide +kernel
theorem dX9_findFits_55 : decode cX9_findFits 55 = .ok (.iconst 0, 1) := by decide +kernel
theorem dX9_findFits_56 : decode cX9_findFits 56 = .ok (.invokestatic 51, 3) := by decide +kernel
theorem dX9_findFits_59 : decode cX9_findFits 59 = .ok (.return_, 1) := by decide +kernel
def xX9_findFits : zX := (RX9, cX9_findFits, 5, none, false, { frames := 14, cells := 0, slots := 0, locals := 421 }, 0, 0, 0, 0)
theorem rmX9_findFits : z_Rm xX9_findFits := by unfold z_Rm xX9_findFits; exact ⟨by decide, by decide⟩
theorem reX9_findFits : z_Re xX9_findFits := ⟨rfl, rfl⟩
theorem rlX9_findFits : 1 ≤ xX9_findFits.2.2.2.2.2.1.frames ∧ 21 ≤ xX9_findFits.2.2.2.2.2.1.locals := by unfold xX9_findFits; exact ⟨by decide, by decide⟩
theorem meX9_findFits : z_Me yX9_findFits xX9_findFits 3 := ⟨wd541, wd513, by decide, by decide, by decide +kernel⟩
theorem fitX9_findFits_56 : z_Fit (xX9_goThrough 10) xX9_findFits := by unfold z_Fit; simp only [xX9_goThrough, xX9_findFits]; exact ⟨by decide, by decide⟩
noncomputable def kX9_findFits_38 : zK zR := (q_aload 0 (q_aload 1 (q_iload 2 (q_aload 0 (q_getI 9 0 (q_mmin (q_iload 3 (q_push 6 (q_mmin (q_push 0 (q_push 0 (q_callS (fX9_goThrough 10) 6 q_vret))))))))))))
noncomputable def bX9_findFits_14 : zK ((zL × zS) ⊕ zR) := (q_iload 4 (q_aload 0 (q_getR 9 8 (q_alen (q_icmp_ge (q_dn kX9_findFits_38) (q_aload 0 (q_getR 9 8 (q_iload 4 (q_push 0 (q_iast (q_iinc 4 1 q_ag)))))))))))
noncomputable def kX9_findFits_14 : zK zR := q_lp (bX9_findFits_14)
noncomputable def kX9_findFits_0 : zK zR := (q_aload 0 (q_push 0 (q_putI 9 1 (q_aload 0 (q_push (-2) (q_putI 9 2 (q_push 0 (q_istore 4 kX9_findFits_14))))))))
set_option maxRecDepth 100000 in
theorem tX9_findFits_38 {l : Launch} {D : zD} {B sz0 : Nat} {post : Option Value → zS → Prop} : zSnd l D B xX9_findFits sz0 post 38 kX9_findFits_38 (z_Jr post) := (s_aload_n dX9_findFits_38 rfl (s_aload_n dX9_findFits_39 rfl (s_iload_n dX9_findFits_40 rfl (s_aload_n dX9_findFits_41 rfl (s_getI (f := 0) dX9_findFits_42 clX9 (by decide) rfl wd514 (s_mmin dX9_findFits_45 wd540 wd148 wd149 wd150 (rlX9_findFits) rmX9_findFits (s_iload_n dX9_findFits_48 rfl (s_bipush dX9_findFits_49 (by decide) (s_mmin dX9_findFits_51 wd540 wd148 wd149 wd150 (rlX9_findFits) rmX9_findFits (s_iconst dX9_findFits_54 (by decide) (s_iconst dX9_findFits_55 (by decide) (s_callS dX9_findFits_56 (mX9_goThrough 10) (meX9_goThrough 10) wd531 rfl (reX9_goThrough 10) rmX9_findFits (fitX9_findFits_56) wd532 (s_vret dX9_findFits_59 rfl)))))))))))))
set_option maxRecDepth 100000 in
theorem tX9_findFits_14 {l : Launch} {D : zD} {B sz0 : Nat} {post : Option Value → zS → Prop} : zSnd l D B xX9_findFits sz0 post 14 kX9_findFits_14 (z_Jr post) := s_lp (body := bX9_findFits_14) (s_iload dX9_findFits_14 (s_aload_n dX9_findFits_16 rfl (s_getR (f := 8) dX9_findFits_17 clX9 (by decide) rfl wd511 (s_alen dX9_findFits_20 (s_icmp_ge (tgt := 38) dX9_findFits_21 (by decide) (s_dn tX9_findFits_38) (s_aload_n dX9_findFits_24 rfl (s_getR (f := 8) dX9_findFits_25 clX9 (by decide) rfl wd511 (s_iload dX9_findFits_28 (s_iconst dX9_findFits_30 (by decide) (s_iast dX9_findFits_31 (s_iinc dX9_findFits_32 (by decide) (s_goto (tgt := 14) dX9_findFits_35 (by decide) s_ag))))))))))))
set_option maxRecDepth 100000 in
theorem tX9_findFits_0 {l : Launch} {D : zD} {B sz0 : Nat} {post : Option Value → zS → Prop} : zSnd l D B xX9_findFits sz0 post 0 kX9_findFits_0 (z_Jr post) := (s_aload_n dX9_findFits_0 rfl (s_iconst dX9_findFits_1 (by decide) (s_putI (f := 1) dX9_findFits_2 clX9 (by decide) rfl rfl rfl wd523 (s_aload_n dX9_findFits_5 rfl (s_bipush dX9_findFits_6 (by decide) (s_putI (f := 2) dX9_findFits_8 clX9 (by decide) rfl rfl rfl wd527 (s_iconst dX9_findFits_11 (by decide) (s_istore dX9_findFits_12 tX9_findFits_14))))))))
noncomputable def fX9_findFits : zF := z_fn 5 kX9_findFits_0
theorem mX9_findFits {l : Launch} {D : zD} {B : Nat} : z_MF l D B yX9_findFits xX9_findFits fX9_findFits := z_mf (by decide) rfl (fun h => by cases h) rfl (fun as σ r h => ⟨z_fn_len h, kX9_findFits_0, z_fn_run h, fun _ => tX9_findFits_0⟩)
/-! ===== RowChildren$Told.mostLeft ===== -/
theorem dX9_mostLeft_0 : decode cX9_mostLeft 0 = .ok (.iconst 0, 1) := by decide +kernel
theorem dX9_mostLeft_1 : decode cX9_mostLeft 1 = .ok (.istore_n 3, 1) := by decide +kernel
theorem dX9_mostLeft_2 : decode cX9_mostLeft 2 = .ok (.iconst 0, 1) := by decide +kernel
theorem dX9_mostLeft_3 : decode cX9_mostLeft 3 = .ok (.istore 4, 2) := by decide +kernel
theorem dX9_mostLeft_5 : decode cX9_mostLeft 5 = .ok (.iload 4, 2) := by decide +kernel
theorem dX9_mostLeft_7 : decode cX9_mostLeft 7 = .ok (.iconst 4, 1) := by decide +kernel
theorem dX9_mostLeft_8 : decode cX9_mostLeft 8 = .ok (.if_icmp .ge 27, 3) := by decide +kernel
theorem dX9_mostLeft_11 : decode cX9_mostLeft 11 = .ok (.iload_n 3, 1) := by decide +kernel
theorem dX9_mostLeft_12 : decode cX9_mostLeft 12 = .ok (.aload_n 0, 1) := by decide +kernel
theorem dX9_mostLeft_13 : decode cX9_mostLeft 13 = .ok (.getfield 32, 3) := by decide +kernel
theorem dX9_mostLeft_16 : decode cX9_mostLeft 16 = .ok (.iload_n 1, 1) := by decide +kernel
theorem dX9_mostLeft_17 : decode cX9_mostLeft 17 = .ok (.iload_n 2, 1) := by decide +kernel
theorem dX9_mostLeft_18 : decode cX9_mostLeft 18 = .ok (.invokestatic 81, 3) := by decide +kernel
theorem dX9_mostLeft_21 : decode cX9_mostLeft 21 = .ok (.iload 4, 2) := by decide +kernel
theorem dX9_mostLeft_23 : decode cX9_mostLeft 23 = .ok (.iadd, 1) := by decide +kernel
theorem dX9_mostLeft_24 : decode cX9_mostLeft 24 = .ok (.iaload, 1) := by decide +kernel
theorem dX9_mostLeft_25 : decode cX9_mostLeft 25 = .ok (.invokestatic 88, 3) := by decide +kernel
theorem dX9_mostLeft_28 : decode cX9_mostLeft 28 = .ok (.istore_n 3, 1) := by decide +kernel
theorem dX9_mostLeft_29 : decode cX9_mostLeft 29 = .ok (.iinc 4 1, 3) := by decide +kernel
theorem dX9_mostLeft_32 : decode cX9_mostLeft 32 = .ok (.goto (-27), 3) := by decide +kernel
theorem dX9_mostLeft_35 : decode cX9_mostLeft 35 = .ok (.iload_n 3, 1) := by decide +kernel
theorem dX9_mostLeft_36 : decode cX9_mostLeft 36 = .ok (.ireturn, 1) := by decide +kernel
def xX9_mostLeft : zX := (RX9, cX9_mostLeft, 5, (some .int), false, { frames := 2, cells := 0, slots := 0, locals := 111 }, 0, 0, 0, 0)
theorem rmX9_mostLeft : z_Rm xX9_mostLeft := by unfold z_Rm xX9_mostLeft; exact ⟨by decide, by decide⟩
theorem reX9_mostLeft : z_Re xX9_mostLeft := ⟨rfl, rfl⟩
theorem rlX9_mostLeft : 1 ≤ xX9_mostLeft.2.2.2.2.2.1.frames ∧ 21 ≤ xX9_mostLeft.2.2.2.2.2.1.locals := by unfold xX9_mostLeft; exact ⟨by decide, by decide⟩
theorem meX9_mostLeft : z_Me yX9_mostLeft xX9_mostLeft 2 := ⟨wd543, wd513, by decide, by decide, by decide +kernel⟩
theorem fitX9_mostLeft_18 : z_Fit xX9_cellIndex xX9_mostLeft := by unfold z_Fit; simp only [xX9_cellIndex, xX9_mostLeft]; exact ⟨by decide, by decide⟩
noncomputable def kX9_mostLeft_35 : zK zR := (q_iload 3 q_iret)
noncomputable def bX9_mostLeft_5 : zK ((zL × zS) ⊕ zR) := (q_iload 4 (q_push 4 (q_icmp_ge (q_dn kX9_mostLeft_35) (q_iload 3 (q_aload 0 (q_getR 9 8 (q_iload 1 (q_iload 2 (q_callS fX9_cellIndex 2 (q_iload 4 (q_iadd (q_iald (q_mmax (q_istore 3 (q_iinc 4 1 q_ag)))))))))))))))
noncomputable def kX9_mostLeft_5 : zK zR := q_lp (bX9_mostLeft_5)
noncomputable def kX9_mostLeft_0 : zK zR := (q_push 0 (q_istore 3 (q_push 0 (q_istore 4 kX9_mostLeft_5))))
set_option maxRecDepth 100000 in
theorem tX9_mostLeft_35 {l : Launch} {D : zD} {B sz0 : Nat} {post : Option Value → zS → Prop} : zSnd l D B xX9_mostLeft sz0 post 35 kX9_mostLeft_35 (z_Jr post) := (s_iload_n dX9_mostLeft_35 rfl (s_iret dX9_mostLeft_36 rfl))
set_option maxRecDepth 100000 in
theorem tX9_mostLeft_5 {l : Launch} {D : zD} {B sz0 : Nat} {post : Option Value → zS → Prop} : zSnd l D B xX9_mostLeft sz0 post 5 kX9_mostLeft_5 (z_Jr post) := s_lp (body := bX9_mostLeft_5) (s_iload dX9_mostLeft_5 (s_iconst dX9_mostLeft_7 (by decide) (s_icmp_ge (tgt := 35) dX9_mostLeft_8 (by decide) (s_dn tX9_mostLeft_35) (s_iload_n dX9_mostLeft_11 rfl (s_aload_n dX9_mostLeft_12 rfl (s_getR (f := 8) dX9_mostLeft_13 clX9 (by decide) rfl wd511 (s_iload_n dX9_mostLeft_16 rfl (s_iload_n dX9_mostLeft_17 rfl (s_callS dX9_mostLeft_18 mX9_cellIndex meX9_cellIndex wd525 rfl reX9_cellIndex rmX9_mostLeft (fitX9_mostLeft_18) wd526 (s_iload dX9_mostLeft_21 (s_iadd dX9_mostLeft_23 (s_iald dX9_mostLeft_24 (s_mmax dX9_mostLeft_25 wd542 wd152 wd149 wd153 (rlX9_mostLeft) rmX9_mostLeft (s_istore_n dX9_mostLeft_28 rfl (s_iinc dX9_mostLeft_29 (by decide) (s_goto (tgt := 5) dX9_mostLeft_32 (by decide) s_ag))))))))))))))))
set_option maxRecDepth 100000 in
theorem tX9_mostLeft_0 {l : Launch} {D : zD} {B sz0 : Nat} {post : Option Value → zS → Prop} : zSnd l D B xX9_mostLeft sz0 post 0 kX9_mostLeft_0 (z_Jr post) := (s_iconst dX9_mostLeft_0 (by decide) (s_istore_n dX9_mostLeft_1 rfl (s_iconst dX9_mostLeft_2 (by decide) (s_istore dX9_mostLeft_3 tX9_mostLeft_5))))
noncomputable def fX9_mostLeft : zF := z_fn 5 kX9_mostLeft_0
theorem mX9_mostLeft {l : Launch} {D : zD} {B : Nat} : z_MF l D B yX9_mostLeft xX9_mostLeft fX9_mostLeft := z_mf (by decide) rfl (fun h => by cases h) rfl (fun as σ r h => ⟨z_fn_len h, kX9_mostLeft_0, z_fn_run h, fun _ => tX9_mostLeft_0⟩)
/-! ===== RowChildren$Told.bestLook ===== -/
theorem dX9_bestLook_0 : decode cX9_bestLook 0 = .ok (.iconst (-1), 1) := by decide +kernel
theorem dX9_bestLook_1 : decode cX9_bestLook 1 = .ok (.istore_n 2, 1) := by decide +kernel
theorem dX9_bestLook_2 : decode cX9_bestLook 2 = .ok (.ldc 84, 2) := by decide +kernel
theorem dX9_bestLook_4 : decode cX9_bestLook 4 = .ok (.istore_n 3, 1) := by decide +kernel
theorem dX9_bestLook_5 : decode cX9_bestLook 5 = .ok (.iconst 0, 1) := by decide +kernel
theorem dX9_bestLook_6 : decode cX9_bestLook 6 = .ok (.istore 4, 2) := by decide +kernel
theorem dX9_bestLook_8 : decode cX9_bestLook 8 = .ok (.iload 4, 2) := by decide +kernel
theorem dX9_bestLook_10 : decode cX9_bestLook 10 = .ok (.iload_n 1, 1) := by decide +kernel
theorem dX9_bestLook_11 : decode cX9_bestLook 11 = .ok (.if_icmp .ge 55, 3) := by decide +kernel
theorem dX9_bestLook_14 : decode cX9_bestLook 14 = .ok (.iconst 0, 1) := by decide +kernel
theorem dX9_bestLook_15 : decode cX9_bestLook 15 = .ok (.istore 5, 2) := by decide +kernel
theorem dX9_bestLook_17 : decode cX9_bestLook 17 = .ok (.iload 5, 2) := by decide +kernel
theorem dX9_bestLook_19 : decode cX9_bestLook 19 = .ok (.iload_n 1, 1) := by decide +kernel
theorem dX9_bestLook_20 : decode cX9_bestLook 20 = .ok (.iload 4, 2) := by decide +kernel
theorem dX9_bestLook_22 : decode cX9_bestLook 22 = .ok (.isub, 1) := by decide +kernel
theorem dX9_bestLook_23 : decode cX9_bestLook 23 = .ok (.if_icmp .ge 37, 3) := by decide +kernel
theorem dX9_bestLook_26 : decode cX9_bestLook 26 = .ok (.aload_n 0, 1) := by decide +kernel
theorem dX9_bestLook_27 : decode cX9_bestLook 27 = .ok (.iload 4, 2) := by decide +kernel
theorem dX9_bestLook_29 : decode cX9_bestLook 29 = .ok (.iload 5, 2) := by decide +kernel
theorem dX9_bestLook_31 : decode cX9_bestLook 31 = .ok (.invokevirtual 85, 3) := by decide +kernel
theorem dX9_bestLook_34 : decode cX9_bestLook 34 = .ok (.istore 6, 2) := by decide +kernel
theorem dX9_bestLook_36 : decode cX9_bestLook 36 = .ok (.iload 6, 2) := by decide +kernel
theorem dX9_bestLook_38 : decode cX9_bestLook 38 = .ok (.iload_n 3, 1) := by decide +kernel
theorem dX9_bestLook_39 : decode cX9_bestLook 39 = .ok (.if_icmp .ge 15, 3) := by decide +kernel
theorem dX9_bestLook_42 : decode cX9_bestLook 42 = .ok (.iload 6, 2) := by decide +kernel
theorem dX9_bestLook_44 : decode cX9_bestLook 44 = .ok (.istore_n 3, 1) := by decide +kernel
theorem dX9_bestLook_45 : decode cX9_bestLook 45 = .ok (.bipush 10, 2) := by decide +kernel
theorem dX9_bestLook_47 : decode cX9_bestLook 47 = .ok (.iload 4, 2) := by decide +kernel
theorem dX9_bestLook_49 : decode cX9_bestLook 49 = .ok (.imul, 1) := by decide +kernel
theorem dX9_bestLook_50 : decode cX9_bestLook 50 = .ok (.iload 5, 2) := by decide +kernel
theorem dX9_bestLook_52 : decode cX9_bestLook 52 = .ok (.iadd, 1) := by decide +kernel
theorem dX9_bestLook_53 : decode cX9_bestLook 53 = .ok (.istore_n 2, 1) := by decide +kernel
theorem dX9_bestLook_54 : decode cX9_bestLook 54 = .ok (.iinc 5 1, 3) := by decide +kernel
theorem dX9_bestLook_57 : decode cX9_bestLook 57 = .ok (.goto (-40), 3) := by decide +kernel
theorem dX9_bestLook_60 : decode cX9_bestLook 60 = .ok (.iinc 4 1, 3) := by decide +kernel
theorem dX9_bestLook_63 : decode cX9_bestLook 63 = .ok (.goto (-55), 3) := by decide +kernel
theorem dX9_bestLook_66 : decode cX9_bestLook 66 = .ok (.iload_n 2, 1) := by decide +kernel
theorem dX9_bestLook_67 : decode cX9_bestLook 67 = .ok (.ireturn, 1) := by decide +kernel
def xX9_bestLook : zX := (RX9, cX9_bestLook, 7, (some .int), false, { frames := 3, cells := 0, slots := 0, locals := 135 }, 0, 0, 0, 0)
theorem rmX9_bestLook : z_Rm xX9_bestLook := by unfold z_Rm xX9_bestLook; exact ⟨by decide, by decide⟩
theorem reX9_bestLook : z_Re xX9_bestLook := ⟨rfl, rfl⟩
theorem rlX9_bestLook : 1 ≤ xX9_bestLook.2.2.2.2.2.1.frames ∧ 21 ≤ xX9_bestLook.2.2.2.2.2.1.locals := by unfold xX9_bestLook; exact ⟨by decide, by decide⟩
theorem meX9_bestLook : z_Me yX9_bestLook xX9_bestLook 1 := ⟨wd548, wd513, by decide, by decide, by decide +kernel⟩
theorem fitX9_bestLook_31 : z_Fit xX9_mostLeft xX9_bestLook := by unfold z_Fit; simp only [xX9_mostLeft, xX9_bestLook]; exact ⟨by decide, by decide⟩
noncomputable def kX9_bestLook_66 : zK zR := (q_iload 2 q_iret)
noncomputable def kX9_bestLook_60 : zK ((zL × zS) ⊕ zR) := (q_iinc 4 1 q_ag)
noncomputable def kX9_bestLook_54 : zK ((zL × zS) ⊕ ((zL × zS) ⊕ zR)) := (q_iinc 5 1 q_ag)
noncomputable def bX9_bestLook_17 : zK ((zL × zS) ⊕ ((zL × zS) ⊕ zR)) := (q_iload 5 (q_iload 1 (q_iload 4 (q_isub (q_icmp_ge (q_dn kX9_bestLook_60) (q_aload 0 (q_iload 4 (q_iload 5 (q_callV 9 fX9_mostLeft 2 (q_istore 6 (q_iload 6 (q_iload 3 (q_icmp_ge kX9_bestLook_54 (q_iload 6 (q_istore 3 (q_push 10 (q_iload 4 (q_imul (q_iload 5 (q_iadd (q_istore 2 kX9_bestLook_54)))))))))))))))))))))
noncomputable def kX9_bestLook_17 : zK ((zL × zS) ⊕ zR) := q_lp (bX9_bestLook_17)
noncomputable def bX9_bestLook_8 : zK ((zL × zS) ⊕ zR) := (q_iload 4 (q_iload 1 (q_icmp_ge (q_dn kX9_bestLook_66) (q_push 0 (q_istore 5 kX9_bestLook_17)))))
noncomputable def kX9_bestLook_8 : zK zR := q_lp (bX9_bestLook_8)
noncomputable def kX9_bestLook_0 : zK zR := (q_push (-1) (q_istore 2 (q_push 1000000000 (q_istore 3 (q_push 0 (q_istore 4 kX9_bestLook_8))))))
set_option maxRecDepth 100000 in
theorem tX9_bestLook_66 {l : Launch} {D : zD} {B sz0 : Nat} {post : Option Value → zS → Prop} : zSnd l D B xX9_bestLook sz0 post 66 kX9_bestLook_66 (z_Jr post) := (s_iload_n dX9_bestLook_66 rfl (s_iret dX9_bestLook_67 rfl))
set_option maxRecDepth 100000 in
theorem tX9_bestLook_60 {l : Launch} {D : zD} {B sz0 : Nat} {post : Option Value → zS → Prop} : zSnd l D B xX9_bestLook sz0 post 60 kX9_bestLook_60 (z_Jl l D B xX9_bestLook sz0 post 8 (z_Jr post)) := (s_iinc dX9_bestLook_60 (by decide) (s_goto (tgt := 8) dX9_bestLook_63 (by decide) s_ag))
set_option maxRecDepth 100000 in
theorem tX9_bestLook_54 {l : Launch} {D : zD} {B sz0 : Nat} {post : Option Value → zS → Prop} : zSnd l D B xX9_bestLook sz0 post 54 kX9_bestLook_54 (z_Jl l D B xX9_bestLook sz0 post 17 (z_Jl l D B xX9_bestLook sz0 post 8 (z_Jr post))) := (s_iinc dX9_bestLook_54 (by decide) (s_goto (tgt := 17) dX9_bestLook_57 (by decide) s_ag))
set_option maxRecDepth 100000 in
theorem tX9_bestLook_17 {l : Launch} {D : zD} {B sz0 : Nat} {post : Option Value → zS → Prop} : zSnd l D B xX9_bestLook sz0 post 17 kX9_bestLook_17 (z_Jl l D B xX9_bestLook sz0 post 8 (z_Jr post)) := s_lp (body := bX9_bestLook_17) (s_iload dX9_bestLook_17 (s_iload_n dX9_bestLook_19 rfl (s_iload dX9_bestLook_20 (s_isub dX9_bestLook_22 (s_icmp_ge (tgt := 60) dX9_bestLook_23 (by decide) (s_dn tX9_bestLook_60) (s_aload_n dX9_bestLook_26 rfl (s_iload dX9_bestLook_27 (s_iload dX9_bestLook_29 (s_callV (r := (RX9, TX9, 9)) dX9_bestLook_31 mX9_mostLeft meX9_mostLeft wd545 wd546 rfl rfl reX9_mostLeft rmX9_bestLook (fitX9_bestLook_31) wd547 (s_istore dX9_bestLook_34 (s_iload dX9_bestLook_36 (s_iload_n dX9_bestLook_38 rfl (s_icmp_ge (tgt := 54) dX9_bestLook_39 (by decide) tX9_bestLook_54 (s_iload dX9_bestLook_42 (s_istore_n dX9_bestLook_44 rfl (s_bipush dX9_bestLook_45 (by decide) (s_iload dX9_bestLook_47 (s_imul dX9_bestLook_49 (s_iload dX9_bestLook_50 (s_iadd dX9_bestLook_52 (s_istore_n dX9_bestLook_53 rfl tX9_bestLook_54)))))))))))))))))))))
set_option maxRecDepth 100000 in
theorem tX9_bestLook_8 {l : Launch} {D : zD} {B sz0 : Nat} {post : Option Value → zS → Prop} : zSnd l D B xX9_bestLook sz0 post 8 kX9_bestLook_8 (z_Jr post) := s_lp (body := bX9_bestLook_8) (s_iload dX9_bestLook_8 (s_iload_n dX9_bestLook_10 rfl (s_icmp_ge (tgt := 66) dX9_bestLook_11 (by decide) (s_dn tX9_bestLook_66) (s_iconst dX9_bestLook_14 (by decide) (s_istore dX9_bestLook_15 tX9_bestLook_17)))))
set_option maxRecDepth 100000 in
theorem tX9_bestLook_0 {l : Launch} {D : zD} {B sz0 : Nat} {post : Option Value → zS → Prop} : zSnd l D B xX9_bestLook sz0 post 0 kX9_bestLook_0 (z_Jr post) := (s_iconst dX9_bestLook_0 (by decide) (s_istore_n dX9_bestLook_1 rfl (s_ldc dX9_bestLook_2 wd544 (s_istore_n dX9_bestLook_4 rfl (s_iconst dX9_bestLook_5 (by decide) (s_istore dX9_bestLook_6 tX9_bestLook_8))))))
noncomputable def fX9_bestLook : zF := z_fn 7 kX9_bestLook_0
theorem mX9_bestLook {l : Launch} {D : zD} {B : Nat} : z_MF l D B yX9_bestLook xX9_bestLook fX9_bestLook := z_mf (by decide) rfl (fun h => by cases h) rfl (fun as σ r h => ⟨z_fn_len h, kX9_bestLook_0, z_fn_run h, fun _ => tX9_bestLook_0⟩)
/-! ===== RowChildren$Triangle.fill ===== -/
theorem dX10_fill_0 : decode cX10_fill 0 = .ok (.aload_n 0, 1) := by decide +kernel
theorem dX10_fill_1 : decode cX10_fill 1 = .ok (.iconst 0, 1) := by decide +kernel
theorem dX10_fill_2 : decode cX10_fill 2 = .ok (.putfield 18, 3) := by decide +kernel
theorem dX10_fill_5 : decode cX10_fill 5 = .ok (.iconst 0, 1) := by decide +kernel
theorem dX10_fill_6 : decode cX10_fill 6 = .ok (.istore 4, 2) := by decide +kernel
theorem dX10_fill_8 : decode cX10_fill 8 = .ok (.iload 4, 2) := by decide +kernel
theorem dX10_fill_10 : decode cX10_fill 10 = .ok (.aload_n 2, 1) := by decide +kernel
theorem dX10_fill_11 : decode cX10_fill 11 = .ok (.iload_n 3, 1) := by decide +kernel
theorem dX10_fill_12 : decode cX10_fill 12 = .ok (.invokevirtual 22, 3) := by decide +kernel
theorem dX10_fill_15 : decode cX10_fill 15 = .ok (.if_icmp .ge 29, 3) := by decide +kernel
theorem dX10_fill_18 : decode cX10_fill 18 = .ok (.aload_n 0, 1) := by decide +kernel
theorem dX10_fill_19 : decode cX10_fill 19 = .ok (.aload_n 1, 1) := by decide +kernel
theorem dX10_fill_20 : decode cX10_fill 20 = .ok (.iload 4, 2) := by decide +kernel
theorem dX10_fill_22 : decode cX10_fill 22 = .ok (.aload_n 2, 1) := by decide +kernel
theorem dX10_fill_23 : decode cX10_fill 23 = .ok (.iload_n 3, 1) := by decide +kernel
theorem dX10_fill_24 : decode cX10_fill 24 = .ok (.iload 4, 2) := by decide +kernel
theorem dX10_fill_26 : decode cX10_fill 26 = .ok (.invokevirtual 28, 3) := by decide +kernel
theorem dX10_fill_29 : decode cX10_fill 29 = .ok (.invokevirtual 32, 3) := by decide +kernel
theorem dX10_fill_32 : decode cX10_fill 32 = .ok (.aload_n 0, 1) := by decide +kernel
theorem dX10_fill_33 : decode cX10_fill 33 = .ok (.iload 4, 2) := by decide +kernel
theorem dX10_fill_35 : decode cX10_fill 35 = .ok (.invokevirtual 36, 3) := by decide +kernel
theorem dX10_fill_38 : decode cX10_fill 38 = .ok (.iinc 4 1, 3) := by decide +kernel
theorem dX10_fill_41 : decode cX10_fill 41 = .ok (.goto (-33), 3) := by decide +kernel
theorem dX10_fill_44 : decode cX10_fill 44 = .ok (.return_, 1) := by decide +kernel
def xX10_fill : zX := (RX10, cX10_fill, 5, none, false, { frames := 3, cells := 0, slots := 0, locals := 135 }, 0, 0, 0, 0)
theorem rmX10_fill : z_Rm xX10_fill := by unfold z_Rm xX10_fill; exact ⟨by decide, by decide⟩
theorem reX10_fill : z_Re xX10_fill := ⟨rfl, rfl⟩
theorem rlX10_fill : 1 ≤ xX10_fill.2.2.2.2.2.1.frames ∧ 21 ≤ xX10_fill.2.2.2.2.2.1.locals := by unfold xX10_fill; exact ⟨by decide, by decide⟩
theorem meX10_fill : z_Me yX10_fill xX10_fill 3 := ⟨wd553, wd7, by decide, by decide, by decide +kernel⟩
theorem fitX10_fill_12 : z_Fit xX1_lengthOf xX10_fill := by unfold z_Fit; simp only [xX1_lengthOf, xX10_fill]; exact ⟨by decide, by decide⟩
theorem fitX10_fill_26 : z_Fit xX1_colourAt xX10_fill := by unfold z_Fit; simp only [xX1_colourAt, xX10_fill]; exact ⟨by decide, by decide⟩
theorem fitX10_fill_29 : z_Fit xX10_put xX10_fill := by unfold z_Fit; simp only [xX10_put, xX10_fill]; exact ⟨by decide, by decide⟩
theorem fitX10_fill_35 : z_Fit xX10_tallyEdge xX10_fill := by unfold z_Fit; simp only [xX10_tallyEdge, xX10_fill]; exact ⟨by decide, by decide⟩
noncomputable def kX10_fill_44 : zK zR := q_vret
noncomputable def bX10_fill_8 : zK ((zL × zS) ⊕ zR) := (q_iload 4 (q_aload 2 (q_iload 3 (q_callV 1 fX1_lengthOf 1 (q_icmp_ge (q_dn kX10_fill_44) (q_aload 0 (q_aload 1 (q_iload 4 (q_aload 2 (q_iload 3 (q_iload 4 (q_callV 1 fX1_colourAt 2 (q_callV 10 fX10_put 3 (q_aload 0 (q_iload 4 (q_callV 10 fX10_tallyEdge 1 (q_iinc 4 1 q_ag)))))))))))))))))
noncomputable def kX10_fill_8 : zK zR := q_lp (bX10_fill_8)
noncomputable def kX10_fill_0 : zK zR := (q_aload 0 (q_push 0 (q_putI 10 0 (q_push 0 (q_istore 4 kX10_fill_8)))))
set_option maxRecDepth 100000 in
theorem tX10_fill_44 {l : Launch} {D : zD} {B sz0 : Nat} {post : Option Value → zS → Prop} : zSnd l D B xX10_fill sz0 post 44 kX10_fill_44 (z_Jr post) := (s_vret dX10_fill_44 rfl)
set_option maxRecDepth 100000 in
theorem tX10_fill_8 {l : Launch} {D : zD} {B sz0 : Nat} {post : Option Value → zS → Prop} : zSnd l D B xX10_fill sz0 post 8 kX10_fill_8 (z_Jr post) := s_lp (body := bX10_fill_8) (s_iload dX10_fill_8 (s_aload_n dX10_fill_10 rfl (s_iload_n dX10_fill_11 rfl (s_callV (r := (RX1, TX1, 5)) dX10_fill_12 mX1_lengthOf meX1_lengthOf wd65 wd66 rfl rfl reX1_lengthOf rmX10_fill (fitX10_fill_12) wd549 (s_icmp_ge (tgt := 44) dX10_fill_15 (by decide) (s_dn tX10_fill_44) (s_aload_n dX10_fill_18 rfl (s_aload_n dX10_fill_19 rfl (s_iload dX10_fill_20 (s_aload_n dX10_fill_22 rfl (s_iload_n dX10_fill_23 rfl (s_iload dX10_fill_24 (s_callV (r := (RX1, TX1, 5)) dX10_fill_26 mX1_colourAt meX1_colourAt wd75 wd76 rfl rfl reX1_colourAt rmX10_fill (fitX10_fill_26) wd550 (s_callV (r := (RX10, TX10, 3)) dX10_fill_29 mX10_put meX10_put wd34 wd35 rfl rfl reX10_put rmX10_fill (fitX10_fill_29) wd551 (s_aload_n dX10_fill_32 rfl (s_iload dX10_fill_33 (s_callV (r := (RX10, TX10, 3)) dX10_fill_35 mX10_tallyEdge meX10_tallyEdge wd204 wd205 rfl rfl reX10_tallyEdge rmX10_fill (fitX10_fill_35) wd552 (s_iinc dX10_fill_38 (by decide) (s_goto (tgt := 8) dX10_fill_41 (by decide) s_ag))))))))))))))))))
set_option maxRecDepth 100000 in
theorem tX10_fill_0 {l : Launch} {D : zD} {B sz0 : Nat} {post : Option Value → zS → Prop} : zSnd l D B xX10_fill sz0 post 0 kX10_fill_0 (z_Jr post) := (s_aload_n dX10_fill_0 rfl (s_iconst dX10_fill_1 (by decide) (s_putI (f := 0) dX10_fill_2 clX10 (by decide) rfl rfl rfl wd22 (s_iconst dX10_fill_5 (by decide) (s_istore dX10_fill_6 tX10_fill_8)))))
noncomputable def fX10_fill : zF := z_fn 5 kX10_fill_0
theorem mX10_fill {l : Launch} {D : zD} {B : Nat} : z_MF l D B yX10_fill xX10_fill fX10_fill := z_mf (by decide) rfl (fun h => by cases h) rfl (fun as σ r h => ⟨z_fn_len h, kX10_fill_0, z_fn_run h, fun _ => tX10_fill_0⟩)
/-! ===== RowChildren$Triangle.leftSide ===== -/
theorem dX10_leftSide_0 : decode cX10_leftSide 0 = .ok (.aload_n 0, 1) := by decide +kernel
theorem dX10_leftSide_1 : decode cX10_leftSide 1 = .ok (.iload_n 1, 1) := by decide +kernel
theorem dX10_leftSide_2 : decode cX10_leftSide 2 = .ok (.iconst 0, 1) := by decide +kernel
theorem dX10_leftSide_3 : decode cX10_leftSide 3 = .ok (.invokevirtual 45, 3) := by decide +kernel
theorem dX10_leftSide_6 : decode cX10_leftSide 6 = .ok (.ireturn, 1) := by decide +kernel
def xX10_leftSide : zX := (RX10, cX10_leftSide, 2, (some .int), false, { frames := 2, cells := 0, slots := 0, locals := 112 }, 0, 0, 0, 0)
theorem rmX10_leftSide : z_Rm xX10_leftSide := by unfold z_Rm xX10_leftSide; exact ⟨by decide, by decide⟩
theorem reX10_leftSide : z_Re xX10_leftSide := ⟨rfl, rfl⟩
theorem rlX10_leftSide : 1 ≤ xX10_leftSide.2.2.2.2.2.1.frames ∧ 21 ≤ xX10_leftSide.2.2.2.2.2.1.locals := by unfold xX10_leftSide; exact ⟨by decide, by decide⟩
theorem meX10_leftSide : z_Me yX10_leftSide xX10_leftSide 1 := ⟨wd554, wd7, by decide, by decide, by decide +kernel⟩
theorem fitX10_leftSide_3 : z_Fit xX10_cell xX10_leftSide := by unfold z_Fit; simp only [xX10_cell, xX10_leftSide]; exact ⟨by decide, by decide⟩
noncomputable def kX10_leftSide_0 : zK zR := (q_aload 0 (q_iload 1 (q_push 0 (q_callV 10 fX10_cell 2 q_iret))))
set_option maxRecDepth 100000 in
theorem tX10_leftSide_0 {l : Launch} {D : zD} {B sz0 : Nat} {post : Option Value → zS → Prop} : zSnd l D B xX10_leftSide sz0 post 0 kX10_leftSide_0 (z_Jr post) := (s_aload_n dX10_leftSide_0 rfl (s_iload_n dX10_leftSide_1 rfl (s_iconst dX10_leftSide_2 (by decide) (s_callV (r := (RX10, TX10, 3)) dX10_leftSide_3 mX10_cell meX10_cell wd23 wd24 rfl rfl reX10_cell rmX10_leftSide (fitX10_leftSide_3) wd25 (s_iret dX10_leftSide_6 rfl)))))
noncomputable def fX10_leftSide : zF := z_fn 2 kX10_leftSide_0
theorem mX10_leftSide {l : Launch} {D : zD} {B : Nat} : z_MF l D B yX10_leftSide xX10_leftSide fX10_leftSide := z_mf (by decide) rfl (fun h => by cases h) rfl (fun as σ r h => ⟨z_fn_len h, kX10_leftSide_0, z_fn_run h, fun _ => tX10_leftSide_0⟩)
/-! ===== RowChildren$Triangle.rightSide ===== -/
theorem dX10_rightSide_0 : decode cX10_rightSide 0 = .ok (.aload_n 0, 1) := by decide +kernel
theorem dX10_rightSide_1 : decode cX10_rightSide 1 = .ok (.iload_n 1, 1) := by decide +kernel
theorem dX10_rightSide_2 : decode cX10_rightSide 2 = .ok (.aload_n 0, 1) := by decide +kernel
theorem dX10_rightSide_3 : decode cX10_rightSide 3 = .ok (.getfield 18, 3) := by decide +kernel
theorem dX10_rightSide_6 : decode cX10_rightSide 6 = .ok (.iconst 1, 1) := by decide +kernel
theorem dX10_rightSide_7 : decode cX10_rightSide 7 = .ok (.isub, 1) := by decide +kernel
theorem dX10_rightSide_8 : decode cX10_rightSide 8 = .ok (.iload_n 1, 1) := by decide +kernel
theorem dX10_rightSide_9 : decode cX10_rightSide 9 = .ok (.isub, 1) := by decide +kernel
theorem dX10_rightSide_10 : decode cX10_rightSide 10 = .ok (.invokevirtual 45, 3) := by decide +kernel
theorem dX10_rightSide_13 : decode cX10_rightSide 13 = .ok (.ireturn, 1) := by decide +kernel
def xX10_rightSide : zX := (RX10, cX10_rightSide, 2, (some .int), false, { frames := 2, cells := 0, slots := 0, locals := 112 }, 0, 0, 0, 0)
theorem rmX10_rightSide : z_Rm xX10_rightSide := by unfold z_Rm xX10_rightSide; exact ⟨by decide, by decide⟩
theorem reX10_rightSide : z_Re xX10_rightSide := ⟨rfl, rfl⟩
theorem rlX10_rightSide : 1 ≤ xX10_rightSide.2.2.2.2.2.1.frames ∧ 21 ≤ xX10_rightSide.2.2.2.2.2.1.locals := by unfold xX10_rightSide; exact ⟨by decide, by decide⟩
theorem meX10_rightSide : z_Me yX10_rightSide xX10_rightSide 1 := ⟨wd555, wd7, by decide, by decide, by decide +kernel⟩
theorem fitX10_rightSide_10 : z_Fit xX10_cell xX10_rightSide := by unfold z_Fit; simp only [xX10_cell, xX10_rightSide]; exact ⟨by decide, by decide⟩
noncomputable def kX10_rightSide_0 : zK zR := (q_aload 0 (q_iload 1 (q_aload 0 (q_getI 10 0 (q_push 1 (q_isub (q_iload 1 (q_isub (q_callV 10 fX10_cell 2 q_iret)))))))))
set_option maxRecDepth 100000 in
theorem tX10_rightSide_0 {l : Launch} {D : zD} {B sz0 : Nat} {post : Option Value → zS → Prop} : zSnd l D B xX10_rightSide sz0 post 0 kX10_rightSide_0 (z_Jr post) := (s_aload_n dX10_rightSide_0 rfl (s_iload_n dX10_rightSide_1 rfl (s_aload_n dX10_rightSide_2 rfl (s_getI (f := 0) dX10_rightSide_3 clX10 (by decide) rfl wd22 (s_iconst dX10_rightSide_6 (by decide) (s_isub dX10_rightSide_7 (s_iload_n dX10_rightSide_8 rfl (s_isub dX10_rightSide_9 (s_callV (r := (RX10, TX10, 3)) dX10_rightSide_10 mX10_cell meX10_cell wd23 wd24 rfl rfl reX10_cell rmX10_rightSide (fitX10_rightSide_10) wd25 (s_iret dX10_rightSide_13 rfl))))))))))
noncomputable def fX10_rightSide : zF := z_fn 2 kX10_rightSide_0
theorem mX10_rightSide {l : Launch} {D : zD} {B : Nat} : z_MF l D B yX10_rightSide xX10_rightSide fX10_rightSide := z_mf (by decide) rfl (fun h => by cases h) rfl (fun as σ r h => ⟨z_fn_len h, kX10_rightSide_0, z_fn_run h, fun _ => tX10_rightSide_0⟩)
/-! ===== RowChildren$Triangle.isTurned ===== -/
theorem dX10_isTurned_0 : decode cX10_isTurned 0 = .ok (.iconst 0, 1) := by decide +kernel
theorem dX10_isTurned_1 : decode cX10_isTurned 1 = .ok (.istore_n 1, 1) := by decide +kernel
theorem dX10_isTurned_2 : decode cX10_isTurned 2 = .ok (.iload_n 1, 1) := by decide +kernel
theorem dX10_isTurned_3 : decode cX10_isTurned 3 = .ok (.aload_n 0, 1) := by decide +kernel
theorem dX10_isTurned_4 : decode cX10_isTurned 4 = .ok (.getfield 18, 3) := by decide +kernel
theorem dX10_isTurned_7 : decode cX10_isTurned 7 = .ok (.if_icmp .ge 43, 3) := by decide +kernel
theorem dX10_isTurned_10 : decode cX10_isTurned 10 = .ok (.aload_n 0, 1) := by decide +kernel
theorem dX10_isTurned_11 : decode cX10_isTurned 11 = .ok (.iconst 0, 1) := by decide +kernel
theorem dX10_isTurned_12 : decode cX10_isTurned 12 = .ok (.iload_n 1, 1) := by decide +kernel
theorem dX10_isTurned_13 : decode cX10_isTurned 13 = .ok (.invokevirtual 45, 3) := by decide +kernel
theorem dX10_isTurned_16 : decode cX10_isTurned 16 = .ok (.istore_n 2, 1) := by decide +kernel
theorem dX10_isTurned_17 : decode cX10_isTurned 17 = .ok (.iload_n 2, 1) := by decide +kernel
theorem dX10_isTurned_18 : decode cX10_isTurned 18 = .ok (.aload_n 0, 1) := by decide +kernel
theorem dX10_isTurned_19 : decode cX10_isTurned 19 = .ok (.iload_n 1, 1) := by decide +kernel
theorem dX10_isTurned_20 : decode cX10_isTurned 20 = .ok (.invokevirtual 59, 3) := by decide +kernel
theorem dX10_isTurned_23 : decode cX10_isTurned 23 = .ok (.if_icmp .ne 19, 3) := by decide +kernel
theorem dX10_isTurned_26 : decode cX10_isTurned 26 = .ok (.iload_n 2, 1) := by decide +kernel
theorem dX10_isTurned_27 : decode cX10_isTurned 27 = .ok (.aload_n 0, 1) := by decide +kernel
theorem dX10_isTurned_28 : decode cX10_isTurned 28 = .ok (.aload_n 0, 1) := by decide +kernel
theorem dX10_isTurned_29 : decode cX10_isTurned 29 = .ok (.getfield 18, 3) := by decide +kernel
theorem dX10_isTurned_32 : decode cX10_isTurned 32 = .ok (.iconst 1, 1) := by decide +kernel
theorem dX10_isTurned_33 : decode cX10_isTurned 33 = .ok (.isub, 1) := by decide +kernel
theorem dX10_isTurned_34 : decode cX10_isTurned 34 = .ok (.iload_n 1, 1) := by decide +kernel
theorem dX10_isTurned_35 : decode cX10_isTurned 35 = .ok (.isub, 1) := by decide +kernel
theorem dX10_isTurned_36 : decode cX10_isTurned 36 = .ok (.invokevirtual 62, 3) := by decide +kernel
theorem dX10_isTurned_39 : decode cX10_isTurned 39 = .ok (.if_icmp .eq 5, 3) := by decide +kernel
theorem dX10_isTurned_42 : decode cX10_isTurned 42 = .ok (.iconst 0, 1) := by decide +kernel
theorem dX10_isTurned_43 : decode cX10_isTurned 43 = .ok (.ireturn, 1) := by decide +kernel
theorem dX10_isTurned_44 : decode cX10_isTurned 44 = .ok (.iinc 1 1, 3) := by decide +kernel
theorem dX10_isTurned_47 : decode cX10_isTurned 47 = .ok (.goto (-45), 3) := by decide +kernel
theorem dX10_isTurned_50 : decode cX10_isTurned 50 = .ok (.iconst 1, 1) := by decide +kernel
theorem dX10_isTurned_51 : decode cX10_isTurned 51 = .ok (.ireturn, 1) := by decide +kernel
def xX10_isTurned : zX := (RX10, cX10_isTurned, 3, (some .boolean), false, { frames := 3, cells := 0, slots := 0, locals := 133 }, 0, 0, 0, 0)
theorem rmX10_isTurned : z_Rm xX10_isTurned := by unfold z_Rm xX10_isTurned; exact ⟨by decide, by decide⟩
theorem reX10_isTurned : z_Re xX10_isTurned := ⟨rfl, rfl⟩
theorem rlX10_isTurned : 1 ≤ xX10_isTurned.2.2.2.2.2.1.frames ∧ 21 ≤ xX10_isTurned.2.2.2.2.2.1.locals := by unfold xX10_isTurned; exact ⟨by decide, by decide⟩
theorem meX10_isTurned : z_Me yX10_isTurned xX10_isTurned 0 := ⟨wd562, wd7, by decide, by decide, by decide +kernel⟩
theorem fitX10_isTurned_13 : z_Fit xX10_cell xX10_isTurned := by unfold z_Fit; simp only [xX10_cell, xX10_isTurned]; exact ⟨by decide, by decide⟩
theorem fitX10_isTurned_20 : z_Fit xX10_rightSide xX10_isTurned := by unfold z_Fit; simp only [xX10_rightSide, xX10_isTurned]; exact ⟨by decide, by decide⟩
theorem fitX10_isTurned_36 : z_Fit xX10_leftSide xX10_isTurned := by unfold z_Fit; simp only [xX10_leftSide, xX10_isTurned]; exact ⟨by decide, by decide⟩
noncomputable def kX10_isTurned_50 : zK zR := (q_push 1 q_zret)
noncomputable def kX10_isTurned_42 : zK zR := (q_push 0 q_zret)
noncomputable def bX10_isTurned_2 : zK ((zL × zS) ⊕ zR) := (q_iload 1 (q_aload 0 (q_getI 10 0 (q_icmp_ge (q_dn kX10_isTurned_50) (q_aload 0 (q_push 0 (q_iload 1 (q_callV 10 fX10_cell 2 (q_istore 2 (q_iload 2 (q_aload 0 (q_iload 1 (q_callV 10 fX10_rightSide 1 (q_icmp_ne (q_dn kX10_isTurned_42) (q_iload 2 (q_aload 0 (q_aload 0 (q_getI 10 0 (q_push 1 (q_isub (q_iload 1 (q_isub (q_callV 10 fX10_leftSide 1 (q_icmp_eq (q_iinc 1 1 q_ag) (q_dn kX10_isTurned_42)))))))))))))))))))))))))
noncomputable def kX10_isTurned_2 : zK zR := q_lp (bX10_isTurned_2)
noncomputable def kX10_isTurned_0 : zK zR := (q_push 0 (q_istore 1 kX10_isTurned_2))
set_option maxRecDepth 100000 in
theorem tX10_isTurned_50 {l : Launch} {D : zD} {B sz0 : Nat} {post : Option Value → zS → Prop} : zSnd l D B xX10_isTurned sz0 post 50 kX10_isTurned_50 (z_Jr post) := (s_iconst dX10_isTurned_50 (by decide) (s_zret dX10_isTurned_51 rfl))
set_option maxRecDepth 100000 in
theorem tX10_isTurned_42 {l : Launch} {D : zD} {B sz0 : Nat} {post : Option Value → zS → Prop} : zSnd l D B xX10_isTurned sz0 post 42 kX10_isTurned_42 (z_Jr post) := (s_iconst dX10_isTurned_42 (by decide) (s_zret dX10_isTurned_43 rfl))
set_option maxRecDepth 100000 in
theorem tX10_isTurned_2 {l : Launch} {D : zD} {B sz0 : Nat} {post : Option Value → zS → Prop} : zSnd l D B xX10_isTurned sz0 post 2 kX10_isTurned_2 (z_Jr post) := s_lp (body := bX10_isTurned_2) (s_iload_n dX10_isTurned_2 rfl (s_aload_n dX10_isTurned_3 rfl (s_getI (f := 0) dX10_isTurned_4 clX10 (by decide) rfl wd22 (s_icmp_ge (tgt := 50) dX10_isTurned_7 (by decide) (s_dn tX10_isTurned_50) (s_aload_n dX10_isTurned_10 rfl (s_iconst dX10_isTurned_11 (by decide) (s_iload_n dX10_isTurned_12 rfl (s_callV (r := (RX10, TX10, 3)) dX10_isTurned_13 mX10_cell meX10_cell wd23 wd24 rfl rfl reX10_cell rmX10_isTurned (fitX10_isTurned_13) wd25 (s_istore_n dX10_isTurned_16 rfl (s_iload_n dX10_isTurned_17 rfl (s_aload_n dX10_isTurned_18 rfl (s_iload_n dX10_isTurned_19 rfl (s_callV (r := (RX10, TX10, 3)) dX10_isTurned_20 mX10_rightSide meX10_rightSide wd556 wd557 rfl rfl reX10_rightSide rmX10_isTurned (fitX10_isTurned_20) wd558 (s_icmp_ne (tgt := 42) dX10_isTurned_23 (by decide) (s_dn tX10_isTurned_42) (s_iload_n dX10_isTurned_26 rfl (s_aload_n dX10_isTurned_27 rfl (s_aload_n dX10_isTurned_28 rfl (s_getI (f := 0) dX10_isTurned_29 clX10 (by decide) rfl wd22 (s_iconst dX10_isTurned_32 (by decide) (s_isub dX10_isTurned_33 (s_iload_n dX10_isTurned_34 rfl (s_isub dX10_isTurned_35 (s_callV (r := (RX10, TX10, 3)) dX10_isTurned_36 mX10_leftSide meX10_leftSide wd559 wd560 rfl rfl reX10_leftSide rmX10_isTurned (fitX10_isTurned_36) wd561 (s_icmp_eq (tgt := 44) dX10_isTurned_39 (by decide) (s_iinc dX10_isTurned_44 (by decide) (s_goto (tgt := 2) dX10_isTurned_47 (by decide) s_ag)) (s_dn tX10_isTurned_42)))))))))))))))))))))))))
set_option maxRecDepth 100000 in
theorem tX10_isTurned_0 {l : Launch} {D : zD} {B sz0 : Nat} {post : Option Value → zS → Prop} : zSnd l D B xX10_isTurned sz0 post 0 kX10_isTurned_0 (z_Jr post) := (s_iconst dX10_isTurned_0 (by decide) (s_istore_n dX10_isTurned_1 rfl tX10_isTurned_2))
noncomputable def fX10_isTurned : zF := z_fn 3 kX10_isTurned_0
theorem mX10_isTurned {l : Launch} {D : zD} {B : Nat} : z_MF l D B yX10_isTurned xX10_isTurned fX10_isTurned := z_mf (by decide) rfl (fun h => by cases h) rfl (fun as σ r h => ⟨z_fn_len h, kX10_isTurned_0, z_fn_run h, fun _ => tX10_isTurned_0⟩)
/-! ===== RowChildren.<init> ===== -/
theorem dX11_init_0 : decode cX11_init 0 = .ok (.aload_n 0, 1) := by decide +kernel
theorem dX11_init_1 : decode cX11_init 1 = .ok (.invokespecial 1, 3) := by decide +kernel
theorem dX11_init_4 : decode cX11_init 4 = .ok (.aload_n 0, 1) := by decide +kernel
theorem dX11_init_5 : decode cX11_init 5 = .ok (.new 7, 3) := by decide +kernel
theorem dX11_init_8 : decode cX11_init 8 = .ok (.dup, 1) := by decide +kernel
theorem dX11_init_9 : decode cX11_init 9 = .ok (.invokespecial 9, 3) := by decide +kernel
theorem dX11_init_12 : decode cX11_init 12 = .ok (.putfield 10, 3) := by decide +kernel
theorem dX11_init_15 : decode cX11_init 15 = .ok (.aload_n 0, 1) := by decide +kernel
theorem dX11_init_16 : decode cX11_init 16 = .ok (.new 16, 3) := by decide +kernel
theorem dX11_init_19 : decode cX11_init 19 = .ok (.dup, 1) := by decide +kernel
theorem dX11_init_20 : decode cX11_init 20 = .ok (.invokespecial 18, 3) := by decide +kernel
theorem dX11_init_23 : decode cX11_init 23 = .ok (.putfield 19, 3) := by decide +kernel
theorem dX11_init_26 : decode cX11_init 26 = .ok (.aload_n 0, 1) := by decide +kernel
theorem dX11_init_27 : decode cX11_init 27 = .ok (.new 16, 3) := by decide +kernel
theorem dX11_init_30 : decode cX11_init 30 = .ok (.dup, 1) := by decide +kernel
theorem dX11_init_31 : decode cX11_init 31 = .ok (.invokespecial 18, 3) := by decide +kernel
theorem dX11_init_34 : decode cX11_init 34 = .ok (.putfield 23, 3) := by decide +kernel
theorem dX11_init_37 : decode cX11_init 37 = .ok (.aload_n 0, 1) := by decide +kernel
theorem dX11_init_38 : decode cX11_init 38 = .ok (.iconst (-1), 1) := by decide +kernel
theorem dX11_init_39 : decode cX11_init 39 = .ok (.putfield 26, 3) := by decide +kernel
theorem dX11_init_42 : decode cX11_init 42 = .ok (.aload_n 0, 1) := by decide +kernel
theorem dX11_init_43 : decode cX11_init 43 = .ok (.new 30, 3) := by decide +kernel
theorem dX11_init_46 : decode cX11_init 46 = .ok (.dup, 1) := by decide +kernel
theorem dX11_init_47 : decode cX11_init 47 = .ok (.invokespecial 32, 3) := by decide +kernel
theorem dX11_init_50 : decode cX11_init 50 = .ok (.putfield 33, 3) := by decide +kernel
theorem dX11_init_53 : decode cX11_init 53 = .ok (.aload_n 0, 1) := by decide +kernel
theorem dX11_init_54 : decode cX11_init 54 = .ok (.new 30, 3) := by decide +kernel
theorem dX11_init_57 : decode cX11_init 57 = .ok (.dup, 1) := by decide +kernel
theorem dX11_init_58 : decode cX11_init 58 = .ok (.invokespecial 32, 3) := by decide +kernel
theorem dX11_init_61 : decode cX11_init 61 = .ok (.putfield 37, 3) := by decide +kernel
theorem dX11_init_64 : decode cX11_init 64 = .ok (.aload_n 0, 1) := by decide +kernel
theorem dX11_init_65 : decode cX11_init 65 = .ok (.bipush 8, 2) := by decide +kernel
theorem dX11_init_67 : decode cX11_init 67 = .ok (.newarray .int, 2) := by decide +kernel
theorem dX11_init_69 : decode cX11_init 69 = .ok (.putfield 40, 3) := by decide +kernel
theorem dX11_init_72 : decode cX11_init 72 = .ok (.aload_n 0, 1) := by decide +kernel
theorem dX11_init_73 : decode cX11_init 73 = .ok (.new 44, 3) := by decide +kernel
theorem dX11_init_76 : decode cX11_init 76 = .ok (.dup, 1) := by decide +kernel
theorem dX11_init_77 : decode cX11_init 77 = .ok (.invokespecial 46, 3) := by decide +kernel
theorem dX11_init_80 : decode cX11_init 80 = .ok (.putfield 47, 3) := by decide +kernel
theorem dX11_init_83 : decode cX11_init 83 = .ok (.aload_n 0, 1) := by decide +kernel
theorem dX11_init_84 : decode cX11_init 84 = .ok (.new 51, 3) := by decide +kernel
theorem dX11_init_87 : decode cX11_init 87 = .ok (.dup, 1) := by decide +kernel
theorem dX11_init_88 : decode cX11_init 88 = .ok (.invokespecial 53, 3) := by decide +kernel
theorem dX11_init_91 : decode cX11_init 91 = .ok (.putfield 54, 3) := by decide +kernel
theorem dX11_init_94 : decode cX11_init 94 = .ok (.aload_n 0, 1) := by decide +kernel
theorem dX11_init_95 : decode cX11_init 95 = .ok (.new 58, 3) := by decide +kernel
theorem dX11_init_98 : decode cX11_init 98 = .ok (.dup, 1) := by decide +kernel
theorem dX11_init_99 : decode cX11_init 99 = .ok (.invokespecial 60, 3) := by decide +kernel
theorem dX11_init_102 : decode cX11_init 102 = .ok (.putfield 61, 3) := by decide +kernel
theorem dX11_init_105 : decode cX11_init 105 = .ok (.aload_n 0, 1) := by decide +kernel
theorem dX11_init_106 : decode cX11_init 106 = .ok (.new 65, 3) := by decide +kernel
theorem dX11_init_109 : decode cX11_init 109 = .ok (.dup, 1) := by decide +kernel
theorem dX11_init_110 : decode cX11_init 110 = .ok (.invokespecial 67, 3) := by decide +kernel
theorem dX11_init_113 : decode cX11_init 113 = .ok (.putfield 68, 3) := by decide +kernel
theorem dX11_init_116 : decode cX11_init 116 = .ok (.aload_n 0, 1) := by decide +kernel
theorem dX11_init_117 : decode cX11_init 117 = .ok (.new 72, 3) := by decide +kernel
theorem dX11_init_120 : decode cX11_init 120 = .ok (.dup, 1) := by decide +kernel
theorem dX11_init_121 : decode cX11_init 121 = .ok (.invokespecial 74, 3) := by decide +kernel
theorem dX11_init_124 : decode cX11_init 124 = .ok (.putfield 75, 3) := by decide +kernel
theorem dX11_init_127 : decode cX11_init 127 = .ok (.aload_n 0, 1) := by decide +kernel
theorem dX11_init_128 : decode cX11_init 128 = .ok (.new 79, 3) := by decide +kernel
theorem dX11_init_131 : decode cX11_init 131 = .ok (.dup, 1) := by decide +kernel
theorem dX11_init_132 : decode cX11_init 132 = .ok (.invokespecial 81, 3) := by decide +kernel
theorem dX11_init_135 : decode cX11_init 135 = .ok (.putfield 82, 3) := by decide +kernel
theorem dX11_init_138 : decode cX11_init 138 = .ok (.return_, 1) := by decide +kernel
def xX11_init : zX := (RX11, cX11_init, 1, none, true, { frames := 4, cells := 199, slots := 407552, locals := 155 }, 199, 2048, 0, 0)
theorem rmX11_init : z_Rm xX11_init := by unfold z_Rm xX11_init; exact ⟨by decide, by decide⟩
theorem reX11_init : z_Re xX11_init := ⟨rfl, rfl⟩
theorem rlX11_init : 1 ≤ xX11_init.2.2.2.2.2.1.frames ∧ 21 ≤ xX11_init.2.2.2.2.2.1.locals := by unfold xX11_init; exact ⟨by decide, by decide⟩
theorem meX11_init : z_Me yX11_init xX11_init 0 := ⟨wd602, wd275, by decide, by decide, by decide +kernel⟩
theorem fitX11_init_9 : z_Fit xX6_init xX11_init := by unfold z_Fit; simp only [xX6_init, xX11_init]; exact ⟨by decide, by decide⟩
theorem fitX11_init_20 : z_Fit xX7_init xX11_init := by unfold z_Fit; simp only [xX7_init, xX11_init]; exact ⟨by decide, by decide⟩
theorem fitX11_init_31 : z_Fit xX7_init xX11_init := by unfold z_Fit; simp only [xX7_init, xX11_init]; exact ⟨by decide, by decide⟩
theorem fitX11_init_47 : z_Fit xX1_init xX11_init := by unfold z_Fit; simp only [xX1_init, xX11_init]; exact ⟨by decide, by decide⟩
theorem fitX11_init_58 : z_Fit xX1_init xX11_init := by unfold z_Fit; simp only [xX1_init, xX11_init]; exact ⟨by decide, by decide⟩
theorem fitX11_init_77 : z_Fit xX2_init xX11_init := by unfold z_Fit; simp only [xX2_init, xX11_init]; exact ⟨by decide, by decide⟩
theorem fitX11_init_88 : z_Fit xX10_init xX11_init := by unfold z_Fit; simp only [xX10_init, xX11_init]; exact ⟨by decide, by decide⟩
theorem fitX11_init_99 : z_Fit xX3_init xX11_init := by unfold z_Fit; simp only [xX3_init, xX11_init]; exact ⟨by decide, by decide⟩
theorem fitX11_init_110 : z_Fit xX0_init xX11_init := by unfold z_Fit; simp only [xX0_init, xX11_init]; exact ⟨by decide, by decide⟩
theorem fitX11_init_121 : z_Fit xX4_init xX11_init := by unfold z_Fit; simp only [xX4_init, xX11_init]; exact ⟨by decide, by decide⟩
theorem fitX11_init_132 : z_Fit xX9_init xX11_init := by unfold z_Fit; simp only [xX9_init, xX11_init]; exact ⟨by decide, by decide⟩
noncomputable def kX11_init_95 (lim : Nat) : zK zR := (q_new 3 lim (q_dup (q_ctor fX3_init 0 132 lim (q_putR 11 9 (q_aload 0 (q_new 0 lim (q_dup (q_ctor fX0_init 0 7 lim (q_putR 11 10 (q_aload 0 (q_new 4 lim (q_dup (q_ctor fX4_init 0 4 lim (q_putR 11 11 (q_aload 0 (q_new 9 lim (q_dup (q_ctor fX9_init 0 8 lim (q_putR 11 12 q_vret)))))))))))))))))))
noncomputable def kX11_init_0 (lim : Nat) : zK zR := (q_aload 0 (q_obj (q_aload 0 (q_new 6 lim (q_dup (q_ctor fX6_init 0 1 lim (q_putR 11 0 (q_aload 0 (q_new 7 lim (q_dup (q_ctor fX7_init 0 14 lim (q_putR 11 1 (q_aload 0 (q_new 7 lim (q_dup (q_ctor fX7_init 0 14 lim (q_putR 11 2 (q_aload 0 (q_push (-1) (q_putI 11 3 (q_aload 0 (q_new 1 lim (q_dup (q_ctor fX1_init 0 2 lim (q_putR 11 4 (q_aload 0 (q_new 1 lim (q_dup (q_ctor fX1_init 0 2 lim (q_putR 11 5 (q_aload 0 (q_push 8 (q_newa 0 2048 lim (q_putR 11 6 (q_aload 0 (q_new 2 lim (q_dup (q_ctor fX2_init 0 1 lim (q_putR 11 7 (q_aload 0 (q_new 10 lim (q_dup (q_ctor fX10_init 0 2 lim (q_putR 11 8 (q_aload 0 (kX11_init_95 lim))))))))))))))))))))))))))))))))))))))))))))))
set_option maxRecDepth 100000 in
theorem tX11_init_95 {l : Launch} {D : zD} {B sz0 : Nat} {post : Option Value → zS → Prop} : zSnd l D B xX11_init sz0 post 95 (kX11_init_95 (sz0 + 199)) (z_Jr post) := (s_new dX11_init_95 clX3 dfX3 wd585 wd586 wd166 rmX11_init (by decide) rfl (s_dup dX11_init_98 (s_ctor dX11_init_99 mX3_init meX3_init wd587 rfl rfl reX3_init rmX11_init (fitX11_init_99) rfl (by decide) rfl wd588 (s_putRF (f := 9) dX11_init_102 clX11 (by decide) rfl rfl rfl rfl (Or.inl ⟨_, rfl⟩) wd589 (s_aload_n dX11_init_105 rfl (s_new dX11_init_106 clX0 dfX0 wd590 wd591 wd19 rmX11_init (by decide) rfl (s_dup dX11_init_109 (s_ctorN (host := RX11) dX11_init_110 mX0_init meX0_init wd592 rfl rfl reX0_init rmX11_init (fitX11_init_110) rfl (by decide) rfl neX11_67 (s_putRF (f := 10) dX11_init_113 clX11 (by decide) rfl rfl rfl rfl (Or.inl ⟨_, rfl⟩) wd593 (s_aload_n dX11_init_116 rfl (s_new dX11_init_117 clX4 dfX4 wd594 wd595 wd185 rmX11_init (by decide) rfl (s_dup dX11_init_120 (s_ctorN (host := RX11) dX11_init_121 mX4_init meX4_init wd596 rfl rfl reX4_init rmX11_init (fitX11_init_121) rfl (by decide) rfl neX11_74 (s_putRF (f := 11) dX11_init_124 clX11 (by decide) rfl rfl rfl rfl (Or.inl ⟨_, rfl⟩) wd597 (s_aload_n dX11_init_127 rfl (s_new dX11_init_128 clX9 dfX9 wd598 wd599 wd513 rmX11_init (by decide) rfl (s_dup dX11_init_131 (s_ctorN (host := RX11) dX11_init_132 mX9_init meX9_init wd600 rfl rfl reX9_init rmX11_init (fitX11_init_132) rfl (by decide) rfl neX11_81 (s_putRF (f := 12) dX11_init_135 clX11 (by decide) rfl rfl rfl rfl (Or.inl ⟨_, rfl⟩) wd601 (s_vret dX11_init_138 rfl))))))))))))))))))))
set_option maxRecDepth 100000 in
theorem tX11_init_0 {l : Launch} {D : zD} {B sz0 : Nat} {post : Option Value → zS → Prop} : zSnd l D B xX11_init sz0 post 0 (kX11_init_0 (sz0 + 199)) (z_Jr post) := (s_aload_n dX11_init_0 rfl (s_obj dX11_init_1 wd563 wd1 wd2 (by decide) (s_aload_n dX11_init_4 rfl (s_new dX11_init_5 clX6 dfX6 wd564 wd565 wd297 rmX11_init (by decide) rfl (s_dup dX11_init_8 (s_ctorN (host := RX11) dX11_init_9 mX6_init meX6_init wd566 rfl rfl reX6_init rmX11_init (fitX11_init_9) rfl (by decide) rfl neX11_9 (s_putRF (f := 0) dX11_init_12 clX11 (by decide) rfl rfl rfl rfl (Or.inl ⟨_, rfl⟩) wd567 (s_aload_n dX11_init_15 rfl (s_new dX11_init_16 clX7 dfX7 wd568 wd569 wd111 rmX11_init (by decide) rfl (s_dup dX11_init_19 (s_ctor dX11_init_20 mX7_init meX7_init wd570 rfl rfl reX7_init rmX11_init (fitX11_init_20) rfl (by decide) rfl wd571 (s_putR (f := 1) dX11_init_23 clX11 (by decide) rfl rfl (Or.inl ⟨_, rfl⟩) wd572 (s_aload_n dX11_init_26 rfl (s_new dX11_init_27 clX7 dfX7 wd568 wd569 wd111 rmX11_init (by decide) rfl (s_dup dX11_init_30 (s_ctor dX11_init_31 mX7_init meX7_init wd570 rfl rfl reX7_init rmX11_init (fitX11_init_31) rfl (by decide) rfl wd571 (s_putR (f := 2) dX11_init_34 clX11 (by decide) rfl rfl (Or.inl ⟨_, rfl⟩) wd573 (s_aload_n dX11_init_37 rfl (s_iconst dX11_init_38 (by decide) (s_putI (f := 3) dX11_init_39 clX11 (by decide) rfl rfl rfl wd574 (s_aload_n dX11_init_42 rfl (s_new dX11_init_43 clX1 dfX1 wd575 wd163 wd51 rmX11_init (by decide) rfl (s_dup dX11_init_46 (s_ctorN (host := RX11) dX11_init_47 mX1_init meX1_init wd164 rfl rfl reX1_init rmX11_init (fitX11_init_47) rfl (by decide) rfl neX11_32 (s_putRF (f := 4) dX11_init_50 clX11 (by decide) rfl rfl rfl rfl (Or.inl ⟨_, rfl⟩) wd576 (s_aload_n dX11_init_53 rfl (s_new dX11_init_54 clX1 dfX1 wd575 wd163 wd51 rmX11_init (by decide) rfl (s_dup dX11_init_57 (s_ctorN (host := RX11) dX11_init_58 mX1_init meX1_init wd164 rfl rfl reX1_init rmX11_init (fitX11_init_58) rfl (by decide) rfl neX11_32 (s_putRF (f := 5) dX11_init_61 clX11 (by decide) rfl rfl rfl rfl (Or.inl ⟨_, rfl⟩) wd577 (s_aload_n dX11_init_64 rfl (s_bipush dX11_init_65 (by decide) (s_newa (t := 0) dX11_init_67 (by decide) rfl wd3 rmX11_init rfl (by decide) rfl (s_putRF (f := 6) dX11_init_69 clX11 (by decide) rfl rfl rfl rfl (Or.inr ⟨_, rfl⟩) wd578 (s_aload_n dX11_init_72 rfl (s_new dX11_init_73 clX2 dfX2 wd579 wd580 wd90 rmX11_init (by decide) rfl (s_dup dX11_init_76 (s_ctorN (host := RX11) dX11_init_77 mX2_init meX2_init wd581 rfl rfl reX2_init rmX11_init (fitX11_init_77) rfl (by decide) rfl neX11_46 (s_putRF (f := 7) dX11_init_80 clX11 (by decide) rfl rfl rfl rfl (Or.inl ⟨_, rfl⟩) wd582 (s_aload_n dX11_init_83 rfl (s_new dX11_init_84 clX10 dfX10 wd583 wd10 wd7 rmX11_init (by decide) rfl (s_dup dX11_init_87 (s_ctorN (host := RX11) dX11_init_88 mX10_init meX10_init wd11 rfl rfl reX10_init rmX11_init (fitX11_init_88) rfl (by decide) rfl neX11_53 (s_putRF (f := 8) dX11_init_91 clX11 (by decide) rfl rfl rfl rfl (Or.inl ⟨_, rfl⟩) wd584 (s_aload_n dX11_init_94 rfl tX11_init_95)))))))))))))))))))))))))))))))))))))))))))))
noncomputable def fX11_init : zF := fun as σ => z_fn 1 (kX11_init_0 (z_sz σ + 199)) as σ
theorem mX11_init {l : Launch} {D : zD} {B : Nat} : z_MF l D B yX11_init xX11_init fX11_init := z_mf (by decide) rfl (fun _ => rfl) rfl (fun as σ r h => ⟨z_fn_len h, kX11_init_0 (z_sz σ + 199), z_fn_run h, fun _ => tX11_init_0⟩)
/-! ===== RowChildren.feed ===== -/
theorem dX11_feed_0 : decode cX11_feed 0 = .ok (.aload_n 0, 1) := by decide +kernel
theorem dX11_feed_1 : decode cX11_feed 1 = .ok (.getfield 10, 3) := by decide +kernel
theorem dX11_feed_4 : decode cX11_feed 4 = .ok (.getfield 86, 3) := by decide +kernel
theorem dX11_feed_7 : decode cX11_feed 7 = .ok (.bipush 20, 2) := by decide +kernel
theorem dX11_feed_9 : decode cX11_feed 9 = .ok (.iadd, 1) := by decide +kernel
theorem dX11_feed_10 : decode cX11_feed 10 = .ok (.sipush 2000, 3) := by decide +kernel
theorem dX11_feed_13 : decode cX11_feed 13 = .ok (.if_icmp .le 5, 3) := by decide +kernel
theorem dX11_feed_16 : decode cX11_feed 16 = .ok (.iconst (-1), 1) := by decide +kernel
theorem dX11_feed_17 : decode cX11_feed 17 = .ok (.ireturn, 1) := by decide +kernel
theorem dX11_feed_18 : decode cX11_feed 18 = .ok (.aload_n 0, 1) := by decide +kernel
theorem dX11_feed_19 : decode cX11_feed 19 = .ok (.getfield 10, 3) := by decide +kernel
theorem dX11_feed_22 : decode cX11_feed 22 = .ok (.iload_n 1, 1) := by decide +kernel
theorem dX11_feed_23 : decode cX11_feed 23 = .ok (.invokevirtual 89, 3) := by decide +kernel
theorem dX11_feed_26 : decode cX11_feed 26 = .ok (.aload_n 0, 1) := by decide +kernel
theorem dX11_feed_27 : decode cX11_feed 27 = .ok (.getfield 10, 3) := by decide +kernel
theorem dX11_feed_30 : decode cX11_feed 30 = .ok (.iload_n 2, 1) := by decide +kernel
theorem dX11_feed_31 : decode cX11_feed 31 = .ok (.invokevirtual 89, 3) := by decide +kernel
theorem dX11_feed_34 : decode cX11_feed 34 = .ok (.aload_n 0, 1) := by decide +kernel
theorem dX11_feed_35 : decode cX11_feed 35 = .ok (.getfield 10, 3) := by decide +kernel
theorem dX11_feed_38 : decode cX11_feed 38 = .ok (.iload_n 3, 1) := by decide +kernel
theorem dX11_feed_39 : decode cX11_feed 39 = .ok (.invokevirtual 89, 3) := by decide +kernel
theorem dX11_feed_42 : decode cX11_feed 42 = .ok (.aload_n 0, 1) := by decide +kernel
theorem dX11_feed_43 : decode cX11_feed 43 = .ok (.getfield 10, 3) := by decide +kernel
theorem dX11_feed_46 : decode cX11_feed 46 = .ok (.iload 4, 2) := by decide +kernel
theorem dX11_feed_48 : decode cX11_feed 48 = .ok (.invokevirtual 89, 3) := by decide +kernel
theorem dX11_feed_51 : decode cX11_feed 51 = .ok (.aload_n 0, 1) := by decide +kernel
theorem dX11_feed_52 : decode cX11_feed 52 = .ok (.getfield 10, 3) := by decide +kernel
theorem dX11_feed_55 : decode cX11_feed 55 = .ok (.iload 5, 2) := by decide +kernel
theorem dX11_feed_57 : decode cX11_feed 57 = .ok (.invokevirtual 89, 3) := by decide +kernel
theorem dX11_feed_60 : decode cX11_feed 60 = .ok (.aload_n 0, 1) := by decide +kernel
theorem dX11_feed_61 : decode cX11_feed 61 = .ok (.getfield 10, 3) := by decide +kernel
theorem dX11_feed_64 : decode cX11_feed 64 = .ok (.getfield 86, 3) := by decide +kernel
theorem dX11_feed_67 : decode cX11_feed 67 = .ok (.ireturn, 1) := by decide +kernel
def xX11_feed : zX := (RX11, cX11_feed, 6, (some .int), false, { frames := 2, cells := 0, slots := 0, locals := 112 }, 0, 0, 0, 0)
theorem rmX11_feed : z_Rm xX11_feed := by unfold z_Rm xX11_feed; exact ⟨by decide, by decide⟩
theorem reX11_feed : z_Re xX11_feed := ⟨rfl, rfl⟩
theorem rlX11_feed : 1 ≤ xX11_feed.2.2.2.2.2.1.frames ∧ 21 ≤ xX11_feed.2.2.2.2.2.1.locals := by unfold xX11_feed; exact ⟨by decide, by decide⟩
theorem meX11_feed : z_Me yX11_feed xX11_feed 5 := ⟨wd607, wd275, by decide, by decide, by decide +kernel⟩
theorem fitX11_feed_23 : z_Fit xX6_append xX11_feed := by unfold z_Fit; simp only [xX6_append, xX11_feed]; exact ⟨by decide, by decide⟩
theorem fitX11_feed_31 : z_Fit xX6_append xX11_feed := by unfold z_Fit; simp only [xX6_append, xX11_feed]; exact ⟨by decide, by decide⟩
theorem fitX11_feed_39 : z_Fit xX6_append xX11_feed := by unfold z_Fit; simp only [xX6_append, xX11_feed]; exact ⟨by decide, by decide⟩
theorem fitX11_feed_48 : z_Fit xX6_append xX11_feed := by unfold z_Fit; simp only [xX6_append, xX11_feed]; exact ⟨by decide, by decide⟩
theorem fitX11_feed_57 : z_Fit xX6_append xX11_feed := by unfold z_Fit; simp only [xX6_append, xX11_feed]; exact ⟨by decide, by decide⟩
noncomputable def kX11_feed_0 : zK zR := (q_aload 0 (q_getR 11 0 (q_getI 6 1 (q_push 20 (q_iadd (q_push 2000 (q_icmp_le (q_aload 0 (q_getR 11 0 (q_iload 1 (q_callV 6 fX6_append 1 (q_aload 0 (q_getR 11 0 (q_iload 2 (q_callV 6 fX6_append 1 (q_aload 0 (q_getR 11 0 (q_iload 3 (q_callV 6 fX6_append 1 (q_aload 0 (q_getR 11 0 (q_iload 4 (q_callV 6 fX6_append 1 (q_aload 0 (q_getR 11 0 (q_iload 5 (q_callV 6 fX6_append 1 (q_aload 0 (q_getR 11 0 (q_getI 6 1 q_iret))))))))))))))))))))))) (q_push (-1) q_iret))))))))
set_option maxRecDepth 100000 in
theorem tX11_feed_0 {l : Launch} {D : zD} {B sz0 : Nat} {post : Option Value → zS → Prop} : zSnd l D B xX11_feed sz0 post 0 kX11_feed_0 (z_Jr post) := (s_aload_n dX11_feed_0 rfl (s_getR (f := 0) dX11_feed_1 clX11 (by decide) rfl wd567 (s_getI (f := 1) dX11_feed_4 clX6 (by decide) rfl wd603 (s_bipush dX11_feed_7 (by decide) (s_iadd dX11_feed_9 (s_sipush dX11_feed_10 (by decide) (s_icmp_le (tgt := 18) dX11_feed_13 (by decide) (s_aload_n dX11_feed_18 rfl (s_getR (f := 0) dX11_feed_19 clX11 (by decide) rfl wd567 (s_iload_n dX11_feed_22 rfl (s_callV (r := (RX6, TX6, 2)) dX11_feed_23 mX6_append meX6_append wd604 wd605 rfl rfl reX6_append rmX11_feed (fitX11_feed_23) wd606 (s_aload_n dX11_feed_26 rfl (s_getR (f := 0) dX11_feed_27 clX11 (by decide) rfl wd567 (s_iload_n dX11_feed_30 rfl (s_callV (r := (RX6, TX6, 2)) dX11_feed_31 mX6_append meX6_append wd604 wd605 rfl rfl reX6_append rmX11_feed (fitX11_feed_31) wd606 (s_aload_n dX11_feed_34 rfl (s_getR (f := 0) dX11_feed_35 clX11 (by decide) rfl wd567 (s_iload_n dX11_feed_38 rfl (s_callV (r := (RX6, TX6, 2)) dX11_feed_39 mX6_append meX6_append wd604 wd605 rfl rfl reX6_append rmX11_feed (fitX11_feed_39) wd606 (s_aload_n dX11_feed_42 rfl (s_getR (f := 0) dX11_feed_43 clX11 (by decide) rfl wd567 (s_iload dX11_feed_46 (s_callV (r := (RX6, TX6, 2)) dX11_feed_48 mX6_append meX6_append wd604 wd605 rfl rfl reX6_append rmX11_feed (fitX11_feed_48) wd606 (s_aload_n dX11_feed_51 rfl (s_getR (f := 0) dX11_feed_52 clX11 (by decide) rfl wd567 (s_iload dX11_feed_55 (s_callV (r := (RX6, TX6, 2)) dX11_feed_57 mX6_append meX6_append wd604 wd605 rfl rfl reX6_append rmX11_feed (fitX11_feed_57) wd606 (s_aload_n dX11_feed_60 rfl (s_getR (f := 0) dX11_feed_61 clX11 (by decide) rfl wd567 (s_getI (f := 1) dX11_feed_64 clX6 (by decide) rfl wd603 (s_iret dX11_feed_67 rfl)))))))))))))))))))))))) (s_iconst dX11_feed_16 (by decide) (s_iret dX11_feed_17 rfl)))))))))
noncomputable def fX11_feed : zF := z_fn 6 kX11_feed_0
theorem mX11_feed {l : Launch} {D : zD} {B : Nat} : z_MF l D B yX11_feed xX11_feed fX11_feed := z_mf (by decide) rfl (fun h => by cases h) rfl (fun as σ r h => ⟨z_fn_len h, kX11_feed_0, z_fn_run h, fun _ => tX11_feed_0⟩)
/-! ===== RowChildren.back ===== -/
theorem dX11_back_0 : decode cX11_back 0 = .ok (.iload_n 1, 1) := by decide +kernel
theorem dX11_back_1 : decode cX11_back 1 = .ok (.ifCond .lt 14, 3) := by decide +kernel
theorem dX11_back_4 : decode cX11_back 4 = .ok (.iload_n 1, 1) := by decide +kernel
theorem dX11_back_5 : decode cX11_back 5 = .ok (.aload_n 0, 1) := by decide +kernel
theorem dX11_back_6 : decode cX11_back 6 = .ok (.getfield 10, 3) := by decide +kernel
theorem dX11_back_9 : decode cX11_back 9 = .ok (.getfield 86, 3) := by decide +kernel
theorem dX11_back_12 : decode cX11_back 12 = .ok (.if_icmp .le 5, 3) := by decide +kernel
theorem dX11_back_15 : decode cX11_back 15 = .ok (.iconst (-1), 1) := by decide +kernel
theorem dX11_back_16 : decode cX11_back 16 = .ok (.ireturn, 1) := by decide +kernel
theorem dX11_back_17 : decode cX11_back 17 = .ok (.aload_n 0, 1) := by decide +kernel
theorem dX11_back_18 : decode cX11_back 18 = .ok (.getfield 10, 3) := by decide +kernel
theorem dX11_back_21 : decode cX11_back 21 = .ok (.dup, 1) := by decide +kernel
theorem dX11_back_22 : decode cX11_back 22 = .ok (.getfield 86, 3) := by decide +kernel
theorem dX11_back_25 : decode cX11_back 25 = .ok (.iload_n 1, 1) := by decide +kernel
theorem dX11_back_26 : decode cX11_back 26 = .ok (.isub, 1) := by decide +kernel
theorem dX11_back_27 : decode cX11_back 27 = .ok (.putfield 86, 3) := by decide +kernel
theorem dX11_back_30 : decode cX11_back 30 = .ok (.aload_n 0, 1) := by decide +kernel
theorem dX11_back_31 : decode cX11_back 31 = .ok (.getfield 10, 3) := by decide +kernel
theorem dX11_back_34 : decode cX11_back 34 = .ok (.getfield 86, 3) := by decide +kernel
theorem dX11_back_37 : decode cX11_back 37 = .ok (.ireturn, 1) := by decide +kernel
def xX11_back : zX := (RX11, cX11_back, 2, (some .int), false, { frames := 1, cells := 0, slots := 0, locals := 90 }, 0, 0, 0, 0)
theorem rmX11_back : z_Rm xX11_back := by unfold z_Rm xX11_back; exact ⟨by decide, by decide⟩
theorem reX11_back : z_Re xX11_back := ⟨rfl, rfl⟩
theorem rlX11_back : 1 ≤ xX11_back.2.2.2.2.2.1.frames ∧ 21 ≤ xX11_back.2.2.2.2.2.1.locals := by unfold xX11_back; exact ⟨by decide, by decide⟩
theorem meX11_back : z_Me yX11_back xX11_back 1 := ⟨wd608, wd275, by decide, by decide, by decide +kernel⟩
noncomputable def kX11_back_15 : zK zR := (q_push (-1) q_iret)
noncomputable def kX11_back_0 : zK zR := (q_iload 1 (q_if_lt kX11_back_15 (q_iload 1 (q_aload 0 (q_getR 11 0 (q_getI 6 1 (q_icmp_le (q_aload 0 (q_getR 11 0 (q_dup (q_getI 6 1 (q_iload 1 (q_isub (q_putI 6 1 (q_aload 0 (q_getR 11 0 (q_getI 6 1 q_iret)))))))))) kX11_back_15)))))))
set_option maxRecDepth 100000 in
theorem tX11_back_15 {l : Launch} {D : zD} {B sz0 : Nat} {post : Option Value → zS → Prop} : zSnd l D B xX11_back sz0 post 15 kX11_back_15 (z_Jr post) := (s_iconst dX11_back_15 (by decide) (s_iret dX11_back_16 rfl))
set_option maxRecDepth 100000 in
theorem tX11_back_0 {l : Launch} {D : zD} {B sz0 : Nat} {post : Option Value → zS → Prop} : zSnd l D B xX11_back sz0 post 0 kX11_back_0 (z_Jr post) := (s_iload_n dX11_back_0 rfl (s_if_lt (tgt := 15) dX11_back_1 (by decide) tX11_back_15 (s_iload_n dX11_back_4 rfl (s_aload_n dX11_back_5 rfl (s_getR (f := 0) dX11_back_6 clX11 (by decide) rfl wd567 (s_getI (f := 1) dX11_back_9 clX6 (by decide) rfl wd603 (s_icmp_le (tgt := 17) dX11_back_12 (by decide) (s_aload_n dX11_back_17 rfl (s_getR (f := 0) dX11_back_18 clX11 (by decide) rfl wd567 (s_dup dX11_back_21 (s_getI (f := 1) dX11_back_22 clX6 (by decide) rfl wd603 (s_iload_n dX11_back_25 rfl (s_isub dX11_back_26 (s_putI (f := 1) dX11_back_27 clX6 (by decide) rfl rfl rfl wd603 (s_aload_n dX11_back_30 rfl (s_getR (f := 0) dX11_back_31 clX11 (by decide) rfl wd567 (s_getI (f := 1) dX11_back_34 clX6 (by decide) rfl wd603 (s_iret dX11_back_37 rfl))))))))))) tX11_back_15)))))))
noncomputable def fX11_back : zF := z_fn 2 kX11_back_0
theorem mX11_back {l : Launch} {D : zD} {B : Nat} : z_MF l D B yX11_back xX11_back fX11_back := z_mf (by decide) rfl (fun h => by cases h) rfl (fun as σ r h => ⟨z_fn_len h, kX11_back_0, z_fn_run h, fun _ => tX11_back_0⟩)
/-! ===== RowChildren.read ===== -/
theorem dX11_read_0 : decode cX11_read 0 = .ok (.aload_n 0, 1) := by decide +kernel
theorem dX11_read_1 : decode cX11_read 1 = .ok (.getfield 23, 3) := by decide +kernel
theorem dX11_read_4 : decode cX11_read 4 = .ok (.aload_n 0, 1) := by decide +kernel
theorem dX11_read_5 : decode cX11_read 5 = .ok (.getfield 10, 3) := by decide +kernel
theorem dX11_read_8 : decode cX11_read 8 = .ok (.invokevirtual 93, 3) := by decide +kernel
theorem dX11_read_11 : decode cX11_read 11 = .ok (.aload_n 0, 1) := by decide +kernel
theorem dX11_read_12 : decode cX11_read 12 = .ok (.getfield 10, 3) := by decide +kernel
theorem dX11_read_15 : decode cX11_read 15 = .ok (.iconst 0, 1) := by decide +kernel
theorem dX11_read_16 : decode cX11_read 16 = .ok (.putfield 86, 3) := by decide +kernel
theorem dX11_read_19 : decode cX11_read 19 = .ok (.aload_n 0, 1) := by decide +kernel
theorem dX11_read_20 : decode cX11_read 20 = .ok (.aload_n 0, 1) := by decide +kernel
theorem dX11_read_21 : decode cX11_read 21 = .ok (.getfield 23, 3) := by decide +kernel
theorem dX11_read_24 : decode cX11_read 24 = .ok (.getfield 97, 3) := by decide +kernel
theorem dX11_read_27 : decode cX11_read 27 = .ok (.putfield 26, 3) := by decide +kernel
theorem dX11_read_30 : decode cX11_read 30 = .ok (.aload_n 0, 1) := by decide +kernel
theorem dX11_read_31 : decode cX11_read 31 = .ok (.getfield 23, 3) := by decide +kernel
theorem dX11_read_34 : decode cX11_read 34 = .ok (.getfield 98, 3) := by decide +kernel
theorem dX11_read_37 : decode cX11_read 37 = .ok (.ifCond .eq 11, 3) := by decide +kernel
theorem dX11_read_40 : decode cX11_read 40 = .ok (.aload_n 0, 1) := by decide +kernel
theorem dX11_read_41 : decode cX11_read 41 = .ok (.getfield 23, 3) := by decide +kernel
theorem dX11_read_44 : decode cX11_read 44 = .ok (.getfield 98, 3) := by decide +kernel
theorem dX11_read_47 : decode cX11_read 47 = .ok (.ireturn, 1) := by decide +kernel
theorem dX11_read_48 : decode cX11_read 48 = .ok (.aload_n 0, 1) := by decide +kernel
theorem dX11_read_49 : decode cX11_read 49 = .ok (.getfield 23, 3) := by decide +kernel
theorem dX11_read_52 : decode cX11_read 52 = .ok (.astore_n 1, 1) := by decide +kernel
theorem dX11_read_53 : decode cX11_read 53 = .ok (.aload_n 0, 1) := by decide +kernel
theorem dX11_read_54 : decode cX11_read 54 = .ok (.aload_n 0, 1) := by decide +kernel
theorem dX11_read_55 : decode cX11_read 55 = .ok (.getfield 19, 3) := by decide +kernel
theorem dX11_read_58 : decode cX11_read 58 = .ok (.putfield 23, 3) := by decide +kernel
theorem dX11_read_61 : decode cX11_read 61 = .ok (.aload_n 0, 1) := by decide +kernel
theorem dX11_read_62 : decode cX11_read 62 = .ok (.aload_n 1, 1) := by decide +kernel
theorem dX11_read_63 : decode cX11_read 63 = .ok (.putfield 19, 3) := by decide +kernel
theorem dX11_read_66 : decode cX11_read 66 = .ok (.aload_n 0, 1) := by decide +kernel
theorem dX11_read_67 : decode cX11_read 67 = .ok (.getfield 33, 3) := by decide +kernel
theorem dX11_read_70 : decode cX11_read 70 = .ok (.aload_n 0, 1) := by decide +kernel
theorem dX11_read_71 : decode cX11_read 71 = .ok (.getfield 19, 3) := by decide +kernel
theorem dX11_read_74 : decode cX11_read 74 = .ok (.getfield 101, 3) := by decide +kernel
theorem dX11_read_77 : decode cX11_read 77 = .ok (.invokevirtual 104, 3) := by decide +kernel
theorem dX11_read_80 : decode cX11_read 80 = .ok (.aload_n 0, 1) := by decide +kernel
theorem dX11_read_81 : decode cX11_read 81 = .ok (.getfield 61, 3) := by decide +kernel
theorem dX11_read_84 : decode cX11_read 84 = .ok (.invokevirtual 108, 3) := by decide +kernel
theorem dX11_read_87 : decode cX11_read 87 = .ok (.aload_n 0, 1) := by decide +kernel
theorem dX11_read_88 : decode cX11_read 88 = .ok (.getfield 61, 3) := by decide +kernel
theorem dX11_read_91 : decode cX11_read 91 = .ok (.invokevirtual 111, 3) := by decide +kernel
theorem dX11_read_94 : decode cX11_read 94 = .ok (.aload_n 0, 1) := by decide +kernel
theorem dX11_read_95 : decode cX11_read 95 = .ok (.getfield 82, 3) := by decide +kernel
theorem dX11_read_98 : decode cX11_read 98 = .ok (.iconst 0, 1) := by decide +kernel
theorem dX11_read_99 : decode cX11_read 99 = .ok (.putfield 114, 3) := by decide +kernel
theorem dX11_read_102 : decode cX11_read 102 = .ok (.aload_n 0, 1) := by decide +kernel
theorem dX11_read_103 : decode cX11_read 103 = .ok (.getfield 68, 3) := by decide +kernel
theorem dX11_read_106 : decode cX11_read 106 = .ok (.invokevirtual 117, 3) := by decide +kernel
theorem dX11_read_109 : decode cX11_read 109 = .ok (.iconst 0, 1) := by decide +kernel
theorem dX11_read_110 : decode cX11_read 110 = .ok (.ireturn, 1) := by decide +kernel
def xX11_read : zX := (RX11, cX11_read, 2, (some .int), false, { frames := 23, cells := 0, slots := 0, locals := 572 }, 0, 0, 0, 0)
theorem rmX11_read : z_Rm xX11_read := by unfold z_Rm xX11_read; exact ⟨by decide, by decide⟩
theorem reX11_read : z_Re xX11_read := ⟨rfl, rfl⟩
theorem rlX11_read : 1 ≤ xX11_read.2.2.2.2.2.1.frames ∧ 21 ≤ xX11_read.2.2.2.2.2.1.locals := by unfold xX11_read; exact ⟨by decide, by decide⟩
theorem meX11_read : z_Me yX11_read xX11_read 0 := ⟨wd626, wd275, by decide, by decide, by decide +kernel⟩
theorem fitX11_read_8 : z_Fit xX7_take xX11_read := by unfold z_Fit; simp only [xX7_take, xX11_read]; exact ⟨by decide, by decide⟩
theorem fitX11_read_77 : z_Fit xX1_copyFrom xX11_read := by unfold z_Fit; simp only [xX1_copyFrom, xX11_read]; exact ⟨by decide, by decide⟩
theorem fitX11_read_84 : z_Fit xX3_clearUndone xX11_read := by unfold z_Fit; simp only [xX3_clearUndone, xX11_read]; exact ⟨by decide, by decide⟩
theorem fitX11_read_91 : z_Fit xX3_clearSlots xX11_read := by unfold z_Fit; simp only [xX3_clearSlots, xX11_read]; exact ⟨by decide, by decide⟩
theorem fitX11_read_106 : z_Fit xX0_clear xX11_read := by unfold z_Fit; simp only [xX0_clear, xX11_read]; exact ⟨by decide, by decide⟩
noncomputable def kX11_read_0 : zK zR := (q_aload 0 (q_getR 11 2 (q_aload 0 (q_getR 11 0 (q_callV 7 fX7_take 1 (q_aload 0 (q_getR 11 0 (q_push 0 (q_putI 6 1 (q_aload 0 (q_aload 0 (q_getR 11 2 (q_getI 7 7 (q_putI 11 3 (q_aload 0 (q_getR 11 2 (q_getI 7 6 (q_if_eq (q_aload 0 (q_getR 11 2 (q_astore 1 (q_aload 0 (q_aload 0 (q_getR 11 1 (q_putR 11 2 (q_aload 0 (q_aload 1 (q_putR 11 1 (q_aload 0 (q_getR 11 4 (q_aload 0 (q_getR 11 1 (q_getR 7 2 (q_callV 1 fX1_copyFrom 1 (q_aload 0 (q_getR 11 9 (q_callV 3 fX3_clearUndone 0 (q_aload 0 (q_getR 11 9 (q_callV 3 fX3_clearSlots 0 (q_aload 0 (q_getR 11 12 (q_push 0 (q_putI 9 0 (q_aload 0 (q_getR 11 10 (q_callV 0 fX0_clear 0 (q_push 0 q_iret)))))))))))))))))))))))))))))) (q_aload 0 (q_getR 11 2 (q_getI 7 6 q_iret)))))))))))))))))))))
set_option maxRecDepth 100000 in
theorem tX11_read_0 {l : Launch} {D : zD} {B sz0 : Nat} {post : Option Value → zS → Prop} : zSnd l D B xX11_read sz0 post 0 kX11_read_0 (z_Jr post) := (s_aload_n dX11_read_0 rfl (s_getR (f := 2) dX11_read_1 clX11 (by decide) rfl wd573 (s_aload_n dX11_read_4 rfl (s_getR (f := 0) dX11_read_5 clX11 (by decide) rfl wd567 (s_callV (r := (RX7, TX7, 10)) dX11_read_8 mX7_take meX7_take wd609 wd610 rfl rfl reX7_take rmX11_read (fitX11_read_8) wd611 (s_aload_n dX11_read_11 rfl (s_getR (f := 0) dX11_read_12 clX11 (by decide) rfl wd567 (s_iconst dX11_read_15 (by decide) (s_putI (f := 1) dX11_read_16 clX6 (by decide) rfl rfl rfl wd603 (s_aload_n dX11_read_19 rfl (s_aload_n dX11_read_20 rfl (s_getR (f := 2) dX11_read_21 clX11 (by decide) rfl wd573 (s_getI (f := 7) dX11_read_24 clX7 (by decide) rfl wd612 (s_putI (f := 3) dX11_read_27 clX11 (by decide) rfl rfl rfl wd574 (s_aload_n dX11_read_30 rfl (s_getR (f := 2) dX11_read_31 clX11 (by decide) rfl wd573 (s_getI (f := 6) dX11_read_34 clX7 (by decide) rfl wd613 (s_if_eq (tgt := 48) dX11_read_37 (by decide) (s_aload_n dX11_read_48 rfl (s_getR (f := 2) dX11_read_49 clX11 (by decide) rfl wd573 (s_astore_n dX11_read_52 rfl (s_aload_n dX11_read_53 rfl (s_aload_n dX11_read_54 rfl (s_getR (f := 1) dX11_read_55 clX11 (by decide) rfl wd572 (s_putR (f := 2) dX11_read_58 clX11 (by decide) rfl rfl (Or.inl ⟨_, rfl⟩) wd573 (s_aload_n dX11_read_61 rfl (s_aload_n dX11_read_62 rfl (s_putR (f := 1) dX11_read_63 clX11 (by decide) rfl rfl (Or.inl ⟨_, rfl⟩) wd572 (s_aload_n dX11_read_66 rfl (s_getR (f := 4) dX11_read_67 clX11 (by decide) rfl wd576 (s_aload_n dX11_read_70 rfl (s_getR (f := 1) dX11_read_71 clX11 (by decide) rfl wd572 (s_getR (f := 2) dX11_read_74 clX7 (by decide) rfl wd614 (s_callV (r := (RX1, TX1, 5)) dX11_read_77 mX1_copyFrom meX1_copyFrom wd168 wd169 rfl rfl reX1_copyFrom rmX11_read (fitX11_read_77) wd615 (s_aload_n dX11_read_80 rfl (s_getR (f := 9) dX11_read_81 clX11 (by decide) rfl wd589 (s_callV (r := (RX3, TX3, 5)) dX11_read_84 mX3_clearUndone meX3_clearUndone wd616 wd617 rfl rfl reX3_clearUndone rmX11_read (fitX11_read_84) wd618 (s_aload_n dX11_read_87 rfl (s_getR (f := 9) dX11_read_88 clX11 (by decide) rfl wd589 (s_callV (r := (RX3, TX3, 5)) dX11_read_91 mX3_clearSlots meX3_clearSlots wd619 wd620 rfl rfl reX3_clearSlots rmX11_read (fitX11_read_91) wd621 (s_aload_n dX11_read_94 rfl (s_getR (f := 12) dX11_read_95 clX11 (by decide) rfl wd601 (s_iconst dX11_read_98 (by decide) (s_putI (f := 0) dX11_read_99 clX9 (by decide) rfl rfl rfl wd622 (s_aload_n dX11_read_102 rfl (s_getR (f := 10) dX11_read_103 clX11 (by decide) rfl wd593 (s_callV (r := (RX0, TX0, 5)) dX11_read_106 mX0_clear meX0_clear wd623 wd624 rfl rfl reX0_clear rmX11_read (fitX11_read_106) wd625 (s_iconst dX11_read_109 (by decide) (s_iret dX11_read_110 rfl))))))))))))))))))))))))))))))) (s_aload_n dX11_read_40 rfl (s_getR (f := 2) dX11_read_41 clX11 (by decide) rfl wd573 (s_getI (f := 6) dX11_read_44 clX7 (by decide) rfl wd613 (s_iret dX11_read_47 rfl))))))))))))))))))))))
noncomputable def fX11_read : zF := z_fn 2 kX11_read_0
theorem mX11_read {l : Launch} {D : zD} {B : Nat} : z_MF l D B yX11_read xX11_read fX11_read := z_mf (by decide) rfl (fun h => by cases h) rfl (fun as σ r h => ⟨z_fn_len h, kX11_read_0, z_fn_run h, fun _ => tX11_read_0⟩)
/-! ===== RowChildren.place ===== -/
theorem dX11_place_0 : decode cX11_place 0 = .ok (.aload_n 0, 1) := by decide +kernel
theorem dX11_place_1 : decode cX11_place 1 = .ok (.getfield 26, 3) := by decide +kernel
theorem dX11_place_4 : decode cX11_place 4 = .ok (.ireturn, 1) := by decide +kernel
def xX11_place : zX := (RX11, cX11_place, 1, (some .int), false, { frames := 1, cells := 0, slots := 0, locals := 90 }, 0, 0, 0, 0)
theorem rmX11_place : z_Rm xX11_place := by unfold z_Rm xX11_place; exact ⟨by decide, by decide⟩
theorem reX11_place : z_Re xX11_place := ⟨rfl, rfl⟩
theorem rlX11_place : 1 ≤ xX11_place.2.2.2.2.2.1.frames ∧ 21 ≤ xX11_place.2.2.2.2.2.1.locals := by unfold xX11_place; exact ⟨by decide, by decide⟩
theorem meX11_place : z_Me yX11_place xX11_place 0 := ⟨wd627, wd275, by decide, by decide, by decide +kernel⟩
noncomputable def kX11_place_0 : zK zR := (q_aload 0 (q_getI 11 3 q_iret))
set_option maxRecDepth 100000 in
theorem tX11_place_0 {l : Launch} {D : zD} {B sz0 : Nat} {post : Option Value → zS → Prop} : zSnd l D B xX11_place sz0 post 0 kX11_place_0 (z_Jr post) := (s_aload_n dX11_place_0 rfl (s_getI (f := 3) dX11_place_1 clX11 (by decide) rfl wd574 (s_iret dX11_place_4 rfl)))
noncomputable def fX11_place : zF := z_fn 1 kX11_place_0
theorem mX11_place {l : Launch} {D : zD} {B : Nat} : z_MF l D B yX11_place xX11_place fX11_place := z_mf (by decide) rfl (fun h => by cases h) rfl (fun as σ r h => ⟨z_fn_len h, kX11_place_0, z_fn_run h, fun _ => tX11_place_0⟩)
/-! ===== RowChildren.isColour ===== -/
theorem dX11_isColour_0 : decode cX11_isColour 0 = .ok (.iload_n 1, 1) := by decide +kernel
theorem dX11_isColour_1 : decode cX11_isColour 1 = .ok (.ifCond .lt 21, 3) := by decide +kernel
theorem dX11_isColour_4 : decode cX11_isColour 4 = .ok (.iload_n 1, 1) := by decide +kernel
theorem dX11_isColour_5 : decode cX11_isColour 5 = .ok (.aload_n 0, 1) := by decide +kernel
theorem dX11_isColour_6 : decode cX11_isColour 6 = .ok (.getfield 19, 3) := by decide +kernel
theorem dX11_isColour_9 : decode cX11_isColour 9 = .ok (.getfield 124, 3) := by decide +kernel
theorem dX11_isColour_12 : decode cX11_isColour 12 = .ok (.getfield 145, 3) := by decide +kernel
theorem dX11_isColour_15 : decode cX11_isColour 15 = .ok (.if_icmp .ge 7, 3) := by decide +kernel
theorem dX11_isColour_18 : decode cX11_isColour 18 = .ok (.iconst 1, 1) := by decide +kernel
theorem dX11_isColour_19 : decode cX11_isColour 19 = .ok (.goto 4, 3) := by decide +kernel
theorem dX11_isColour_22 : decode cX11_isColour 22 = .ok (.iconst 0, 1) := by decide +kernel
theorem dX11_isColour_23 : decode cX11_isColour 23 = .ok (.ireturn, 1) := by decide +kernel
def xX11_isColour : zX := (RX11, cX11_isColour, 2, (some .boolean), false, { frames := 1, cells := 0, slots := 0, locals := 90 }, 0, 0, 0, 0)
theorem rmX11_isColour : z_Rm xX11_isColour := by unfold z_Rm xX11_isColour; exact ⟨by decide, by decide⟩
theorem reX11_isColour : z_Re xX11_isColour := ⟨rfl, rfl⟩
theorem rlX11_isColour : 1 ≤ xX11_isColour.2.2.2.2.2.1.frames ∧ 21 ≤ xX11_isColour.2.2.2.2.2.1.locals := by unfold xX11_isColour; exact ⟨by decide, by decide⟩
theorem meX11_isColour : z_Me yX11_isColour xX11_isColour 1 := ⟨wd630, wd275, by decide, by decide, by decide +kernel⟩
noncomputable def kX11_isColour_23 : zK zR := q_zret
noncomputable def kX11_isColour_22 : zK zR := (q_push 0 kX11_isColour_23)
noncomputable def kX11_isColour_0 : zK zR := (q_iload 1 (q_if_lt kX11_isColour_22 (q_iload 1 (q_aload 0 (q_getR 11 1 (q_getR 7 1 (q_getI 5 0 (q_icmp_ge kX11_isColour_22 (q_push 1 kX11_isColour_23)))))))))
set_option maxRecDepth 100000 in
theorem tX11_isColour_23 {l : Launch} {D : zD} {B sz0 : Nat} {post : Option Value → zS → Prop} : zSnd l D B xX11_isColour sz0 post 23 kX11_isColour_23 (z_Jr post) := (s_zret dX11_isColour_23 rfl)
set_option maxRecDepth 100000 in
theorem tX11_isColour_22 {l : Launch} {D : zD} {B sz0 : Nat} {post : Option Value → zS → Prop} : zSnd l D B xX11_isColour sz0 post 22 kX11_isColour_22 (z_Jr post) := (s_iconst dX11_isColour_22 (by decide) tX11_isColour_23)
set_option maxRecDepth 100000 in
theorem tX11_isColour_0 {l : Launch} {D : zD} {B sz0 : Nat} {post : Option Value → zS → Prop} : zSnd l D B xX11_isColour sz0 post 0 kX11_isColour_0 (z_Jr post) := (s_iload_n dX11_isColour_0 rfl (s_if_lt (tgt := 22) dX11_isColour_1 (by decide) tX11_isColour_22 (s_iload_n dX11_isColour_4 rfl (s_aload_n dX11_isColour_5 rfl (s_getR (f := 1) dX11_isColour_6 clX11 (by decide) rfl wd572 (s_getR (f := 1) dX11_isColour_9 clX7 (by decide) rfl wd628 (s_getI (f := 0) dX11_isColour_12 clX5 (by decide) rfl wd629 (s_icmp_ge (tgt := 22) dX11_isColour_15 (by decide) tX11_isColour_22 (s_iconst dX11_isColour_18 (by decide) (s_goto (tgt := 23) dX11_isColour_19 (by decide) tX11_isColour_23))))))))))
noncomputable def fX11_isColour : zF := z_fn 2 kX11_isColour_0
theorem mX11_isColour {l : Launch} {D : zD} {B : Nat} : z_MF l D B yX11_isColour xX11_isColour fX11_isColour := z_mf (by decide) rfl (fun h => by cases h) rfl (fun as σ r h => ⟨z_fn_len h, kX11_isColour_0, z_fn_run h, fun _ => tX11_isColour_0⟩)
/-! ===== RowChildren.child ===== -/
theorem dX11_child_0 : decode cX11_child 0 = .ok (.aload_n 0, 1) := by decide +kernel
theorem dX11_child_1 : decode cX11_child 1 = .ok (.iload_n 1, 1) := by decide +kernel
theorem dX11_child_2 : decode cX11_child 2 = .ok (.invokevirtual 120, 3) := by decide +kernel
theorem dX11_child_5 : decode cX11_child 5 = .ok (.ifCond .eq 26, 3) := by decide +kernel
theorem dX11_child_8 : decode cX11_child 8 = .ok (.aload_n 0, 1) := by decide +kernel
theorem dX11_child_9 : decode cX11_child 9 = .ok (.iload_n 2, 1) := by decide +kernel
theorem dX11_child_10 : decode cX11_child 10 = .ok (.invokevirtual 120, 3) := by decide +kernel
theorem dX11_child_13 : decode cX11_child 13 = .ok (.ifCond .eq 18, 3) := by decide +kernel
theorem dX11_child_16 : decode cX11_child 16 = .ok (.aload_n 0, 1) := by decide +kernel
theorem dX11_child_17 : decode cX11_child 17 = .ok (.getfield 19, 3) := by decide +kernel
theorem dX11_child_20 : decode cX11_child 20 = .ok (.getfield 124, 3) := by decide +kernel
theorem dX11_child_23 : decode cX11_child 23 = .ok (.iload_n 1, 1) := by decide +kernel
theorem dX11_child_24 : decode cX11_child 24 = .ok (.iload_n 2, 1) := by decide +kernel
theorem dX11_child_25 : decode cX11_child 25 = .ok (.invokevirtual 128, 3) := by decide +kernel
theorem dX11_child_28 : decode cX11_child 28 = .ok (.goto 4, 3) := by decide +kernel
theorem dX11_child_31 : decode cX11_child 31 = .ok (.iconst (-1), 1) := by decide +kernel
theorem dX11_child_32 : decode cX11_child 32 = .ok (.ireturn, 1) := by decide +kernel
def xX11_child : zX := (RX11, cX11_child, 3, (some .int), false, { frames := 2, cells := 0, slots := 0, locals := 112 }, 0, 0, 0, 0)
theorem rmX11_child : z_Rm xX11_child := by unfold z_Rm xX11_child; exact ⟨by decide, by decide⟩
theorem reX11_child : z_Re xX11_child := ⟨rfl, rfl⟩
theorem rlX11_child : 1 ≤ xX11_child.2.2.2.2.2.1.frames ∧ 21 ≤ xX11_child.2.2.2.2.2.1.locals := by unfold xX11_child; exact ⟨by decide, by decide⟩
theorem meX11_child : z_Me yX11_child xX11_child 2 := ⟨wd635, wd275, by decide, by decide, by decide +kernel⟩
theorem fitX11_child_2 : z_Fit xX11_isColour xX11_child := by unfold z_Fit; simp only [xX11_isColour, xX11_child]; exact ⟨by decide, by decide⟩
theorem fitX11_child_10 : z_Fit xX11_isColour xX11_child := by unfold z_Fit; simp only [xX11_isColour, xX11_child]; exact ⟨by decide, by decide⟩
theorem fitX11_child_25 : z_Fit xX5_childOf xX11_child := by unfold z_Fit; simp only [xX5_childOf, xX11_child]; exact ⟨by decide, by decide⟩
noncomputable def kX11_child_32 : zK zR := q_iret
noncomputable def kX11_child_31 : zK zR := (q_push (-1) kX11_child_32)
noncomputable def kX11_child_0 : zK zR := (q_aload 0 (q_iload 1 (q_callV 11 fX11_isColour 1 (q_if_eq kX11_child_31 (q_aload 0 (q_iload 2 (q_callV 11 fX11_isColour 1 (q_if_eq kX11_child_31 (q_aload 0 (q_getR 11 1 (q_getR 7 1 (q_iload 1 (q_iload 2 (q_callV 5 fX5_childOf 2 kX11_child_32))))))))))))))
set_option maxRecDepth 100000 in
theorem tX11_child_32 {l : Launch} {D : zD} {B sz0 : Nat} {post : Option Value → zS → Prop} : zSnd l D B xX11_child sz0 post 32 kX11_child_32 (z_Jr post) := (s_iret dX11_child_32 rfl)
set_option maxRecDepth 100000 in
theorem tX11_child_31 {l : Launch} {D : zD} {B sz0 : Nat} {post : Option Value → zS → Prop} : zSnd l D B xX11_child sz0 post 31 kX11_child_31 (z_Jr post) := (s_iconst dX11_child_31 (by decide) tX11_child_32)
set_option maxRecDepth 100000 in
theorem tX11_child_0 {l : Launch} {D : zD} {B sz0 : Nat} {post : Option Value → zS → Prop} : zSnd l D B xX11_child sz0 post 0 kX11_child_0 (z_Jr post) := (s_aload_n dX11_child_0 rfl (s_iload_n dX11_child_1 rfl (s_callV (r := (RX11, TX11, 13)) dX11_child_2 mX11_isColour meX11_isColour wd631 wd632 rfl rfl reX11_isColour rmX11_child (fitX11_child_2) wd633 (s_if_eq (tgt := 31) dX11_child_5 (by decide) tX11_child_31 (s_aload_n dX11_child_8 rfl (s_iload_n dX11_child_9 rfl (s_callV (r := (RX11, TX11, 13)) dX11_child_10 mX11_isColour meX11_isColour wd631 wd632 rfl rfl reX11_isColour rmX11_child (fitX11_child_10) wd633 (s_if_eq (tgt := 31) dX11_child_13 (by decide) tX11_child_31 (s_aload_n dX11_child_16 rfl (s_getR (f := 1) dX11_child_17 clX11 (by decide) rfl wd572 (s_getR (f := 1) dX11_child_20 clX7 (by decide) rfl wd628 (s_iload_n dX11_child_23 rfl (s_iload_n dX11_child_24 rfl (s_callV (r := (RX5, TX5, 7)) dX11_child_25 mX5_childOf meX5_childOf wd242 wd243 rfl rfl reX5_childOf rmX11_child (fitX11_child_25) wd634 (s_goto (tgt := 32) dX11_child_28 (by decide) tX11_child_32)))))))))))))))
noncomputable def fX11_child : zF := z_fn 3 kX11_child_0
theorem mX11_child {l : Launch} {D : zD} {B : Nat} : z_MF l D B yX11_child xX11_child fX11_child := z_mf (by decide) rfl (fun h => by cases h) rfl (fun as σ r h => ⟨z_fn_len h, kX11_child_0, z_fn_run h, fun _ => tX11_child_0⟩)
/-! ===== RowChildren.isRow ===== -/
theorem dX11_isRow_0 : decode cX11_isRow 0 = .ok (.iload_n 1, 1) := by decide +kernel
theorem dX11_isRow_1 : decode cX11_isRow 1 = .ok (.ifCond .lt 18, 3) := by decide +kernel
theorem dX11_isRow_4 : decode cX11_isRow 4 = .ok (.iload_n 1, 1) := by decide +kernel
theorem dX11_isRow_5 : decode cX11_isRow 5 = .ok (.aload_n 0, 1) := by decide +kernel
theorem dX11_isRow_6 : decode cX11_isRow 6 = .ok (.getfield 33, 3) := by decide +kernel
theorem dX11_isRow_9 : decode cX11_isRow 9 = .ok (.getfield 349, 3) := by decide +kernel
theorem dX11_isRow_12 : decode cX11_isRow 12 = .ok (.if_icmp .ge 7, 3) := by decide +kernel
theorem dX11_isRow_15 : decode cX11_isRow 15 = .ok (.iconst 1, 1) := by decide +kernel
theorem dX11_isRow_16 : decode cX11_isRow 16 = .ok (.goto 4, 3) := by decide +kernel
theorem dX11_isRow_19 : decode cX11_isRow 19 = .ok (.iconst 0, 1) := by decide +kernel
theorem dX11_isRow_20 : decode cX11_isRow 20 = .ok (.ireturn, 1) := by decide +kernel
def xX11_isRow : zX := (RX11, cX11_isRow, 2, (some .boolean), false, { frames := 1, cells := 0, slots := 0, locals := 90 }, 0, 0, 0, 0)
theorem rmX11_isRow : z_Rm xX11_isRow := by unfold z_Rm xX11_isRow; exact ⟨by decide, by decide⟩
theorem reX11_isRow : z_Re xX11_isRow := ⟨rfl, rfl⟩
theorem rlX11_isRow : 1 ≤ xX11_isRow.2.2.2.2.2.1.frames ∧ 21 ≤ xX11_isRow.2.2.2.2.2.1.locals := by unfold xX11_isRow; exact ⟨by decide, by decide⟩
theorem meX11_isRow : z_Me yX11_isRow xX11_isRow 1 := ⟨wd637, wd275, by decide, by decide, by decide +kernel⟩
noncomputable def kX11_isRow_20 : zK zR := q_zret
noncomputable def kX11_isRow_19 : zK zR := (q_push 0 kX11_isRow_20)
noncomputable def kX11_isRow_0 : zK zR := (q_iload 1 (q_if_lt kX11_isRow_19 (q_iload 1 (q_aload 0 (q_getR 11 4 (q_getI 1 0 (q_icmp_ge kX11_isRow_19 (q_push 1 kX11_isRow_20))))))))
set_option maxRecDepth 100000 in
theorem tX11_isRow_20 {l : Launch} {D : zD} {B sz0 : Nat} {post : Option Value → zS → Prop} : zSnd l D B xX11_isRow sz0 post 20 kX11_isRow_20 (z_Jr post) := (s_zret dX11_isRow_20 rfl)
set_option maxRecDepth 100000 in
theorem tX11_isRow_19 {l : Launch} {D : zD} {B sz0 : Nat} {post : Option Value → zS → Prop} : zSnd l D B xX11_isRow sz0 post 19 kX11_isRow_19 (z_Jr post) := (s_iconst dX11_isRow_19 (by decide) tX11_isRow_20)
set_option maxRecDepth 100000 in
theorem tX11_isRow_0 {l : Launch} {D : zD} {B sz0 : Nat} {post : Option Value → zS → Prop} : zSnd l D B xX11_isRow sz0 post 0 kX11_isRow_0 (z_Jr post) := (s_iload_n dX11_isRow_0 rfl (s_if_lt (tgt := 19) dX11_isRow_1 (by decide) tX11_isRow_19 (s_iload_n dX11_isRow_4 rfl (s_aload_n dX11_isRow_5 rfl (s_getR (f := 4) dX11_isRow_6 clX11 (by decide) rfl wd576 (s_getI (f := 0) dX11_isRow_9 clX1 (by decide) rfl wd636 (s_icmp_ge (tgt := 19) dX11_isRow_12 (by decide) tX11_isRow_19 (s_iconst dX11_isRow_15 (by decide) (s_goto (tgt := 20) dX11_isRow_16 (by decide) tX11_isRow_20)))))))))
noncomputable def fX11_isRow : zF := z_fn 2 kX11_isRow_0
theorem mX11_isRow {l : Launch} {D : zD} {B : Nat} : z_MF l D B yX11_isRow xX11_isRow fX11_isRow := z_mf (by decide) rfl (fun h => by cases h) rfl (fun as σ r h => ⟨z_fn_len h, kX11_isRow_0, z_fn_run h, fun _ => tX11_isRow_0⟩)
/-! ===== RowChildren.paysOf ===== -/
theorem dX11_paysOf_0 : decode cX11_paysOf 0 = .ok (.aload_n 0, 1) := by decide +kernel
theorem dX11_paysOf_1 : decode cX11_paysOf 1 = .ok (.getfield 47, 3) := by decide +kernel
theorem dX11_paysOf_4 : decode cX11_paysOf 4 = .ok (.aload_n 1, 1) := by decide +kernel
theorem dX11_paysOf_5 : decode cX11_paysOf 5 = .ok (.iload_n 2, 1) := by decide +kernel
theorem dX11_paysOf_6 : decode cX11_paysOf 6 = .ok (.aload_n 1, 1) := by decide +kernel
theorem dX11_paysOf_7 : decode cX11_paysOf 7 = .ok (.iload_n 2, 1) := by decide +kernel
theorem dX11_paysOf_8 : decode cX11_paysOf 8 = .ok (.iconst 0, 1) := by decide +kernel
theorem dX11_paysOf_9 : decode cX11_paysOf 9 = .ok (.invokevirtual 318, 3) := by decide +kernel
theorem dX11_paysOf_12 : decode cX11_paysOf 12 = .ok (.invokevirtual 377, 3) := by decide +kernel
theorem dX11_paysOf_15 : decode cX11_paysOf 15 = .ok (.aload_n 0, 1) := by decide +kernel
theorem dX11_paysOf_16 : decode cX11_paysOf 16 = .ok (.getfield 47, 3) := by decide +kernel
theorem dX11_paysOf_19 : decode cX11_paysOf 19 = .ok (.aload_n 0, 1) := by decide +kernel
theorem dX11_paysOf_20 : decode cX11_paysOf 20 = .ok (.getfield 19, 3) := by decide +kernel
theorem dX11_paysOf_23 : decode cX11_paysOf 23 = .ok (.iconst 3, 1) := by decide +kernel
theorem dX11_paysOf_24 : decode cX11_paysOf 24 = .ok (.bipush 99, 2) := by decide +kernel
theorem dX11_paysOf_26 : decode cX11_paysOf 26 = .ok (.invokevirtual 386, 3) := by decide +kernel
theorem dX11_paysOf_29 : decode cX11_paysOf 29 = .ok (.ireturn, 1) := by decide +kernel
def xX11_paysOf : zX := (RX11, cX11_paysOf, 3, (some .int), false, { frames := 21, cells := 0, slots := 0, locals := 598 }, 0, 0, 0, 0)
theorem rmX11_paysOf : z_Rm xX11_paysOf := by unfold z_Rm xX11_paysOf; exact ⟨by decide, by decide⟩
theorem reX11_paysOf : z_Re xX11_paysOf := ⟨rfl, rfl⟩
theorem rlX11_paysOf : 1 ≤ xX11_paysOf.2.2.2.2.2.1.frames ∧ 21 ≤ xX11_paysOf.2.2.2.2.2.1.locals := by unfold xX11_paysOf; exact ⟨by decide, by decide⟩
theorem meX11_paysOf : z_Me yX11_paysOf xX11_paysOf 2 := ⟨wd645, wd275, by decide, by decide, by decide +kernel⟩
theorem fitX11_paysOf_9 : z_Fit xX1_colourAt xX11_paysOf := by unfold z_Fit; simp only [xX1_colourAt, xX11_paysOf]; exact ⟨by decide, by decide⟩
theorem fitX11_paysOf_12 : z_Fit xX2_standOn xX11_paysOf := by unfold z_Fit; simp only [xX2_standOn, xX11_paysOf]; exact ⟨by decide, by decide⟩
theorem fitX11_paysOf_26 : z_Fit xX2_held xX11_paysOf := by unfold z_Fit; simp only [xX2_held, xX11_paysOf]; exact ⟨by decide, by decide⟩
noncomputable def kX11_paysOf_0 : zK zR := (q_aload 0 (q_getR 11 7 (q_aload 1 (q_iload 2 (q_aload 1 (q_iload 2 (q_push 0 (q_callV 1 fX1_colourAt 2 (q_callV 2 fX2_standOn 3 (q_aload 0 (q_getR 11 7 (q_aload 0 (q_getR 11 1 (q_push 3 (q_push 99 (q_callV 2 fX2_held 3 q_iret))))))))))))))))
set_option maxRecDepth 100000 in
theorem tX11_paysOf_0 {l : Launch} {D : zD} {B sz0 : Nat} {post : Option Value → zS → Prop} : zSnd l D B xX11_paysOf sz0 post 0 kX11_paysOf_0 (z_Jr post) := (s_aload_n dX11_paysOf_0 rfl (s_getR (f := 7) dX11_paysOf_1 clX11 (by decide) rfl wd582 (s_aload_n dX11_paysOf_4 rfl (s_iload_n dX11_paysOf_5 rfl (s_aload_n dX11_paysOf_6 rfl (s_iload_n dX11_paysOf_7 rfl (s_iconst dX11_paysOf_8 (by decide) (s_callV (r := (RX1, TX1, 5)) dX11_paysOf_9 mX1_colourAt meX1_colourAt wd75 wd76 rfl rfl reX1_colourAt rmX11_paysOf (fitX11_paysOf_9) wd638 (s_callV (r := (RX2, TX2, 3)) dX11_paysOf_12 mX2_standOn meX2_standOn wd639 wd640 rfl rfl reX2_standOn rmX11_paysOf (fitX11_paysOf_12) wd641 (s_aload_n dX11_paysOf_15 rfl (s_getR (f := 7) dX11_paysOf_16 clX11 (by decide) rfl wd582 (s_aload_n dX11_paysOf_19 rfl (s_getR (f := 1) dX11_paysOf_20 clX11 (by decide) rfl wd572 (s_iconst dX11_paysOf_23 (by decide) (s_bipush dX11_paysOf_24 (by decide) (s_callV (r := (RX2, TX2, 3)) dX11_paysOf_26 mX2_held meX2_held wd642 wd643 rfl rfl reX2_held rmX11_paysOf (fitX11_paysOf_26) wd644 (s_iret dX11_paysOf_29 rfl)))))))))))))))))
noncomputable def fX11_paysOf : zF := z_fn 3 kX11_paysOf_0
theorem mX11_paysOf {l : Launch} {D : zD} {B : Nat} : z_MF l D B yX11_paysOf xX11_paysOf fX11_paysOf := z_mf (by decide) rfl (fun h => by cases h) rfl (fun as σ r h => ⟨z_fn_len h, kX11_paysOf_0, z_fn_run h, fun _ => tX11_paysOf_0⟩)
/-! ===== RowChildren.worthOf ===== -/
theorem dX11_worthOf_0 : decode cX11_worthOf 0 = .ok (.aload_n 0, 1) := by decide +kernel
theorem dX11_worthOf_1 : decode cX11_worthOf 1 = .ok (.getfield 47, 3) := by decide +kernel
theorem dX11_worthOf_4 : decode cX11_worthOf 4 = .ok (.aload_n 0, 1) := by decide +kernel
theorem dX11_worthOf_5 : decode cX11_worthOf 5 = .ok (.getfield 33, 3) := by decide +kernel
theorem dX11_worthOf_8 : decode cX11_worthOf 8 = .ok (.iload_n 1, 1) := by decide +kernel
theorem dX11_worthOf_9 : decode cX11_worthOf 9 = .ok (.aload_n 0, 1) := by decide +kernel
theorem dX11_worthOf_10 : decode cX11_worthOf 10 = .ok (.getfield 54, 3) := by decide +kernel
theorem dX11_worthOf_13 : decode cX11_worthOf 13 = .ok (.iload_n 2, 1) := by decide +kernel
theorem dX11_worthOf_14 : decode cX11_worthOf 14 = .ok (.iload_n 3, 1) := by decide +kernel
theorem dX11_worthOf_15 : decode cX11_worthOf 15 = .ok (.invokevirtual 173, 3) := by decide +kernel
theorem dX11_worthOf_18 : decode cX11_worthOf 18 = .ok (.invokevirtual 377, 3) := by decide +kernel
theorem dX11_worthOf_21 : decode cX11_worthOf 21 = .ok (.aload_n 0, 1) := by decide +kernel
theorem dX11_worthOf_22 : decode cX11_worthOf 22 = .ok (.getfield 47, 3) := by decide +kernel
theorem dX11_worthOf_25 : decode cX11_worthOf 25 = .ok (.iload_n 2, 1) := by decide +kernel
theorem dX11_worthOf_26 : decode cX11_worthOf 26 = .ok (.iload_n 3, 1) := by decide +kernel
theorem dX11_worthOf_27 : decode cX11_worthOf 27 = .ok (.invokevirtual 380, 3) := by decide +kernel
theorem dX11_worthOf_30 : decode cX11_worthOf 30 = .ok (.iload_n 2, 1) := by decide +kernel
theorem dX11_worthOf_31 : decode cX11_worthOf 31 = .ok (.ifCond .le 34, 3) := by decide +kernel
theorem dX11_worthOf_34 : decode cX11_worthOf 34 = .ok (.aload_n 0, 1) := by decide +kernel
theorem dX11_worthOf_35 : decode cX11_worthOf 35 = .ok (.getfield 47, 3) := by decide +kernel
theorem dX11_worthOf_38 : decode cX11_worthOf 38 = .ok (.aload_n 0, 1) := by decide +kernel
theorem dX11_worthOf_39 : decode cX11_worthOf 39 = .ok (.getfield 54, 3) := by decide +kernel
theorem dX11_worthOf_42 : decode cX11_worthOf 42 = .ok (.iload_n 2, 1) := by decide +kernel
theorem dX11_worthOf_43 : decode cX11_worthOf 43 = .ok (.iconst 1, 1) := by decide +kernel
theorem dX11_worthOf_44 : decode cX11_worthOf 44 = .ok (.isub, 1) := by decide +kernel
theorem dX11_worthOf_45 : decode cX11_worthOf 45 = .ok (.iload_n 3, 1) := by decide +kernel
theorem dX11_worthOf_46 : decode cX11_worthOf 46 = .ok (.invokevirtual 173, 3) := by decide +kernel
theorem dX11_worthOf_49 : decode cX11_worthOf 49 = .ok (.aload_n 0, 1) := by decide +kernel
theorem dX11_worthOf_50 : decode cX11_worthOf 50 = .ok (.getfield 54, 3) := by decide +kernel
theorem dX11_worthOf_53 : decode cX11_worthOf 53 = .ok (.iload_n 2, 1) := by decide +kernel
theorem dX11_worthOf_54 : decode cX11_worthOf 54 = .ok (.iconst 1, 1) := by decide +kernel
theorem dX11_worthOf_55 : decode cX11_worthOf 55 = .ok (.isub, 1) := by decide +kernel
theorem dX11_worthOf_56 : decode cX11_worthOf 56 = .ok (.iload_n 3, 1) := by decide +kernel
theorem dX11_worthOf_57 : decode cX11_worthOf 57 = .ok (.iconst 1, 1) := by decide +kernel
theorem dX11_worthOf_58 : decode cX11_worthOf 58 = .ok (.iadd, 1) := by decide +kernel
theorem dX11_worthOf_59 : decode cX11_worthOf 59 = .ok (.invokevirtual 173, 3) := by decide +kernel
theorem dX11_worthOf_62 : decode cX11_worthOf 62 = .ok (.invokevirtual 383, 3) := by decide +kernel
theorem dX11_worthOf_65 : decode cX11_worthOf 65 = .ok (.aload_n 0, 1) := by decide +kernel
theorem dX11_worthOf_66 : decode cX11_worthOf 66 = .ok (.getfield 47, 3) := by decide +kernel
theorem dX11_worthOf_69 : decode cX11_worthOf 69 = .ok (.aload_n 0, 1) := by decide +kernel
theorem dX11_worthOf_70 : decode cX11_worthOf 70 = .ok (.getfield 19, 3) := by decide +kernel
theorem dX11_worthOf_73 : decode cX11_worthOf 73 = .ok (.iconst 0, 1) := by decide +kernel
theorem dX11_worthOf_74 : decode cX11_worthOf 74 = .ok (.bipush 99, 2) := by decide +kernel
theorem dX11_worthOf_76 : decode cX11_worthOf 76 = .ok (.invokevirtual 386, 3) := by decide +kernel
theorem dX11_worthOf_79 : decode cX11_worthOf 79 = .ok (.ireturn, 1) := by decide +kernel
def xX11_worthOf : zX := (RX11, cX11_worthOf, 4, (some .int), false, { frames := 21, cells := 0, slots := 0, locals := 598 }, 0, 0, 0, 0)
theorem rmX11_worthOf : z_Rm xX11_worthOf := by unfold z_Rm xX11_worthOf; exact ⟨by decide, by decide⟩
theorem reX11_worthOf : z_Re xX11_worthOf := ⟨rfl, rfl⟩
theorem rlX11_worthOf : 1 ≤ xX11_worthOf.2.2.2.2.2.1.frames ∧ 21 ≤ xX11_worthOf.2.2.2.2.2.1.locals := by unfold xX11_worthOf; exact ⟨by decide, by decide⟩
theorem meX11_worthOf : z_Me yX11_worthOf xX11_worthOf 3 := ⟨wd649, wd275, by decide, by decide, by decide +kernel⟩
theorem fitX11_worthOf_15 : z_Fit xX10_cell xX11_worthOf := by unfold z_Fit; simp only [xX10_cell, xX11_worthOf]; exact ⟨by decide, by decide⟩
theorem fitX11_worthOf_18 : z_Fit xX2_standOn xX11_worthOf := by unfold z_Fit; simp only [xX2_standOn, xX11_worthOf]; exact ⟨by decide, by decide⟩
theorem fitX11_worthOf_27 : z_Fit xX2_standAt xX11_worthOf := by unfold z_Fit; simp only [xX2_standAt, xX11_worthOf]; exact ⟨by decide, by decide⟩
theorem fitX11_worthOf_76 : z_Fit xX2_held xX11_worthOf := by unfold z_Fit; simp only [xX2_held, xX11_worthOf]; exact ⟨by decide, by decide⟩
theorem fitX11_worthOf_46 : z_Fit xX10_cell xX11_worthOf := by unfold z_Fit; simp only [xX10_cell, xX11_worthOf]; exact ⟨by decide, by decide⟩
theorem fitX11_worthOf_59 : z_Fit xX10_cell xX11_worthOf := by unfold z_Fit; simp only [xX10_cell, xX11_worthOf]; exact ⟨by decide, by decide⟩
theorem fitX11_worthOf_62 : z_Fit xX2_haveParents xX11_worthOf := by unfold z_Fit; simp only [xX2_haveParents, xX11_worthOf]; exact ⟨by decide, by decide⟩
noncomputable def kX11_worthOf_65 : zK zR := (q_aload 0 (q_getR 11 7 (q_aload 0 (q_getR 11 1 (q_push 0 (q_push 99 (q_callV 2 fX2_held 3 q_iret)))))))
noncomputable def kX11_worthOf_0 : zK zR := (q_aload 0 (q_getR 11 7 (q_aload 0 (q_getR 11 4 (q_iload 1 (q_aload 0 (q_getR 11 8 (q_iload 2 (q_iload 3 (q_callV 10 fX10_cell 2 (q_callV 2 fX2_standOn 3 (q_aload 0 (q_getR 11 7 (q_iload 2 (q_iload 3 (q_callV 2 fX2_standAt 2 (q_iload 2 (q_if_le kX11_worthOf_65 (q_aload 0 (q_getR 11 7 (q_aload 0 (q_getR 11 8 (q_iload 2 (q_push 1 (q_isub (q_iload 3 (q_callV 10 fX10_cell 2 (q_aload 0 (q_getR 11 8 (q_iload 2 (q_push 1 (q_isub (q_iload 3 (q_push 1 (q_iadd (q_callV 10 fX10_cell 2 (q_callV 2 fX2_haveParents 2 kX11_worthOf_65)))))))))))))))))))))))))))))))))))))
set_option maxRecDepth 100000 in
theorem tX11_worthOf_65 {l : Launch} {D : zD} {B sz0 : Nat} {post : Option Value → zS → Prop} : zSnd l D B xX11_worthOf sz0 post 65 kX11_worthOf_65 (z_Jr post) := (s_aload_n dX11_worthOf_65 rfl (s_getR (f := 7) dX11_worthOf_66 clX11 (by decide) rfl wd582 (s_aload_n dX11_worthOf_69 rfl (s_getR (f := 1) dX11_worthOf_70 clX11 (by decide) rfl wd572 (s_iconst dX11_worthOf_73 (by decide) (s_bipush dX11_worthOf_74 (by decide) (s_callV (r := (RX2, TX2, 3)) dX11_worthOf_76 mX2_held meX2_held wd642 wd643 rfl rfl reX2_held rmX11_worthOf (fitX11_worthOf_76) wd644 (s_iret dX11_worthOf_79 rfl))))))))
set_option maxRecDepth 100000 in
theorem tX11_worthOf_0 {l : Launch} {D : zD} {B sz0 : Nat} {post : Option Value → zS → Prop} : zSnd l D B xX11_worthOf sz0 post 0 kX11_worthOf_0 (z_Jr post) := (s_aload_n dX11_worthOf_0 rfl (s_getR (f := 7) dX11_worthOf_1 clX11 (by decide) rfl wd582 (s_aload_n dX11_worthOf_4 rfl (s_getR (f := 4) dX11_worthOf_5 clX11 (by decide) rfl wd576 (s_iload_n dX11_worthOf_8 rfl (s_aload_n dX11_worthOf_9 rfl (s_getR (f := 8) dX11_worthOf_10 clX11 (by decide) rfl wd584 (s_iload_n dX11_worthOf_13 rfl (s_iload_n dX11_worthOf_14 rfl (s_callV (r := (RX10, TX10, 3)) dX11_worthOf_15 mX10_cell meX10_cell wd23 wd24 rfl rfl reX10_cell rmX11_worthOf (fitX11_worthOf_15) wd646 (s_callV (r := (RX2, TX2, 3)) dX11_worthOf_18 mX2_standOn meX2_standOn wd639 wd640 rfl rfl reX2_standOn rmX11_worthOf (fitX11_worthOf_18) wd641 (s_aload_n dX11_worthOf_21 rfl (s_getR (f := 7) dX11_worthOf_22 clX11 (by decide) rfl wd582 (s_iload_n dX11_worthOf_25 rfl (s_iload_n dX11_worthOf_26 rfl (s_callV (r := (RX2, TX2, 3)) dX11_worthOf_27 mX2_standAt meX2_standAt wd98 wd99 rfl rfl reX2_standAt rmX11_worthOf (fitX11_worthOf_27) wd647 (s_iload_n dX11_worthOf_30 rfl (s_if_le (tgt := 65) dX11_worthOf_31 (by decide) tX11_worthOf_65 (s_aload_n dX11_worthOf_34 rfl (s_getR (f := 7) dX11_worthOf_35 clX11 (by decide) rfl wd582 (s_aload_n dX11_worthOf_38 rfl (s_getR (f := 8) dX11_worthOf_39 clX11 (by decide) rfl wd584 (s_iload_n dX11_worthOf_42 rfl (s_iconst dX11_worthOf_43 (by decide) (s_isub dX11_worthOf_44 (s_iload_n dX11_worthOf_45 rfl (s_callV (r := (RX10, TX10, 3)) dX11_worthOf_46 mX10_cell meX10_cell wd23 wd24 rfl rfl reX10_cell rmX11_worthOf (fitX11_worthOf_46) wd646 (s_aload_n dX11_worthOf_49 rfl (s_getR (f := 8) dX11_worthOf_50 clX11 (by decide) rfl wd584 (s_iload_n dX11_worthOf_53 rfl (s_iconst dX11_worthOf_54 (by decide) (s_isub dX11_worthOf_55 (s_iload_n dX11_worthOf_56 rfl (s_iconst dX11_worthOf_57 (by decide) (s_iadd dX11_worthOf_58 (s_callV (r := (RX10, TX10, 3)) dX11_worthOf_59 mX10_cell meX10_cell wd23 wd24 rfl rfl reX10_cell rmX11_worthOf (fitX11_worthOf_59) wd646 (s_callV (r := (RX2, TX2, 3)) dX11_worthOf_62 mX2_haveParents meX2_haveParents wd101 wd102 rfl rfl reX2_haveParents rmX11_worthOf (fitX11_worthOf_62) wd648 tX11_worthOf_65)))))))))))))))))))))))))))))))))))))
noncomputable def fX11_worthOf : zF := z_fn 4 kX11_worthOf_0
theorem mX11_worthOf {l : Launch} {D : zD} {B : Nat} : z_MF l D B yX11_worthOf xX11_worthOf fX11_worthOf := z_mf (by decide) rfl (fun h => by cases h) rfl (fun as σ r h => ⟨z_fn_len h, kX11_worthOf_0, z_fn_run h, fun _ => tX11_worthOf_0⟩)
/-! ===== RowChildren.allWorth ===== -/
theorem dX11_allWorth_0 : decode cX11_allWorth 0 = .ok (.iconst 0, 1) := by decide +kernel
theorem dX11_allWorth_1 : decode cX11_allWorth 1 = .ok (.istore_n 2, 1) := by decide +kernel
theorem dX11_allWorth_2 : decode cX11_allWorth 2 = .ok (.iconst 0, 1) := by decide +kernel
theorem dX11_allWorth_3 : decode cX11_allWorth 3 = .ok (.istore_n 3, 1) := by decide +kernel
theorem dX11_allWorth_4 : decode cX11_allWorth 4 = .ok (.iload_n 3, 1) := by decide +kernel
theorem dX11_allWorth_5 : decode cX11_allWorth 5 = .ok (.aload_n 0, 1) := by decide +kernel
theorem dX11_allWorth_6 : decode cX11_allWorth 6 = .ok (.getfield 54, 3) := by decide +kernel
theorem dX11_allWorth_9 : decode cX11_allWorth 9 = .ok (.getfield 180, 3) := by decide +kernel
theorem dX11_allWorth_12 : decode cX11_allWorth 12 = .ok (.if_icmp .ge 43, 3) := by decide +kernel
theorem dX11_allWorth_15 : decode cX11_allWorth 15 = .ok (.iconst 0, 1) := by decide +kernel
theorem dX11_allWorth_16 : decode cX11_allWorth 16 = .ok (.istore 4, 2) := by decide +kernel
theorem dX11_allWorth_18 : decode cX11_allWorth 18 = .ok (.iload 4, 2) := by decide +kernel
theorem dX11_allWorth_20 : decode cX11_allWorth 20 = .ok (.aload_n 0, 1) := by decide +kernel
theorem dX11_allWorth_21 : decode cX11_allWorth 21 = .ok (.getfield 54, 3) := by decide +kernel
theorem dX11_allWorth_24 : decode cX11_allWorth 24 = .ok (.getfield 180, 3) := by decide +kernel
theorem dX11_allWorth_27 : decode cX11_allWorth 27 = .ok (.iload_n 3, 1) := by decide +kernel
theorem dX11_allWorth_28 : decode cX11_allWorth 28 = .ok (.isub, 1) := by decide +kernel
theorem dX11_allWorth_29 : decode cX11_allWorth 29 = .ok (.if_icmp .ge 20, 3) := by decide +kernel
theorem dX11_allWorth_32 : decode cX11_allWorth 32 = .ok (.iload_n 2, 1) := by decide +kernel
theorem dX11_allWorth_33 : decode cX11_allWorth 33 = .ok (.aload_n 0, 1) := by decide +kernel
theorem dX11_allWorth_34 : decode cX11_allWorth 34 = .ok (.iload_n 1, 1) := by decide +kernel
theorem dX11_allWorth_35 : decode cX11_allWorth 35 = .ok (.iload_n 3, 1) := by decide +kernel
theorem dX11_allWorth_36 : decode cX11_allWorth 36 = .ok (.iload 4, 2) := by decide +kernel
theorem dX11_allWorth_38 : decode cX11_allWorth 38 = .ok (.invokevirtual 176, 3) := by decide +kernel
theorem dX11_allWorth_41 : decode cX11_allWorth 41 = .ok (.iadd, 1) := by decide +kernel
theorem dX11_allWorth_42 : decode cX11_allWorth 42 = .ok (.istore_n 2, 1) := by decide +kernel
theorem dX11_allWorth_43 : decode cX11_allWorth 43 = .ok (.iinc 4 1, 3) := by decide +kernel
theorem dX11_allWorth_46 : decode cX11_allWorth 46 = .ok (.goto (-28), 3) := by decide +kernel
theorem dX11_allWorth_49 : decode cX11_allWorth 49 = .ok (.iinc 3 1, 3) := by decide +kernel
theorem dX11_allWorth_52 : decode cX11_allWorth 52 = .ok (.goto (-48), 3) := by decide +kernel
theorem dX11_allWorth_55 : decode cX11_allWorth 55 = .ok (.iload_n 2, 1) := by decide +kernel
theorem dX11_allWorth_56 : decode cX11_allWorth 56 = .ok (.ireturn, 1) := by decide +kernel
def xX11_allWorth : zX := (RX11, cX11_allWorth, 5, (some .int), false, { frames := 22, cells := 0, slots := 0, locals := 621 }, 0, 0, 0, 0)
theorem rmX11_allWorth : z_Rm xX11_allWorth := by unfold z_Rm xX11_allWorth; exact ⟨by decide, by decide⟩
theorem reX11_allWorth : z_Re xX11_allWorth := ⟨rfl, rfl⟩
theorem rlX11_allWorth : 1 ≤ xX11_allWorth.2.2.2.2.2.1.frames ∧ 21 ≤ xX11_allWorth.2.2.2.2.2.1.locals := by unfold xX11_allWorth; exact ⟨by decide, by decide⟩
theorem meX11_allWorth : z_Me yX11_allWorth xX11_allWorth 1 := ⟨wd654, wd275, by decide, by decide, by decide +kernel⟩
theorem fitX11_allWorth_38 : z_Fit xX11_worthOf xX11_allWorth := by unfold z_Fit; simp only [xX11_worthOf, xX11_allWorth]; exact ⟨by decide, by decide⟩
noncomputable def kX11_allWorth_55 : zK zR := (q_iload 2 q_iret)
noncomputable def kX11_allWorth_49 : zK ((zL × zS) ⊕ zR) := (q_iinc 3 1 q_ag)
noncomputable def bX11_allWorth_18 : zK ((zL × zS) ⊕ ((zL × zS) ⊕ zR)) := (q_iload 4 (q_aload 0 (q_getR 11 8 (q_getI 10 0 (q_iload 3 (q_isub (q_icmp_ge (q_dn kX11_allWorth_49) (q_iload 2 (q_aload 0 (q_iload 1 (q_iload 3 (q_iload 4 (q_callV 11 fX11_worthOf 3 (q_iadd (q_istore 2 (q_iinc 4 1 q_ag))))))))))))))))
noncomputable def kX11_allWorth_18 : zK ((zL × zS) ⊕ zR) := q_lp (bX11_allWorth_18)
noncomputable def bX11_allWorth_4 : zK ((zL × zS) ⊕ zR) := (q_iload 3 (q_aload 0 (q_getR 11 8 (q_getI 10 0 (q_icmp_ge (q_dn kX11_allWorth_55) (q_push 0 (q_istore 4 kX11_allWorth_18)))))))
noncomputable def kX11_allWorth_4 : zK zR := q_lp (bX11_allWorth_4)
noncomputable def kX11_allWorth_0 : zK zR := (q_push 0 (q_istore 2 (q_push 0 (q_istore 3 kX11_allWorth_4))))
set_option maxRecDepth 100000 in
theorem tX11_allWorth_55 {l : Launch} {D : zD} {B sz0 : Nat} {post : Option Value → zS → Prop} : zSnd l D B xX11_allWorth sz0 post 55 kX11_allWorth_55 (z_Jr post) := (s_iload_n dX11_allWorth_55 rfl (s_iret dX11_allWorth_56 rfl))
set_option maxRecDepth 100000 in
theorem tX11_allWorth_49 {l : Launch} {D : zD} {B sz0 : Nat} {post : Option Value → zS → Prop} : zSnd l D B xX11_allWorth sz0 post 49 kX11_allWorth_49 (z_Jl l D B xX11_allWorth sz0 post 4 (z_Jr post)) := (s_iinc dX11_allWorth_49 (by decide) (s_goto (tgt := 4) dX11_allWorth_52 (by decide) s_ag))
set_option maxRecDepth 100000 in
theorem tX11_allWorth_18 {l : Launch} {D : zD} {B sz0 : Nat} {post : Option Value → zS → Prop} : zSnd l D B xX11_allWorth sz0 post 18 kX11_allWorth_18 (z_Jl l D B xX11_allWorth sz0 post 4 (z_Jr post)) := s_lp (body := bX11_allWorth_18) (s_iload dX11_allWorth_18 (s_aload_n dX11_allWorth_20 rfl (s_getR (f := 8) dX11_allWorth_21 clX11 (by decide) rfl wd584 (s_getI (f := 0) dX11_allWorth_24 clX10 (by decide) rfl wd650 (s_iload_n dX11_allWorth_27 rfl (s_isub dX11_allWorth_28 (s_icmp_ge (tgt := 49) dX11_allWorth_29 (by decide) (s_dn tX11_allWorth_49) (s_iload_n dX11_allWorth_32 rfl (s_aload_n dX11_allWorth_33 rfl (s_iload_n dX11_allWorth_34 rfl (s_iload_n dX11_allWorth_35 rfl (s_iload dX11_allWorth_36 (s_callV (r := (RX11, TX11, 13)) dX11_allWorth_38 mX11_worthOf meX11_worthOf wd651 wd652 rfl rfl reX11_worthOf rmX11_allWorth (fitX11_allWorth_38) wd653 (s_iadd dX11_allWorth_41 (s_istore_n dX11_allWorth_42 rfl (s_iinc dX11_allWorth_43 (by decide) (s_goto (tgt := 18) dX11_allWorth_46 (by decide) s_ag)))))))))))))))))
set_option maxRecDepth 100000 in
theorem tX11_allWorth_4 {l : Launch} {D : zD} {B sz0 : Nat} {post : Option Value → zS → Prop} : zSnd l D B xX11_allWorth sz0 post 4 kX11_allWorth_4 (z_Jr post) := s_lp (body := bX11_allWorth_4) (s_iload_n dX11_allWorth_4 rfl (s_aload_n dX11_allWorth_5 rfl (s_getR (f := 8) dX11_allWorth_6 clX11 (by decide) rfl wd584 (s_getI (f := 0) dX11_allWorth_9 clX10 (by decide) rfl wd650 (s_icmp_ge (tgt := 55) dX11_allWorth_12 (by decide) (s_dn tX11_allWorth_55) (s_iconst dX11_allWorth_15 (by decide) (s_istore dX11_allWorth_16 tX11_allWorth_18)))))))
set_option maxRecDepth 100000 in
theorem tX11_allWorth_0 {l : Launch} {D : zD} {B sz0 : Nat} {post : Option Value → zS → Prop} : zSnd l D B xX11_allWorth sz0 post 0 kX11_allWorth_0 (z_Jr post) := (s_iconst dX11_allWorth_0 (by decide) (s_istore_n dX11_allWorth_1 rfl (s_iconst dX11_allWorth_2 (by decide) (s_istore_n dX11_allWorth_3 rfl tX11_allWorth_4))))
noncomputable def fX11_allWorth : zF := z_fn 5 kX11_allWorth_0
theorem mX11_allWorth {l : Launch} {D : zD} {B : Nat} : z_MF l D B yX11_allWorth xX11_allWorth fX11_allWorth := z_mf (by decide) rfl (fun h => by cases h) rfl (fun as σ r h => ⟨z_fn_len h, kX11_allWorth_0, z_fn_run h, fun _ => tX11_allWorth_0⟩)
/-! ===== RowChildren.row ===== -/
theorem dX11_row_0 : decode cX11_row 0 = .ok (.aload_n 0, 1) := by decide +kernel
theorem dX11_row_1 : decode cX11_row 1 = .ok (.iload_n 1, 1) := by decide +kernel
theorem dX11_row_2 : decode cX11_row 2 = .ok (.invokevirtual 134, 3) := by decide +kernel
theorem dX11_row_5 : decode cX11_row 5 = .ok (.ifCond .ne 5, 3) := by decide +kernel
theorem dX11_row_8 : decode cX11_row 8 = .ok (.iconst (-1), 1) := by decide +kernel
theorem dX11_row_9 : decode cX11_row 9 = .ok (.ireturn, 1) := by decide +kernel
theorem dX11_row_10 : decode cX11_row 10 = .ok (.aload_n 0, 1) := by decide +kernel
theorem dX11_row_11 : decode cX11_row 11 = .ok (.getfield 54, 3) := by decide +kernel
theorem dX11_row_14 : decode cX11_row 14 = .ok (.aload_n 0, 1) := by decide +kernel
theorem dX11_row_15 : decode cX11_row 15 = .ok (.getfield 19, 3) := by decide +kernel
theorem dX11_row_18 : decode cX11_row 18 = .ok (.getfield 124, 3) := by decide +kernel
theorem dX11_row_21 : decode cX11_row 21 = .ok (.aload_n 0, 1) := by decide +kernel
theorem dX11_row_22 : decode cX11_row 22 = .ok (.getfield 33, 3) := by decide +kernel
theorem dX11_row_25 : decode cX11_row 25 = .ok (.iload_n 1, 1) := by decide +kernel
theorem dX11_row_26 : decode cX11_row 26 = .ok (.invokevirtual 137, 3) := by decide +kernel
theorem dX11_row_29 : decode cX11_row 29 = .ok (.iload_n 2, 1) := by decide +kernel
theorem dX11_row_30 : decode cX11_row 30 = .ok (.tableswitch 136 0 6 #[42, 51, 70, 78, 88, 114, 130], 42) := by decide +kernel
theorem dX11_row_72 : decode cX11_row 72 = .ok (.aload_n 0, 1) := by decide +kernel
theorem dX11_row_73 : decode cX11_row 73 = .ok (.getfield 33, 3) := by decide +kernel
theorem dX11_row_76 : decode cX11_row 76 = .ok (.iload_n 1, 1) := by decide +kernel
theorem dX11_row_77 : decode cX11_row 77 = .ok (.invokevirtual 141, 3) := by decide +kernel
theorem dX11_row_80 : decode cX11_row 80 = .ok (.ireturn, 1) := by decide +kernel
theorem dX11_row_81 : decode cX11_row 81 = .ok (.aload_n 0, 1) := by decide +kernel
theorem dX11_row_82 : decode cX11_row 82 = .ok (.getfield 33, 3) := by decide +kernel
theorem dX11_row_85 : decode cX11_row 85 = .ok (.iload_n 1, 1) := by decide +kernel
theorem dX11_row_86 : decode cX11_row 86 = .ok (.aload_n 0, 1) := by decide +kernel
theorem dX11_row_87 : decode cX11_row 87 = .ok (.getfield 19, 3) := by decide +kernel
theorem dX11_row_90 : decode cX11_row 90 = .ok (.getfield 124, 3) := by decide +kernel
theorem dX11_row_93 : decode cX11_row 93 = .ok (.getfield 145, 3) := by decide +kernel
theorem dX11_row_96 : decode cX11_row 96 = .ok (.invokevirtual 148, 3) := by decide +kernel
theorem dX11_row_99 : decode cX11_row 99 = .ok (.ireturn, 1) := by decide +kernel
theorem dX11_row_100 : decode cX11_row 100 = .ok (.aload_n 0, 1) := by decide +kernel
theorem dX11_row_101 : decode cX11_row 101 = .ok (.getfield 54, 3) := by decide +kernel
theorem dX11_row_104 : decode cX11_row 104 = .ok (.invokevirtual 151, 3) := by decide +kernel
theorem dX11_row_107 : decode cX11_row 107 = .ok (.ireturn, 1) := by decide +kernel
theorem dX11_row_108 : decode cX11_row 108 = .ok (.aload_n 0, 1) := by decide +kernel
theorem dX11_row_109 : decode cX11_row 109 = .ok (.aload_n 0, 1) := by decide +kernel
theorem dX11_row_110 : decode cX11_row 110 = .ok (.getfield 33, 3) := by decide +kernel
theorem dX11_row_113 : decode cX11_row 113 = .ok (.iload_n 1, 1) := by decide +kernel
theorem dX11_row_114 : decode cX11_row 114 = .ok (.invokevirtual 155, 3) := by decide +kernel
theorem dX11_row_117 : decode cX11_row 117 = .ok (.ireturn, 1) := by decide +kernel
theorem dX11_row_118 : decode cX11_row 118 = .ok (.aload_n 0, 1) := by decide +kernel
theorem dX11_row_119 : decode cX11_row 119 = .ok (.getfield 54, 3) := by decide +kernel
theorem dX11_row_122 : decode cX11_row 122 = .ok (.aload_n 0, 1) := by decide +kernel
theorem dX11_row_123 : decode cX11_row 123 = .ok (.getfield 19, 3) := by decide +kernel
theorem dX11_row_126 : decode cX11_row 126 = .ok (.getfield 124, 3) := by decide +kernel
theorem dX11_row_129 : decode cX11_row 129 = .ok (.getfield 145, 3) := by decide +kernel
theorem dX11_row_132 : decode cX11_row 132 = .ok (.invokevirtual 159, 3) := by decide +kernel
theorem dX11_row_135 : decode cX11_row 135 = .ok (.ifCond .eq 7, 3) := by decide +kernel
theorem dX11_row_138 : decode cX11_row 138 = .ok (.iconst 1, 1) := by decide +kernel
theorem dX11_row_139 : decode cX11_row 139 = .ok (.goto 4, 3) := by decide +kernel
theorem dX11_row_142 : decode cX11_row 142 = .ok (.iconst 0, 1) := by decide +kernel
theorem dX11_row_143 : decode cX11_row 143 = .ok (.ireturn, 1) := by decide +kernel
theorem dX11_row_144 : decode cX11_row 144 = .ok (.aload_n 0, 1) := by decide +kernel
theorem dX11_row_145 : decode cX11_row 145 = .ok (.getfield 54, 3) := by decide +kernel
theorem dX11_row_148 : decode cX11_row 148 = .ok (.invokevirtual 162, 3) := by decide +kernel
theorem dX11_row_151 : decode cX11_row 151 = .ok (.ifCond .eq 7, 3) := by decide +kernel
theorem dX11_row_154 : decode cX11_row 154 = .ok (.iconst 1, 1) := by decide +kernel
theorem dX11_row_155 : decode cX11_row 155 = .ok (.goto 4, 3) := by decide +kernel
theorem dX11_row_158 : decode cX11_row 158 = .ok (.iconst 0, 1) := by decide +kernel
theorem dX11_row_159 : decode cX11_row 159 = .ok (.ireturn, 1) := by decide +kernel
theorem dX11_row_160 : decode cX11_row 160 = .ok (.aload_n 0, 1) := by decide +kernel
theorem dX11_row_161 : decode cX11_row 161 = .ok (.iload_n 1, 1) := by decide +kernel
theorem dX11_row_162 : decode cX11_row 162 = .ok (.invokevirtual 166, 3) := by decide +kernel
theorem dX11_row_165 : decode cX11_row 165 = .ok (.ireturn, 1) := by decide +kernel
theorem dX11_row_166 : decode cX11_row 166 = .ok (.iconst (-1), 1) := by decide +kernel
theorem dX11_row_167 : decode cX11_row 167 = .ok (.ireturn, 1) := by decide +kernel
def xX11_row : zX := (RX11, cX11_row, 3, (some .int), false, { frames := 23, cells := 0, slots := 0, locals := 645 }, 0, 0, 0, 0)
theorem rmX11_row : z_Rm xX11_row := by unfold z_Rm xX11_row; exact ⟨by decide, by decide⟩
theorem reX11_row : z_Re xX11_row := ⟨rfl, rfl⟩
theorem rlX11_row : 1 ≤ xX11_row.2.2.2.2.2.1.frames ∧ 21 ≤ xX11_row.2.2.2.2.2.1.locals := by unfold xX11_row; exact ⟨by decide, by decide⟩
theorem meX11_row : z_Me yX11_row xX11_row 2 := ⟨wd674, wd275, by decide, by decide, by decide +kernel⟩
theorem fitX11_row_2 : z_Fit xX11_isRow xX11_row := by unfold z_Fit; simp only [xX11_isRow, xX11_row]; exact ⟨by decide, by decide⟩
theorem fitX11_row_26 : z_Fit xX10_fill xX11_row := by unfold z_Fit; simp only [xX10_fill, xX11_row]; exact ⟨by decide, by decide⟩
theorem fitX11_row_77 : z_Fit xX1_lengthOf xX11_row := by unfold z_Fit; simp only [xX1_lengthOf, xX11_row]; exact ⟨by decide, by decide⟩
theorem fitX11_row_96 : z_Fit xX1_numberOf xX11_row := by unfold z_Fit; simp only [xX1_numberOf, xX11_row]; exact ⟨by decide, by decide⟩
theorem fitX11_row_104 : z_Fit xX10_lastChild xX11_row := by unfold z_Fit; simp only [xX10_lastChild, xX11_row]; exact ⟨by decide, by decide⟩
theorem fitX11_row_114 : z_Fit xX11_paysOf xX11_row := by unfold z_Fit; simp only [xX11_paysOf, xX11_row]; exact ⟨by decide, by decide⟩
theorem fitX11_row_132 : z_Fit xX10_isFair xX11_row := by unfold z_Fit; simp only [xX10_isFair, xX11_row]; exact ⟨by decide, by decide⟩
theorem fitX11_row_148 : z_Fit xX10_isTurned xX11_row := by unfold z_Fit; simp only [xX10_isTurned, xX11_row]; exact ⟨by decide, by decide⟩
theorem fitX11_row_162 : z_Fit xX11_allWorth xX11_row := by unfold z_Fit; simp only [xX11_allWorth, xX11_row]; exact ⟨by decide, by decide⟩
noncomputable def kX11_row_143 : zK zR := q_iret
noncomputable def kX11_row_159 : zK zR := q_iret
noncomputable def kX11_row_0 : zK zR := (q_aload 0 (q_iload 1 (q_callV 11 fX11_isRow 1 (q_if_ne (q_aload 0 (q_getR 11 8 (q_aload 0 (q_getR 11 1 (q_getR 7 1 (q_aload 0 (q_getR 11 4 (q_iload 1 (q_callV 10 fX10_fill 3 (q_iload 2 (q_sw 0 [(q_aload 0 (q_getR 11 4 (q_iload 1 (q_callV 1 fX1_lengthOf 1 q_iret)))), (q_aload 0 (q_getR 11 4 (q_iload 1 (q_aload 0 (q_getR 11 1 (q_getR 7 1 (q_getI 5 0 (q_callV 1 fX1_numberOf 2 q_iret)))))))), (q_aload 0 (q_getR 11 8 (q_callV 10 fX10_lastChild 0 q_iret))), (q_aload 0 (q_aload 0 (q_getR 11 4 (q_iload 1 (q_callV 11 fX11_paysOf 2 q_iret))))), (q_aload 0 (q_getR 11 8 (q_aload 0 (q_getR 11 1 (q_getR 7 1 (q_getI 5 0 (q_callV 10 fX10_isFair 1 (q_if_eq (q_push 0 kX11_row_143) (q_push 1 kX11_row_143))))))))), (q_aload 0 (q_getR 11 8 (q_callV 10 fX10_isTurned 0 (q_if_eq (q_push 0 kX11_row_159) (q_push 1 kX11_row_159))))), (q_aload 0 (q_iload 1 (q_callV 11 fX11_allWorth 1 q_iret)))] (q_push (-1) q_iret)))))))))))) (q_push (-1) q_iret)))))
set_option maxRecDepth 100000 in
theorem tX11_row_143 {l : Launch} {D : zD} {B sz0 : Nat} {post : Option Value → zS → Prop} : zSnd l D B xX11_row sz0 post 143 kX11_row_143 (z_Jr post) := (s_iret dX11_row_143 rfl)
set_option maxRecDepth 100000 in
theorem tX11_row_159 {l : Launch} {D : zD} {B sz0 : Nat} {post : Option Value → zS → Prop} : zSnd l D B xX11_row sz0 post 159 kX11_row_159 (z_Jr post) := (s_iret dX11_row_159 rfl)
set_option maxRecDepth 100000 in
theorem tX11_row_0 {l : Launch} {D : zD} {B sz0 : Nat} {post : Option Value → zS → Prop} : zSnd l D B xX11_row sz0 post 0 kX11_row_0 (z_Jr post) := (s_aload_n dX11_row_0 rfl (s_iload_n dX11_row_1 rfl (s_callV (r := (RX11, TX11, 13)) dX11_row_2 mX11_isRow meX11_isRow wd655 wd656 rfl rfl reX11_isRow rmX11_row (fitX11_row_2) wd657 (s_if_ne (tgt := 10) dX11_row_5 (by decide) (s_aload_n dX11_row_10 rfl (s_getR (f := 8) dX11_row_11 clX11 (by decide) rfl wd584 (s_aload_n dX11_row_14 rfl (s_getR (f := 1) dX11_row_15 clX11 (by decide) rfl wd572 (s_getR (f := 1) dX11_row_18 clX7 (by decide) rfl wd628 (s_aload_n dX11_row_21 rfl (s_getR (f := 4) dX11_row_22 clX11 (by decide) rfl wd576 (s_iload_n dX11_row_25 rfl (s_callV (r := (RX10, TX10, 3)) dX11_row_26 mX10_fill meX10_fill wd658 wd659 rfl rfl reX10_fill rmX11_row (fitX11_row_26) wd660 (s_iload_n dX11_row_29 rfl (s_swL (tgts := [72, 81, 100, 108, 118, 144, 160]) (td := 166) dX11_row_30 (by decide) (by decide) (by decide) ⟨(s_aload_n dX11_row_72 rfl (s_getR (f := 4) dX11_row_73 clX11 (by decide) rfl wd576 (s_iload_n dX11_row_76 rfl (s_callV (r := (RX1, TX1, 5)) dX11_row_77 mX1_lengthOf meX1_lengthOf wd65 wd66 rfl rfl reX1_lengthOf rmX11_row (fitX11_row_77) wd661 (s_iret dX11_row_80 rfl))))), ⟨(s_aload_n dX11_row_81 rfl (s_getR (f := 4) dX11_row_82 clX11 (by decide) rfl wd576 (s_iload_n dX11_row_85 rfl (s_aload_n dX11_row_86 rfl (s_getR (f := 1) dX11_row_87 clX11 (by decide) rfl wd572 (s_getR (f := 1) dX11_row_90 clX7 (by decide) rfl wd628 (s_getI (f := 0) dX11_row_93 clX5 (by decide) rfl wd629 (s_callV (r := (RX1, TX1, 5)) dX11_row_96 mX1_numberOf meX1_numberOf wd79 wd80 rfl rfl reX1_numberOf rmX11_row (fitX11_row_96) wd662 (s_iret dX11_row_99 rfl))))))))), ⟨(s_aload_n dX11_row_100 rfl (s_getR (f := 8) dX11_row_101 clX11 (by decide) rfl wd584 (s_callV (r := (RX10, TX10, 3)) dX11_row_104 mX10_lastChild meX10_lastChild wd27 wd28 rfl rfl reX10_lastChild rmX11_row (fitX11_row_104) wd663 (s_iret dX11_row_107 rfl)))), ⟨(s_aload_n dX11_row_108 rfl (s_aload_n dX11_row_109 rfl (s_getR (f := 4) dX11_row_110 clX11 (by decide) rfl wd576 (s_iload_n dX11_row_113 rfl (s_callV (r := (RX11, TX11, 13)) dX11_row_114 mX11_paysOf meX11_paysOf wd664 wd665 rfl rfl reX11_paysOf rmX11_row (fitX11_row_114) wd666 (s_iret dX11_row_117 rfl)))))), ⟨(s_aload_n dX11_row_118 rfl (s_getR (f := 8) dX11_row_119 clX11 (by decide) rfl wd584 (s_aload_n dX11_row_122 rfl (s_getR (f := 1) dX11_row_123 clX11 (by decide) rfl wd572 (s_getR (f := 1) dX11_row_126 clX7 (by decide) rfl wd628 (s_getI (f := 0) dX11_row_129 clX5 (by decide) rfl wd629 (s_callV (r := (RX10, TX10, 3)) dX11_row_132 mX10_isFair meX10_isFair wd199 wd200 rfl rfl reX10_isFair rmX11_row (fitX11_row_132) wd667 (s_if_eq (tgt := 142) dX11_row_135 (by decide) (s_iconst dX11_row_142 (by decide) tX11_row_143) (s_iconst dX11_row_138 (by decide) (s_goto (tgt := 143) dX11_row_139 (by decide) tX11_row_143)))))))))), ⟨(s_aload_n dX11_row_144 rfl (s_getR (f := 8) dX11_row_145 clX11 (by decide) rfl wd584 (s_callV (r := (RX10, TX10, 3)) dX11_row_148 mX10_isTurned meX10_isTurned wd668 wd669 rfl rfl reX10_isTurned rmX11_row (fitX11_row_148) wd670 (s_if_eq (tgt := 158) dX11_row_151 (by decide) (s_iconst dX11_row_158 (by decide) tX11_row_159) (s_iconst dX11_row_154 (by decide) (s_goto (tgt := 159) dX11_row_155 (by decide) tX11_row_159)))))), ⟨(s_aload_n dX11_row_160 rfl (s_iload_n dX11_row_161 rfl (s_callV (r := (RX11, TX11, 13)) dX11_row_162 mX11_allWorth meX11_allWorth wd671 wd672 rfl rfl reX11_allWorth rmX11_row (fitX11_row_162) wd673 (s_iret dX11_row_165 rfl)))), True.intro⟩⟩⟩⟩⟩⟩⟩ (s_iconst dX11_row_166 (by decide) (s_iret dX11_row_167 rfl))))))))))))) (s_iconst dX11_row_8 (by decide) (s_iret dX11_row_9 rfl))))))
noncomputable def fX11_row : zF := z_fn 3 kX11_row_0
theorem mX11_row {l : Launch} {D : zD} {B : Nat} : z_MF l D B yX11_row xX11_row fX11_row := z_mf (by decide) rfl (fun h => by cases h) rfl (fun as σ r h => ⟨z_fn_len h, kX11_row_0, z_fn_run h, fun _ => tX11_row_0⟩)
/-! ===== RowChildren.at ===== -/
theorem dX11_at_0 : decode cX11_at 0 = .ok (.aload_n 0, 1) := by decide +kernel
theorem dX11_at_1 : decode cX11_at 1 = .ok (.iload_n 1, 1) := by decide +kernel
theorem dX11_at_2 : decode cX11_at 2 = .ok (.invokevirtual 134, 3) := by decide +kernel
theorem dX11_at_5 : decode cX11_at 5 = .ok (.ifCond .ne 5, 3) := by decide +kernel
theorem dX11_at_8 : decode cX11_at 8 = .ok (.iconst (-1), 1) := by decide +kernel
theorem dX11_at_9 : decode cX11_at 9 = .ok (.ireturn, 1) := by decide +kernel
theorem dX11_at_10 : decode cX11_at 10 = .ok (.aload_n 0, 1) := by decide +kernel
theorem dX11_at_11 : decode cX11_at 11 = .ok (.getfield 54, 3) := by decide +kernel
theorem dX11_at_14 : decode cX11_at 14 = .ok (.aload_n 0, 1) := by decide +kernel
theorem dX11_at_15 : decode cX11_at 15 = .ok (.getfield 19, 3) := by decide +kernel
theorem dX11_at_18 : decode cX11_at 18 = .ok (.getfield 124, 3) := by decide +kernel
theorem dX11_at_21 : decode cX11_at 21 = .ok (.aload_n 0, 1) := by decide +kernel
theorem dX11_at_22 : decode cX11_at 22 = .ok (.getfield 33, 3) := by decide +kernel
theorem dX11_at_25 : decode cX11_at 25 = .ok (.iload_n 1, 1) := by decide +kernel
theorem dX11_at_26 : decode cX11_at 26 = .ok (.invokevirtual 137, 3) := by decide +kernel
theorem dX11_at_29 : decode cX11_at 29 = .ok (.aload_n 0, 1) := by decide +kernel
theorem dX11_at_30 : decode cX11_at 30 = .ok (.getfield 54, 3) := by decide +kernel
theorem dX11_at_33 : decode cX11_at 33 = .ok (.iload_n 2, 1) := by decide +kernel
theorem dX11_at_34 : decode cX11_at 34 = .ok (.iload_n 3, 1) := by decide +kernel
theorem dX11_at_35 : decode cX11_at 35 = .ok (.invokevirtual 169, 3) := by decide +kernel
theorem dX11_at_38 : decode cX11_at 38 = .ok (.ifCond .eq 15, 3) := by decide +kernel
theorem dX11_at_41 : decode cX11_at 41 = .ok (.aload_n 0, 1) := by decide +kernel
theorem dX11_at_42 : decode cX11_at 42 = .ok (.getfield 54, 3) := by decide +kernel
theorem dX11_at_45 : decode cX11_at 45 = .ok (.iload_n 2, 1) := by decide +kernel
theorem dX11_at_46 : decode cX11_at 46 = .ok (.iload_n 3, 1) := by decide +kernel
theorem dX11_at_47 : decode cX11_at 47 = .ok (.invokevirtual 173, 3) := by decide +kernel
theorem dX11_at_50 : decode cX11_at 50 = .ok (.goto 4, 3) := by decide +kernel
theorem dX11_at_53 : decode cX11_at 53 = .ok (.iconst (-1), 1) := by decide +kernel
theorem dX11_at_54 : decode cX11_at 54 = .ok (.ireturn, 1) := by decide +kernel
def xX11_at : zX := (RX11, cX11_at, 4, (some .int), false, { frames := 4, cells := 0, slots := 0, locals := 159 }, 0, 0, 0, 0)
theorem rmX11_at : z_Rm xX11_at := by unfold z_Rm xX11_at; exact ⟨by decide, by decide⟩
theorem reX11_at : z_Re xX11_at := ⟨rfl, rfl⟩
theorem rlX11_at : 1 ≤ xX11_at.2.2.2.2.2.1.frames ∧ 21 ≤ xX11_at.2.2.2.2.2.1.locals := by unfold xX11_at; exact ⟨by decide, by decide⟩
theorem meX11_at : z_Me yX11_at xX11_at 3 := ⟨wd676, wd275, by decide, by decide, by decide +kernel⟩
theorem fitX11_at_2 : z_Fit xX11_isRow xX11_at := by unfold z_Fit; simp only [xX11_isRow, xX11_at]; exact ⟨by decide, by decide⟩
theorem fitX11_at_26 : z_Fit xX10_fill xX11_at := by unfold z_Fit; simp only [xX10_fill, xX11_at]; exact ⟨by decide, by decide⟩
theorem fitX11_at_35 : z_Fit xX10_has xX11_at := by unfold z_Fit; simp only [xX10_has, xX11_at]; exact ⟨by decide, by decide⟩
theorem fitX11_at_47 : z_Fit xX10_cell xX11_at := by unfold z_Fit; simp only [xX10_cell, xX11_at]; exact ⟨by decide, by decide⟩
noncomputable def kX11_at_54 : zK zR := q_iret
noncomputable def kX11_at_0 : zK zR := (q_aload 0 (q_iload 1 (q_callV 11 fX11_isRow 1 (q_if_ne (q_aload 0 (q_getR 11 8 (q_aload 0 (q_getR 11 1 (q_getR 7 1 (q_aload 0 (q_getR 11 4 (q_iload 1 (q_callV 10 fX10_fill 3 (q_aload 0 (q_getR 11 8 (q_iload 2 (q_iload 3 (q_callV 10 fX10_has 2 (q_if_eq (q_push (-1) kX11_at_54) (q_aload 0 (q_getR 11 8 (q_iload 2 (q_iload 3 (q_callV 10 fX10_cell 2 kX11_at_54)))))))))))))))))))) (q_push (-1) q_iret)))))
set_option maxRecDepth 100000 in
theorem tX11_at_54 {l : Launch} {D : zD} {B sz0 : Nat} {post : Option Value → zS → Prop} : zSnd l D B xX11_at sz0 post 54 kX11_at_54 (z_Jr post) := (s_iret dX11_at_54 rfl)
set_option maxRecDepth 100000 in
theorem tX11_at_0 {l : Launch} {D : zD} {B sz0 : Nat} {post : Option Value → zS → Prop} : zSnd l D B xX11_at sz0 post 0 kX11_at_0 (z_Jr post) := (s_aload_n dX11_at_0 rfl (s_iload_n dX11_at_1 rfl (s_callV (r := (RX11, TX11, 13)) dX11_at_2 mX11_isRow meX11_isRow wd655 wd656 rfl rfl reX11_isRow rmX11_at (fitX11_at_2) wd657 (s_if_ne (tgt := 10) dX11_at_5 (by decide) (s_aload_n dX11_at_10 rfl (s_getR (f := 8) dX11_at_11 clX11 (by decide) rfl wd584 (s_aload_n dX11_at_14 rfl (s_getR (f := 1) dX11_at_15 clX11 (by decide) rfl wd572 (s_getR (f := 1) dX11_at_18 clX7 (by decide) rfl wd628 (s_aload_n dX11_at_21 rfl (s_getR (f := 4) dX11_at_22 clX11 (by decide) rfl wd576 (s_iload_n dX11_at_25 rfl (s_callV (r := (RX10, TX10, 3)) dX11_at_26 mX10_fill meX10_fill wd658 wd659 rfl rfl reX10_fill rmX11_at (fitX11_at_26) wd660 (s_aload_n dX11_at_29 rfl (s_getR (f := 8) dX11_at_30 clX11 (by decide) rfl wd584 (s_iload_n dX11_at_33 rfl (s_iload_n dX11_at_34 rfl (s_callV (r := (RX10, TX10, 3)) dX11_at_35 mX10_has meX10_has wd517 wd518 rfl rfl reX10_has rmX11_at (fitX11_at_35) wd675 (s_if_eq (tgt := 53) dX11_at_38 (by decide) (s_iconst dX11_at_53 (by decide) tX11_at_54) (s_aload_n dX11_at_41 rfl (s_getR (f := 8) dX11_at_42 clX11 (by decide) rfl wd584 (s_iload_n dX11_at_45 rfl (s_iload_n dX11_at_46 rfl (s_callV (r := (RX10, TX10, 3)) dX11_at_47 mX10_cell meX10_cell wd23 wd24 rfl rfl reX10_cell rmX11_at (fitX11_at_47) wd646 (s_goto (tgt := 54) dX11_at_50 (by decide) tX11_at_54))))))))))))))))))))) (s_iconst dX11_at_8 (by decide) (s_iret dX11_at_9 rfl))))))
noncomputable def fX11_at : zF := z_fn 4 kX11_at_0
theorem mX11_at {l : Launch} {D : zD} {B : Nat} : z_MF l D B yX11_at xX11_at fX11_at := z_mf (by decide) rfl (fun h => by cases h) rfl (fun as σ r h => ⟨z_fn_len h, kX11_at_0, z_fn_run h, fun _ => tX11_at_0⟩)
/-! ===== RowChildren.worth ===== -/
theorem dX11_worth_0 : decode cX11_worth 0 = .ok (.aload_n 0, 1) := by decide +kernel
theorem dX11_worth_1 : decode cX11_worth 1 = .ok (.iload_n 1, 1) := by decide +kernel
theorem dX11_worth_2 : decode cX11_worth 2 = .ok (.invokevirtual 134, 3) := by decide +kernel
theorem dX11_worth_5 : decode cX11_worth 5 = .ok (.ifCond .ne 5, 3) := by decide +kernel
theorem dX11_worth_8 : decode cX11_worth 8 = .ok (.iconst (-1), 1) := by decide +kernel
theorem dX11_worth_9 : decode cX11_worth 9 = .ok (.ireturn, 1) := by decide +kernel
theorem dX11_worth_10 : decode cX11_worth 10 = .ok (.aload_n 0, 1) := by decide +kernel
theorem dX11_worth_11 : decode cX11_worth 11 = .ok (.getfield 54, 3) := by decide +kernel
theorem dX11_worth_14 : decode cX11_worth 14 = .ok (.aload_n 0, 1) := by decide +kernel
theorem dX11_worth_15 : decode cX11_worth 15 = .ok (.getfield 19, 3) := by decide +kernel
theorem dX11_worth_18 : decode cX11_worth 18 = .ok (.getfield 124, 3) := by decide +kernel
theorem dX11_worth_21 : decode cX11_worth 21 = .ok (.aload_n 0, 1) := by decide +kernel
theorem dX11_worth_22 : decode cX11_worth 22 = .ok (.getfield 33, 3) := by decide +kernel
theorem dX11_worth_25 : decode cX11_worth 25 = .ok (.iload_n 1, 1) := by decide +kernel
theorem dX11_worth_26 : decode cX11_worth 26 = .ok (.invokevirtual 137, 3) := by decide +kernel
theorem dX11_worth_29 : decode cX11_worth 29 = .ok (.aload_n 0, 1) := by decide +kernel
theorem dX11_worth_30 : decode cX11_worth 30 = .ok (.getfield 54, 3) := by decide +kernel
theorem dX11_worth_33 : decode cX11_worth 33 = .ok (.iload_n 2, 1) := by decide +kernel
theorem dX11_worth_34 : decode cX11_worth 34 = .ok (.iload_n 3, 1) := by decide +kernel
theorem dX11_worth_35 : decode cX11_worth 35 = .ok (.invokevirtual 169, 3) := by decide +kernel
theorem dX11_worth_38 : decode cX11_worth 38 = .ok (.ifCond .eq 13, 3) := by decide +kernel
theorem dX11_worth_41 : decode cX11_worth 41 = .ok (.aload_n 0, 1) := by decide +kernel
theorem dX11_worth_42 : decode cX11_worth 42 = .ok (.iload_n 1, 1) := by decide +kernel
theorem dX11_worth_43 : decode cX11_worth 43 = .ok (.iload_n 2, 1) := by decide +kernel
theorem dX11_worth_44 : decode cX11_worth 44 = .ok (.iload_n 3, 1) := by decide +kernel
theorem dX11_worth_45 : decode cX11_worth 45 = .ok (.invokevirtual 176, 3) := by decide +kernel
theorem dX11_worth_48 : decode cX11_worth 48 = .ok (.goto 4, 3) := by decide +kernel
theorem dX11_worth_51 : decode cX11_worth 51 = .ok (.iconst (-1), 1) := by decide +kernel
theorem dX11_worth_52 : decode cX11_worth 52 = .ok (.ireturn, 1) := by decide +kernel
def xX11_worth : zX := (RX11, cX11_worth, 4, (some .int), false, { frames := 22, cells := 0, slots := 0, locals := 621 }, 0, 0, 0, 0)
theorem rmX11_worth : z_Rm xX11_worth := by unfold z_Rm xX11_worth; exact ⟨by decide, by decide⟩
theorem reX11_worth : z_Re xX11_worth := ⟨rfl, rfl⟩
theorem rlX11_worth : 1 ≤ xX11_worth.2.2.2.2.2.1.frames ∧ 21 ≤ xX11_worth.2.2.2.2.2.1.locals := by unfold xX11_worth; exact ⟨by decide, by decide⟩
theorem meX11_worth : z_Me yX11_worth xX11_worth 3 := ⟨wd677, wd275, by decide, by decide, by decide +kernel⟩
theorem fitX11_worth_2 : z_Fit xX11_isRow xX11_worth := by unfold z_Fit; simp only [xX11_isRow, xX11_worth]; exact ⟨by decide, by decide⟩
theorem fitX11_worth_26 : z_Fit xX10_fill xX11_worth := by unfold z_Fit; simp only [xX10_fill, xX11_worth]; exact ⟨by decide, by decide⟩
theorem fitX11_worth_35 : z_Fit xX10_has xX11_worth := by unfold z_Fit; simp only [xX10_has, xX11_worth]; exact ⟨by decide, by decide⟩
theorem fitX11_worth_45 : z_Fit xX11_worthOf xX11_worth := by unfold z_Fit; simp only [xX11_worthOf, xX11_worth]; exact ⟨by decide, by decide⟩
noncomputable def kX11_worth_52 : zK zR := q_iret
noncomputable def kX11_worth_0 : zK zR := (q_aload 0 (q_iload 1 (q_callV 11 fX11_isRow 1 (q_if_ne (q_aload 0 (q_getR 11 8 (q_aload 0 (q_getR 11 1 (q_getR 7 1 (q_aload 0 (q_getR 11 4 (q_iload 1 (q_callV 10 fX10_fill 3 (q_aload 0 (q_getR 11 8 (q_iload 2 (q_iload 3 (q_callV 10 fX10_has 2 (q_if_eq (q_push (-1) kX11_worth_52) (q_aload 0 (q_iload 1 (q_iload 2 (q_iload 3 (q_callV 11 fX11_worthOf 3 kX11_worth_52)))))))))))))))))))) (q_push (-1) q_iret)))))
set_option maxRecDepth 100000 in
theorem tX11_worth_52 {l : Launch} {D : zD} {B sz0 : Nat} {post : Option Value → zS → Prop} : zSnd l D B xX11_worth sz0 post 52 kX11_worth_52 (z_Jr post) := (s_iret dX11_worth_52 rfl)
set_option maxRecDepth 100000 in
theorem tX11_worth_0 {l : Launch} {D : zD} {B sz0 : Nat} {post : Option Value → zS → Prop} : zSnd l D B xX11_worth sz0 post 0 kX11_worth_0 (z_Jr post) := (s_aload_n dX11_worth_0 rfl (s_iload_n dX11_worth_1 rfl (s_callV (r := (RX11, TX11, 13)) dX11_worth_2 mX11_isRow meX11_isRow wd655 wd656 rfl rfl reX11_isRow rmX11_worth (fitX11_worth_2) wd657 (s_if_ne (tgt := 10) dX11_worth_5 (by decide) (s_aload_n dX11_worth_10 rfl (s_getR (f := 8) dX11_worth_11 clX11 (by decide) rfl wd584 (s_aload_n dX11_worth_14 rfl (s_getR (f := 1) dX11_worth_15 clX11 (by decide) rfl wd572 (s_getR (f := 1) dX11_worth_18 clX7 (by decide) rfl wd628 (s_aload_n dX11_worth_21 rfl (s_getR (f := 4) dX11_worth_22 clX11 (by decide) rfl wd576 (s_iload_n dX11_worth_25 rfl (s_callV (r := (RX10, TX10, 3)) dX11_worth_26 mX10_fill meX10_fill wd658 wd659 rfl rfl reX10_fill rmX11_worth (fitX11_worth_26) wd660 (s_aload_n dX11_worth_29 rfl (s_getR (f := 8) dX11_worth_30 clX11 (by decide) rfl wd584 (s_iload_n dX11_worth_33 rfl (s_iload_n dX11_worth_34 rfl (s_callV (r := (RX10, TX10, 3)) dX11_worth_35 mX10_has meX10_has wd517 wd518 rfl rfl reX10_has rmX11_worth (fitX11_worth_35) wd675 (s_if_eq (tgt := 51) dX11_worth_38 (by decide) (s_iconst dX11_worth_51 (by decide) tX11_worth_52) (s_aload_n dX11_worth_41 rfl (s_iload_n dX11_worth_42 rfl (s_iload_n dX11_worth_43 rfl (s_iload_n dX11_worth_44 rfl (s_callV (r := (RX11, TX11, 13)) dX11_worth_45 mX11_worthOf meX11_worthOf wd651 wd652 rfl rfl reX11_worthOf rmX11_worth (fitX11_worth_45) wd653 (s_goto (tgt := 52) dX11_worth_48 (by decide) tX11_worth_52))))))))))))))))))))) (s_iconst dX11_worth_8 (by decide) (s_iret dX11_worth_9 rfl))))))
noncomputable def fX11_worth : zF := z_fn 4 kX11_worth_0
theorem mX11_worth {l : Launch} {D : zD} {B : Nat} : z_MF l D B yX11_worth xX11_worth fX11_worth := z_mf (by decide) rfl (fun h => by cases h) rfl (fun as σ r h => ⟨z_fn_len h, kX11_worth_0, z_fn_run h, fun _ => tX11_worth_0⟩)
/-! ===== RowChildren.many ===== -/
theorem dX11_many_0 : decode cX11_many 0 = .ok (.aload_n 0, 1) := by decide +kernel
theorem dX11_many_1 : decode cX11_many 1 = .ok (.iload_n 1, 1) := by decide +kernel
theorem dX11_many_2 : decode cX11_many 2 = .ok (.invokevirtual 134, 3) := by decide +kernel
theorem dX11_many_5 : decode cX11_many 5 = .ok (.ifCond .eq 11, 3) := by decide +kernel
theorem dX11_many_8 : decode cX11_many 8 = .ok (.aload_n 0, 1) := by decide +kernel
theorem dX11_many_9 : decode cX11_many 9 = .ok (.iload_n 2, 1) := by decide +kernel
theorem dX11_many_10 : decode cX11_many 10 = .ok (.invokevirtual 120, 3) := by decide +kernel
theorem dX11_many_13 : decode cX11_many 13 = .ok (.ifCond .ne 5, 3) := by decide +kernel
theorem dX11_many_16 : decode cX11_many 16 = .ok (.iconst (-1), 1) := by decide +kernel
theorem dX11_many_17 : decode cX11_many 17 = .ok (.ireturn, 1) := by decide +kernel
theorem dX11_many_18 : decode cX11_many 18 = .ok (.aload_n 0, 1) := by decide +kernel
theorem dX11_many_19 : decode cX11_many 19 = .ok (.getfield 54, 3) := by decide +kernel
theorem dX11_many_22 : decode cX11_many 22 = .ok (.aload_n 0, 1) := by decide +kernel
theorem dX11_many_23 : decode cX11_many 23 = .ok (.getfield 19, 3) := by decide +kernel
theorem dX11_many_26 : decode cX11_many 26 = .ok (.getfield 124, 3) := by decide +kernel
theorem dX11_many_29 : decode cX11_many 29 = .ok (.aload_n 0, 1) := by decide +kernel
theorem dX11_many_30 : decode cX11_many 30 = .ok (.getfield 33, 3) := by decide +kernel
theorem dX11_many_33 : decode cX11_many 33 = .ok (.iload_n 1, 1) := by decide +kernel
theorem dX11_many_34 : decode cX11_many 34 = .ok (.invokevirtual 137, 3) := by decide +kernel
theorem dX11_many_37 : decode cX11_many 37 = .ok (.aload_n 0, 1) := by decide +kernel
theorem dX11_many_38 : decode cX11_many 38 = .ok (.getfield 54, 3) := by decide +kernel
theorem dX11_many_41 : decode cX11_many 41 = .ok (.aload_n 0, 1) := by decide +kernel
theorem dX11_many_42 : decode cX11_many 42 = .ok (.getfield 54, 3) := by decide +kernel
theorem dX11_many_45 : decode cX11_many 45 = .ok (.getfield 180, 3) := by decide +kernel
theorem dX11_many_48 : decode cX11_many 48 = .ok (.iload_n 2, 1) := by decide +kernel
theorem dX11_many_49 : decode cX11_many 49 = .ok (.invokevirtual 181, 3) := by decide +kernel
theorem dX11_many_52 : decode cX11_many 52 = .ok (.ireturn, 1) := by decide +kernel
def xX11_many : zX := (RX11, cX11_many, 3, (some .int), false, { frames := 4, cells := 0, slots := 0, locals := 159 }, 0, 0, 0, 0)
theorem rmX11_many : z_Rm xX11_many := by unfold z_Rm xX11_many; exact ⟨by decide, by decide⟩
theorem reX11_many : z_Re xX11_many := ⟨rfl, rfl⟩
theorem rlX11_many : 1 ≤ xX11_many.2.2.2.2.2.1.frames ∧ 21 ≤ xX11_many.2.2.2.2.2.1.locals := by unfold xX11_many; exact ⟨by decide, by decide⟩
theorem meX11_many : z_Me yX11_many xX11_many 2 := ⟨wd679, wd275, by decide, by decide, by decide +kernel⟩
theorem fitX11_many_2 : z_Fit xX11_isRow xX11_many := by unfold z_Fit; simp only [xX11_isRow, xX11_many]; exact ⟨by decide, by decide⟩
theorem fitX11_many_10 : z_Fit xX11_isColour xX11_many := by unfold z_Fit; simp only [xX11_isColour, xX11_many]; exact ⟨by decide, by decide⟩
theorem fitX11_many_34 : z_Fit xX10_fill xX11_many := by unfold z_Fit; simp only [xX10_fill, xX11_many]; exact ⟨by decide, by decide⟩
theorem fitX11_many_49 : z_Fit xX10_tally xX11_many := by unfold z_Fit; simp only [xX10_tally, xX11_many]; exact ⟨by decide, by decide⟩
noncomputable def kX11_many_16 : zK zR := (q_push (-1) q_iret)
noncomputable def kX11_many_0 : zK zR := (q_aload 0 (q_iload 1 (q_callV 11 fX11_isRow 1 (q_if_eq kX11_many_16 (q_aload 0 (q_iload 2 (q_callV 11 fX11_isColour 1 (q_if_ne (q_aload 0 (q_getR 11 8 (q_aload 0 (q_getR 11 1 (q_getR 7 1 (q_aload 0 (q_getR 11 4 (q_iload 1 (q_callV 10 fX10_fill 3 (q_aload 0 (q_getR 11 8 (q_aload 0 (q_getR 11 8 (q_getI 10 0 (q_iload 2 (q_callV 10 fX10_tally 2 q_iret)))))))))))))))) kX11_many_16))))))))
set_option maxRecDepth 100000 in
theorem tX11_many_16 {l : Launch} {D : zD} {B sz0 : Nat} {post : Option Value → zS → Prop} : zSnd l D B xX11_many sz0 post 16 kX11_many_16 (z_Jr post) := (s_iconst dX11_many_16 (by decide) (s_iret dX11_many_17 rfl))
set_option maxRecDepth 100000 in
theorem tX11_many_0 {l : Launch} {D : zD} {B sz0 : Nat} {post : Option Value → zS → Prop} : zSnd l D B xX11_many sz0 post 0 kX11_many_0 (z_Jr post) := (s_aload_n dX11_many_0 rfl (s_iload_n dX11_many_1 rfl (s_callV (r := (RX11, TX11, 13)) dX11_many_2 mX11_isRow meX11_isRow wd655 wd656 rfl rfl reX11_isRow rmX11_many (fitX11_many_2) wd657 (s_if_eq (tgt := 16) dX11_many_5 (by decide) tX11_many_16 (s_aload_n dX11_many_8 rfl (s_iload_n dX11_many_9 rfl (s_callV (r := (RX11, TX11, 13)) dX11_many_10 mX11_isColour meX11_isColour wd631 wd632 rfl rfl reX11_isColour rmX11_many (fitX11_many_10) wd633 (s_if_ne (tgt := 18) dX11_many_13 (by decide) (s_aload_n dX11_many_18 rfl (s_getR (f := 8) dX11_many_19 clX11 (by decide) rfl wd584 (s_aload_n dX11_many_22 rfl (s_getR (f := 1) dX11_many_23 clX11 (by decide) rfl wd572 (s_getR (f := 1) dX11_many_26 clX7 (by decide) rfl wd628 (s_aload_n dX11_many_29 rfl (s_getR (f := 4) dX11_many_30 clX11 (by decide) rfl wd576 (s_iload_n dX11_many_33 rfl (s_callV (r := (RX10, TX10, 3)) dX11_many_34 mX10_fill meX10_fill wd658 wd659 rfl rfl reX10_fill rmX11_many (fitX11_many_34) wd660 (s_aload_n dX11_many_37 rfl (s_getR (f := 8) dX11_many_38 clX11 (by decide) rfl wd584 (s_aload_n dX11_many_41 rfl (s_getR (f := 8) dX11_many_42 clX11 (by decide) rfl wd584 (s_getI (f := 0) dX11_many_45 clX10 (by decide) rfl wd650 (s_iload_n dX11_many_48 rfl (s_callV (r := (RX10, TX10, 3)) dX11_many_49 mX10_tally meX10_tally wd188 wd189 rfl rfl reX10_tally rmX11_many (fitX11_many_49) wd678 (s_iret dX11_many_52 rfl))))))))))))))))) tX11_many_16))))))))
noncomputable def fX11_many : zF := z_fn 3 kX11_many_0
theorem mX11_many {l : Launch} {D : zD} {B : Nat} : z_MF l D B yX11_many xX11_many fX11_many := z_mf (by decide) rfl (fun h => by cases h) rfl (fun as σ r h => ⟨z_fn_len h, kX11_many_0, z_fn_run h, fun _ => tX11_many_0⟩)
