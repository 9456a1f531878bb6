/-! ===== RowChildrenModel.plain ===== -/
theorem dX12_plain_0 : decode cX12_plain 0 = .ok (.aload_n 0, 1) := by decide +kernel
theorem dX12_plain_1 : decode cX12_plain 1 = .ok (.getfield 43, 3) := by decide +kernel
theorem dX12_plain_4 : decode cX12_plain 4 = .ok (.iload_n 1, 1) := by decide +kernel
theorem dX12_plain_5 : decode cX12_plain 5 = .ok (.iconst 2, 1) := by decide +kernel
theorem dX12_plain_6 : decode cX12_plain 6 = .ok (.iastore, 1) := by decide +kernel
theorem dX12_plain_7 : decode cX12_plain 7 = .ok (.aload_n 0, 1) := by decide +kernel
theorem dX12_plain_8 : decode cX12_plain 8 = .ok (.getfield 46, 3) := by decide +kernel
theorem dX12_plain_11 : decode cX12_plain 11 = .ok (.iload_n 1, 1) := by decide +kernel
theorem dX12_plain_12 : decode cX12_plain 12 = .ok (.iconst 0, 1) := by decide +kernel
theorem dX12_plain_13 : decode cX12_plain 13 = .ok (.iastore, 1) := by decide +kernel
theorem dX12_plain_14 : decode cX12_plain 14 = .ok (.iconst 0, 1) := by decide +kernel
theorem dX12_plain_15 : decode cX12_plain 15 = .ok (.istore_n 2, 1) := by decide +kernel
theorem dX12_plain_16 : decode cX12_plain 16 = .ok (.iload_n 2, 1) := by decide +kernel
theorem dX12_plain_17 : decode cX12_plain 17 = .ok (.bipush 16, 2) := by decide +kernel
theorem dX12_plain_19 : decode cX12_plain 19 = .ok (.if_icmp .ge 21, 3) := by decide +kernel
theorem dX12_plain_22 : decode cX12_plain 22 = .ok (.aload_n 0, 1) := by decide +kernel
theorem dX12_plain_23 : decode cX12_plain 23 = .ok (.getfield 49, 3) := by decide +kernel
theorem dX12_plain_26 : decode cX12_plain 26 = .ok (.bipush 16, 2) := by decide +kernel
theorem dX12_plain_28 : decode cX12_plain 28 = .ok (.iload_n 1, 1) := by decide +kernel
theorem dX12_plain_29 : decode cX12_plain 29 = .ok (.imul, 1) := by decide +kernel
theorem dX12_plain_30 : decode cX12_plain 30 = .ok (.iload_n 2, 1) := by decide +kernel
theorem dX12_plain_31 : decode cX12_plain 31 = .ok (.iadd, 1) := by decide +kernel
theorem dX12_plain_32 : decode cX12_plain 32 = .ok (.iconst (-1), 1) := by decide +kernel
theorem dX12_plain_33 : decode cX12_plain 33 = .ok (.iastore, 1) := by decide +kernel
theorem dX12_plain_34 : decode cX12_plain 34 = .ok (.iinc 2 1, 3) := by decide +kernel
theorem dX12_plain_37 : decode cX12_plain 37 = .ok (.goto (-21), 3) := by decide +kernel
theorem dX12_plain_40 : decode cX12_plain 40 = .ok (.aload_n 0, 1) := by decide +kernel
theorem dX12_plain_41 : decode cX12_plain 41 = .ok (.getfield 52, 3) := by decide +kernel
theorem dX12_plain_44 : decode cX12_plain 44 = .ok (.iload_n 1, 1) := by decide +kernel
theorem dX12_plain_45 : decode cX12_plain 45 = .ok (.iconst 0, 1) := by decide +kernel
theorem dX12_plain_46 : decode cX12_plain 46 = .ok (.iastore, 1) := by decide +kernel
theorem dX12_plain_47 : decode cX12_plain 47 = .ok (.aload_n 0, 1) := by decide +kernel
theorem dX12_plain_48 : decode cX12_plain 48 = .ok (.getfield 55, 3) := by decide +kernel
theorem dX12_plain_51 : decode cX12_plain 51 = .ok (.iload_n 1, 1) := by decide +kernel
theorem dX12_plain_52 : decode cX12_plain 52 = .ok (.iconst 0, 1) := by decide +kernel
theorem dX12_plain_53 : decode cX12_plain 53 = .ok (.iastore, 1) := by decide +kernel
theorem dX12_plain_54 : decode cX12_plain 54 = .ok (.aload_n 0, 1) := by decide +kernel
theorem dX12_plain_55 : decode cX12_plain 55 = .ok (.getfield 64, 3) := by decide +kernel
theorem dX12_plain_58 : decode cX12_plain 58 = .ok (.iload_n 1, 1) := by decide +kernel
theorem dX12_plain_59 : decode cX12_plain 59 = .ok (.iconst 0, 1) := by decide +kernel
theorem dX12_plain_60 : decode cX12_plain 60 = .ok (.iastore, 1) := by decide +kernel
theorem dX12_plain_61 : decode cX12_plain 61 = .ok (.iconst 0, 1) := by decide +kernel
theorem dX12_plain_62 : decode cX12_plain 62 = .ok (.istore_n 2, 1) := by decide +kernel
theorem dX12_plain_63 : decode cX12_plain 63 = .ok (.iload_n 2, 1) := by decide +kernel
theorem dX12_plain_64 : decode cX12_plain 64 = .ok (.iconst 4, 1) := by decide +kernel
theorem dX12_plain_65 : decode cX12_plain 65 = .ok (.if_icmp .ge 31, 3) := by decide +kernel
theorem dX12_plain_68 : decode cX12_plain 68 = .ok (.aload_n 0, 1) := by decide +kernel
theorem dX12_plain_69 : decode cX12_plain 69 = .ok (.getfield 67, 3) := by decide +kernel
theorem dX12_plain_72 : decode cX12_plain 72 = .ok (.iconst 4, 1) := by decide +kernel
theorem dX12_plain_73 : decode cX12_plain 73 = .ok (.iload_n 1, 1) := by decide +kernel
theorem dX12_plain_74 : decode cX12_plain 74 = .ok (.imul, 1) := by decide +kernel
theorem dX12_plain_75 : decode cX12_plain 75 = .ok (.iload_n 2, 1) := by decide +kernel
theorem dX12_plain_76 : decode cX12_plain 76 = .ok (.iadd, 1) := by decide +kernel
theorem dX12_plain_77 : decode cX12_plain 77 = .ok (.iconst 0, 1) := by decide +kernel
theorem dX12_plain_78 : decode cX12_plain 78 = .ok (.iastore, 1) := by decide +kernel
theorem dX12_plain_79 : decode cX12_plain 79 = .ok (.aload_n 0, 1) := by decide +kernel
theorem dX12_plain_80 : decode cX12_plain 80 = .ok (.getfield 70, 3) := by decide +kernel
theorem dX12_plain_83 : decode cX12_plain 83 = .ok (.iconst 4, 1) := by decide +kernel
theorem dX12_plain_84 : decode cX12_plain 84 = .ok (.iload_n 1, 1) := by decide +kernel
theorem dX12_plain_85 : decode cX12_plain 85 = .ok (.imul, 1) := by decide +kernel
theorem dX12_plain_86 : decode cX12_plain 86 = .ok (.iload_n 2, 1) := by decide +kernel
theorem dX12_plain_87 : decode cX12_plain 87 = .ok (.iadd, 1) := by decide +kernel
theorem dX12_plain_88 : decode cX12_plain 88 = .ok (.iconst 0, 1) := by decide +kernel
theorem dX12_plain_89 : decode cX12_plain 89 = .ok (.iastore, 1) := by decide +kernel
theorem dX12_plain_90 : decode cX12_plain 90 = .ok (.iinc 2 1, 3) := by decide +kernel
theorem dX12_plain_93 : decode cX12_plain 93 = .ok (.goto (-30), 3) := by decide +kernel
theorem dX12_plain_96 : decode cX12_plain 96 = .ok (.return_, 1) := by decide +kernel
def xX12_plain : zX := (RX12, cX12_plain, 3, none, false, { frames := 1, cells := 0, slots := 0, locals := 90 }, 0, 0, 0, 0)
theorem rmX12_plain : z_Rm xX12_plain := by unfold z_Rm xX12_plain; exact ⟨by decide, by decide⟩
theorem reX12_plain : z_Re xX12_plain := ⟨rfl, rfl⟩
theorem rlX12_plain : 1 ≤ xX12_plain.2.2.2.2.2.1.frames ∧ 21 ≤ xX12_plain.2.2.2.2.2.1.locals := by unfold xX12_plain; exact ⟨by decide, by decide⟩
theorem meX12_plain : z_Me yX12_plain xX12_plain 1 := ⟨wd892, wd893, by decide, by decide, by decide +kernel⟩
noncomputable def kX12_plain_96 : zK zR := q_vret
noncomputable def bX12_plain_63 : zK ((zL × zS) ⊕ zR) := (q_iload 2 (q_push 4 (q_icmp_ge (q_dn kX12_plain_96) (q_aload 0 (q_getR 12 30 (q_push 4 (q_iload 1 (q_imul (q_iload 2 (q_iadd (q_push 0 (q_iast (q_aload 0 (q_getR 12 31 (q_push 4 (q_iload 1 (q_imul (q_iload 2 (q_iadd (q_push 0 (q_iast (q_iinc 2 1 q_ag))))))))))))))))))))))
noncomputable def kX12_plain_63 : zK zR := q_lp (bX12_plain_63)
noncomputable def kX12_plain_40 : zK zR := (q_aload 0 (q_getR 12 25 (q_iload 1 (q_push 0 (q_iast (q_aload 0 (q_getR 12 26 (q_iload 1 (q_push 0 (q_iast (q_aload 0 (q_getR 12 29 (q_iload 1 (q_push 0 (q_iast (q_push 0 (q_istore 2 kX12_plain_63)))))))))))))))))
noncomputable def bX12_plain_16 : zK ((zL × zS) ⊕ zR) := (q_iload 2 (q_push 16 (q_icmp_ge (q_dn kX12_plain_40) (q_aload 0 (q_getR 12 24 (q_push 16 (q_iload 1 (q_imul (q_iload 2 (q_iadd (q_push (-1) (q_iast (q_iinc 2 1 q_ag)))))))))))))
noncomputable def kX12_plain_16 : zK zR := q_lp (bX12_plain_16)
noncomputable def kX12_plain_0 : zK zR := (q_aload 0 (q_getR 12 22 (q_iload 1 (q_push 2 (q_iast (q_aload 0 (q_getR 12 23 (q_iload 1 (q_push 0 (q_iast (q_push 0 (q_istore 2 kX12_plain_16))))))))))))
set_option maxRecDepth 100000 in
theorem tX12_plain_96 {l : Launch} {D : zD} {B sz0 : Nat} {post : Option Value → zS → Prop} : zSnd l D B xX12_plain sz0 post 96 kX12_plain_96 (z_Jr post) := (s_vret dX12_plain_96 rfl)
set_option maxRecDepth 100000 in
theorem tX12_plain_63 {l : Launch} {D : zD} {B sz0 : Nat} {post : Option Value → zS → Prop} : zSnd l D B xX12_plain sz0 post 63 kX12_plain_63 (z_Jr post) := s_lp (body := bX12_plain_63) (s_iload_n dX12_plain_63 rfl (s_iconst dX12_plain_64 (by decide) (s_icmp_ge (tgt := 96) dX12_plain_65 (by decide) (s_dn tX12_plain_96) (s_aload_n dX12_plain_68 rfl (s_getR (f := 30) dX12_plain_69 clX12 (by decide) rfl wd889 (s_iconst dX12_plain_72 (by decide) (s_iload_n dX12_plain_73 rfl (s_imul dX12_plain_74 (s_iload_n dX12_plain_75 rfl (s_iadd dX12_plain_76 (s_iconst dX12_plain_77 (by decide) (s_iast dX12_plain_78 (s_aload_n dX12_plain_79 rfl (s_getR (f := 31) dX12_plain_80 clX12 (by decide) rfl wd890 (s_iconst dX12_plain_83 (by decide) (s_iload_n dX12_plain_84 rfl (s_imul dX12_plain_85 (s_iload_n dX12_plain_86 rfl (s_iadd dX12_plain_87 (s_iconst dX12_plain_88 (by decide) (s_iast dX12_plain_89 (s_iinc dX12_plain_90 (by decide) (s_goto (tgt := 63) dX12_plain_93 (by decide) s_ag)))))))))))))))))))))))
set_option maxRecDepth 100000 in
theorem tX12_plain_40 {l : Launch} {D : zD} {B sz0 : Nat} {post : Option Value → zS → Prop} : zSnd l D B xX12_plain sz0 post 40 kX12_plain_40 (z_Jr post) := (s_aload_n dX12_plain_40 rfl (s_getR (f := 25) dX12_plain_41 clX12 (by decide) rfl wd886 (s_iload_n dX12_plain_44 rfl (s_iconst dX12_plain_45 (by decide) (s_iast dX12_plain_46 (s_aload_n dX12_plain_47 rfl (s_getR (f := 26) dX12_plain_48 clX12 (by decide) rfl wd887 (s_iload_n dX12_plain_51 rfl (s_iconst dX12_plain_52 (by decide) (s_iast dX12_plain_53 (s_aload_n dX12_plain_54 rfl (s_getR (f := 29) dX12_plain_55 clX12 (by decide) rfl wd888 (s_iload_n dX12_plain_58 rfl (s_iconst dX12_plain_59 (by decide) (s_iast dX12_plain_60 (s_iconst dX12_plain_61 (by decide) (s_istore_n dX12_plain_62 rfl tX12_plain_63)))))))))))))))))
set_option maxRecDepth 100000 in
theorem tX12_plain_16 {l : Launch} {D : zD} {B sz0 : Nat} {post : Option Value → zS → Prop} : zSnd l D B xX12_plain sz0 post 16 kX12_plain_16 (z_Jr post) := s_lp (body := bX12_plain_16) (s_iload_n dX12_plain_16 rfl (s_bipush dX12_plain_17 (by decide) (s_icmp_ge (tgt := 40) dX12_plain_19 (by decide) (s_dn tX12_plain_40) (s_aload_n dX12_plain_22 rfl (s_getR (f := 24) dX12_plain_23 clX12 (by decide) rfl wd891 (s_bipush dX12_plain_26 (by decide) (s_iload_n dX12_plain_28 rfl (s_imul dX12_plain_29 (s_iload_n dX12_plain_30 rfl (s_iadd dX12_plain_31 (s_iconst dX12_plain_32 (by decide) (s_iast dX12_plain_33 (s_iinc dX12_plain_34 (by decide) (s_goto (tgt := 16) dX12_plain_37 (by decide) s_ag))))))))))))))
set_option maxRecDepth 100000 in
theorem tX12_plain_0 {l : Launch} {D : zD} {B sz0 : Nat} {post : Option Value → zS → Prop} : zSnd l D B xX12_plain sz0 post 0 kX12_plain_0 (z_Jr post) := (s_aload_n dX12_plain_0 rfl (s_getR (f := 22) dX12_plain_1 clX12 (by decide) rfl wd884 (s_iload_n dX12_plain_4 rfl (s_iconst dX12_plain_5 (by decide) (s_iast dX12_plain_6 (s_aload_n dX12_plain_7 rfl (s_getR (f := 23) dX12_plain_8 clX12 (by decide) rfl wd885 (s_iload_n dX12_plain_11 rfl (s_iconst dX12_plain_12 (by decide) (s_iast dX12_plain_13 (s_iconst dX12_plain_14 (by decide) (s_istore_n dX12_plain_15 rfl tX12_plain_16))))))))))))
noncomputable def fX12_plain : zF := z_fn 3 kX12_plain_0
theorem mX12_plain {l : Launch} {D : zD} {B : Nat} : z_MF l D B yX12_plain xX12_plain fX12_plain := z_mf (by decide) rfl (fun h => by cases h) rfl (fun as σ r h => ⟨z_fn_len h, kX12_plain_0, z_fn_run h, fun _ => tX12_plain_0⟩)
/-! ===== RowChildrenModel.appends ===== -/
theorem dX12_appends_0 : decode cX12_appends 0 = .ok (.iload_n 2, 1) := by decide +kernel
theorem dX12_appends_1 : decode cX12_appends 1 = .ok (.ifCond .ne 7, 3) := by decide +kernel
theorem dX12_appends_4 : decode cX12_appends 4 = .ok (.lload_n 0, 1) := by decide +kernel
theorem dX12_appends_5 : decode cX12_appends 5 = .ok (.goto 16, 3) := by decide +kernel
theorem dX12_appends_8 : decode cX12_appends 8 = .ok (.ldc2_w 191, 3) := by decide +kernel
theorem dX12_appends_11 : decode cX12_appends 11 = .ok (.lload_n 0, 1) := by decide +kernel
theorem dX12_appends_12 : decode cX12_appends 12 = .ok (.lmul, 1) := by decide +kernel
theorem dX12_appends_13 : decode cX12_appends 13 = .ok (.iload_n 2, 1) := by decide +kernel
theorem dX12_appends_14 : decode cX12_appends 14 = .ok (.bipush 97, 2) := by decide +kernel
theorem dX12_appends_16 : decode cX12_appends 16 = .ok (.isub, 1) := by decide +kernel
theorem dX12_appends_17 : decode cX12_appends 17 = .ok (.iconst 1, 1) := by decide +kernel
theorem dX12_appends_18 : decode cX12_appends 18 = .ok (.iadd, 1) := by decide +kernel
theorem dX12_appends_19 : decode cX12_appends 19 = .ok (.i2l, 1) := by decide +kernel
theorem dX12_appends_20 : decode cX12_appends 20 = .ok (.ladd, 1) := by decide +kernel
theorem dX12_appends_21 : decode cX12_appends 21 = .ok (.lreturn, 1) := by decide +kernel
def xX12_appends : zX := (RX12, cX12_appends, 3, (some .long), false, { frames := 1, cells := 0, slots := 0, locals := 90 }, 0, 0, 0, 0)
theorem rmX12_appends : z_Rm xX12_appends := by unfold z_Rm xX12_appends; exact ⟨by decide, by decide⟩
theorem reX12_appends : z_Re xX12_appends := ⟨rfl, rfl⟩
theorem rlX12_appends : 1 ≤ xX12_appends.2.2.2.2.2.1.frames ∧ 21 ≤ xX12_appends.2.2.2.2.2.1.locals := by unfold xX12_appends; exact ⟨by decide, by decide⟩
theorem meX12_appends : z_Me yX12_appends xX12_appends 2 := ⟨wd895, wd893, by decide, by decide, by decide +kernel⟩
noncomputable def kX12_appends_21 : zK zR := q_lret
noncomputable def kX12_appends_0 : zK zR := (q_iload 2 (q_if_ne (q_pushl 27 (q_lload 0 (q_lmul (q_iload 2 (q_push 97 (q_isub (q_push 1 (q_iadd (q_i2l (q_ladd kX12_appends_21)))))))))) (q_lload 0 kX12_appends_21)))
set_option maxRecDepth 100000 in
theorem tX12_appends_21 {l : Launch} {D : zD} {B sz0 : Nat} {post : Option Value → zS → Prop} : zSnd l D B xX12_appends sz0 post 21 kX12_appends_21 (z_Jr post) := (s_lret dX12_appends_21 rfl)
set_option maxRecDepth 100000 in
theorem tX12_appends_0 {l : Launch} {D : zD} {B sz0 : Nat} {post : Option Value → zS → Prop} : zSnd l D B xX12_appends sz0 post 0 kX12_appends_0 (z_Jr post) := (s_iload_n dX12_appends_0 rfl (s_if_ne (tgt := 8) dX12_appends_1 (by decide) (s_ldc2 dX12_appends_8 wd894 (s_lload_n dX12_appends_11 rfl (s_lmul dX12_appends_12 (s_iload_n dX12_appends_13 rfl (s_bipush dX12_appends_14 (by decide) (s_isub dX12_appends_16 (s_iconst dX12_appends_17 (by decide) (s_iadd dX12_appends_18 (s_i2l dX12_appends_19 (s_ladd dX12_appends_20 tX12_appends_21)))))))))) (s_lload_n dX12_appends_4 rfl (s_goto (tgt := 21) dX12_appends_5 (by decide) tX12_appends_21))))
noncomputable def fX12_appends : zF := z_fn 3 kX12_appends_0
theorem mX12_appends {l : Launch} {D : zD} {B : Nat} : z_MF l D B yX12_appends xX12_appends fX12_appends := z_mf (by decide) rfl (fun h => by cases h) rfl (fun as σ r h => ⟨z_fn_len h, kX12_appends_0, z_fn_run h, fun _ => tX12_appends_0⟩)
/-! ===== RowChildrenModel.letters ===== -/
theorem dX12_letters_0 : decode cX12_letters 0 = .ok (.lconst 0, 1) := by decide +kernel
theorem dX12_letters_1 : decode cX12_letters 1 = .ok (.iload_n 0, 1) := by decide +kernel
theorem dX12_letters_2 : decode cX12_letters 2 = .ok (.invokestatic 193, 3) := by decide +kernel
theorem dX12_letters_5 : decode cX12_letters 5 = .ok (.iload_n 1, 1) := by decide +kernel
theorem dX12_letters_6 : decode cX12_letters 6 = .ok (.invokestatic 193, 3) := by decide +kernel
theorem dX12_letters_9 : decode cX12_letters 9 = .ok (.iload_n 2, 1) := by decide +kernel
theorem dX12_letters_10 : decode cX12_letters 10 = .ok (.invokestatic 193, 3) := by decide +kernel
theorem dX12_letters_13 : decode cX12_letters 13 = .ok (.iload_n 3, 1) := by decide +kernel
theorem dX12_letters_14 : decode cX12_letters 14 = .ok (.invokestatic 193, 3) := by decide +kernel
theorem dX12_letters_17 : decode cX12_letters 17 = .ok (.iload 4, 2) := by decide +kernel
theorem dX12_letters_19 : decode cX12_letters 19 = .ok (.invokestatic 193, 3) := by decide +kernel
theorem dX12_letters_22 : decode cX12_letters 22 = .ok (.iload 5, 2) := by decide +kernel
theorem dX12_letters_24 : decode cX12_letters 24 = .ok (.invokestatic 193, 3) := by decide +kernel
theorem dX12_letters_27 : decode cX12_letters 27 = .ok (.iload 6, 2) := by decide +kernel
theorem dX12_letters_29 : decode cX12_letters 29 = .ok (.invokestatic 193, 3) := by decide +kernel
theorem dX12_letters_32 : decode cX12_letters 32 = .ok (.lreturn, 1) := by decide +kernel
def xX12_letters : zX := (RX12, cX12_letters, 7, (some .long), false, { frames := 2, cells := 0, slots := 0, locals := 112 }, 0, 0, 0, 0)
theorem rmX12_letters : z_Rm xX12_letters := by unfold z_Rm xX12_letters; exact ⟨by decide, by decide⟩
theorem reX12_letters : z_Re xX12_letters := ⟨rfl, rfl⟩
theorem rlX12_letters : 1 ≤ xX12_letters.2.2.2.2.2.1.frames ∧ 21 ≤ xX12_letters.2.2.2.2.2.1.locals := by unfold xX12_letters; exact ⟨by decide, by decide⟩
theorem meX12_letters : z_Me yX12_letters xX12_letters 7 := ⟨wd898, wd893, by decide, by decide, by decide +kernel⟩
theorem fitX12_letters_2 : z_Fit xX12_appends xX12_letters := by unfold z_Fit; simp only [xX12_appends, xX12_letters]; exact ⟨by decide, by decide⟩
theorem fitX12_letters_6 : z_Fit xX12_appends xX12_letters := by unfold z_Fit; simp only [xX12_appends, xX12_letters]; exact ⟨by decide, by decide⟩
theorem fitX12_letters_10 : z_Fit xX12_appends xX12_letters := by unfold z_Fit; simp only [xX12_appends, xX12_letters]; exact ⟨by decide, by decide⟩
theorem fitX12_letters_14 : z_Fit xX12_appends xX12_letters := by unfold z_Fit; simp only [xX12_appends, xX12_letters]; exact ⟨by decide, by decide⟩
theorem fitX12_letters_19 : z_Fit xX12_appends xX12_letters := by unfold z_Fit; simp only [xX12_appends, xX12_letters]; exact ⟨by decide, by decide⟩
theorem fitX12_letters_24 : z_Fit xX12_appends xX12_letters := by unfold z_Fit; simp only [xX12_appends, xX12_letters]; exact ⟨by decide, by decide⟩
theorem fitX12_letters_29 : z_Fit xX12_appends xX12_letters := by unfold z_Fit; simp only [xX12_appends, xX12_letters]; exact ⟨by decide, by decide⟩
noncomputable def kX12_letters_0 : zK zR := (q_pushl 0 (q_iload 0 (q_callS fX12_appends 2 (q_iload 1 (q_callS fX12_appends 2 (q_iload 2 (q_callS fX12_appends 2 (q_iload 3 (q_callS fX12_appends 2 (q_iload 4 (q_callS fX12_appends 2 (q_iload 5 (q_callS fX12_appends 2 (q_iload 6 (q_callS fX12_appends 2 q_lret)))))))))))))))
set_option maxRecDepth 100000 in
theorem tX12_letters_0 {l : Launch} {D : zD} {B sz0 : Nat} {post : Option Value → zS → Prop} : zSnd l D B xX12_letters sz0 post 0 kX12_letters_0 (z_Jr post) := (s_lconst dX12_letters_0 (by decide) (s_iload_n dX12_letters_1 rfl (s_callS dX12_letters_2 mX12_appends meX12_appends wd896 rfl reX12_appends rmX12_letters (fitX12_letters_2) wd897 (s_iload_n dX12_letters_5 rfl (s_callS dX12_letters_6 mX12_appends meX12_appends wd896 rfl reX12_appends rmX12_letters (fitX12_letters_6) wd897 (s_iload_n dX12_letters_9 rfl (s_callS dX12_letters_10 mX12_appends meX12_appends wd896 rfl reX12_appends rmX12_letters (fitX12_letters_10) wd897 (s_iload_n dX12_letters_13 rfl (s_callS dX12_letters_14 mX12_appends meX12_appends wd896 rfl reX12_appends rmX12_letters (fitX12_letters_14) wd897 (s_iload dX12_letters_17 (s_callS dX12_letters_19 mX12_appends meX12_appends wd896 rfl reX12_appends rmX12_letters (fitX12_letters_19) wd897 (s_iload dX12_letters_22 (s_callS dX12_letters_24 mX12_appends meX12_appends wd896 rfl reX12_appends rmX12_letters (fitX12_letters_24) wd897 (s_iload dX12_letters_27 (s_callS dX12_letters_29 mX12_appends meX12_appends wd896 rfl reX12_appends rmX12_letters (fitX12_letters_29) wd897 (s_lret dX12_letters_32 rfl))))))))))))))))
noncomputable def fX12_letters : zF := z_fn 7 kX12_letters_0
theorem mX12_letters {l : Launch} {D : zD} {B : Nat} : z_MF l D B yX12_letters xX12_letters fX12_letters := z_mf (by decide) rfl (fun h => by cases h) rfl (fun as σ r h => ⟨z_fn_len h, kX12_letters_0, z_fn_run h, fun _ => tX12_letters_0⟩)
/-! ===== RowChildrenModel.begins ===== -/
theorem dX12_begins_0 : decode cX12_begins 0 = .ok (.iconst 0, 1) := by decide +kernel
theorem dX12_begins_1 : decode cX12_begins 1 = .ok (.istore_n 1, 1) := by decide +kernel
theorem dX12_begins_2 : decode cX12_begins 2 = .ok (.iload_n 1, 1) := by decide +kernel
theorem dX12_begins_3 : decode cX12_begins 3 = .ok (.bipush 38, 2) := by decide +kernel
theorem dX12_begins_5 : decode cX12_begins 5 = .ok (.if_icmp .ge 16, 3) := by decide +kernel
theorem dX12_begins_8 : decode cX12_begins 8 = .ok (.aload_n 0, 1) := by decide +kernel
theorem dX12_begins_9 : decode cX12_begins 9 = .ok (.getfield 107, 3) := by decide +kernel
theorem dX12_begins_12 : decode cX12_begins 12 = .ok (.iload_n 1, 1) := by decide +kernel
theorem dX12_begins_13 : decode cX12_begins 13 = .ok (.iconst 0, 1) := by decide +kernel
theorem dX12_begins_14 : decode cX12_begins 14 = .ok (.iastore, 1) := by decide +kernel
theorem dX12_begins_15 : decode cX12_begins 15 = .ok (.iinc 1 1, 3) := by decide +kernel
theorem dX12_begins_18 : decode cX12_begins 18 = .ok (.goto (-16), 3) := by decide +kernel
theorem dX12_begins_21 : decode cX12_begins 21 = .ok (.iconst 0, 1) := by decide +kernel
theorem dX12_begins_22 : decode cX12_begins 22 = .ok (.istore_n 1, 1) := by decide +kernel
theorem dX12_begins_23 : decode cX12_begins 23 = .ok (.iload_n 1, 1) := by decide +kernel
theorem dX12_begins_24 : decode cX12_begins 24 = .ok (.aload_n 0, 1) := by decide +kernel
theorem dX12_begins_25 : decode cX12_begins 25 = .ok (.getfield 55, 3) := by decide +kernel
theorem dX12_begins_28 : decode cX12_begins 28 = .ok (.aload_n 0, 1) := by decide +kernel
theorem dX12_begins_29 : decode cX12_begins 29 = .ok (.getfield 249, 3) := by decide +kernel
theorem dX12_begins_32 : decode cX12_begins 32 = .ok (.iaload, 1) := by decide +kernel
theorem dX12_begins_33 : decode cX12_begins 33 = .ok (.if_icmp .ge 78, 3) := by decide +kernel
theorem dX12_begins_36 : decode cX12_begins 36 = .ok (.aload_n 0, 1) := by decide +kernel
theorem dX12_begins_37 : decode cX12_begins 37 = .ok (.getfield 107, 3) := by decide +kernel
theorem dX12_begins_40 : decode cX12_begins 40 = .ok (.iload_n 1, 1) := by decide +kernel
theorem dX12_begins_41 : decode cX12_begins 41 = .ok (.aload_n 0, 1) := by decide +kernel
theorem dX12_begins_42 : decode cX12_begins 42 = .ok (.getfield 58, 3) := by decide +kernel
theorem dX12_begins_45 : decode cX12_begins 45 = .ok (.iconst 4, 1) := by decide +kernel
theorem dX12_begins_46 : decode cX12_begins 46 = .ok (.aload_n 0, 1) := by decide +kernel
theorem dX12_begins_47 : decode cX12_begins 47 = .ok (.getfield 249, 3) := by decide +kernel
theorem dX12_begins_50 : decode cX12_begins 50 = .ok (.imul, 1) := by decide +kernel
theorem dX12_begins_51 : decode cX12_begins 51 = .ok (.iload_n 1, 1) := by decide +kernel
theorem dX12_begins_52 : decode cX12_begins 52 = .ok (.iadd, 1) := by decide +kernel
theorem dX12_begins_53 : decode cX12_begins 53 = .ok (.iaload, 1) := by decide +kernel
theorem dX12_begins_54 : decode cX12_begins 54 = .ok (.iastore, 1) := by decide +kernel
theorem dX12_begins_55 : decode cX12_begins 55 = .ok (.iconst 0, 1) := by decide +kernel
theorem dX12_begins_56 : decode cX12_begins 56 = .ok (.istore_n 2, 1) := by decide +kernel
theorem dX12_begins_57 : decode cX12_begins 57 = .ok (.iload_n 2, 1) := by decide +kernel
theorem dX12_begins_58 : decode cX12_begins 58 = .ok (.aload_n 0, 1) := by decide +kernel
theorem dX12_begins_59 : decode cX12_begins 59 = .ok (.getfield 107, 3) := by decide +kernel
theorem dX12_begins_62 : decode cX12_begins 62 = .ok (.iload_n 1, 1) := by decide +kernel
theorem dX12_begins_63 : decode cX12_begins 63 = .ok (.iaload, 1) := by decide +kernel
theorem dX12_begins_64 : decode cX12_begins 64 = .ok (.if_icmp .ge 41, 3) := by decide +kernel
theorem dX12_begins_67 : decode cX12_begins 67 = .ok (.aload_n 0, 1) := by decide +kernel
theorem dX12_begins_68 : decode cX12_begins 68 = .ok (.getfield 107, 3) := by decide +kernel
theorem dX12_begins_71 : decode cX12_begins 71 = .ok (.iconst 4, 1) := by decide +kernel
theorem dX12_begins_72 : decode cX12_begins 72 = .ok (.bipush 8, 2) := by decide +kernel
theorem dX12_begins_74 : decode cX12_begins 74 = .ok (.iload_n 1, 1) := by decide +kernel
theorem dX12_begins_75 : decode cX12_begins 75 = .ok (.imul, 1) := by decide +kernel
theorem dX12_begins_76 : decode cX12_begins 76 = .ok (.iadd, 1) := by decide +kernel
theorem dX12_begins_77 : decode cX12_begins 77 = .ok (.iload_n 2, 1) := by decide +kernel
theorem dX12_begins_78 : decode cX12_begins 78 = .ok (.iadd, 1) := by decide +kernel
theorem dX12_begins_79 : decode cX12_begins 79 = .ok (.aload_n 0, 1) := by decide +kernel
theorem dX12_begins_80 : decode cX12_begins 80 = .ok (.getfield 61, 3) := by decide +kernel
theorem dX12_begins_83 : decode cX12_begins 83 = .ok (.bipush 32, 2) := by decide +kernel
theorem dX12_begins_85 : decode cX12_begins 85 = .ok (.aload_n 0, 1) := by decide +kernel
theorem dX12_begins_86 : decode cX12_begins 86 = .ok (.getfield 249, 3) := by decide +kernel
theorem dX12_begins_89 : decode cX12_begins 89 = .ok (.imul, 1) := by decide +kernel
theorem dX12_begins_90 : decode cX12_begins 90 = .ok (.bipush 8, 2) := by decide +kernel
theorem dX12_begins_92 : decode cX12_begins 92 = .ok (.iload_n 1, 1) := by decide +kernel
theorem dX12_begins_93 : decode cX12_begins 93 = .ok (.imul, 1) := by decide +kernel
theorem dX12_begins_94 : decode cX12_begins 94 = .ok (.iadd, 1) := by decide +kernel
theorem dX12_begins_95 : decode cX12_begins 95 = .ok (.iload_n 2, 1) := by decide +kernel
theorem dX12_begins_96 : decode cX12_begins 96 = .ok (.iadd, 1) := by decide +kernel
theorem dX12_begins_97 : decode cX12_begins 97 = .ok (.iaload, 1) := by decide +kernel
theorem dX12_begins_98 : decode cX12_begins 98 = .ok (.iastore, 1) := by decide +kernel
theorem dX12_begins_99 : decode cX12_begins 99 = .ok (.iinc 2 1, 3) := by decide +kernel
theorem dX12_begins_102 : decode cX12_begins 102 = .ok (.goto (-45), 3) := by decide +kernel
theorem dX12_begins_105 : decode cX12_begins 105 = .ok (.iinc 1 1, 3) := by decide +kernel
theorem dX12_begins_108 : decode cX12_begins 108 = .ok (.goto (-85), 3) := by decide +kernel
theorem dX12_begins_111 : decode cX12_begins 111 = .ok (.aload_n 0, 1) := by decide +kernel
theorem dX12_begins_112 : decode cX12_begins 112 = .ok (.aload_n 0, 1) := by decide +kernel
theorem dX12_begins_113 : decode cX12_begins 113 = .ok (.getfield 64, 3) := by decide +kernel
theorem dX12_begins_116 : decode cX12_begins 116 = .ok (.aload_n 0, 1) := by decide +kernel
theorem dX12_begins_117 : decode cX12_begins 117 = .ok (.getfield 249, 3) := by decide +kernel
theorem dX12_begins_120 : decode cX12_begins 120 = .ok (.iaload, 1) := by decide +kernel
theorem dX12_begins_121 : decode cX12_begins 121 = .ok (.putfield 333, 3) := by decide +kernel
theorem dX12_begins_124 : decode cX12_begins 124 = .ok (.return_, 1) := by decide +kernel
def xX12_begins : zX := (RX12, cX12_begins, 3, none, false, { frames := 1, cells := 0, slots := 0, locals := 90 }, 0, 0, 0, 0)
theorem rmX12_begins : z_Rm xX12_begins := by unfold z_Rm xX12_begins; exact ⟨by decide, by decide⟩
theorem reX12_begins : z_Re xX12_begins := ⟨rfl, rfl⟩
theorem rlX12_begins : 1 ≤ xX12_begins.2.2.2.2.2.1.frames ∧ 21 ≤ xX12_begins.2.2.2.2.2.1.locals := by unfold xX12_begins; exact ⟨by decide, by decide⟩
theorem meX12_begins : z_Me yX12_begins xX12_begins 0 := ⟨wd904, wd893, by decide, by decide, by decide +kernel⟩
noncomputable def kX12_begins_111 : zK zR := (q_aload 0 (q_aload 0 (q_getR 12 29 (q_aload 0 (q_getI 12 18 (q_iald (q_putI 12 48 q_vret)))))))
noncomputable def kX12_begins_105 : zK ((zL × zS) ⊕ zR) := (q_iinc 1 1 q_ag)
noncomputable def bX12_begins_57 : zK ((zL × zS) ⊕ ((zL × zS) ⊕ zR)) := (q_iload 2 (q_aload 0 (q_getR 12 47 (q_iload 1 (q_iald (q_icmp_ge (q_dn kX12_begins_105) (q_aload 0 (q_getR 12 47 (q_push 4 (q_push 8 (q_iload 1 (q_imul (q_iadd (q_iload 2 (q_iadd (q_aload 0 (q_getR 12 28 (q_push 32 (q_aload 0 (q_getI 12 18 (q_imul (q_push 8 (q_iload 1 (q_imul (q_iadd (q_iload 2 (q_iadd (q_iald (q_iast (q_iinc 2 1 q_ag))))))))))))))))))))))))))))))
noncomputable def kX12_begins_57 : zK ((zL × zS) ⊕ zR) := q_lp (bX12_begins_57)
noncomputable def bX12_begins_23 : zK ((zL × zS) ⊕ zR) := (q_iload 1 (q_aload 0 (q_getR 12 26 (q_aload 0 (q_getI 12 18 (q_iald (q_icmp_ge (q_dn kX12_begins_111) (q_aload 0 (q_getR 12 47 (q_iload 1 (q_aload 0 (q_getR 12 27 (q_push 4 (q_aload 0 (q_getI 12 18 (q_imul (q_iload 1 (q_iadd (q_iald (q_iast (q_push 0 (q_istore 2 kX12_begins_57))))))))))))))))))))))
noncomputable def kX12_begins_23 : zK zR := q_lp (bX12_begins_23)
noncomputable def kX12_begins_21 : zK zR := (q_push 0 (q_istore 1 kX12_begins_23))
noncomputable def bX12_begins_2 : zK ((zL × zS) ⊕ zR) := (q_iload 1 (q_push 38 (q_icmp_ge (q_dn kX12_begins_21) (q_aload 0 (q_getR 12 47 (q_iload 1 (q_push 0 (q_iast (q_iinc 1 1 q_ag)))))))))
noncomputable def kX12_begins_2 : zK zR := q_lp (bX12_begins_2)
noncomputable def kX12_begins_0 : zK zR := (q_push 0 (q_istore 1 kX12_begins_2))
set_option maxRecDepth 100000 in
theorem tX12_begins_111 {l : Launch} {D : zD} {B sz0 : Nat} {post : Option Value → zS → Prop} : zSnd l D B xX12_begins sz0 post 111 kX12_begins_111 (z_Jr post) := (s_aload_n dX12_begins_111 rfl (s_aload_n dX12_begins_112 rfl (s_getR (f := 29) dX12_begins_113 clX12 (by decide) rfl wd888 (s_aload_n dX12_begins_116 rfl (s_getI (f := 18) dX12_begins_117 clX12 (by decide) rfl wd899 (s_iald dX12_begins_120 (s_putI (f := 48) dX12_begins_121 clX12 (by decide) rfl rfl rfl wd900 (s_vret dX12_begins_124 rfl))))))))
set_option maxRecDepth 100000 in
theorem tX12_begins_105 {l : Launch} {D : zD} {B sz0 : Nat} {post : Option Value → zS → Prop} : zSnd l D B xX12_begins sz0 post 105 kX12_begins_105 (z_Jl l D B xX12_begins sz0 post 23 (z_Jr post)) := (s_iinc dX12_begins_105 (by decide) (s_goto (tgt := 23) dX12_begins_108 (by decide) s_ag))
set_option maxRecDepth 100000 in
theorem tX12_begins_57 {l : Launch} {D : zD} {B sz0 : Nat} {post : Option Value → zS → Prop} : zSnd l D B xX12_begins sz0 post 57 kX12_begins_57 (z_Jl l D B xX12_begins sz0 post 23 (z_Jr post)) := s_lp (body := bX12_begins_57) (s_iload_n dX12_begins_57 rfl (s_aload_n dX12_begins_58 rfl (s_getR (f := 47) dX12_begins_59 clX12 (by decide) rfl wd901 (s_iload_n dX12_begins_62 rfl (s_iald dX12_begins_63 (s_icmp_ge (tgt := 105) dX12_begins_64 (by decide) (s_dn tX12_begins_105) (s_aload_n dX12_begins_67 rfl (s_getR (f := 47) dX12_begins_68 clX12 (by decide) rfl wd901 (s_iconst dX12_begins_71 (by decide) (s_bipush dX12_begins_72 (by decide) (s_iload_n dX12_begins_74 rfl (s_imul dX12_begins_75 (s_iadd dX12_begins_76 (s_iload_n dX12_begins_77 rfl (s_iadd dX12_begins_78 (s_aload_n dX12_begins_79 rfl (s_getR (f := 28) dX12_begins_80 clX12 (by decide) rfl wd903 (s_bipush dX12_begins_83 (by decide) (s_aload_n dX12_begins_85 rfl (s_getI (f := 18) dX12_begins_86 clX12 (by decide) rfl wd899 (s_imul dX12_begins_89 (s_bipush dX12_begins_90 (by decide) (s_iload_n dX12_begins_92 rfl (s_imul dX12_begins_93 (s_iadd dX12_begins_94 (s_iload_n dX12_begins_95 rfl (s_iadd dX12_begins_96 (s_iald dX12_begins_97 (s_iast dX12_begins_98 (s_iinc dX12_begins_99 (by decide) (s_goto (tgt := 57) dX12_begins_102 (by decide) s_ag)))))))))))))))))))))))))))))))
set_option maxRecDepth 100000 in
theorem tX12_begins_23 {l : Launch} {D : zD} {B sz0 : Nat} {post : Option Value → zS → Prop} : zSnd l D B xX12_begins sz0 post 23 kX12_begins_23 (z_Jr post) := s_lp (body := bX12_begins_23) (s_iload_n dX12_begins_23 rfl (s_aload_n dX12_begins_24 rfl (s_getR (f := 26) dX12_begins_25 clX12 (by decide) rfl wd887 (s_aload_n dX12_begins_28 rfl (s_getI (f := 18) dX12_begins_29 clX12 (by decide) rfl wd899 (s_iald dX12_begins_32 (s_icmp_ge (tgt := 111) dX12_begins_33 (by decide) (s_dn tX12_begins_111) (s_aload_n dX12_begins_36 rfl (s_getR (f := 47) dX12_begins_37 clX12 (by decide) rfl wd901 (s_iload_n dX12_begins_40 rfl (s_aload_n dX12_begins_41 rfl (s_getR (f := 27) dX12_begins_42 clX12 (by decide) rfl wd902 (s_iconst dX12_begins_45 (by decide) (s_aload_n dX12_begins_46 rfl (s_getI (f := 18) dX12_begins_47 clX12 (by decide) rfl wd899 (s_imul dX12_begins_50 (s_iload_n dX12_begins_51 rfl (s_iadd dX12_begins_52 (s_iald dX12_begins_53 (s_iast dX12_begins_54 (s_iconst dX12_begins_55 (by decide) (s_istore_n dX12_begins_56 rfl tX12_begins_57))))))))))))))))))))))
set_option maxRecDepth 100000 in
theorem tX12_begins_21 {l : Launch} {D : zD} {B sz0 : Nat} {post : Option Value → zS → Prop} : zSnd l D B xX12_begins sz0 post 21 kX12_begins_21 (z_Jr post) := (s_iconst dX12_begins_21 (by decide) (s_istore_n dX12_begins_22 rfl tX12_begins_23))
set_option maxRecDepth 100000 in
theorem tX12_begins_2 {l : Launch} {D : zD} {B sz0 : Nat} {post : Option Value → zS → Prop} : zSnd l D B xX12_begins sz0 post 2 kX12_begins_2 (z_Jr post) := s_lp (body := bX12_begins_2) (s_iload_n dX12_begins_2 rfl (s_bipush dX12_begins_3 (by decide) (s_icmp_ge (tgt := 21) dX12_begins_5 (by decide) (s_dn tX12_begins_21) (s_aload_n dX12_begins_8 rfl (s_getR (f := 47) dX12_begins_9 clX12 (by decide) rfl wd901 (s_iload_n dX12_begins_12 rfl (s_iconst dX12_begins_13 (by decide) (s_iast dX12_begins_14 (s_iinc dX12_begins_15 (by decide) (s_goto (tgt := 2) dX12_begins_18 (by decide) s_ag))))))))))
set_option maxRecDepth 100000 in
theorem tX12_begins_0 {l : Launch} {D : zD} {B sz0 : Nat} {post : Option Value → zS → Prop} : zSnd l D B xX12_begins sz0 post 0 kX12_begins_0 (z_Jr post) := (s_iconst dX12_begins_0 (by decide) (s_istore_n dX12_begins_1 rfl tX12_begins_2))
noncomputable def fX12_begins : zF := z_fn 3 kX12_begins_0
theorem mX12_begins {l : Launch} {D : zD} {B : Nat} : z_MF l D B yX12_begins xX12_begins fX12_begins := z_mf (by decide) rfl (fun h => by cases h) rfl (fun as σ r h => ⟨z_fn_len h, kX12_begins_0, z_fn_run h, fun _ => tX12_begins_0⟩)
/-! ===== RowChildrenModel.keepsRow ===== -/
theorem dX12_keepsRow_0 : decode cX12_keepsRow 0 = .ok (.iconst 0, 1) := by decide +kernel
theorem dX12_keepsRow_1 : decode cX12_keepsRow 1 = .ok (.istore_n 1, 1) := by decide +kernel
theorem dX12_keepsRow_2 : decode cX12_keepsRow 2 = .ok (.iload_n 1, 1) := by decide +kernel
theorem dX12_keepsRow_3 : decode cX12_keepsRow 3 = .ok (.bipush 38, 2) := by decide +kernel
theorem dX12_keepsRow_5 : decode cX12_keepsRow 5 = .ok (.if_icmp .ge 21, 3) := by decide +kernel
theorem dX12_keepsRow_8 : decode cX12_keepsRow 8 = .ok (.aload_n 0, 1) := by decide +kernel
theorem dX12_keepsRow_9 : decode cX12_keepsRow 9 = .ok (.getfield 104, 3) := by decide +kernel
theorem dX12_keepsRow_12 : decode cX12_keepsRow 12 = .ok (.iload_n 1, 1) := by decide +kernel
theorem dX12_keepsRow_13 : decode cX12_keepsRow 13 = .ok (.aload_n 0, 1) := by decide +kernel
theorem dX12_keepsRow_14 : decode cX12_keepsRow 14 = .ok (.getfield 107, 3) := by decide +kernel
theorem dX12_keepsRow_17 : decode cX12_keepsRow 17 = .ok (.iload_n 1, 1) := by decide +kernel
theorem dX12_keepsRow_18 : decode cX12_keepsRow 18 = .ok (.iaload, 1) := by decide +kernel
theorem dX12_keepsRow_19 : decode cX12_keepsRow 19 = .ok (.iastore, 1) := by decide +kernel
theorem dX12_keepsRow_20 : decode cX12_keepsRow 20 = .ok (.iinc 1 1, 3) := by decide +kernel
theorem dX12_keepsRow_23 : decode cX12_keepsRow 23 = .ok (.goto (-21), 3) := by decide +kernel
theorem dX12_keepsRow_26 : decode cX12_keepsRow 26 = .ok (.return_, 1) := by decide +kernel
def xX12_keepsRow : zX := (RX12, cX12_keepsRow, 2, none, false, { frames := 1, cells := 0, slots := 0, locals := 90 }, 0, 0, 0, 0)
theorem rmX12_keepsRow : z_Rm xX12_keepsRow := by unfold z_Rm xX12_keepsRow; exact ⟨by decide, by decide⟩
theorem reX12_keepsRow : z_Re xX12_keepsRow := ⟨rfl, rfl⟩
theorem rlX12_keepsRow : 1 ≤ xX12_keepsRow.2.2.2.2.2.1.frames ∧ 21 ≤ xX12_keepsRow.2.2.2.2.2.1.locals := by unfold xX12_keepsRow; exact ⟨by decide, by decide⟩
theorem meX12_keepsRow : z_Me yX12_keepsRow xX12_keepsRow 0 := ⟨wd906, wd893, by decide, by decide, by decide +kernel⟩
noncomputable def kX12_keepsRow_26 : zK zR := q_vret
noncomputable def bX12_keepsRow_2 : zK ((zL × zS) ⊕ zR) := (q_iload 1 (q_push 38 (q_icmp_ge (q_dn kX12_keepsRow_26) (q_aload 0 (q_getR 12 46 (q_iload 1 (q_aload 0 (q_getR 12 47 (q_iload 1 (q_iald (q_iast (q_iinc 1 1 q_ag))))))))))))
noncomputable def kX12_keepsRow_2 : zK zR := q_lp (bX12_keepsRow_2)
noncomputable def kX12_keepsRow_0 : zK zR := (q_push 0 (q_istore 1 kX12_keepsRow_2))
set_option maxRecDepth 100000 in
theorem tX12_keepsRow_26 {l : Launch} {D : zD} {B sz0 : Nat} {post : Option Value → zS → Prop} : zSnd l D B xX12_keepsRow sz0 post 26 kX12_keepsRow_26 (z_Jr post) := (s_vret dX12_keepsRow_26 rfl)
set_option maxRecDepth 100000 in
theorem tX12_keepsRow_2 {l : Launch} {D : zD} {B sz0 : Nat} {post : Option Value → zS → Prop} : zSnd l D B xX12_keepsRow sz0 post 2 kX12_keepsRow_2 (z_Jr post) := s_lp (body := bX12_keepsRow_2) (s_iload_n dX12_keepsRow_2 rfl (s_bipush dX12_keepsRow_3 (by decide) (s_icmp_ge (tgt := 26) dX12_keepsRow_5 (by decide) (s_dn tX12_keepsRow_26) (s_aload_n dX12_keepsRow_8 rfl (s_getR (f := 46) dX12_keepsRow_9 clX12 (by decide) rfl wd905 (s_iload_n dX12_keepsRow_12 rfl (s_aload_n dX12_keepsRow_13 rfl (s_getR (f := 47) dX12_keepsRow_14 clX12 (by decide) rfl wd901 (s_iload_n dX12_keepsRow_17 rfl (s_iald dX12_keepsRow_18 (s_iast dX12_keepsRow_19 (s_iinc dX12_keepsRow_20 (by decide) (s_goto (tgt := 2) dX12_keepsRow_23 (by decide) s_ag)))))))))))))
set_option maxRecDepth 100000 in
theorem tX12_keepsRow_0 {l : Launch} {D : zD} {B sz0 : Nat} {post : Option Value → zS → Prop} : zSnd l D B xX12_keepsRow sz0 post 0 kX12_keepsRow_0 (z_Jr post) := (s_iconst dX12_keepsRow_0 (by decide) (s_istore_n dX12_keepsRow_1 rfl tX12_keepsRow_2))
noncomputable def fX12_keepsRow : zF := z_fn 2 kX12_keepsRow_0
theorem mX12_keepsRow {l : Launch} {D : zD} {B : Nat} : z_MF l D B yX12_keepsRow xX12_keepsRow fX12_keepsRow := z_mf (by decide) rfl (fun h => by cases h) rfl (fun as σ r h => ⟨z_fn_len h, kX12_keepsRow_0, z_fn_run h, fun _ => tX12_keepsRow_0⟩)
/-! ===== RowChildrenModel.<init> ===== -/
theorem dX12_init_0 : decode cX12_init 0 = .ok (.aload_n 0, 1) := by decide +kernel
theorem dX12_init_1 : decode cX12_init 1 = .ok (.invokespecial 7, 3) := by decide +kernel
theorem dX12_init_4 : decode cX12_init 4 = .ok (.aload_n 0, 1) := by decide +kernel
theorem dX12_init_5 : decode cX12_init 5 = .ok (.sipush 2000, 3) := by decide +kernel
theorem dX12_init_8 : decode cX12_init 8 = .ok (.newarray .byte, 2) := by decide +kernel
theorem dX12_init_10 : decode cX12_init 10 = .ok (.putfield 13, 3) := by decide +kernel
theorem dX12_init_13 : decode cX12_init 13 = .ok (.aload_n 0, 1) := by decide +kernel
theorem dX12_init_14 : decode cX12_init 14 = .ok (.sipush 2000, 3) := by decide +kernel
theorem dX12_init_17 : decode cX12_init 17 = .ok (.newarray .byte, 2) := by decide +kernel
theorem dX12_init_19 : decode cX12_init 19 = .ok (.putfield 17, 3) := by decide +kernel
theorem dX12_init_22 : decode cX12_init 22 = .ok (.aload_n 0, 1) := by decide +kernel
theorem dX12_init_23 : decode cX12_init 23 = .ok (.sipush 403, 3) := by decide +kernel
theorem dX12_init_26 : decode cX12_init 26 = .ok (.newarray .int, 2) := by decide +kernel
theorem dX12_init_28 : decode cX12_init 28 = .ok (.putfield 20, 3) := by decide +kernel
theorem dX12_init_31 : decode cX12_init 31 = .ok (.aload_n 0, 1) := by decide +kernel
theorem dX12_init_32 : decode cX12_init 32 = .ok (.sipush 403, 3) := by decide +kernel
theorem dX12_init_35 : decode cX12_init 35 = .ok (.newarray .int, 2) := by decide +kernel
theorem dX12_init_37 : decode cX12_init 37 = .ok (.putfield 24, 3) := by decide +kernel
theorem dX12_init_40 : decode cX12_init 40 = .ok (.aload_n 0, 1) := by decide +kernel
theorem dX12_init_41 : decode cX12_init 41 = .ok (.sipush 403, 3) := by decide +kernel
theorem dX12_init_44 : decode cX12_init 44 = .ok (.newarray .int, 2) := by decide +kernel
theorem dX12_init_46 : decode cX12_init 46 = .ok (.putfield 27, 3) := by decide +kernel
theorem dX12_init_49 : decode cX12_init 49 = .ok (.aload_n 0, 1) := by decide +kernel
theorem dX12_init_50 : decode cX12_init 50 = .ok (.sipush 403, 3) := by decide +kernel
theorem dX12_init_53 : decode cX12_init 53 = .ok (.newarray .long, 2) := by decide +kernel
theorem dX12_init_55 : decode cX12_init 55 = .ok (.putfield 30, 3) := by decide +kernel
theorem dX12_init_58 : decode cX12_init 58 = .ok (.aload_n 0, 1) := by decide +kernel
theorem dX12_init_59 : decode cX12_init 59 = .ok (.bipush 20, 2) := by decide +kernel
theorem dX12_init_61 : decode cX12_init 61 = .ok (.newarray .long, 2) := by decide +kernel
theorem dX12_init_63 : decode cX12_init 63 = .ok (.putfield 34, 3) := by decide +kernel
theorem dX12_init_66 : decode cX12_init 66 = .ok (.aload_n 0, 1) := by decide +kernel
theorem dX12_init_67 : decode cX12_init 67 = .ok (.iconst (-1), 1) := by decide +kernel
theorem dX12_init_68 : decode cX12_init 68 = .ok (.putfield 37, 3) := by decide +kernel
theorem dX12_init_71 : decode cX12_init 71 = .ok (.aload_n 0, 1) := by decide +kernel
theorem dX12_init_72 : decode cX12_init 72 = .ok (.iconst 4, 1) := by decide +kernel
theorem dX12_init_73 : decode cX12_init 73 = .ok (.newarray .long, 2) := by decide +kernel
theorem dX12_init_75 : decode cX12_init 75 = .ok (.putfield 40, 3) := by decide +kernel
theorem dX12_init_78 : decode cX12_init 78 = .ok (.aload_n 0, 1) := by decide +kernel
theorem dX12_init_79 : decode cX12_init 79 = .ok (.iconst 2, 1) := by decide +kernel
theorem dX12_init_80 : decode cX12_init 80 = .ok (.newarray .int, 2) := by decide +kernel
theorem dX12_init_82 : decode cX12_init 82 = .ok (.putfield 43, 3) := by decide +kernel
theorem dX12_init_85 : decode cX12_init 85 = .ok (.aload_n 0, 1) := by decide +kernel
theorem dX12_init_86 : decode cX12_init 86 = .ok (.iconst 2, 1) := by decide +kernel
theorem dX12_init_87 : decode cX12_init 87 = .ok (.newarray .int, 2) := by decide +kernel
theorem dX12_init_89 : decode cX12_init 89 = .ok (.putfield 46, 3) := by decide +kernel
theorem dX12_init_92 : decode cX12_init 92 = .ok (.aload_n 0, 1) := by decide +kernel
theorem dX12_init_93 : decode cX12_init 93 = .ok (.bipush 32, 2) := by decide +kernel
theorem dX12_init_95 : decode cX12_init 95 = .ok (.newarray .int, 2) := by decide +kernel
theorem dX12_init_97 : decode cX12_init 97 = .ok (.putfield 49, 3) := by decide +kernel
theorem dX12_init_100 : decode cX12_init 100 = .ok (.aload_n 0, 1) := by decide +kernel
theorem dX12_init_101 : decode cX12_init 101 = .ok (.iconst 2, 1) := by decide +kernel
theorem dX12_init_102 : decode cX12_init 102 = .ok (.newarray .int, 2) := by decide +kernel
theorem dX12_init_104 : decode cX12_init 104 = .ok (.putfield 52, 3) := by decide +kernel
theorem dX12_init_107 : decode cX12_init 107 = .ok (.aload_n 0, 1) := by decide +kernel
theorem dX12_init_108 : decode cX12_init 108 = .ok (.iconst 2, 1) := by decide +kernel
theorem dX12_init_109 : decode cX12_init 109 = .ok (.newarray .int, 2) := by decide +kernel
theorem dX12_init_111 : decode cX12_init 111 = .ok (.putfield 55, 3) := by decide +kernel
theorem dX12_init_114 : decode cX12_init 114 = .ok (.aload_n 0, 1) := by decide +kernel
theorem dX12_init_115 : decode cX12_init 115 = .ok (.bipush 8, 2) := by decide +kernel
theorem dX12_init_117 : decode cX12_init 117 = .ok (.newarray .int, 2) := by decide +kernel
theorem dX12_init_119 : decode cX12_init 119 = .ok (.putfield 58, 3) := by decide +kernel
theorem dX12_init_122 : decode cX12_init 122 = .ok (.aload_n 0, 1) := by decide +kernel
theorem dX12_init_123 : decode cX12_init 123 = .ok (.bipush 64, 2) := by decide +kernel
theorem dX12_init_125 : decode cX12_init 125 = .ok (.newarray .int, 2) := by decide +kernel
theorem dX12_init_127 : decode cX12_init 127 = .ok (.putfield 61, 3) := by decide +kernel
theorem dX12_init_130 : decode cX12_init 130 = .ok (.aload_n 0, 1) := by decide +kernel
theorem dX12_init_131 : decode cX12_init 131 = .ok (.iconst 2, 1) := by decide +kernel
theorem dX12_init_132 : decode cX12_init 132 = .ok (.newarray .int, 2) := by decide +kernel
theorem dX12_init_134 : decode cX12_init 134 = .ok (.putfield 64, 3) := by decide +kernel
theorem dX12_init_137 : decode cX12_init 137 = .ok (.aload_n 0, 1) := by decide +kernel
theorem dX12_init_138 : decode cX12_init 138 = .ok (.bipush 8, 2) := by decide +kernel
theorem dX12_init_140 : decode cX12_init 140 = .ok (.newarray .int, 2) := by decide +kernel
theorem dX12_init_142 : decode cX12_init 142 = .ok (.putfield 67, 3) := by decide +kernel
theorem dX12_init_145 : decode cX12_init 145 = .ok (.aload_n 0, 1) := by decide +kernel
theorem dX12_init_146 : decode cX12_init 146 = .ok (.bipush 8, 2) := by decide +kernel
theorem dX12_init_148 : decode cX12_init 148 = .ok (.newarray .int, 2) := by decide +kernel
theorem dX12_init_150 : decode cX12_init 150 = .ok (.putfield 70, 3) := by decide +kernel
theorem dX12_init_153 : decode cX12_init 153 = .ok (.aload_n 0, 1) := by decide +kernel
theorem dX12_init_154 : decode cX12_init 154 = .ok (.sipush 260, 3) := by decide +kernel
theorem dX12_init_157 : decode cX12_init 157 = .ok (.newarray .boolean, 2) := by decide +kernel
theorem dX12_init_159 : decode cX12_init 159 = .ok (.putfield 73, 3) := by decide +kernel
theorem dX12_init_162 : decode cX12_init 162 = .ok (.aload_n 0, 1) := by decide +kernel
theorem dX12_init_163 : decode cX12_init 163 = .ok (.sipush 260, 3) := by decide +kernel
theorem dX12_init_166 : decode cX12_init 166 = .ok (.newarray .int, 2) := by decide +kernel
theorem dX12_init_168 : decode cX12_init 168 = .ok (.putfield 77, 3) := by decide +kernel
theorem dX12_init_171 : decode cX12_init 171 = .ok (.aload_n 0, 1) := by decide +kernel
theorem dX12_init_172 : decode cX12_init 172 = .ok (.sipush 260, 3) := by decide +kernel
theorem dX12_init_175 : decode cX12_init 175 = .ok (.newarray .int, 2) := by decide +kernel
theorem dX12_init_177 : decode cX12_init 177 = .ok (.putfield 80, 3) := by decide +kernel
theorem dX12_init_180 : decode cX12_init 180 = .ok (.aload_n 0, 1) := by decide +kernel
theorem dX12_init_181 : decode cX12_init 181 = .ok (.sipush 260, 3) := by decide +kernel
theorem dX12_init_184 : decode cX12_init 184 = .ok (.newarray .int, 2) := by decide +kernel
theorem dX12_init_186 : decode cX12_init 186 = .ok (.putfield 83, 3) := by decide +kernel
theorem dX12_init_189 : decode cX12_init 189 = .ok (.aload_n 0, 1) := by decide +kernel
theorem dX12_init_190 : decode cX12_init 190 = .ok (.sipush 260, 3) := by decide +kernel
theorem dX12_init_193 : decode cX12_init 193 = .ok (.newarray .int, 2) := by decide +kernel
theorem dX12_init_195 : decode cX12_init 195 = .ok (.putfield 86, 3) := by decide +kernel
theorem dX12_init_198 : decode cX12_init 198 = .ok (.aload_n 0, 1) := by decide +kernel
theorem dX12_init_199 : decode cX12_init 199 = .ok (.sipush 840, 3) := by decide +kernel
theorem dX12_init_202 : decode cX12_init 202 = .ok (.newarray .int, 2) := by decide +kernel
theorem dX12_init_204 : decode cX12_init 204 = .ok (.putfield 89, 3) := by decide +kernel
theorem dX12_init_207 : decode cX12_init 207 = .ok (.aload_n 0, 1) := by decide +kernel
theorem dX12_init_208 : decode cX12_init 208 = .ok (.sipush 840, 3) := by decide +kernel
theorem dX12_init_211 : decode cX12_init 211 = .ok (.newarray .int, 2) := by decide +kernel
theorem dX12_init_213 : decode cX12_init 213 = .ok (.putfield 92, 3) := by decide +kernel
theorem dX12_init_216 : decode cX12_init 216 = .ok (.aload_n 0, 1) := by decide +kernel
theorem dX12_init_217 : decode cX12_init 217 = .ok (.bipush 64, 2) := by decide +kernel
theorem dX12_init_219 : decode cX12_init 219 = .ok (.newarray .int, 2) := by decide +kernel
theorem dX12_init_221 : decode cX12_init 221 = .ok (.putfield 95, 3) := by decide +kernel
theorem dX12_init_224 : decode cX12_init 224 = .ok (.aload_n 0, 1) := by decide +kernel
theorem dX12_init_225 : decode cX12_init 225 = .ok (.bipush 9, 2) := by decide +kernel
theorem dX12_init_227 : decode cX12_init 227 = .ok (.newarray .int, 2) := by decide +kernel
theorem dX12_init_229 : decode cX12_init 229 = .ok (.putfield 98, 3) := by decide +kernel
theorem dX12_init_232 : decode cX12_init 232 = .ok (.aload_n 0, 1) := by decide +kernel
theorem dX12_init_233 : decode cX12_init 233 = .ok (.sipush 400, 3) := by decide +kernel
theorem dX12_init_236 : decode cX12_init 236 = .ok (.newarray .int, 2) := by decide +kernel
theorem dX12_init_238 : decode cX12_init 238 = .ok (.putfield 101, 3) := by decide +kernel
theorem dX12_init_241 : decode cX12_init 241 = .ok (.aload_n 0, 1) := by decide +kernel
theorem dX12_init_242 : decode cX12_init 242 = .ok (.bipush 38, 2) := by decide +kernel
theorem dX12_init_244 : decode cX12_init 244 = .ok (.newarray .int, 2) := by decide +kernel
theorem dX12_init_246 : decode cX12_init 246 = .ok (.putfield 104, 3) := by decide +kernel
theorem dX12_init_249 : decode cX12_init 249 = .ok (.aload_n 0, 1) := by decide +kernel
theorem dX12_init_250 : decode cX12_init 250 = .ok (.bipush 38, 2) := by decide +kernel
theorem dX12_init_252 : decode cX12_init 252 = .ok (.newarray .int, 2) := by decide +kernel
theorem dX12_init_254 : decode cX12_init 254 = .ok (.putfield 107, 3) := by decide +kernel
theorem dX12_init_257 : decode cX12_init 257 = .ok (.aload_n 0, 1) := by decide +kernel
theorem dX12_init_258 : decode cX12_init 258 = .ok (.bipush 64, 2) := by decide +kernel
theorem dX12_init_260 : decode cX12_init 260 = .ok (.newarray .int, 2) := by decide +kernel
theorem dX12_init_262 : decode cX12_init 262 = .ok (.putfield 110, 3) := by decide +kernel
theorem dX12_init_265 : decode cX12_init 265 = .ok (.aload_n 0, 1) := by decide +kernel
theorem dX12_init_266 : decode cX12_init 266 = .ok (.bipush 8, 2) := by decide +kernel
theorem dX12_init_268 : decode cX12_init 268 = .ok (.newarray .int, 2) := by decide +kernel
theorem dX12_init_270 : decode cX12_init 270 = .ok (.putfield 113, 3) := by decide +kernel
theorem dX12_init_273 : decode cX12_init 273 = .ok (.aload_n 0, 1) := by decide +kernel
theorem dX12_init_274 : decode cX12_init 274 = .ok (.sipush 1520, 3) := by decide +kernel
theorem dX12_init_277 : decode cX12_init 277 = .ok (.newarray .int, 2) := by decide +kernel
theorem dX12_init_279 : decode cX12_init 279 = .ok (.putfield 116, 3) := by decide +kernel
theorem dX12_init_282 : decode cX12_init 282 = .ok (.aload_n 0, 1) := by decide +kernel
theorem dX12_init_283 : decode cX12_init 283 = .ok (.bipush 32, 2) := by decide +kernel
theorem dX12_init_285 : decode cX12_init 285 = .ok (.newarray .int, 2) := by decide +kernel
theorem dX12_init_287 : decode cX12_init 287 = .ok (.putfield 119, 3) := by decide +kernel
theorem dX12_init_290 : decode cX12_init 290 = .ok (.aload_n 0, 1) := by decide +kernel
theorem dX12_init_291 : decode cX12_init 291 = .ok (.bipush 9, 2) := by decide +kernel
theorem dX12_init_293 : decode cX12_init 293 = .ok (.newarray .int, 2) := by decide +kernel
theorem dX12_init_295 : decode cX12_init 295 = .ok (.putfield 122, 3) := by decide +kernel
theorem dX12_init_298 : decode cX12_init 298 = .ok (.aload_n 0, 1) := by decide +kernel
theorem dX12_init_299 : decode cX12_init 299 = .ok (.iconst 4, 1) := by decide +kernel
theorem dX12_init_300 : decode cX12_init 300 = .ok (.newarray .int, 2) := by decide +kernel
theorem dX12_init_302 : decode cX12_init 302 = .ok (.putfield 125, 3) := by decide +kernel
theorem dX12_init_305 : decode cX12_init 305 = .ok (.aload_n 0, 1) := by decide +kernel
theorem dX12_init_306 : decode cX12_init 306 = .ok (.iconst 4, 1) := by decide +kernel
theorem dX12_init_307 : decode cX12_init 307 = .ok (.newarray .int, 2) := by decide +kernel
theorem dX12_init_309 : decode cX12_init 309 = .ok (.putfield 128, 3) := by decide +kernel
theorem dX12_init_312 : decode cX12_init 312 = .ok (.aload_n 0, 1) := by decide +kernel
theorem dX12_init_313 : decode cX12_init 313 = .ok (.bipush 16, 2) := by decide +kernel
theorem dX12_init_315 : decode cX12_init 315 = .ok (.newarray .int, 2) := by decide +kernel
theorem dX12_init_317 : decode cX12_init 317 = .ok (.putfield 131, 3) := by decide +kernel
theorem dX12_init_320 : decode cX12_init 320 = .ok (.aload_n 0, 1) := by decide +kernel
theorem dX12_init_321 : decode cX12_init 321 = .ok (.bipush 16, 2) := by decide +kernel
theorem dX12_init_323 : decode cX12_init 323 = .ok (.newarray .int, 2) := by decide +kernel
theorem dX12_init_325 : decode cX12_init 325 = .ok (.putfield 134, 3) := by decide +kernel
theorem dX12_init_328 : decode cX12_init 328 = .ok (.aload_n 0, 1) := by decide +kernel
theorem dX12_init_329 : decode cX12_init 329 = .ok (.ldc 137, 2) := by decide +kernel
theorem dX12_init_331 : decode cX12_init 331 = .ok (.newarray .int, 2) := by decide +kernel
theorem dX12_init_333 : decode cX12_init 333 = .ok (.putfield 138, 3) := by decide +kernel
theorem dX12_init_336 : decode cX12_init 336 = .ok (.aload_n 0, 1) := by decide +kernel
theorem dX12_init_337 : decode cX12_init 337 = .ok (.bipush 8, 2) := by decide +kernel
theorem dX12_init_339 : decode cX12_init 339 = .ok (.newarray .int, 2) := by decide +kernel
theorem dX12_init_341 : decode cX12_init 341 = .ok (.putfield 141, 3) := by decide +kernel
theorem dX12_init_344 : decode cX12_init 344 = .ok (.aload_n 0, 1) := by decide +kernel
theorem dX12_init_345 : decode cX12_init 345 = .ok (.ldc 137, 2) := by decide +kernel
theorem dX12_init_347 : decode cX12_init 347 = .ok (.newarray .int, 2) := by decide +kernel
theorem dX12_init_349 : decode cX12_init 349 = .ok (.putfield 144, 3) := by decide +kernel
theorem dX12_init_352 : decode cX12_init 352 = .ok (.aload_n 0, 1) := by decide +kernel
theorem dX12_init_353 : decode cX12_init 353 = .ok (.bipush 20, 2) := by decide +kernel
theorem dX12_init_355 : decode cX12_init 355 = .ok (.newarray .int, 2) := by decide +kernel
theorem dX12_init_357 : decode cX12_init 357 = .ok (.putfield 147, 3) := by decide +kernel
theorem dX12_init_360 : decode cX12_init 360 = .ok (.aload_n 0, 1) := by decide +kernel
theorem dX12_init_361 : decode cX12_init 361 = .ok (.bipush 20, 2) := by decide +kernel
theorem dX12_init_363 : decode cX12_init 363 = .ok (.newarray .int, 2) := by decide +kernel
theorem dX12_init_365 : decode cX12_init 365 = .ok (.putfield 150, 3) := by decide +kernel
theorem dX12_init_368 : decode cX12_init 368 = .ok (.aload_n 0, 1) := by decide +kernel
theorem dX12_init_369 : decode cX12_init 369 = .ok (.bipush 20, 2) := by decide +kernel
theorem dX12_init_371 : decode cX12_init 371 = .ok (.newarray .int, 2) := by decide +kernel
theorem dX12_init_373 : decode cX12_init 373 = .ok (.putfield 153, 3) := by decide +kernel
theorem dX12_init_376 : decode cX12_init 376 = .ok (.aload_n 0, 1) := by decide +kernel
theorem dX12_init_377 : decode cX12_init 377 = .ok (.bipush 20, 2) := by decide +kernel
theorem dX12_init_379 : decode cX12_init 379 = .ok (.newarray .boolean, 2) := by decide +kernel
theorem dX12_init_381 : decode cX12_init 381 = .ok (.putfield 156, 3) := by decide +kernel
theorem dX12_init_384 : decode cX12_init 384 = .ok (.aload_n 0, 1) := by decide +kernel
theorem dX12_init_385 : decode cX12_init 385 = .ok (.sipush 256, 3) := by decide +kernel
theorem dX12_init_388 : decode cX12_init 388 = .ok (.newarray .int, 2) := by decide +kernel
theorem dX12_init_390 : decode cX12_init 390 = .ok (.putfield 159, 3) := by decide +kernel
theorem dX12_init_393 : decode cX12_init 393 = .ok (.aload_n 0, 1) := by decide +kernel
theorem dX12_init_394 : decode cX12_init 394 = .ok (.iconst 3, 1) := by decide +kernel
theorem dX12_init_395 : decode cX12_init 395 = .ok (.newarray .boolean, 2) := by decide +kernel
theorem dX12_init_397 : decode cX12_init 397 = .ok (.putfield 162, 3) := by decide +kernel
theorem dX12_init_400 : decode cX12_init 400 = .ok (.aload_n 0, 1) := by decide +kernel
theorem dX12_init_401 : decode cX12_init 401 = .ok (.bipush 114, 2) := by decide +kernel
theorem dX12_init_403 : decode cX12_init 403 = .ok (.newarray .int, 2) := by decide +kernel
theorem dX12_init_405 : decode cX12_init 405 = .ok (.putfield 165, 3) := by decide +kernel
theorem dX12_init_408 : decode cX12_init 408 = .ok (.aload_n 0, 1) := by decide +kernel
theorem dX12_init_409 : decode cX12_init 409 = .ok (.iconst 0, 1) := by decide +kernel
theorem dX12_init_410 : decode cX12_init 410 = .ok (.invokevirtual 168, 3) := by decide +kernel
theorem dX12_init_413 : decode cX12_init 413 = .ok (.aload_n 0, 1) := by decide +kernel
theorem dX12_init_414 : decode cX12_init 414 = .ok (.iconst 1, 1) := by decide +kernel
theorem dX12_init_415 : decode cX12_init 415 = .ok (.invokevirtual 168, 3) := by decide +kernel
theorem dX12_init_418 : decode cX12_init 418 = .ok (.aload_n 0, 1) := by decide +kernel
theorem dX12_init_419 : decode cX12_init 419 = .ok (.getfield 34, 3) := by decide +kernel
theorem dX12_init_422 : decode cX12_init 422 = .ok (.iconst 0, 1) := by decide +kernel
theorem dX12_init_423 : decode cX12_init 423 = .ok (.bipush 99, 2) := by decide +kernel
theorem dX12_init_425 : decode cX12_init 425 = .ok (.bipush 111, 2) := by decide +kernel
theorem dX12_init_427 : decode cX12_init 427 = .ok (.bipush 108, 2) := by decide +kernel
theorem dX12_init_429 : decode cX12_init 429 = .ok (.bipush 111, 2) := by decide +kernel
theorem dX12_init_431 : decode cX12_init 431 = .ok (.bipush 117, 2) := by decide +kernel
theorem dX12_init_433 : decode cX12_init 433 = .ok (.bipush 114, 2) := by decide +kernel
theorem dX12_init_435 : decode cX12_init 435 = .ok (.bipush 115, 2) := by decide +kernel
theorem dX12_init_437 : decode cX12_init 437 = .ok (.invokestatic 172, 3) := by decide +kernel
theorem dX12_init_440 : decode cX12_init 440 = .ok (.lastore, 1) := by decide +kernel
theorem dX12_init_441 : decode cX12_init 441 = .ok (.aload_n 0, 1) := by decide +kernel
theorem dX12_init_442 : decode cX12_init 442 = .ok (.getfield 34, 3) := by decide +kernel
theorem dX12_init_445 : decode cX12_init 445 = .ok (.iconst 1, 1) := by decide +kernel
theorem dX12_init_446 : decode cX12_init 446 = .ok (.bipush 99, 2) := by decide +kernel
theorem dX12_init_448 : decode cX12_init 448 = .ok (.bipush 104, 2) := by decide +kernel
theorem dX12_init_450 : decode cX12_init 450 = .ok (.bipush 105, 2) := by decide +kernel
theorem dX12_init_452 : decode cX12_init 452 = .ok (.bipush 108, 2) := by decide +kernel
theorem dX12_init_454 : decode cX12_init 454 = .ok (.bipush 100, 2) := by decide +kernel
theorem dX12_init_456 : decode cX12_init 456 = .ok (.iconst 0, 1) := by decide +kernel
theorem dX12_init_457 : decode cX12_init 457 = .ok (.iconst 0, 1) := by decide +kernel
theorem dX12_init_458 : decode cX12_init 458 = .ok (.invokestatic 172, 3) := by decide +kernel
theorem dX12_init_461 : decode cX12_init 461 = .ok (.lastore, 1) := by decide +kernel
theorem dX12_init_462 : decode cX12_init 462 = .ok (.aload_n 0, 1) := by decide +kernel
theorem dX12_init_463 : decode cX12_init 463 = .ok (.getfield 34, 3) := by decide +kernel
theorem dX12_init_466 : decode cX12_init 466 = .ok (.iconst 2, 1) := by decide +kernel
theorem dX12_init_467 : decode cX12_init 467 = .ok (.bipush 114, 2) := by decide +kernel
theorem dX12_init_469 : decode cX12_init 469 = .ok (.bipush 111, 2) := by decide +kernel
theorem dX12_init_471 : decode cX12_init 471 = .ok (.bipush 119, 2) := by decide +kernel
theorem dX12_init_473 : decode cX12_init 473 = .ok (.iconst 0, 1) := by decide +kernel
theorem dX12_init_474 : decode cX12_init 474 = .ok (.iconst 0, 1) := by decide +kernel
theorem dX12_init_475 : decode cX12_init 475 = .ok (.iconst 0, 1) := by decide +kernel
theorem dX12_init_476 : decode cX12_init 476 = .ok (.iconst 0, 1) := by decide +kernel
theorem dX12_init_477 : decode cX12_init 477 = .ok (.invokestatic 172, 3) := by decide +kernel
theorem dX12_init_480 : decode cX12_init 480 = .ok (.lastore, 1) := by decide +kernel
theorem dX12_init_481 : decode cX12_init 481 = .ok (.aload_n 0, 1) := by decide +kernel
theorem dX12_init_482 : decode cX12_init 482 = .ok (.getfield 34, 3) := by decide +kernel
theorem dX12_init_485 : decode cX12_init 485 = .ok (.iconst 3, 1) := by decide +kernel
theorem dX12_init_486 : decode cX12_init 486 = .ok (.bipush 119, 2) := by decide +kernel
theorem dX12_init_488 : decode cX12_init 488 = .ok (.bipush 111, 2) := by decide +kernel
theorem dX12_init_490 : decode cX12_init 490 = .ok (.bipush 114, 2) := by decide +kernel
theorem dX12_init_492 : decode cX12_init 492 = .ok (.bipush 116, 2) := by decide +kernel
theorem dX12_init_494 : decode cX12_init 494 = .ok (.bipush 104, 2) := by decide +kernel
theorem dX12_init_496 : decode cX12_init 496 = .ok (.iconst 0, 1) := by decide +kernel
theorem dX12_init_497 : decode cX12_init 497 = .ok (.iconst 0, 1) := by decide +kernel
theorem dX12_init_498 : decode cX12_init 498 = .ok (.invokestatic 172, 3) := by decide +kernel
theorem dX12_init_501 : decode cX12_init 501 = .ok (.lastore, 1) := by decide +kernel
theorem dX12_init_502 : decode cX12_init 502 = .ok (.aload_n 0, 1) := by decide +kernel
theorem dX12_init_503 : decode cX12_init 503 = .ok (.getfield 34, 3) := by decide +kernel
theorem dX12_init_506 : decode cX12_init 506 = .ok (.iconst 4, 1) := by decide +kernel
theorem dX12_init_507 : decode cX12_init 507 = .ok (.bipush 99, 2) := by decide +kernel
theorem dX12_init_509 : decode cX12_init 509 = .ok (.bipush 111, 2) := by decide +kernel
theorem dX12_init_511 : decode cX12_init 511 = .ok (.bipush 115, 2) := by decide +kernel
theorem dX12_init_513 : decode cX12_init 513 = .ok (.bipush 116, 2) := by decide +kernel
theorem dX12_init_515 : decode cX12_init 515 = .ok (.bipush 115, 2) := by decide +kernel
theorem dX12_init_517 : decode cX12_init 517 = .ok (.iconst 0, 1) := by decide +kernel
theorem dX12_init_518 : decode cX12_init 518 = .ok (.iconst 0, 1) := by decide +kernel
theorem dX12_init_519 : decode cX12_init 519 = .ok (.invokestatic 172, 3) := by decide +kernel
theorem dX12_init_522 : decode cX12_init 522 = .ok (.lastore, 1) := by decide +kernel
theorem dX12_init_523 : decode cX12_init 523 = .ok (.aload_n 0, 1) := by decide +kernel
theorem dX12_init_524 : decode cX12_init 524 = .ok (.getfield 34, 3) := by decide +kernel
theorem dX12_init_527 : decode cX12_init 527 = .ok (.iconst 5, 1) := by decide +kernel
theorem dX12_init_528 : decode cX12_init 528 = .ok (.bipush 111, 2) := by decide +kernel
theorem dX12_init_530 : decode cX12_init 530 = .ok (.bipush 100, 2) := by decide +kernel
theorem dX12_init_532 : decode cX12_init 532 = .ok (.bipush 100, 2) := by decide +kernel
theorem dX12_init_534 : decode cX12_init 534 = .ok (.bipush 115, 2) := by decide +kernel
theorem dX12_init_536 : decode cX12_init 536 = .ok (.iconst 0, 1) := by decide +kernel
theorem dX12_init_537 : decode cX12_init 537 = .ok (.iconst 0, 1) := by decide +kernel
theorem dX12_init_538 : decode cX12_init 538 = .ok (.iconst 0, 1) := by decide +kernel
theorem dX12_init_539 : decode cX12_init 539 = .ok (.invokestatic 172, 3) := by decide +kernel
theorem dX12_init_542 : decode cX12_init 542 = .ok (.lastore, 1) := by decide +kernel
theorem dX12_init_543 : decode cX12_init 543 = .ok (.aload_n 0, 1) := by decide +kernel
theorem dX12_init_544 : decode cX12_init 544 = .ok (.getfield 34, 3) := by decide +kernel
theorem dX12_init_547 : decode cX12_init 547 = .ok (.bipush 6, 2) := by decide +kernel
theorem dX12_init_549 : decode cX12_init 549 = .ok (.bipush 112, 2) := by decide +kernel
theorem dX12_init_551 : decode cX12_init 551 = .ok (.bipush 97, 2) := by decide +kernel
theorem dX12_init_553 : decode cX12_init 553 = .ok (.bipush 121, 2) := by decide +kernel
theorem dX12_init_555 : decode cX12_init 555 = .ok (.bipush 115, 2) := by decide +kernel
theorem dX12_init_557 : decode cX12_init 557 = .ok (.iconst 0, 1) := by decide +kernel
theorem dX12_init_558 : decode cX12_init 558 = .ok (.iconst 0, 1) := by decide +kernel
theorem dX12_init_559 : decode cX12_init 559 = .ok (.iconst 0, 1) := by decide +kernel
theorem dX12_init_560 : decode cX12_init 560 = .ok (.invokestatic 172, 3) := by decide +kernel
theorem dX12_init_563 : decode cX12_init 563 = .ok (.lastore, 1) := by decide +kernel
theorem dX12_init_564 : decode cX12_init 564 = .ok (.aload_n 0, 1) := by decide +kernel
theorem dX12_init_565 : decode cX12_init 565 = .ok (.getfield 34, 3) := by decide +kernel
theorem dX12_init_568 : decode cX12_init 568 = .ok (.bipush 7, 2) := by decide +kernel
theorem dX12_init_570 : decode cX12_init 570 = .ok (.bipush 115, 2) := by decide +kernel
theorem dX12_init_572 : decode cX12_init 572 = .ok (.bipush 101, 2) := by decide +kernel
theorem dX12_init_574 : decode cX12_init 574 = .ok (.bipush 101, 2) := by decide +kernel
theorem dX12_init_576 : decode cX12_init 576 = .ok (.bipush 100, 2) := by decide +kernel
theorem dX12_init_578 : decode cX12_init 578 = .ok (.iconst 0, 1) := by decide +kernel
theorem dX12_init_579 : decode cX12_init 579 = .ok (.iconst 0, 1) := by decide +kernel
theorem dX12_init_580 : decode cX12_init 580 = .ok (.iconst 0, 1) := by decide +kernel
theorem dX12_init_581 : decode cX12_init 581 = .ok (.invokestatic 172, 3) := by decide +kernel
theorem dX12_init_584 : decode cX12_init 584 = .ok (.lastore, 1) := by decide +kernel
theorem dX12_init_585 : decode cX12_init 585 = .ok (.aload_n 0, 1) := by decide +kernel
theorem dX12_init_586 : decode cX12_init 586 = .ok (.getfield 34, 3) := by decide +kernel
theorem dX12_init_589 : decode cX12_init 589 = .ok (.bipush 8, 2) := by decide +kernel
theorem dX12_init_591 : decode cX12_init 591 = .ok (.bipush 105, 2) := by decide +kernel
theorem dX12_init_593 : decode cX12_init 593 = .ok (.bipush 102, 2) := by decide +kernel
theorem dX12_init_595 : decode cX12_init 595 = .ok (.iconst 0, 1) := by decide +kernel
theorem dX12_init_596 : decode cX12_init 596 = .ok (.iconst 0, 1) := by decide +kernel
theorem dX12_init_597 : decode cX12_init 597 = .ok (.iconst 0, 1) := by decide +kernel
theorem dX12_init_598 : decode cX12_init 598 = .ok (.iconst 0, 1) := by decide +kernel
theorem dX12_init_599 : decode cX12_init 599 = .ok (.iconst 0, 1) := by decide +kernel
theorem dX12_init_600 : decode cX12_init 600 = .ok (.invokestatic 172, 3) := by decide +kernel
theorem dX12_init_603 : decode cX12_init 603 = .ok (.lastore, 1) := by decide +kernel
theorem dX12_init_604 : decode cX12_init 604 = .ok (.aload_n 0, 1) := by decide +kernel
theorem dX12_init_605 : decode cX12_init 605 = .ok (.getfield 34, 3) := by decide +kernel
theorem dX12_init_608 : decode cX12_init 608 = .ok (.bipush 9, 2) := by decide +kernel
theorem dX12_init_610 : decode cX12_init 610 = .ok (.bipush 116, 2) := by decide +kernel
theorem dX12_init_612 : decode cX12_init 612 = .ok (.bipush 104, 2) := by decide +kernel
theorem dX12_init_614 : decode cX12_init 614 = .ok (.bipush 101, 2) := by decide +kernel
theorem dX12_init_616 : decode cX12_init 616 = .ok (.bipush 110, 2) := by decide +kernel
theorem dX12_init_618 : decode cX12_init 618 = .ok (.iconst 0, 1) := by decide +kernel
theorem dX12_init_619 : decode cX12_init 619 = .ok (.iconst 0, 1) := by decide +kernel
theorem dX12_init_620 : decode cX12_init 620 = .ok (.iconst 0, 1) := by decide +kernel
theorem dX12_init_621 : decode cX12_init 621 = .ok (.invokestatic 172, 3) := by decide +kernel
theorem dX12_init_624 : decode cX12_init 624 = .ok (.lastore, 1) := by decide +kernel
theorem dX12_init_625 : decode cX12_init 625 = .ok (.aload_n 0, 1) := by decide +kernel
theorem dX12_init_626 : decode cX12_init 626 = .ok (.getfield 34, 3) := by decide +kernel
theorem dX12_init_629 : decode cX12_init 629 = .ok (.bipush 10, 2) := by decide +kernel
theorem dX12_init_631 : decode cX12_init 631 = .ok (.bipush 101, 2) := by decide +kernel
theorem dX12_init_633 : decode cX12_init 633 = .ok (.bipush 108, 2) := by decide +kernel
theorem dX12_init_635 : decode cX12_init 635 = .ok (.bipush 115, 2) := by decide +kernel
theorem dX12_init_637 : decode cX12_init 637 = .ok (.bipush 101, 2) := by decide +kernel
theorem dX12_init_639 : decode cX12_init 639 = .ok (.iconst 0, 1) := by decide +kernel
theorem dX12_init_640 : decode cX12_init 640 = .ok (.iconst 0, 1) := by decide +kernel
theorem dX12_init_641 : decode cX12_init 641 = .ok (.iconst 0, 1) := by decide +kernel
theorem dX12_init_642 : decode cX12_init 642 = .ok (.invokestatic 172, 3) := by decide +kernel
theorem dX12_init_645 : decode cX12_init 645 = .ok (.lastore, 1) := by decide +kernel
theorem dX12_init_646 : decode cX12_init 646 = .ok (.aload_n 0, 1) := by decide +kernel
theorem dX12_init_647 : decode cX12_init 647 = .ok (.getfield 34, 3) := by decide +kernel
theorem dX12_init_650 : decode cX12_init 650 = .ok (.bipush 11, 2) := by decide +kernel
theorem dX12_init_652 : decode cX12_init 652 = .ok (.bipush 99, 2) := by decide +kernel
theorem dX12_init_654 : decode cX12_init 654 = .ok (.bipush 111, 2) := by decide +kernel
theorem dX12_init_656 : decode cX12_init 656 = .ok (.bipush 108, 2) := by decide +kernel
theorem dX12_init_658 : decode cX12_init 658 = .ok (.bipush 111, 2) := by decide +kernel
theorem dX12_init_660 : decode cX12_init 660 = .ok (.bipush 117, 2) := by decide +kernel
theorem dX12_init_662 : decode cX12_init 662 = .ok (.bipush 114, 2) := by decide +kernel
theorem dX12_init_664 : decode cX12_init 664 = .ok (.iconst 0, 1) := by decide +kernel
theorem dX12_init_665 : decode cX12_init 665 = .ok (.invokestatic 172, 3) := by decide +kernel
theorem dX12_init_668 : decode cX12_init 668 = .ok (.lastore, 1) := by decide +kernel
theorem dX12_init_669 : decode cX12_init 669 = .ok (.aload_n 0, 1) := by decide +kernel
theorem dX12_init_670 : decode cX12_init 670 = .ok (.getfield 34, 3) := by decide +kernel
theorem dX12_init_673 : decode cX12_init 673 = .ok (.bipush 12, 2) := by decide +kernel
theorem dX12_init_675 : decode cX12_init 675 = .ok (.bipush 115, 2) := by decide +kernel
theorem dX12_init_677 : decode cX12_init 677 = .ok (.bipush 101, 2) := by decide +kernel
theorem dX12_init_679 : decode cX12_init 679 = .ok (.bipush 97, 2) := by decide +kernel
theorem dX12_init_681 : decode cX12_init 681 = .ok (.bipush 116, 2) := by decide +kernel
theorem dX12_init_683 : decode cX12_init 683 = .ok (.iconst 0, 1) := by decide +kernel
theorem dX12_init_684 : decode cX12_init 684 = .ok (.iconst 0, 1) := by decide +kernel
theorem dX12_init_685 : decode cX12_init 685 = .ok (.iconst 0, 1) := by decide +kernel
theorem dX12_init_686 : decode cX12_init 686 = .ok (.invokestatic 172, 3) := by decide +kernel
theorem dX12_init_689 : decode cX12_init 689 = .ok (.lastore, 1) := by decide +kernel
theorem dX12_init_690 : decode cX12_init 690 = .ok (.aload_n 0, 1) := by decide +kernel
theorem dX12_init_691 : decode cX12_init 691 = .ok (.getfield 34, 3) := by decide +kernel
theorem dX12_init_694 : decode cX12_init 694 = .ok (.bipush 13, 2) := by decide +kernel
theorem dX12_init_696 : decode cX12_init 696 = .ok (.bipush 100, 2) := by decide +kernel
theorem dX12_init_698 : decode cX12_init 698 = .ok (.bipush 101, 2) := by decide +kernel
theorem dX12_init_700 : decode cX12_init 700 = .ok (.bipush 112, 2) := by decide +kernel
theorem dX12_init_702 : decode cX12_init 702 = .ok (.bipush 116, 2) := by decide +kernel
theorem dX12_init_704 : decode cX12_init 704 = .ok (.bipush 104, 2) := by decide +kernel
theorem dX12_init_706 : decode cX12_init 706 = .ok (.iconst 0, 1) := by decide +kernel
theorem dX12_init_707 : decode cX12_init 707 = .ok (.iconst 0, 1) := by decide +kernel
theorem dX12_init_708 : decode cX12_init 708 = .ok (.invokestatic 172, 3) := by decide +kernel
theorem dX12_init_711 : decode cX12_init 711 = .ok (.lastore, 1) := by decide +kernel
theorem dX12_init_712 : decode cX12_init 712 = .ok (.aload_n 0, 1) := by decide +kernel
theorem dX12_init_713 : decode cX12_init 713 = .ok (.getfield 34, 3) := by decide +kernel
theorem dX12_init_716 : decode cX12_init 716 = .ok (.bipush 14, 2) := by decide +kernel
theorem dX12_init_718 : decode cX12_init 718 = .ok (.bipush 108, 2) := by decide +kernel
theorem dX12_init_720 : decode cX12_init 720 = .ok (.bipush 111, 2) := by decide +kernel
theorem dX12_init_722 : decode cX12_init 722 = .ok (.bipush 110, 2) := by decide +kernel
theorem dX12_init_724 : decode cX12_init 724 = .ok (.bipush 103, 2) := by decide +kernel
theorem dX12_init_726 : decode cX12_init 726 = .ok (.iconst 0, 1) := by decide +kernel
theorem dX12_init_727 : decode cX12_init 727 = .ok (.iconst 0, 1) := by decide +kernel
theorem dX12_init_728 : decode cX12_init 728 = .ok (.iconst 0, 1) := by decide +kernel
theorem dX12_init_729 : decode cX12_init 729 = .ok (.invokestatic 172, 3) := by decide +kernel
theorem dX12_init_732 : decode cX12_init 732 = .ok (.lastore, 1) := by decide +kernel
theorem dX12_init_733 : decode cX12_init 733 = .ok (.aload_n 0, 1) := by decide +kernel
theorem dX12_init_734 : decode cX12_init 734 = .ok (.getfield 34, 3) := by decide +kernel
theorem dX12_init_737 : decode cX12_init 737 = .ok (.bipush 15, 2) := by decide +kernel
theorem dX12_init_739 : decode cX12_init 739 = .ok (.bipush 109, 2) := by decide +kernel
theorem dX12_init_741 : decode cX12_init 741 = .ok (.bipush 97, 2) := by decide +kernel
theorem dX12_init_743 : decode cX12_init 743 = .ok (.bipush 110, 2) := by decide +kernel
theorem dX12_init_745 : decode cX12_init 745 = .ok (.bipush 121, 2) := by decide +kernel
theorem dX12_init_747 : decode cX12_init 747 = .ok (.iconst 0, 1) := by decide +kernel
theorem dX12_init_748 : decode cX12_init 748 = .ok (.iconst 0, 1) := by decide +kernel
theorem dX12_init_749 : decode cX12_init 749 = .ok (.iconst 0, 1) := by decide +kernel
theorem dX12_init_750 : decode cX12_init 750 = .ok (.invokestatic 172, 3) := by decide +kernel
theorem dX12_init_753 : decode cX12_init 753 = .ok (.lastore, 1) := by decide +kernel
theorem dX12_init_754 : decode cX12_init 754 = .ok (.aload_n 0, 1) := by decide +kernel
theorem dX12_init_755 : decode cX12_init 755 = .ok (.getfield 34, 3) := by decide +kernel
theorem dX12_init_758 : decode cX12_init 758 = .ok (.bipush 16, 2) := by decide +kernel
theorem dX12_init_760 : decode cX12_init 760 = .ok (.bipush 116, 2) := by decide +kernel
theorem dX12_init_762 : decode cX12_init 762 = .ok (.bipush 105, 2) := by decide +kernel
theorem dX12_init_764 : decode cX12_init 764 = .ok (.bipush 109, 2) := by decide +kernel
theorem dX12_init_766 : decode cX12_init 766 = .ok (.bipush 101, 2) := by decide +kernel
theorem dX12_init_768 : decode cX12_init 768 = .ok (.iconst 0, 1) := by decide +kernel
theorem dX12_init_769 : decode cX12_init 769 = .ok (.iconst 0, 1) := by decide +kernel
theorem dX12_init_770 : decode cX12_init 770 = .ok (.iconst 0, 1) := by decide +kernel
theorem dX12_init_771 : decode cX12_init 771 = .ok (.invokestatic 172, 3) := by decide +kernel
theorem dX12_init_774 : decode cX12_init 774 = .ok (.lastore, 1) := by decide +kernel
theorem dX12_init_775 : decode cX12_init 775 = .ok (.aload_n 0, 1) := by decide +kernel
theorem dX12_init_776 : decode cX12_init 776 = .ok (.getfield 34, 3) := by decide +kernel
theorem dX12_init_779 : decode cX12_init 779 = .ok (.bipush 17, 2) := by decide +kernel
theorem dX12_init_781 : decode cX12_init 781 = .ok (.bipush 119, 2) := by decide +kernel
theorem dX12_init_783 : decode cX12_init 783 = .ok (.bipush 104, 2) := by decide +kernel
theorem dX12_init_785 : decode cX12_init 785 = .ok (.bipush 105, 2) := by decide +kernel
theorem dX12_init_787 : decode cX12_init 787 = .ok (.bipush 99, 2) := by decide +kernel
theorem dX12_init_789 : decode cX12_init 789 = .ok (.bipush 104, 2) := by decide +kernel
theorem dX12_init_791 : decode cX12_init 791 = .ok (.iconst 0, 1) := by decide +kernel
theorem dX12_init_792 : decode cX12_init 792 = .ok (.iconst 0, 1) := by decide +kernel
theorem dX12_init_793 : decode cX12_init 793 = .ok (.invokestatic 172, 3) := by decide +kernel
theorem dX12_init_796 : decode cX12_init 796 = .ok (.lastore, 1) := by decide +kernel
theorem dX12_init_797 : decode cX12_init 797 = .ok (.aload_n 0, 1) := by decide +kernel
theorem dX12_init_798 : decode cX12_init 798 = .ok (.getfield 34, 3) := by decide +kernel
theorem dX12_init_801 : decode cX12_init 801 = .ok (.bipush 18, 2) := by decide +kernel
theorem dX12_init_803 : decode cX12_init 803 = .ok (.bipush 108, 2) := by decide +kernel
theorem dX12_init_805 : decode cX12_init 805 = .ok (.bipush 101, 2) := by decide +kernel
theorem dX12_init_807 : decode cX12_init 807 = .ok (.bipush 102, 2) := by decide +kernel
theorem dX12_init_809 : decode cX12_init 809 = .ok (.bipush 116, 2) := by decide +kernel
theorem dX12_init_811 : decode cX12_init 811 = .ok (.iconst 0, 1) := by decide +kernel
theorem dX12_init_812 : decode cX12_init 812 = .ok (.iconst 0, 1) := by decide +kernel
theorem dX12_init_813 : decode cX12_init 813 = .ok (.iconst 0, 1) := by decide +kernel
theorem dX12_init_814 : decode cX12_init 814 = .ok (.invokestatic 172, 3) := by decide +kernel
theorem dX12_init_817 : decode cX12_init 817 = .ok (.lastore, 1) := by decide +kernel
theorem dX12_init_818 : decode cX12_init 818 = .ok (.aload_n 0, 1) := by decide +kernel
theorem dX12_init_819 : decode cX12_init 819 = .ok (.getfield 34, 3) := by decide +kernel
theorem dX12_init_822 : decode cX12_init 822 = .ok (.bipush 19, 2) := by decide +kernel
theorem dX12_init_824 : decode cX12_init 824 = .ok (.bipush 114, 2) := by decide +kernel
theorem dX12_init_826 : decode cX12_init 826 = .ok (.bipush 105, 2) := by decide +kernel
theorem dX12_init_828 : decode cX12_init 828 = .ok (.bipush 103, 2) := by decide +kernel
theorem dX12_init_830 : decode cX12_init 830 = .ok (.bipush 104, 2) := by decide +kernel
theorem dX12_init_832 : decode cX12_init 832 = .ok (.bipush 116, 2) := by decide +kernel
theorem dX12_init_834 : decode cX12_init 834 = .ok (.iconst 0, 1) := by decide +kernel
theorem dX12_init_835 : decode cX12_init 835 = .ok (.iconst 0, 1) := by decide +kernel
theorem dX12_init_836 : decode cX12_init 836 = .ok (.invokestatic 172, 3) := by decide +kernel
theorem dX12_init_839 : decode cX12_init 839 = .ok (.lastore, 1) := by decide +kernel
theorem dX12_init_840 : decode cX12_init 840 = .ok (.aload_n 0, 1) := by decide +kernel
theorem dX12_init_841 : decode cX12_init 841 = .ok (.invokevirtual 176, 3) := by decide +kernel
theorem dX12_init_844 : decode cX12_init 844 = .ok (.aload_n 0, 1) := by decide +kernel
theorem dX12_init_845 : decode cX12_init 845 = .ok (.invokevirtual 179, 3) := by decide +kernel
theorem dX12_init_848 : decode cX12_init 848 = .ok (.return_, 1) := by decide +kernel
def xX12_init : zX := (RX12, cX12_init, 1, none, true, { frames := 3, cells := 49, slots := 3211264, locals := 138 }, 49, 65536, 0, 0)
theorem rmX12_init : z_Rm xX12_init := by unfold z_Rm xX12_init; exact ⟨by decide, by decide⟩
theorem reX12_init : z_Re xX12_init := ⟨rfl, rfl⟩
theorem rlX12_init : 1 ≤ xX12_init.2.2.2.2.2.1.frames ∧ 21 ≤ xX12_init.2.2.2.2.2.1.locals := by unfold xX12_init; exact ⟨by decide, by decide⟩
theorem meX12_init : z_Me yX12_init xX12_init 0 := ⟨wd958, wd893, by decide, by decide, by decide +kernel⟩
theorem fitX12_init_410 : z_Fit xX12_plain xX12_init := by unfold z_Fit; simp only [xX12_plain, xX12_init]; exact ⟨by decide, by decide⟩
theorem fitX12_init_415 : z_Fit xX12_plain xX12_init := by unfold z_Fit; simp only [xX12_plain, xX12_init]; exact ⟨by decide, by decide⟩
theorem fitX12_init_437 : z_Fit xX12_letters xX12_init := by unfold z_Fit; simp only [xX12_letters, xX12_init]; exact ⟨by decide, by decide⟩
theorem fitX12_init_458 : z_Fit xX12_letters xX12_init := by unfold z_Fit; simp only [xX12_letters, xX12_init]; exact ⟨by decide, by decide⟩
theorem fitX12_init_477 : z_Fit xX12_letters xX12_init := by unfold z_Fit; simp only [xX12_letters, xX12_init]; exact ⟨by decide, by decide⟩
theorem fitX12_init_498 : z_Fit xX12_letters xX12_init := by unfold z_Fit; simp only [xX12_letters, xX12_init]; exact ⟨by decide, by decide⟩
theorem fitX12_init_519 : z_Fit xX12_letters xX12_init := by unfold z_Fit; simp only [xX12_letters, xX12_init]; exact ⟨by decide, by decide⟩
theorem fitX12_init_539 : z_Fit xX12_letters xX12_init := by unfold z_Fit; simp only [xX12_letters, xX12_init]; exact ⟨by decide, by decide⟩
theorem fitX12_init_560 : z_Fit xX12_letters xX12_init := by unfold z_Fit; simp only [xX12_letters, xX12_init]; exact ⟨by decide, by decide⟩
theorem fitX12_init_581 : z_Fit xX12_letters xX12_init := by unfold z_Fit; simp only [xX12_letters, xX12_init]; exact ⟨by decide, by decide⟩
theorem fitX12_init_600 : z_Fit xX12_letters xX12_init := by unfold z_Fit; simp only [xX12_letters, xX12_init]; exact ⟨by decide, by decide⟩
theorem fitX12_init_621 : z_Fit xX12_letters xX12_init := by unfold z_Fit; simp only [xX12_letters, xX12_init]; exact ⟨by decide, by decide⟩
theorem fitX12_init_642 : z_Fit xX12_letters xX12_init := by unfold z_Fit; simp only [xX12_letters, xX12_init]; exact ⟨by decide, by decide⟩
theorem fitX12_init_665 : z_Fit xX12_letters xX12_init := by unfold z_Fit; simp only [xX12_letters, xX12_init]; exact ⟨by decide, by decide⟩
theorem fitX12_init_686 : z_Fit xX12_letters xX12_init := by unfold z_Fit; simp only [xX12_letters, xX12_init]; exact ⟨by decide, by decide⟩
theorem fitX12_init_708 : z_Fit xX12_letters xX12_init := by unfold z_Fit; simp only [xX12_letters, xX12_init]; exact ⟨by decide, by decide⟩
theorem fitX12_init_729 : z_Fit xX12_letters xX12_init := by unfold z_Fit; simp only [xX12_letters, xX12_init]; exact ⟨by decide, by decide⟩
theorem fitX12_init_750 : z_Fit xX12_letters xX12_init := by unfold z_Fit; simp only [xX12_letters, xX12_init]; exact ⟨by decide, by decide⟩
theorem fitX12_init_771 : z_Fit xX12_letters xX12_init := by unfold z_Fit; simp only [xX12_letters, xX12_init]; exact ⟨by decide, by decide⟩
theorem fitX12_init_793 : z_Fit xX12_letters xX12_init := by unfold z_Fit; simp only [xX12_letters, xX12_init]; exact ⟨by decide, by decide⟩
theorem fitX12_init_814 : z_Fit xX12_letters xX12_init := by unfold z_Fit; simp only [xX12_letters, xX12_init]; exact ⟨by decide, by decide⟩
theorem fitX12_init_836 : z_Fit xX12_letters xX12_init := by unfold z_Fit; simp only [xX12_letters, xX12_init]; exact ⟨by decide, by decide⟩
theorem fitX12_init_841 : z_Fit xX12_begins xX12_init := by unfold z_Fit; simp only [xX12_begins, xX12_init]; exact ⟨by decide, by decide⟩
theorem fitX12_init_845 : z_Fit xX12_keepsRow xX12_init := by unfold z_Fit; simp only [xX12_keepsRow, xX12_init]; exact ⟨by decide, by decide⟩
noncomputable def kX12_init_766 (lim : Nat) : zK zR := (q_push 101 (q_push 0 (q_push 0 (q_push 0 (q_callS fX12_letters 7 (q_last (q_aload 0 (q_getR 12 9 (q_push 17 (q_push 119 (q_push 104 (q_push 105 (q_push 99 (q_push 104 (q_push 0 (q_push 0 (q_callS fX12_letters 7 (q_last (q_aload 0 (q_getR 12 9 (q_push 18 (q_push 108 (q_push 101 (q_push 102 (q_push 116 (q_push 0 (q_push 0 (q_push 0 (q_callS fX12_letters 7 (q_last (q_aload 0 (q_getR 12 9 (q_push 19 (q_push 114 (q_push 105 (q_push 103 (q_push 104 (q_push 116 (q_push 0 (q_push 0 (q_callS fX12_letters 7 (q_last (q_aload 0 (q_callV 12 fX12_begins 0 (q_aload 0 (q_callV 12 fX12_keepsRow 0 q_vret))))))))))))))))))))))))))))))))))))))))))))))
noncomputable def kX12_init_685 (lim : Nat) : zK zR := (q_push 0 (q_callS fX12_letters 7 (q_last (q_aload 0 (q_getR 12 9 (q_push 13 (q_push 100 (q_push 101 (q_push 112 (q_push 116 (q_push 104 (q_push 0 (q_push 0 (q_callS fX12_letters 7 (q_last (q_aload 0 (q_getR 12 9 (q_push 14 (q_push 108 (q_push 111 (q_push 110 (q_push 103 (q_push 0 (q_push 0 (q_push 0 (q_callS fX12_letters 7 (q_last (q_aload 0 (q_getR 12 9 (q_push 15 (q_push 109 (q_push 97 (q_push 110 (q_push 121 (q_push 0 (q_push 0 (q_push 0 (q_callS fX12_letters 7 (q_last (q_aload 0 (q_getR 12 9 (q_push 16 (q_push 116 (q_push 105 (q_push 109 (kX12_init_766 lim))))))))))))))))))))))))))))))))))))))))))))))
noncomputable def kX12_init_604 (lim : Nat) : zK zR := (q_aload 0 (q_getR 12 9 (q_push 9 (q_push 116 (q_push 104 (q_push 101 (q_push 110 (q_push 0 (q_push 0 (q_push 0 (q_callS fX12_letters 7 (q_last (q_aload 0 (q_getR 12 9 (q_push 10 (q_push 101 (q_push 108 (q_push 115 (q_push 101 (q_push 0 (q_push 0 (q_push 0 (q_callS fX12_letters 7 (q_last (q_aload 0 (q_getR 12 9 (q_push 11 (q_push 99 (q_push 111 (q_push 108 (q_push 111 (q_push 117 (q_push 114 (q_push 0 (q_callS fX12_letters 7 (q_last (q_aload 0 (q_getR 12 9 (q_push 12 (q_push 115 (q_push 101 (q_push 97 (q_push 116 (q_push 0 (q_push 0 (kX12_init_685 lim))))))))))))))))))))))))))))))))))))))))))))))
noncomputable def kX12_init_528 (lim : Nat) : zK zR := (q_push 111 (q_push 100 (q_push 100 (q_push 115 (q_push 0 (q_push 0 (q_push 0 (q_callS fX12_letters 7 (q_last (q_aload 0 (q_getR 12 9 (q_push 6 (q_push 112 (q_push 97 (q_push 121 (q_push 115 (q_push 0 (q_push 0 (q_push 0 (q_callS fX12_letters 7 (q_last (q_aload 0 (q_getR 12 9 (q_push 7 (q_push 115 (q_push 101 (q_push 101 (q_push 100 (q_push 0 (q_push 0 (q_push 0 (q_callS fX12_letters 7 (q_last (q_aload 0 (q_getR 12 9 (q_push 8 (q_push 105 (q_push 102 (q_push 0 (q_push 0 (q_push 0 (q_push 0 (q_push 0 (q_callS fX12_letters 7 (q_last (kX12_init_604 lim))))))))))))))))))))))))))))))))))))))))))))))
noncomputable def kX12_init_452 (lim : Nat) : zK zR := (q_push 108 (q_push 100 (q_push 0 (q_push 0 (q_callS fX12_letters 7 (q_last (q_aload 0 (q_getR 12 9 (q_push 2 (q_push 114 (q_push 111 (q_push 119 (q_push 0 (q_push 0 (q_push 0 (q_push 0 (q_callS fX12_letters 7 (q_last (q_aload 0 (q_getR 12 9 (q_push 3 (q_push 119 (q_push 111 (q_push 114 (q_push 116 (q_push 104 (q_push 0 (q_push 0 (q_callS fX12_letters 7 (q_last (q_aload 0 (q_getR 12 9 (q_push 4 (q_push 99 (q_push 111 (q_push 115 (q_push 116 (q_push 115 (q_push 0 (q_push 0 (q_callS fX12_letters 7 (q_last (q_aload 0 (q_getR 12 9 (q_push 5 (kX12_init_528 lim))))))))))))))))))))))))))))))))))))))))))))))
noncomputable def kX12_init_365 (lim : Nat) : zK zR := (q_putR 12 68 (q_aload 0 (q_push 20 (q_newa 0 65536 lim (q_putR 12 69 (q_aload 0 (q_push 20 (q_newa 2 65536 lim (q_putR 12 70 (q_aload 0 (q_push 256 (q_newa 0 65536 lim (q_putR 12 71 (q_aload 0 (q_push 3 (q_newa 2 65536 lim (q_putR 12 72 (q_aload 0 (q_push 114 (q_newa 0 65536 lim (q_putR 12 73 (q_aload 0 (q_push 0 (q_callV 12 fX12_plain 1 (q_aload 0 (q_push 1 (q_callV 12 fX12_plain 1 (q_aload 0 (q_getR 12 9 (q_push 0 (q_push 99 (q_push 111 (q_push 108 (q_push 111 (q_push 117 (q_push 114 (q_push 115 (q_callS fX12_letters 7 (q_last (q_aload 0 (q_getR 12 9 (q_push 1 (q_push 99 (q_push 104 (q_push 105 (kX12_init_452 lim))))))))))))))))))))))))))))))))))))))))))))))
noncomputable def kX12_init_277 (lim : Nat) : zK zR := (q_newa 0 65536 lim (q_putR 12 53 (q_aload 0 (q_push 32 (q_newa 0 65536 lim (q_putR 12 54 (q_aload 0 (q_push 9 (q_newa 0 65536 lim (q_putR 12 55 (q_aload 0 (q_push 4 (q_newa 0 65536 lim (q_putR 12 56 (q_aload 0 (q_push 4 (q_newa 0 65536 lim (q_putR 12 57 (q_aload 0 (q_push 16 (q_newa 0 65536 lim (q_putR 12 58 (q_aload 0 (q_push 16 (q_newa 0 65536 lim (q_putR 12 59 (q_aload 0 (q_push 65536 (q_newa 0 65536 lim (q_putR 12 60 (q_aload 0 (q_push 8 (q_newa 0 65536 lim (q_putR 12 61 (q_aload 0 (q_push 65536 (q_newa 0 65536 lim (q_putR 12 65 (q_aload 0 (q_push 20 (q_newa 0 65536 lim (q_putR 12 67 (q_aload 0 (q_push 20 (q_newa 0 65536 lim (kX12_init_365 lim))))))))))))))))))))))))))))))))))))))))))))))
noncomputable def kX12_init_181 (lim : Nat) : zK zR := (q_push 260 (q_newa 0 65536 lim (q_putR 12 36 (q_aload 0 (q_push 260 (q_newa 0 65536 lim (q_putR 12 37 (q_aload 0 (q_push 840 (q_newa 0 65536 lim (q_putR 12 39 (q_aload 0 (q_push 840 (q_newa 0 65536 lim (q_putR 12 40 (q_aload 0 (q_push 64 (q_newa 0 65536 lim (q_putR 12 41 (q_aload 0 (q_push 9 (q_newa 0 65536 lim (q_putR 12 43 (q_aload 0 (q_push 400 (q_newa 0 65536 lim (q_putR 12 44 (q_aload 0 (q_push 38 (q_newa 0 65536 lim (q_putR 12 46 (q_aload 0 (q_push 38 (q_newa 0 65536 lim (q_putR 12 47 (q_aload 0 (q_push 64 (q_newa 0 65536 lim (q_putR 12 49 (q_aload 0 (q_push 8 (q_newa 0 65536 lim (q_putR 12 51 (q_aload 0 (q_push 1520 (kX12_init_277 lim))))))))))))))))))))))))))))))))))))))))))))))
noncomputable def kX12_init_92 (lim : Nat) : zK zR := (q_aload 0 (q_push 32 (q_newa 0 65536 lim (q_putR 12 24 (q_aload 0 (q_push 2 (q_newa 0 65536 lim (q_putR 12 25 (q_aload 0 (q_push 2 (q_newa 0 65536 lim (q_putR 12 26 (q_aload 0 (q_push 8 (q_newa 0 65536 lim (q_putR 12 27 (q_aload 0 (q_push 64 (q_newa 0 65536 lim (q_putR 12 28 (q_aload 0 (q_push 2 (q_newa 0 65536 lim (q_putR 12 29 (q_aload 0 (q_push 8 (q_newa 0 65536 lim (q_putR 12 30 (q_aload 0 (q_push 8 (q_newa 0 65536 lim (q_putR 12 31 (q_aload 0 (q_push 260 (q_newa 2 65536 lim (q_putR 12 33 (q_aload 0 (q_push 260 (q_newa 0 65536 lim (q_putR 12 34 (q_aload 0 (q_push 260 (q_newa 0 65536 lim (q_putR 12 35 (q_aload 0 (kX12_init_181 lim))))))))))))))))))))))))))))))))))))))))))))))
noncomputable def kX12_init_0 (lim : Nat) : zK zR := (q_aload 0 (q_obj (q_aload 0 (q_push 2000 (q_newa 1 65536 lim (q_putR 12 1 (q_aload 0 (q_push 2000 (q_newa 1 65536 lim (q_putR 12 3 (q_aload 0 (q_push 403 (q_newa 0 65536 lim (q_putR 12 5 (q_aload 0 (q_push 403 (q_newa 0 65536 lim (q_putR 12 6 (q_aload 0 (q_push 403 (q_newa 0 65536 lim (q_putR 12 7 (q_aload 0 (q_push 403 (q_newa 3 65536 lim (q_putR 12 8 (q_aload 0 (q_push 20 (q_newa 3 65536 lim (q_putR 12 9 (q_aload 0 (q_push (-1) (q_putI 12 17 (q_aload 0 (q_push 4 (q_newa 3 65536 lim (q_putR 12 21 (q_aload 0 (q_push 2 (q_newa 0 65536 lim (q_putR 12 22 (q_aload 0 (q_push 2 (q_newa 0 65536 lim (q_putR 12 23 (kX12_init_92 lim))))))))))))))))))))))))))))))))))))))))))))))
set_option maxRecDepth 100000 in
theorem tX12_init_766 {l : Launch} {D : zD} {B sz0 : Nat} {post : Option Value → zS → Prop} : zSnd l D B xX12_init sz0 post 766 (kX12_init_766 (sz0 + 49)) (z_Jr post) := (s_bipush dX12_init_766 (by decide) (s_iconst dX12_init_768 (by decide) (s_iconst dX12_init_769 (by decide) (s_iconst dX12_init_770 (by decide) (s_callS dX12_init_771 mX12_letters meX12_letters wd950 rfl reX12_letters rmX12_init (fitX12_init_771) wd951 (s_last dX12_init_774 (s_aload_n dX12_init_775 rfl (s_getR (f := 9) dX12_init_776 clX12 (by decide) rfl wd914 (s_bipush dX12_init_779 (by decide) (s_bipush dX12_init_781 (by decide) (s_bipush dX12_init_783 (by decide) (s_bipush dX12_init_785 (by decide) (s_bipush dX12_init_787 (by decide) (s_bipush dX12_init_789 (by decide) (s_iconst dX12_init_791 (by decide) (s_iconst dX12_init_792 (by decide) (s_callS dX12_init_793 mX12_letters meX12_letters wd950 rfl reX12_letters rmX12_init (fitX12_init_793) wd951 (s_last dX12_init_796 (s_aload_n dX12_init_797 rfl (s_getR (f := 9) dX12_init_798 clX12 (by decide) rfl wd914 (s_bipush dX12_init_801 (by decide) (s_bipush dX12_init_803 (by decide) (s_bipush dX12_init_805 (by decide) (s_bipush dX12_init_807 (by decide) (s_bipush dX12_init_809 (by decide) (s_iconst dX12_init_811 (by decide) (s_iconst dX12_init_812 (by decide) (s_iconst dX12_init_813 (by decide) (s_callS dX12_init_814 mX12_letters meX12_letters wd950 rfl reX12_letters rmX12_init (fitX12_init_814) wd951 (s_last dX12_init_817 (s_aload_n dX12_init_818 rfl (s_getR (f := 9) dX12_init_819 clX12 (by decide) rfl wd914 (s_bipush dX12_init_822 (by decide) (s_bipush dX12_init_824 (by decide) (s_bipush dX12_init_826 (by decide) (s_bipush dX12_init_828 (by decide) (s_bipush dX12_init_830 (by decide) (s_bipush dX12_init_832 (by decide) (s_iconst dX12_init_834 (by decide) (s_iconst dX12_init_835 (by decide) (s_callS dX12_init_836 mX12_letters meX12_letters wd950 rfl reX12_letters rmX12_init (fitX12_init_836) wd951 (s_last dX12_init_839 (s_aload_n dX12_init_840 rfl (s_callV (r := (RX12, TX12, 74)) dX12_init_841 mX12_begins meX12_begins wd952 wd953 rfl rfl reX12_begins rmX12_init (fitX12_init_841) wd954 (s_aload_n dX12_init_844 rfl (s_callV (r := (RX12, TX12, 74)) dX12_init_845 mX12_keepsRow meX12_keepsRow wd955 wd956 rfl rfl reX12_keepsRow rmX12_init (fitX12_init_845) wd957 (s_vret dX12_init_848 rfl)))))))))))))))))))))))))))))))))))))))))))))))
set_option maxRecDepth 100000 in
theorem tX12_init_685 {l : Launch} {D : zD} {B sz0 : Nat} {post : Option Value → zS → Prop} : zSnd l D B xX12_init sz0 post 685 (kX12_init_685 (sz0 + 49)) (z_Jr post) := (s_iconst dX12_init_685 (by decide) (s_callS dX12_init_686 mX12_letters meX12_letters wd950 rfl reX12_letters rmX12_init (fitX12_init_686) wd951 (s_last dX12_init_689 (s_aload_n dX12_init_690 rfl (s_getR (f := 9) dX12_init_691 clX12 (by decide) rfl wd914 (s_bipush dX12_init_694 (by decide) (s_bipush dX12_init_696 (by decide) (s_bipush dX12_init_698 (by decide) (s_bipush dX12_init_700 (by decide) (s_bipush dX12_init_702 (by decide) (s_bipush dX12_init_704 (by decide) (s_iconst dX12_init_706 (by decide) (s_iconst dX12_init_707 (by decide) (s_callS dX12_init_708 mX12_letters meX12_letters wd950 rfl reX12_letters rmX12_init (fitX12_init_708) wd951 (s_last dX12_init_711 (s_aload_n dX12_init_712 rfl (s_getR (f := 9) dX12_init_713 clX12 (by decide) rfl wd914 (s_bipush dX12_init_716 (by decide) (s_bipush dX12_init_718 (by decide) (s_bipush dX12_init_720 (by decide) (s_bipush dX12_init_722 (by decide) (s_bipush dX12_init_724 (by decide) (s_iconst dX12_init_726 (by decide) (s_iconst dX12_init_727 (by decide) (s_iconst dX12_init_728 (by decide) (s_callS dX12_init_729 mX12_letters meX12_letters wd950 rfl reX12_letters rmX12_init (fitX12_init_729) wd951 (s_last dX12_init_732 (s_aload_n dX12_init_733 rfl (s_getR (f := 9) dX12_init_734 clX12 (by decide) rfl wd914 (s_bipush dX12_init_737 (by decide) (s_bipush dX12_init_739 (by decide) (s_bipush dX12_init_741 (by decide) (s_bipush dX12_init_743 (by decide) (s_bipush dX12_init_745 (by decide) (s_iconst dX12_init_747 (by decide) (s_iconst dX12_init_748 (by decide) (s_iconst dX12_init_749 (by decide) (s_callS dX12_init_750 mX12_letters meX12_letters wd950 rfl reX12_letters rmX12_init (fitX12_init_750) wd951 (s_last dX12_init_753 (s_aload_n dX12_init_754 rfl (s_getR (f := 9) dX12_init_755 clX12 (by decide) rfl wd914 (s_bipush dX12_init_758 (by decide) (s_bipush dX12_init_760 (by decide) (s_bipush dX12_init_762 (by decide) (s_bipush dX12_init_764 (by decide) tX12_init_766)))))))))))))))))))))))))))))))))))))))))))))
set_option maxRecDepth 100000 in
theorem tX12_init_604 {l : Launch} {D : zD} {B sz0 : Nat} {post : Option Value → zS → Prop} : zSnd l D B xX12_init sz0 post 604 (kX12_init_604 (sz0 + 49)) (z_Jr post) := (s_aload_n dX12_init_604 rfl (s_getR (f := 9) dX12_init_605 clX12 (by decide) rfl wd914 (s_bipush dX12_init_608 (by decide) (s_bipush dX12_init_610 (by decide) (s_bipush dX12_init_612 (by decide) (s_bipush dX12_init_614 (by decide) (s_bipush dX12_init_616 (by decide) (s_iconst dX12_init_618 (by decide) (s_iconst dX12_init_619 (by decide) (s_iconst dX12_init_620 (by decide) (s_callS dX12_init_621 mX12_letters meX12_letters wd950 rfl reX12_letters rmX12_init (fitX12_init_621) wd951 (s_last dX12_init_624 (s_aload_n dX12_init_625 rfl (s_getR (f := 9) dX12_init_626 clX12 (by decide) rfl wd914 (s_bipush dX12_init_629 (by decide) (s_bipush dX12_init_631 (by decide) (s_bipush dX12_init_633 (by decide) (s_bipush dX12_init_635 (by decide) (s_bipush dX12_init_637 (by decide) (s_iconst dX12_init_639 (by decide) (s_iconst dX12_init_640 (by decide) (s_iconst dX12_init_641 (by decide) (s_callS dX12_init_642 mX12_letters meX12_letters wd950 rfl reX12_letters rmX12_init (fitX12_init_642) wd951 (s_last dX12_init_645 (s_aload_n dX12_init_646 rfl (s_getR (f := 9) dX12_init_647 clX12 (by decide) rfl wd914 (s_bipush dX12_init_650 (by decide) (s_bipush dX12_init_652 (by decide) (s_bipush dX12_init_654 (by decide) (s_bipush dX12_init_656 (by decide) (s_bipush dX12_init_658 (by decide) (s_bipush dX12_init_660 (by decide) (s_bipush dX12_init_662 (by decide) (s_iconst dX12_init_664 (by decide) (s_callS dX12_init_665 mX12_letters meX12_letters wd950 rfl reX12_letters rmX12_init (fitX12_init_665) wd951 (s_last dX12_init_668 (s_aload_n dX12_init_669 rfl (s_getR (f := 9) dX12_init_670 clX12 (by decide) rfl wd914 (s_bipush dX12_init_673 (by decide) (s_bipush dX12_init_675 (by decide) (s_bipush dX12_init_677 (by decide) (s_bipush dX12_init_679 (by decide) (s_bipush dX12_init_681 (by decide) (s_iconst dX12_init_683 (by decide) (s_iconst dX12_init_684 (by decide) tX12_init_685)))))))))))))))))))))))))))))))))))))))))))))
set_option maxRecDepth 100000 in
theorem tX12_init_528 {l : Launch} {D : zD} {B sz0 : Nat} {post : Option Value → zS → Prop} : zSnd l D B xX12_init sz0 post 528 (kX12_init_528 (sz0 + 49)) (z_Jr post) := (s_bipush dX12_init_528 (by decide) (s_bipush dX12_init_530 (by decide) (s_bipush dX12_init_532 (by decide) (s_bipush dX12_init_534 (by decide) (s_iconst dX12_init_536 (by decide) (s_iconst dX12_init_537 (by decide) (s_iconst dX12_init_538 (by decide) (s_callS dX12_init_539 mX12_letters meX12_letters wd950 rfl reX12_letters rmX12_init (fitX12_init_539) wd951 (s_last dX12_init_542 (s_aload_n dX12_init_543 rfl (s_getR (f := 9) dX12_init_544 clX12 (by decide) rfl wd914 (s_bipush dX12_init_547 (by decide) (s_bipush dX12_init_549 (by decide) (s_bipush dX12_init_551 (by decide) (s_bipush dX12_init_553 (by decide) (s_bipush dX12_init_555 (by decide) (s_iconst dX12_init_557 (by decide) (s_iconst dX12_init_558 (by decide) (s_iconst dX12_init_559 (by decide) (s_callS dX12_init_560 mX12_letters meX12_letters wd950 rfl reX12_letters rmX12_init (fitX12_init_560) wd951 (s_last dX12_init_563 (s_aload_n dX12_init_564 rfl (s_getR (f := 9) dX12_init_565 clX12 (by decide) rfl wd914 (s_bipush dX12_init_568 (by decide) (s_bipush dX12_init_570 (by decide) (s_bipush dX12_init_572 (by decide) (s_bipush dX12_init_574 (by decide) (s_bipush dX12_init_576 (by decide) (s_iconst dX12_init_578 (by decide) (s_iconst dX12_init_579 (by decide) (s_iconst dX12_init_580 (by decide) (s_callS dX12_init_581 mX12_letters meX12_letters wd950 rfl reX12_letters rmX12_init (fitX12_init_581) wd951 (s_last dX12_init_584 (s_aload_n dX12_init_585 rfl (s_getR (f := 9) dX12_init_586 clX12 (by decide) rfl wd914 (s_bipush dX12_init_589 (by decide) (s_bipush dX12_init_591 (by decide) (s_bipush dX12_init_593 (by decide) (s_iconst dX12_init_595 (by decide) (s_iconst dX12_init_596 (by decide) (s_iconst dX12_init_597 (by decide) (s_iconst dX12_init_598 (by decide) (s_iconst dX12_init_599 (by decide) (s_callS dX12_init_600 mX12_letters meX12_letters wd950 rfl reX12_letters rmX12_init (fitX12_init_600) wd951 (s_last dX12_init_603 tX12_init_604)))))))))))))))))))))))))))))))))))))))))))))
set_option maxRecDepth 100000 in
theorem tX12_init_452 {l : Launch} {D : zD} {B sz0 : Nat} {post : Option Value → zS → Prop} : zSnd l D B xX12_init sz0 post 452 (kX12_init_452 (sz0 + 49)) (z_Jr post) := (s_bipush dX12_init_452 (by decide) (s_bipush dX12_init_454 (by decide) (s_iconst dX12_init_456 (by decide) (s_iconst dX12_init_457 (by decide) (s_callS dX12_init_458 mX12_letters meX12_letters wd950 rfl reX12_letters rmX12_init (fitX12_init_458) wd951 (s_last dX12_init_461 (s_aload_n dX12_init_462 rfl (s_getR (f := 9) dX12_init_463 clX12 (by decide) rfl wd914 (s_iconst dX12_init_466 (by decide) (s_bipush dX12_init_467 (by decide) (s_bipush dX12_init_469 (by decide) (s_bipush dX12_init_471 (by decide) (s_iconst dX12_init_473 (by decide) (s_iconst dX12_init_474 (by decide) (s_iconst dX12_init_475 (by decide) (s_iconst dX12_init_476 (by decide) (s_callS dX12_init_477 mX12_letters meX12_letters wd950 rfl reX12_letters rmX12_init (fitX12_init_477) wd951 (s_last dX12_init_480 (s_aload_n dX12_init_481 rfl (s_getR (f := 9) dX12_init_482 clX12 (by decide) rfl wd914 (s_iconst dX12_init_485 (by decide) (s_bipush dX12_init_486 (by decide) (s_bipush dX12_init_488 (by decide) (s_bipush dX12_init_490 (by decide) (s_bipush dX12_init_492 (by decide) (s_bipush dX12_init_494 (by decide) (s_iconst dX12_init_496 (by decide) (s_iconst dX12_init_497 (by decide) (s_callS dX12_init_498 mX12_letters meX12_letters wd950 rfl reX12_letters rmX12_init (fitX12_init_498) wd951 (s_last dX12_init_501 (s_aload_n dX12_init_502 rfl (s_getR (f := 9) dX12_init_503 clX12 (by decide) rfl wd914 (s_iconst dX12_init_506 (by decide) (s_bipush dX12_init_507 (by decide) (s_bipush dX12_init_509 (by decide) (s_bipush dX12_init_511 (by decide) (s_bipush dX12_init_513 (by decide) (s_bipush dX12_init_515 (by decide) (s_iconst dX12_init_517 (by decide) (s_iconst dX12_init_518 (by decide) (s_callS dX12_init_519 mX12_letters meX12_letters wd950 rfl reX12_letters rmX12_init (fitX12_init_519) wd951 (s_last dX12_init_522 (s_aload_n dX12_init_523 rfl (s_getR (f := 9) dX12_init_524 clX12 (by decide) rfl wd914 (s_iconst dX12_init_527 (by decide) tX12_init_528)))))))))))))))))))))))))))))))))))))))))))))
set_option maxRecDepth 100000 in
theorem tX12_init_365 {l : Launch} {D : zD} {B sz0 : Nat} {post : Option Value → zS → Prop} : zSnd l D B xX12_init sz0 post 365 (kX12_init_365 (sz0 + 49)) (z_Jr post) := (s_putRF (f := 68) dX12_init_365 clX12 (by decide) rfl rfl rfl rfl (Or.inr ⟨_, rfl⟩) wd941 (s_aload_n dX12_init_368 rfl (s_bipush dX12_init_369 (by decide) (s_newa (t := 0) dX12_init_371 (by decide) rfl wd3 rmX12_init rfl (by decide) rfl (s_putRF (f := 69) dX12_init_373 clX12 (by decide) rfl rfl rfl rfl (Or.inr ⟨_, rfl⟩) wd942 (s_aload_n dX12_init_376 rfl (s_bipush dX12_init_377 (by decide) (s_newa (t := 2) dX12_init_379 (by decide) rfl wd13 rmX12_init rfl (by decide) rfl (s_putRF (f := 70) dX12_init_381 clX12 (by decide) rfl rfl rfl rfl (Or.inr ⟨_, rfl⟩) wd943 (s_aload_n dX12_init_384 rfl (s_sipush dX12_init_385 (by decide) (s_newa (t := 0) dX12_init_388 (by decide) rfl wd3 rmX12_init rfl (by decide) rfl (s_putRF (f := 71) dX12_init_390 clX12 (by decide) rfl rfl rfl rfl (Or.inr ⟨_, rfl⟩) wd944 (s_aload_n dX12_init_393 rfl (s_iconst dX12_init_394 (by decide) (s_newa (t := 2) dX12_init_395 (by decide) rfl wd13 rmX12_init rfl (by decide) rfl (s_putRF (f := 72) dX12_init_397 clX12 (by decide) rfl rfl rfl rfl (Or.inr ⟨_, rfl⟩) wd945 (s_aload_n dX12_init_400 rfl (s_bipush dX12_init_401 (by decide) (s_newa (t := 0) dX12_init_403 (by decide) rfl wd3 rmX12_init rfl (by decide) rfl (s_putRF (f := 73) dX12_init_405 clX12 (by decide) rfl rfl rfl rfl (Or.inr ⟨_, rfl⟩) wd946 (s_aload_n dX12_init_408 rfl (s_iconst dX12_init_409 (by decide) (s_callV (r := (RX12, TX12, 74)) dX12_init_410 mX12_plain meX12_plain wd947 wd948 rfl rfl reX12_plain rmX12_init (fitX12_init_410) wd949 (s_aload_n dX12_init_413 rfl (s_iconst dX12_init_414 (by decide) (s_callV (r := (RX12, TX12, 74)) dX12_init_415 mX12_plain meX12_plain wd947 wd948 rfl rfl reX12_plain rmX12_init (fitX12_init_415) wd949 (s_aload_n dX12_init_418 rfl (s_getR (f := 9) dX12_init_419 clX12 (by decide) rfl wd914 (s_iconst dX12_init_422 (by decide) (s_bipush dX12_init_423 (by decide) (s_bipush dX12_init_425 (by decide) (s_bipush dX12_init_427 (by decide) (s_bipush dX12_init_429 (by decide) (s_bipush dX12_init_431 (by decide) (s_bipush dX12_init_433 (by decide) (s_bipush dX12_init_435 (by decide) (s_callS dX12_init_437 mX12_letters meX12_letters wd950 rfl reX12_letters rmX12_init (fitX12_init_437) wd951 (s_last dX12_init_440 (s_aload_n dX12_init_441 rfl (s_getR (f := 9) dX12_init_442 clX12 (by decide) rfl wd914 (s_iconst dX12_init_445 (by decide) (s_bipush dX12_init_446 (by decide) (s_bipush dX12_init_448 (by decide) (s_bipush dX12_init_450 (by decide) tX12_init_452)))))))))))))))))))))))))))))))))))))))))))))
set_option maxRecDepth 100000 in
theorem tX12_init_277 {l : Launch} {D : zD} {B sz0 : Nat} {post : Option Value → zS → Prop} : zSnd l D B xX12_init sz0 post 277 (kX12_init_277 (sz0 + 49)) (z_Jr post) := (s_newa (t := 0) dX12_init_277 (by decide) rfl wd3 rmX12_init rfl (by decide) rfl (s_putRF (f := 53) dX12_init_279 clX12 (by decide) rfl rfl rfl rfl (Or.inr ⟨_, rfl⟩) wd929 (s_aload_n dX12_init_282 rfl (s_bipush dX12_init_283 (by decide) (s_newa (t := 0) dX12_init_285 (by decide) rfl wd3 rmX12_init rfl (by decide) rfl (s_putRF (f := 54) dX12_init_287 clX12 (by decide) rfl rfl rfl rfl (Or.inr ⟨_, rfl⟩) wd930 (s_aload_n dX12_init_290 rfl (s_bipush dX12_init_291 (by decide) (s_newa (t := 0) dX12_init_293 (by decide) rfl wd3 rmX12_init rfl (by decide) rfl (s_putRF (f := 55) dX12_init_295 clX12 (by decide) rfl rfl rfl rfl (Or.inr ⟨_, rfl⟩) wd931 (s_aload_n dX12_init_298 rfl (s_iconst dX12_init_299 (by decide) (s_newa (t := 0) dX12_init_300 (by decide) rfl wd3 rmX12_init rfl (by decide) rfl (s_putRF (f := 56) dX12_init_302 clX12 (by decide) rfl rfl rfl rfl (Or.inr ⟨_, rfl⟩) wd932 (s_aload_n dX12_init_305 rfl (s_iconst dX12_init_306 (by decide) (s_newa (t := 0) dX12_init_307 (by decide) rfl wd3 rmX12_init rfl (by decide) rfl (s_putRF (f := 57) dX12_init_309 clX12 (by decide) rfl rfl rfl rfl (Or.inr ⟨_, rfl⟩) wd933 (s_aload_n dX12_init_312 rfl (s_bipush dX12_init_313 (by decide) (s_newa (t := 0) dX12_init_315 (by decide) rfl wd3 rmX12_init rfl (by decide) rfl (s_putRF (f := 58) dX12_init_317 clX12 (by decide) rfl rfl rfl rfl (Or.inr ⟨_, rfl⟩) wd934 (s_aload_n dX12_init_320 rfl (s_bipush dX12_init_321 (by decide) (s_newa (t := 0) dX12_init_323 (by decide) rfl wd3 rmX12_init rfl (by decide) rfl (s_putRF (f := 59) dX12_init_325 clX12 (by decide) rfl rfl rfl rfl (Or.inr ⟨_, rfl⟩) wd935 (s_aload_n dX12_init_328 rfl (s_ldc dX12_init_329 wd936 (s_newa (t := 0) dX12_init_331 (by decide) rfl wd3 rmX12_init rfl (by decide) rfl (s_putRF (f := 60) dX12_init_333 clX12 (by decide) rfl rfl rfl rfl (Or.inr ⟨_, rfl⟩) wd937 (s_aload_n dX12_init_336 rfl (s_bipush dX12_init_337 (by decide) (s_newa (t := 0) dX12_init_339 (by decide) rfl wd3 rmX12_init rfl (by decide) rfl (s_putRF (f := 61) dX12_init_341 clX12 (by decide) rfl rfl rfl rfl (Or.inr ⟨_, rfl⟩) wd938 (s_aload_n dX12_init_344 rfl (s_ldc dX12_init_345 wd936 (s_newa (t := 0) dX12_init_347 (by decide) rfl wd3 rmX12_init rfl (by decide) rfl (s_putRF (f := 65) dX12_init_349 clX12 (by decide) rfl rfl rfl rfl (Or.inr ⟨_, rfl⟩) wd939 (s_aload_n dX12_init_352 rfl (s_bipush dX12_init_353 (by decide) (s_newa (t := 0) dX12_init_355 (by decide) rfl wd3 rmX12_init rfl (by decide) rfl (s_putRF (f := 67) dX12_init_357 clX12 (by decide) rfl rfl rfl rfl (Or.inr ⟨_, rfl⟩) wd940 (s_aload_n dX12_init_360 rfl (s_bipush dX12_init_361 (by decide) (s_newa (t := 0) dX12_init_363 (by decide) rfl wd3 rmX12_init rfl (by decide) rfl tX12_init_365)))))))))))))))))))))))))))))))))))))))))))))
set_option maxRecDepth 100000 in
theorem tX12_init_181 {l : Launch} {D : zD} {B sz0 : Nat} {post : Option Value → zS → Prop} : zSnd l D B xX12_init sz0 post 181 (kX12_init_181 (sz0 + 49)) (z_Jr post) := (s_sipush dX12_init_181 (by decide) (s_newa (t := 0) dX12_init_184 (by decide) rfl wd3 rmX12_init rfl (by decide) rfl (s_putRF (f := 36) dX12_init_186 clX12 (by decide) rfl rfl rfl rfl (Or.inr ⟨_, rfl⟩) wd920 (s_aload_n dX12_init_189 rfl (s_sipush dX12_init_190 (by decide) (s_newa (t := 0) dX12_init_193 (by decide) rfl wd3 rmX12_init rfl (by decide) rfl (s_putRF (f := 37) dX12_init_195 clX12 (by decide) rfl rfl rfl rfl (Or.inr ⟨_, rfl⟩) wd921 (s_aload_n dX12_init_198 rfl (s_sipush dX12_init_199 (by decide) (s_newa (t := 0) dX12_init_202 (by decide) rfl wd3 rmX12_init rfl (by decide) rfl (s_putRF (f := 39) dX12_init_204 clX12 (by decide) rfl rfl rfl rfl (Or.inr ⟨_, rfl⟩) wd922 (s_aload_n dX12_init_207 rfl (s_sipush dX12_init_208 (by decide) (s_newa (t := 0) dX12_init_211 (by decide) rfl wd3 rmX12_init rfl (by decide) rfl (s_putRF (f := 40) dX12_init_213 clX12 (by decide) rfl rfl rfl rfl (Or.inr ⟨_, rfl⟩) wd923 (s_aload_n dX12_init_216 rfl (s_bipush dX12_init_217 (by decide) (s_newa (t := 0) dX12_init_219 (by decide) rfl wd3 rmX12_init rfl (by decide) rfl (s_putRF (f := 41) dX12_init_221 clX12 (by decide) rfl rfl rfl rfl (Or.inr ⟨_, rfl⟩) wd924 (s_aload_n dX12_init_224 rfl (s_bipush dX12_init_225 (by decide) (s_newa (t := 0) dX12_init_227 (by decide) rfl wd3 rmX12_init rfl (by decide) rfl (s_putRF (f := 43) dX12_init_229 clX12 (by decide) rfl rfl rfl rfl (Or.inr ⟨_, rfl⟩) wd925 (s_aload_n dX12_init_232 rfl (s_sipush dX12_init_233 (by decide) (s_newa (t := 0) dX12_init_236 (by decide) rfl wd3 rmX12_init rfl (by decide) rfl (s_putRF (f := 44) dX12_init_238 clX12 (by decide) rfl rfl rfl rfl (Or.inr ⟨_, rfl⟩) wd926 (s_aload_n dX12_init_241 rfl (s_bipush dX12_init_242 (by decide) (s_newa (t := 0) dX12_init_244 (by decide) rfl wd3 rmX12_init rfl (by decide) rfl (s_putRF (f := 46) dX12_init_246 clX12 (by decide) rfl rfl rfl rfl (Or.inr ⟨_, rfl⟩) wd905 (s_aload_n dX12_init_249 rfl (s_bipush dX12_init_250 (by decide) (s_newa (t := 0) dX12_init_252 (by decide) rfl wd3 rmX12_init rfl (by decide) rfl (s_putRF (f := 47) dX12_init_254 clX12 (by decide) rfl rfl rfl rfl (Or.inr ⟨_, rfl⟩) wd901 (s_aload_n dX12_init_257 rfl (s_bipush dX12_init_258 (by decide) (s_newa (t := 0) dX12_init_260 (by decide) rfl wd3 rmX12_init rfl (by decide) rfl (s_putRF (f := 49) dX12_init_262 clX12 (by decide) rfl rfl rfl rfl (Or.inr ⟨_, rfl⟩) wd927 (s_aload_n dX12_init_265 rfl (s_bipush dX12_init_266 (by decide) (s_newa (t := 0) dX12_init_268 (by decide) rfl wd3 rmX12_init rfl (by decide) rfl (s_putRF (f := 51) dX12_init_270 clX12 (by decide) rfl rfl rfl rfl (Or.inr ⟨_, rfl⟩) wd928 (s_aload_n dX12_init_273 rfl (s_sipush dX12_init_274 (by decide) tX12_init_277)))))))))))))))))))))))))))))))))))))))))))))
set_option maxRecDepth 100000 in
theorem tX12_init_92 {l : Launch} {D : zD} {B sz0 : Nat} {post : Option Value → zS → Prop} : zSnd l D B xX12_init sz0 post 92 (kX12_init_92 (sz0 + 49)) (z_Jr post) := (s_aload_n dX12_init_92 rfl (s_bipush dX12_init_93 (by decide) (s_newa (t := 0) dX12_init_95 (by decide) rfl wd3 rmX12_init rfl (by decide) rfl (s_putRF (f := 24) dX12_init_97 clX12 (by decide) rfl rfl rfl rfl (Or.inr ⟨_, rfl⟩) wd891 (s_aload_n dX12_init_100 rfl (s_iconst dX12_init_101 (by decide) (s_newa (t := 0) dX12_init_102 (by decide) rfl wd3 rmX12_init rfl (by decide) rfl (s_putRF (f := 25) dX12_init_104 clX12 (by decide) rfl rfl rfl rfl (Or.inr ⟨_, rfl⟩) wd886 (s_aload_n dX12_init_107 rfl (s_iconst dX12_init_108 (by decide) (s_newa (t := 0) dX12_init_109 (by decide) rfl wd3 rmX12_init rfl (by decide) rfl (s_putRF (f := 26) dX12_init_111 clX12 (by decide) rfl rfl rfl rfl (Or.inr ⟨_, rfl⟩) wd887 (s_aload_n dX12_init_114 rfl (s_bipush dX12_init_115 (by decide) (s_newa (t := 0) dX12_init_117 (by decide) rfl wd3 rmX12_init rfl (by decide) rfl (s_putRF (f := 27) dX12_init_119 clX12 (by decide) rfl rfl rfl rfl (Or.inr ⟨_, rfl⟩) wd902 (s_aload_n dX12_init_122 rfl (s_bipush dX12_init_123 (by decide) (s_newa (t := 0) dX12_init_125 (by decide) rfl wd3 rmX12_init rfl (by decide) rfl (s_putRF (f := 28) dX12_init_127 clX12 (by decide) rfl rfl rfl rfl (Or.inr ⟨_, rfl⟩) wd903 (s_aload_n dX12_init_130 rfl (s_iconst dX12_init_131 (by decide) (s_newa (t := 0) dX12_init_132 (by decide) rfl wd3 rmX12_init rfl (by decide) rfl (s_putRF (f := 29) dX12_init_134 clX12 (by decide) rfl rfl rfl rfl (Or.inr ⟨_, rfl⟩) wd888 (s_aload_n dX12_init_137 rfl (s_bipush dX12_init_138 (by decide) (s_newa (t := 0) dX12_init_140 (by decide) rfl wd3 rmX12_init rfl (by decide) rfl (s_putRF (f := 30) dX12_init_142 clX12 (by decide) rfl rfl rfl rfl (Or.inr ⟨_, rfl⟩) wd889 (s_aload_n dX12_init_145 rfl (s_bipush dX12_init_146 (by decide) (s_newa (t := 0) dX12_init_148 (by decide) rfl wd3 rmX12_init rfl (by decide) rfl (s_putRF (f := 31) dX12_init_150 clX12 (by decide) rfl rfl rfl rfl (Or.inr ⟨_, rfl⟩) wd890 (s_aload_n dX12_init_153 rfl (s_sipush dX12_init_154 (by decide) (s_newa (t := 2) dX12_init_157 (by decide) rfl wd13 rmX12_init rfl (by decide) rfl (s_putRF (f := 33) dX12_init_159 clX12 (by decide) rfl rfl rfl rfl (Or.inr ⟨_, rfl⟩) wd917 (s_aload_n dX12_init_162 rfl (s_sipush dX12_init_163 (by decide) (s_newa (t := 0) dX12_init_166 (by decide) rfl wd3 rmX12_init rfl (by decide) rfl (s_putRF (f := 34) dX12_init_168 clX12 (by decide) rfl rfl rfl rfl (Or.inr ⟨_, rfl⟩) wd918 (s_aload_n dX12_init_171 rfl (s_sipush dX12_init_172 (by decide) (s_newa (t := 0) dX12_init_175 (by decide) rfl wd3 rmX12_init rfl (by decide) rfl (s_putRF (f := 35) dX12_init_177 clX12 (by decide) rfl rfl rfl rfl (Or.inr ⟨_, rfl⟩) wd919 (s_aload_n dX12_init_180 rfl tX12_init_181)))))))))))))))))))))))))))))))))))))))))))))
set_option maxRecDepth 100000 in
theorem tX12_init_0 {l : Launch} {D : zD} {B sz0 : Nat} {post : Option Value → zS → Prop} : zSnd l D B xX12_init sz0 post 0 (kX12_init_0 (sz0 + 49)) (z_Jr post) := (s_aload_n dX12_init_0 rfl (s_obj dX12_init_1 wd907 wd1 wd2 (by decide) (s_aload_n dX12_init_4 rfl (s_sipush dX12_init_5 (by decide) (s_newa (t := 1) dX12_init_8 (by decide) rfl wd294 rmX12_init rfl (by decide) rfl (s_putRF (f := 1) dX12_init_10 clX12 (by decide) rfl rfl rfl rfl (Or.inr ⟨_, rfl⟩) wd908 (s_aload_n dX12_init_13 rfl (s_sipush dX12_init_14 (by decide) (s_newa (t := 1) dX12_init_17 (by decide) rfl wd294 rmX12_init rfl (by decide) rfl (s_putRF (f := 3) dX12_init_19 clX12 (by decide) rfl rfl rfl rfl (Or.inr ⟨_, rfl⟩) wd909 (s_aload_n dX12_init_22 rfl (s_sipush dX12_init_23 (by decide) (s_newa (t := 0) dX12_init_26 (by decide) rfl wd3 rmX12_init rfl (by decide) rfl (s_putRF (f := 5) dX12_init_28 clX12 (by decide) rfl rfl rfl rfl (Or.inr ⟨_, rfl⟩) wd910 (s_aload_n dX12_init_31 rfl (s_sipush dX12_init_32 (by decide) (s_newa (t := 0) dX12_init_35 (by decide) rfl wd3 rmX12_init rfl (by decide) rfl (s_putRF (f := 6) dX12_init_37 clX12 (by decide) rfl rfl rfl rfl (Or.inr ⟨_, rfl⟩) wd911 (s_aload_n dX12_init_40 rfl (s_sipush dX12_init_41 (by decide) (s_newa (t := 0) dX12_init_44 (by decide) rfl wd3 rmX12_init rfl (by decide) rfl (s_putRF (f := 7) dX12_init_46 clX12 (by decide) rfl rfl rfl rfl (Or.inr ⟨_, rfl⟩) wd912 (s_aload_n dX12_init_49 rfl (s_sipush dX12_init_50 (by decide) (s_newa (t := 3) dX12_init_53 (by decide) rfl wd308 rmX12_init rfl (by decide) rfl (s_putRF (f := 8) dX12_init_55 clX12 (by decide) rfl rfl rfl rfl (Or.inr ⟨_, rfl⟩) wd913 (s_aload_n dX12_init_58 rfl (s_bipush dX12_init_59 (by decide) (s_newa (t := 3) dX12_init_61 (by decide) rfl wd308 rmX12_init rfl (by decide) rfl (s_putRF (f := 9) dX12_init_63 clX12 (by decide) rfl rfl rfl rfl (Or.inr ⟨_, rfl⟩) wd914 (s_aload_n dX12_init_66 rfl (s_iconst dX12_init_67 (by decide) (s_putI (f := 17) dX12_init_68 clX12 (by decide) rfl rfl rfl wd915 (s_aload_n dX12_init_71 rfl (s_iconst dX12_init_72 (by decide) (s_newa (t := 3) dX12_init_73 (by decide) rfl wd308 rmX12_init rfl (by decide) rfl (s_putRF (f := 21) dX12_init_75 clX12 (by decide) rfl rfl rfl rfl (Or.inr ⟨_, rfl⟩) wd916 (s_aload_n dX12_init_78 rfl (s_iconst dX12_init_79 (by decide) (s_newa (t := 0) dX12_init_80 (by decide) rfl wd3 rmX12_init rfl (by decide) rfl (s_putRF (f := 22) dX12_init_82 clX12 (by decide) rfl rfl rfl rfl (Or.inr ⟨_, rfl⟩) wd884 (s_aload_n dX12_init_85 rfl (s_iconst dX12_init_86 (by decide) (s_newa (t := 0) dX12_init_87 (by decide) rfl wd3 rmX12_init rfl (by decide) rfl (s_putRF (f := 23) dX12_init_89 clX12 (by decide) rfl rfl rfl rfl (Or.inr ⟨_, rfl⟩) wd885 tX12_init_92)))))))))))))))))))))))))))))))))))))))))))))
noncomputable def fX12_init : zF := fun as σ => z_fn 1 (kX12_init_0 (z_sz σ + 49)) as σ
theorem mX12_init {l : Launch} {D : zD} {B : Nat} : z_MF l D B yX12_init xX12_init fX12_init := z_mf (by decide) rfl (fun _ => rfl) rfl (fun as σ r h => ⟨z_fn_len h, kX12_init_0 (z_sz σ + 49), z_fn_run h, fun _ => tX12_init_0⟩)
/-! ===== RowChildrenModel.lays ===== -/
theorem dX12_lays_0 : decode cX12_lays 0 = .ok (.bipush 24, 2) := by decide +kernel
theorem dX12_lays_2 : decode cX12_lays 2 = .ok (.istore_n 2, 1) := by decide +kernel
theorem dX12_lays_3 : decode cX12_lays 3 = .ok (.iload_n 2, 1) := by decide +kernel
theorem dX12_lays_4 : decode cX12_lays 4 = .ok (.ifCond .lt 32, 3) := by decide +kernel
theorem dX12_lays_7 : decode cX12_lays 7 = .ok (.aload_n 0, 1) := by decide +kernel
theorem dX12_lays_8 : decode cX12_lays 8 = .ok (.getfield 13, 3) := by decide +kernel
theorem dX12_lays_11 : decode cX12_lays 11 = .ok (.aload_n 0, 1) := by decide +kernel
theorem dX12_lays_12 : decode cX12_lays 12 = .ok (.getfield 182, 3) := by decide +kernel
theorem dX12_lays_15 : decode cX12_lays 15 = .ok (.iload_n 1, 1) := by decide +kernel
theorem dX12_lays_16 : decode cX12_lays 16 = .ok (.iload_n 2, 1) := by decide +kernel
theorem dX12_lays_17 : decode cX12_lays 17 = .ok (.ishr, 1) := by decide +kernel
theorem dX12_lays_18 : decode cX12_lays 18 = .ok (.i2b, 1) := by decide +kernel
theorem dX12_lays_19 : decode cX12_lays 19 = .ok (.bastore, 1) := by decide +kernel
theorem dX12_lays_20 : decode cX12_lays 20 = .ok (.aload_n 0, 1) := by decide +kernel
theorem dX12_lays_21 : decode cX12_lays 21 = .ok (.dup, 1) := by decide +kernel
theorem dX12_lays_22 : decode cX12_lays 22 = .ok (.getfield 182, 3) := by decide +kernel
theorem dX12_lays_25 : decode cX12_lays 25 = .ok (.iconst 1, 1) := by decide +kernel
theorem dX12_lays_26 : decode cX12_lays 26 = .ok (.iadd, 1) := by decide +kernel
theorem dX12_lays_27 : decode cX12_lays 27 = .ok (.putfield 182, 3) := by decide +kernel
theorem dX12_lays_30 : decode cX12_lays 30 = .ok (.iinc 2 (-8), 3) := by decide +kernel
theorem dX12_lays_33 : decode cX12_lays 33 = .ok (.goto (-30), 3) := by decide +kernel
theorem dX12_lays_36 : decode cX12_lays 36 = .ok (.return_, 1) := by decide +kernel
def xX12_lays : zX := (RX12, cX12_lays, 3, none, false, { frames := 1, cells := 0, slots := 0, locals := 90 }, 0, 0, 0, 0)
theorem rmX12_lays : z_Rm xX12_lays := by unfold z_Rm xX12_lays; exact ⟨by decide, by decide⟩
theorem reX12_lays : z_Re xX12_lays := ⟨rfl, rfl⟩
theorem rlX12_lays : 1 ≤ xX12_lays.2.2.2.2.2.1.frames ∧ 21 ≤ xX12_lays.2.2.2.2.2.1.locals := by unfold xX12_lays; exact ⟨by decide, by decide⟩
theorem meX12_lays : z_Me yX12_lays xX12_lays 1 := ⟨wd960, wd893, by decide, by decide, by decide +kernel⟩
noncomputable def kX12_lays_36 : zK zR := q_vret
noncomputable def bX12_lays_3 : zK ((zL × zS) ⊕ zR) := (q_iload 2 (q_if_lt (q_dn kX12_lays_36) (q_aload 0 (q_getR 12 1 (q_aload 0 (q_getI 12 2 (q_iload 1 (q_iload 2 (q_ishr (q_i2b (q_bast (q_aload 0 (q_dup (q_getI 12 2 (q_push 1 (q_iadd (q_putI 12 2 (q_iinc 2 (-8) q_ag))))))))))))))))))
noncomputable def kX12_lays_3 : zK zR := q_lp (bX12_lays_3)
noncomputable def kX12_lays_0 : zK zR := (q_push 24 (q_istore 2 kX12_lays_3))
set_option maxRecDepth 100000 in
theorem tX12_lays_36 {l : Launch} {D : zD} {B sz0 : Nat} {post : Option Value → zS → Prop} : zSnd l D B xX12_lays sz0 post 36 kX12_lays_36 (z_Jr post) := (s_vret dX12_lays_36 rfl)
set_option maxRecDepth 100000 in
theorem tX12_lays_3 {l : Launch} {D : zD} {B sz0 : Nat} {post : Option Value → zS → Prop} : zSnd l D B xX12_lays sz0 post 3 kX12_lays_3 (z_Jr post) := s_lp (body := bX12_lays_3) (s_iload_n dX12_lays_3 rfl (s_if_lt (tgt := 36) dX12_lays_4 (by decide) (s_dn tX12_lays_36) (s_aload_n dX12_lays_7 rfl (s_getR (f := 1) dX12_lays_8 clX12 (by decide) rfl wd908 (s_aload_n dX12_lays_11 rfl (s_getI (f := 2) dX12_lays_12 clX12 (by decide) rfl wd959 (s_iload_n dX12_lays_15 rfl (s_iload_n dX12_lays_16 rfl (s_ishr dX12_lays_17 (s_i2b dX12_lays_18 (s_bast dX12_lays_19 (s_aload_n dX12_lays_20 rfl (s_dup dX12_lays_21 (s_getI (f := 2) dX12_lays_22 clX12 (by decide) rfl wd959 (s_iconst dX12_lays_25 (by decide) (s_iadd dX12_lays_26 (s_putI (f := 2) dX12_lays_27 clX12 (by decide) rfl rfl rfl wd959 (s_iinc dX12_lays_30 (by decide) (s_goto (tgt := 3) dX12_lays_33 (by decide) s_ag)))))))))))))))))))
set_option maxRecDepth 100000 in
theorem tX12_lays_0 {l : Launch} {D : zD} {B sz0 : Nat} {post : Option Value → zS → Prop} : zSnd l D B xX12_lays sz0 post 0 kX12_lays_0 (z_Jr post) := (s_bipush dX12_lays_0 (by decide) (s_istore_n dX12_lays_2 rfl tX12_lays_3))
noncomputable def fX12_lays : zF := z_fn 3 kX12_lays_0
theorem mX12_lays {l : Launch} {D : zD} {B : Nat} : z_MF l D B yX12_lays xX12_lays fX12_lays := z_mf (by decide) rfl (fun h => by cases h) rfl (fun as σ r h => ⟨z_fn_len h, kX12_lays_0, z_fn_run h, fun _ => tX12_lays_0⟩)
/-! ===== RowChildrenModel.feed ===== -/
theorem dX12_feed_0 : decode cX12_feed 0 = .ok (.aload_n 0, 1) := by decide +kernel
theorem dX12_feed_1 : decode cX12_feed 1 = .ok (.getfield 182, 3) := by decide +kernel
theorem dX12_feed_4 : decode cX12_feed 4 = .ok (.bipush 20, 2) := by decide +kernel
theorem dX12_feed_6 : decode cX12_feed 6 = .ok (.iadd, 1) := by decide +kernel
theorem dX12_feed_7 : decode cX12_feed 7 = .ok (.sipush 2000, 3) := by decide +kernel
theorem dX12_feed_10 : decode cX12_feed 10 = .ok (.if_icmp .le 5, 3) := by decide +kernel
theorem dX12_feed_13 : decode cX12_feed 13 = .ok (.iconst (-1), 1) := by decide +kernel
theorem dX12_feed_14 : decode cX12_feed 14 = .ok (.ireturn, 1) := by decide +kernel
theorem dX12_feed_15 : decode cX12_feed 15 = .ok (.aload_n 0, 1) := by decide +kernel
theorem dX12_feed_16 : decode cX12_feed 16 = .ok (.iload_n 1, 1) := by decide +kernel
theorem dX12_feed_17 : decode cX12_feed 17 = .ok (.invokevirtual 185, 3) := by decide +kernel
theorem dX12_feed_20 : decode cX12_feed 20 = .ok (.aload_n 0, 1) := by decide +kernel
theorem dX12_feed_21 : decode cX12_feed 21 = .ok (.iload_n 2, 1) := by decide +kernel
theorem dX12_feed_22 : decode cX12_feed 22 = .ok (.invokevirtual 185, 3) := by decide +kernel
theorem dX12_feed_25 : decode cX12_feed 25 = .ok (.aload_n 0, 1) := by decide +kernel
theorem dX12_feed_26 : decode cX12_feed 26 = .ok (.iload_n 3, 1) := by decide +kernel
theorem dX12_feed_27 : decode cX12_feed 27 = .ok (.invokevirtual 185, 3) := by decide +kernel
theorem dX12_feed_30 : decode cX12_feed 30 = .ok (.aload_n 0, 1) := by decide +kernel
theorem dX12_feed_31 : decode cX12_feed 31 = .ok (.iload 4, 2) := by decide +kernel
theorem dX12_feed_33 : decode cX12_feed 33 = .ok (.invokevirtual 185, 3) := by decide +kernel
theorem dX12_feed_36 : decode cX12_feed 36 = .ok (.aload_n 0, 1) := by decide +kernel
theorem dX12_feed_37 : decode cX12_feed 37 = .ok (.iload 5, 2) := by decide +kernel
theorem dX12_feed_39 : decode cX12_feed 39 = .ok (.invokevirtual 185, 3) := by decide +kernel
theorem dX12_feed_42 : decode cX12_feed 42 = .ok (.aload_n 0, 1) := by decide +kernel
theorem dX12_feed_43 : decode cX12_feed 43 = .ok (.getfield 182, 3) := by decide +kernel
theorem dX12_feed_46 : decode cX12_feed 46 = .ok (.ireturn, 1) := by decide +kernel
def xX12_feed : zX := (RX12, cX12_feed, 6, (some .int), false, { frames := 2, cells := 0, slots := 0, locals := 112 }, 0, 0, 0, 0)
theorem rmX12_feed : z_Rm xX12_feed := by unfold z_Rm xX12_feed; exact ⟨by decide, by decide⟩
theorem reX12_feed : z_Re xX12_feed := ⟨rfl, rfl⟩
theorem rlX12_feed : 1 ≤ xX12_feed.2.2.2.2.2.1.frames ∧ 21 ≤ xX12_feed.2.2.2.2.2.1.locals := by unfold xX12_feed; exact ⟨by decide, by decide⟩
theorem meX12_feed : z_Me yX12_feed xX12_feed 5 := ⟨wd964, wd893, by decide, by decide, by decide +kernel⟩
theorem fitX12_feed_17 : z_Fit xX12_lays xX12_feed := by unfold z_Fit; simp only [xX12_lays, xX12_feed]; exact ⟨by decide, by decide⟩
theorem fitX12_feed_22 : z_Fit xX12_lays xX12_feed := by unfold z_Fit; simp only [xX12_lays, xX12_feed]; exact ⟨by decide, by decide⟩
theorem fitX12_feed_27 : z_Fit xX12_lays xX12_feed := by unfold z_Fit; simp only [xX12_lays, xX12_feed]; exact ⟨by decide, by decide⟩
theorem fitX12_feed_33 : z_Fit xX12_lays xX12_feed := by unfold z_Fit; simp only [xX12_lays, xX12_feed]; exact ⟨by decide, by decide⟩
theorem fitX12_feed_39 : z_Fit xX12_lays xX12_feed := by unfold z_Fit; simp only [xX12_lays, xX12_feed]; exact ⟨by decide, by decide⟩
noncomputable def kX12_feed_0 : zK zR := (q_aload 0 (q_getI 12 2 (q_push 20 (q_iadd (q_push 2000 (q_icmp_le (q_aload 0 (q_iload 1 (q_callV 12 fX12_lays 1 (q_aload 0 (q_iload 2 (q_callV 12 fX12_lays 1 (q_aload 0 (q_iload 3 (q_callV 12 fX12_lays 1 (q_aload 0 (q_iload 4 (q_callV 12 fX12_lays 1 (q_aload 0 (q_iload 5 (q_callV 12 fX12_lays 1 (q_aload 0 (q_getI 12 2 q_iret))))))))))))))))) (q_push (-1) q_iret)))))))
set_option maxRecDepth 100000 in
theorem tX12_feed_0 {l : Launch} {D : zD} {B sz0 : Nat} {post : Option Value → zS → Prop} : zSnd l D B xX12_feed sz0 post 0 kX12_feed_0 (z_Jr post) := (s_aload_n dX12_feed_0 rfl (s_getI (f := 2) dX12_feed_1 clX12 (by decide) rfl wd959 (s_bipush dX12_feed_4 (by decide) (s_iadd dX12_feed_6 (s_sipush dX12_feed_7 (by decide) (s_icmp_le (tgt := 15) dX12_feed_10 (by decide) (s_aload_n dX12_feed_15 rfl (s_iload_n dX12_feed_16 rfl (s_callV (r := (RX12, TX12, 74)) dX12_feed_17 mX12_lays meX12_lays wd961 wd962 rfl rfl reX12_lays rmX12_feed (fitX12_feed_17) wd963 (s_aload_n dX12_feed_20 rfl (s_iload_n dX12_feed_21 rfl (s_callV (r := (RX12, TX12, 74)) dX12_feed_22 mX12_lays meX12_lays wd961 wd962 rfl rfl reX12_lays rmX12_feed (fitX12_feed_22) wd963 (s_aload_n dX12_feed_25 rfl (s_iload_n dX12_feed_26 rfl (s_callV (r := (RX12, TX12, 74)) dX12_feed_27 mX12_lays meX12_lays wd961 wd962 rfl rfl reX12_lays rmX12_feed (fitX12_feed_27) wd963 (s_aload_n dX12_feed_30 rfl (s_iload dX12_feed_31 (s_callV (r := (RX12, TX12, 74)) dX12_feed_33 mX12_lays meX12_lays wd961 wd962 rfl rfl reX12_lays rmX12_feed (fitX12_feed_33) wd963 (s_aload_n dX12_feed_36 rfl (s_iload dX12_feed_37 (s_callV (r := (RX12, TX12, 74)) dX12_feed_39 mX12_lays meX12_lays wd961 wd962 rfl rfl reX12_lays rmX12_feed (fitX12_feed_39) wd963 (s_aload_n dX12_feed_42 rfl (s_getI (f := 2) dX12_feed_43 clX12 (by decide) rfl wd959 (s_iret dX12_feed_46 rfl)))))))))))))))))) (s_iconst dX12_feed_13 (by decide) (s_iret dX12_feed_14 rfl))))))))
noncomputable def fX12_feed : zF := z_fn 6 kX12_feed_0
theorem mX12_feed {l : Launch} {D : zD} {B : Nat} : z_MF l D B yX12_feed xX12_feed fX12_feed := z_mf (by decide) rfl (fun h => by cases h) rfl (fun as σ r h => ⟨z_fn_len h, kX12_feed_0, z_fn_run h, fun _ => tX12_feed_0⟩)
/-! ===== RowChildrenModel.back ===== -/
theorem dX12_back_0 : decode cX12_back 0 = .ok (.iload_n 1, 1) := by decide +kernel
theorem dX12_back_1 : decode cX12_back 1 = .ok (.ifCond .lt 11, 3) := by decide +kernel
theorem dX12_back_4 : decode cX12_back 4 = .ok (.iload_n 1, 1) := by decide +kernel
theorem dX12_back_5 : decode cX12_back 5 = .ok (.aload_n 0, 1) := by decide +kernel
theorem dX12_back_6 : decode cX12_back 6 = .ok (.getfield 182, 3) := by decide +kernel
theorem dX12_back_9 : decode cX12_back 9 = .ok (.if_icmp .le 5, 3) := by decide +kernel
theorem dX12_back_12 : decode cX12_back 12 = .ok (.iconst (-1), 1) := by decide +kernel
theorem dX12_back_13 : decode cX12_back 13 = .ok (.ireturn, 1) := by decide +kernel
theorem dX12_back_14 : decode cX12_back 14 = .ok (.aload_n 0, 1) := by decide +kernel
theorem dX12_back_15 : decode cX12_back 15 = .ok (.dup, 1) := by decide +kernel
theorem dX12_back_16 : decode cX12_back 16 = .ok (.getfield 182, 3) := by decide +kernel
theorem dX12_back_19 : decode cX12_back 19 = .ok (.iload_n 1, 1) := by decide +kernel
theorem dX12_back_20 : decode cX12_back 20 = .ok (.isub, 1) := by decide +kernel
theorem dX12_back_21 : decode cX12_back 21 = .ok (.putfield 182, 3) := by decide +kernel
theorem dX12_back_24 : decode cX12_back 24 = .ok (.aload_n 0, 1) := by decide +kernel
theorem dX12_back_25 : decode cX12_back 25 = .ok (.getfield 182, 3) := by decide +kernel
theorem dX12_back_28 : decode cX12_back 28 = .ok (.ireturn, 1) := by decide +kernel
def xX12_back : zX := (RX12, cX12_back, 2, (some .int), false, { frames := 1, cells := 0, slots := 0, locals := 90 }, 0, 0, 0, 0)
theorem rmX12_back : z_Rm xX12_back := by unfold z_Rm xX12_back; exact ⟨by decide, by decide⟩
theorem reX12_back : z_Re xX12_back := ⟨rfl, rfl⟩
theorem rlX12_back : 1 ≤ xX12_back.2.2.2.2.2.1.frames ∧ 21 ≤ xX12_back.2.2.2.2.2.1.locals := by unfold xX12_back; exact ⟨by decide, by decide⟩
theorem meX12_back : z_Me yX12_back xX12_back 1 := ⟨wd965, wd893, by decide, by decide, by decide +kernel⟩
noncomputable def kX12_back_12 : zK zR := (q_push (-1) q_iret)
noncomputable def kX12_back_0 : zK zR := (q_iload 1 (q_if_lt kX12_back_12 (q_iload 1 (q_aload 0 (q_getI 12 2 (q_icmp_le (q_aload 0 (q_dup (q_getI 12 2 (q_iload 1 (q_isub (q_putI 12 2 (q_aload 0 (q_getI 12 2 q_iret)))))))) kX12_back_12))))))
set_option maxRecDepth 100000 in
theorem tX12_back_12 {l : Launch} {D : zD} {B sz0 : Nat} {post : Option Value → zS → Prop} : zSnd l D B xX12_back sz0 post 12 kX12_back_12 (z_Jr post) := (s_iconst dX12_back_12 (by decide) (s_iret dX12_back_13 rfl))
set_option maxRecDepth 100000 in
theorem tX12_back_0 {l : Launch} {D : zD} {B sz0 : Nat} {post : Option Value → zS → Prop} : zSnd l D B xX12_back sz0 post 0 kX12_back_0 (z_Jr post) := (s_iload_n dX12_back_0 rfl (s_if_lt (tgt := 12) dX12_back_1 (by decide) tX12_back_12 (s_iload_n dX12_back_4 rfl (s_aload_n dX12_back_5 rfl (s_getI (f := 2) dX12_back_6 clX12 (by decide) rfl wd959 (s_icmp_le (tgt := 14) dX12_back_9 (by decide) (s_aload_n dX12_back_14 rfl (s_dup dX12_back_15 (s_getI (f := 2) dX12_back_16 clX12 (by decide) rfl wd959 (s_iload_n dX12_back_19 rfl (s_isub dX12_back_20 (s_putI (f := 2) dX12_back_21 clX12 (by decide) rfl rfl rfl wd959 (s_aload_n dX12_back_24 rfl (s_getI (f := 2) dX12_back_25 clX12 (by decide) rfl wd959 (s_iret dX12_back_28 rfl))))))))) tX12_back_12))))))
noncomputable def fX12_back : zF := z_fn 2 kX12_back_0
theorem mX12_back {l : Launch} {D : zD} {B : Nat} : z_MF l D B yX12_back xX12_back fX12_back := z_mf (by decide) rfl (fun h => by cases h) rfl (fun as σ r h => ⟨z_fn_len h, kX12_back_0, z_fn_run h, fun _ => tX12_back_0⟩)
