/-! ===== RowChildren$Tokens.value ===== -/
theorem dX8_value_0 : decode cX8_value 0 = .ok (.iload_n 1, 1) := by decide +kernel
theorem dX8_value_1 : decode cX8_value 1 = .ok (.ifCond .lt 20, 3) := by decide +kernel
theorem dX8_value_4 : decode cX8_value 4 = .ok (.iload_n 1, 1) := by decide +kernel
theorem dX8_value_5 : decode cX8_value 5 = .ok (.aload_n 0, 1) := by decide +kernel
theorem dX8_value_6 : decode cX8_value 6 = .ok (.getfield 22, 3) := by decide +kernel
theorem dX8_value_9 : decode cX8_value 9 = .ok (.if_icmp .ge 12, 3) := by decide +kernel
theorem dX8_value_12 : decode cX8_value 12 = .ok (.aload_n 0, 1) := by decide +kernel
theorem dX8_value_13 : decode cX8_value 13 = .ok (.getfield 15, 3) := by decide +kernel
theorem dX8_value_16 : decode cX8_value 16 = .ok (.iload_n 1, 1) := by decide +kernel
theorem dX8_value_17 : decode cX8_value 17 = .ok (.laload, 1) := by decide +kernel
theorem dX8_value_18 : decode cX8_value 18 = .ok (.goto 4, 3) := by decide +kernel
theorem dX8_value_21 : decode cX8_value 21 = .ok (.lconst 0, 1) := by decide +kernel
theorem dX8_value_22 : decode cX8_value 22 = .ok (.lreturn, 1) := by decide +kernel
def xX8_value : zX := (RX8, cX8_value, 2, (some .long), false, { frames := 1, cells := 0, slots := 0, locals := 90 }, 0, 0, 0, 0)
theorem rmX8_value : z_Rm xX8_value := by unfold z_Rm xX8_value; exact ⟨by decide, by decide⟩
theorem reX8_value : z_Re xX8_value := ⟨rfl, rfl⟩
theorem rlX8_value : 1 ≤ xX8_value.2.2.2.2.2.1.frames ∧ 21 ≤ xX8_value.2.2.2.2.2.1.locals := by unfold xX8_value; exact ⟨by decide, by decide⟩
theorem meX8_value : z_Me yX8_value xX8_value 1 := ⟨wd115, wd109, by decide, by decide, by decide +kernel⟩
noncomputable def kX8_value_22 : zK zR := q_lret
noncomputable def kX8_value_21 : zK zR := (q_pushl 0 kX8_value_22)
noncomputable def kX8_value_0 : zK zR := (q_iload 1 (q_if_lt kX8_value_21 (q_iload 1 (q_aload 0 (q_getI 8 3 (q_icmp_ge kX8_value_21 (q_aload 0 (q_getR 8 1 (q_iload 1 (q_lald kX8_value_22))))))))))
set_option maxRecDepth 100000 in
theorem tX8_value_22 {l : Launch} {D : zD} {B sz0 : Nat} {post : Option Value → zS → Prop} : zSnd l D B xX8_value sz0 post 22 kX8_value_22 (z_Jr post) := (s_lret dX8_value_22 rfl)
set_option maxRecDepth 100000 in
theorem tX8_value_21 {l : Launch} {D : zD} {B sz0 : Nat} {post : Option Value → zS → Prop} : zSnd l D B xX8_value sz0 post 21 kX8_value_21 (z_Jr post) := (s_lconst dX8_value_21 (by decide) tX8_value_22)
set_option maxRecDepth 100000 in
theorem tX8_value_0 {l : Launch} {D : zD} {B sz0 : Nat} {post : Option Value → zS → Prop} : zSnd l D B xX8_value sz0 post 0 kX8_value_0 (z_Jr post) := (s_iload_n dX8_value_0 rfl (s_if_lt (tgt := 21) dX8_value_1 (by decide) tX8_value_21 (s_iload_n dX8_value_4 rfl (s_aload_n dX8_value_5 rfl (s_getI (f := 3) dX8_value_6 clX8 (by decide) rfl wd106 (s_icmp_ge (tgt := 21) dX8_value_9 (by decide) tX8_value_21 (s_aload_n dX8_value_12 rfl (s_getR (f := 1) dX8_value_13 clX8 (by decide) rfl wd114 (s_iload_n dX8_value_16 rfl (s_lald dX8_value_17 (s_goto (tgt := 22) dX8_value_18 (by decide) tX8_value_22)))))))))))
noncomputable def fX8_value : zF := z_fn 2 kX8_value_0
theorem mX8_value {l : Launch} {D : zD} {B : Nat} : z_MF l D B yX8_value xX8_value fX8_value := z_mf (by decide) rfl (fun h => by cases h) rfl (fun as σ r h => ⟨z_fn_len h, kX8_value_0, z_fn_run h, fun _ => tX8_value_0⟩)
/-! ===== RowChildren$Text.isVariable ===== -/
theorem dX7_isVariable_0 : decode cX7_isVariable 0 = .ok (.iload_n 0, 1) := by decide +kernel
theorem dX7_isVariable_1 : decode cX7_isVariable 1 = .ok (.bipush 11, 2) := by decide +kernel
theorem dX7_isVariable_3 : decode cX7_isVariable 3 = .ok (.if_icmp .lt 13, 3) := by decide +kernel
theorem dX7_isVariable_6 : decode cX7_isVariable 6 = .ok (.iload_n 0, 1) := by decide +kernel
theorem dX7_isVariable_7 : decode cX7_isVariable 7 = .ok (.bipush 19, 2) := by decide +kernel
theorem dX7_isVariable_9 : decode cX7_isVariable 9 = .ok (.if_icmp .gt 7, 3) := by decide +kernel
theorem dX7_isVariable_12 : decode cX7_isVariable 12 = .ok (.iconst 1, 1) := by decide +kernel
theorem dX7_isVariable_13 : decode cX7_isVariable 13 = .ok (.goto 4, 3) := by decide +kernel
theorem dX7_isVariable_16 : decode cX7_isVariable 16 = .ok (.iconst 0, 1) := by decide +kernel
theorem dX7_isVariable_17 : decode cX7_isVariable 17 = .ok (.ireturn, 1) := by decide +kernel
def xX7_isVariable : zX := (RX7, cX7_isVariable, 1, (some .boolean), false, { frames := 1, cells := 0, slots := 0, locals := 90 }, 0, 0, 0, 0)
theorem rmX7_isVariable : z_Rm xX7_isVariable := by unfold z_Rm xX7_isVariable; exact ⟨by decide, by decide⟩
theorem reX7_isVariable : z_Re xX7_isVariable := ⟨rfl, rfl⟩
theorem rlX7_isVariable : 1 ≤ xX7_isVariable.2.2.2.2.2.1.frames ∧ 21 ≤ xX7_isVariable.2.2.2.2.2.1.locals := by unfold xX7_isVariable; exact ⟨by decide, by decide⟩
theorem meX7_isVariable : z_Me yX7_isVariable xX7_isVariable 1 := ⟨wd116, wd111, by decide, by decide, by decide +kernel⟩
noncomputable def kX7_isVariable_17 : zK zR := q_zret
noncomputable def kX7_isVariable_16 : zK zR := (q_push 0 kX7_isVariable_17)
noncomputable def kX7_isVariable_0 : zK zR := (q_iload 0 (q_push 11 (q_icmp_lt kX7_isVariable_16 (q_iload 0 (q_push 19 (q_icmp_gt kX7_isVariable_16 (q_push 1 kX7_isVariable_17)))))))
set_option maxRecDepth 100000 in
theorem tX7_isVariable_17 {l : Launch} {D : zD} {B sz0 : Nat} {post : Option Value → zS → Prop} : zSnd l D B xX7_isVariable sz0 post 17 kX7_isVariable_17 (z_Jr post) := (s_zret dX7_isVariable_17 rfl)
set_option maxRecDepth 100000 in
theorem tX7_isVariable_16 {l : Launch} {D : zD} {B sz0 : Nat} {post : Option Value → zS → Prop} : zSnd l D B xX7_isVariable sz0 post 16 kX7_isVariable_16 (z_Jr post) := (s_iconst dX7_isVariable_16 (by decide) tX7_isVariable_17)
set_option maxRecDepth 100000 in
theorem tX7_isVariable_0 {l : Launch} {D : zD} {B sz0 : Nat} {post : Option Value → zS → Prop} : zSnd l D B xX7_isVariable sz0 post 0 kX7_isVariable_0 (z_Jr post) := (s_iload_n dX7_isVariable_0 rfl (s_bipush dX7_isVariable_1 (by decide) (s_icmp_lt (tgt := 16) dX7_isVariable_3 (by decide) tX7_isVariable_16 (s_iload_n dX7_isVariable_6 rfl (s_bipush dX7_isVariable_7 (by decide) (s_icmp_gt (tgt := 16) dX7_isVariable_9 (by decide) tX7_isVariable_16 (s_iconst dX7_isVariable_12 (by decide) (s_goto (tgt := 17) dX7_isVariable_13 (by decide) tX7_isVariable_17))))))))
noncomputable def fX7_isVariable : zF := z_fn 1 kX7_isVariable_0
theorem mX7_isVariable {l : Launch} {D : zD} {B : Nat} : z_MF l D B yX7_isVariable xX7_isVariable fX7_isVariable := z_mf (by decide) rfl (fun h => by cases h) rfl (fun as σ r h => ⟨z_fn_len h, kX7_isVariable_0, z_fn_run h, fun _ => tX7_isVariable_0⟩)
/-! ===== RowChildren$Laws.expression, RowChildren$Laws.unit ===== -/
theorem dX2_expression_0 : decode cX2_expression 0 = .ok (.iconst 0, 1) := by decide +kernel
theorem dX2_expression_1 : decode cX2_expression 1 = .ok (.istore_n 3, 1) := by decide +kernel
theorem dX2_expression_2 : decode cX2_expression 2 = .ok (.iconst 0, 1) := by decide +kernel
theorem dX2_expression_3 : decode cX2_expression 3 = .ok (.istore 4, 2) := by decide +kernel
theorem dX2_expression_5 : decode cX2_expression 5 = .ok (.aload_n 0, 1) := by decide +kernel
theorem dX2_expression_6 : decode cX2_expression 6 = .ok (.aload_n 1, 1) := by decide +kernel
theorem dX2_expression_7 : decode cX2_expression 7 = .ok (.iload_n 2, 1) := by decide +kernel
theorem dX2_expression_8 : decode cX2_expression 8 = .ok (.invokevirtual 79, 3) := by decide +kernel
theorem dX2_expression_11 : decode cX2_expression 11 = .ok (.istore 5, 2) := by decide +kernel
theorem dX2_expression_13 : decode cX2_expression 13 = .ok (.iconst 0, 1) := by decide +kernel
theorem dX2_expression_14 : decode cX2_expression 14 = .ok (.istore 6, 2) := by decide +kernel
theorem dX2_expression_16 : decode cX2_expression 16 = .ok (.iload 6, 2) := by decide +kernel
theorem dX2_expression_18 : decode cX2_expression 18 = .ok (.sipush 400, 3) := by decide +kernel
theorem dX2_expression_21 : decode cX2_expression 21 = .ok (.if_icmp .ge 127, 3) := by decide +kernel
theorem dX2_expression_24 : decode cX2_expression 24 = .ok (.aload_n 1, 1) := by decide +kernel
theorem dX2_expression_25 : decode cX2_expression 25 = .ok (.aload_n 0, 1) := by decide +kernel
theorem dX2_expression_26 : decode cX2_expression 26 = .ok (.getfield 60, 3) := by decide +kernel
theorem dX2_expression_29 : decode cX2_expression 29 = .ok (.invokevirtual 67, 3) := by decide +kernel
theorem dX2_expression_32 : decode cX2_expression 32 = .ok (.invokestatic 82, 3) := by decide +kernel
theorem dX2_expression_35 : decode cX2_expression 35 = .ok (.ifCond .eq 113, 3) := by decide +kernel
theorem dX2_expression_38 : decode cX2_expression 38 = .ok (.aload_n 1, 1) := by decide +kernel
theorem dX2_expression_39 : decode cX2_expression 39 = .ok (.aload_n 0, 1) := by decide +kernel
theorem dX2_expression_40 : decode cX2_expression 40 = .ok (.getfield 60, 3) := by decide +kernel
theorem dX2_expression_43 : decode cX2_expression 43 = .ok (.invokevirtual 67, 3) := by decide +kernel
theorem dX2_expression_46 : decode cX2_expression 46 = .ok (.istore 7, 2) := by decide +kernel
theorem dX2_expression_48 : decode cX2_expression 48 = .ok (.aload_n 0, 1) := by decide +kernel
theorem dX2_expression_49 : decode cX2_expression 49 = .ok (.dup, 1) := by decide +kernel
theorem dX2_expression_50 : decode cX2_expression 50 = .ok (.getfield 60, 3) := by decide +kernel
theorem dX2_expression_53 : decode cX2_expression 53 = .ok (.iconst 1, 1) := by decide +kernel
theorem dX2_expression_54 : decode cX2_expression 54 = .ok (.iadd, 1) := by decide +kernel
theorem dX2_expression_55 : decode cX2_expression 55 = .ok (.putfield 60, 3) := by decide +kernel
theorem dX2_expression_58 : decode cX2_expression 58 = .ok (.iload 7, 2) := by decide +kernel
theorem dX2_expression_60 : decode cX2_expression 60 = .ok (.bipush 42, 2) := by decide +kernel
theorem dX2_expression_62 : decode cX2_expression 62 = .ok (.if_icmp .ne 17, 3) := by decide +kernel
theorem dX2_expression_65 : decode cX2_expression 65 = .ok (.iload 5, 2) := by decide +kernel
theorem dX2_expression_67 : decode cX2_expression 67 = .ok (.aload_n 0, 1) := by decide +kernel
theorem dX2_expression_68 : decode cX2_expression 68 = .ok (.aload_n 1, 1) := by decide +kernel
theorem dX2_expression_69 : decode cX2_expression 69 = .ok (.iload_n 2, 1) := by decide +kernel
theorem dX2_expression_70 : decode cX2_expression 70 = .ok (.invokevirtual 79, 3) := by decide +kernel
theorem dX2_expression_73 : decode cX2_expression 73 = .ok (.imul, 1) := by decide +kernel
theorem dX2_expression_74 : decode cX2_expression 74 = .ok (.istore 5, 2) := by decide +kernel
theorem dX2_expression_76 : decode cX2_expression 76 = .ok (.goto 66, 3) := by decide +kernel
theorem dX2_expression_79 : decode cX2_expression 79 = .ok (.iload 7, 2) := by decide +kernel
theorem dX2_expression_81 : decode cX2_expression 81 = .ok (.bipush 47, 2) := by decide +kernel
theorem dX2_expression_83 : decode cX2_expression 83 = .ok (.if_icmp .ne 20, 3) := by decide +kernel
theorem dX2_expression_86 : decode cX2_expression 86 = .ok (.aload_n 0, 1) := by decide +kernel
theorem dX2_expression_87 : decode cX2_expression 87 = .ok (.iload 5, 2) := by decide +kernel
theorem dX2_expression_89 : decode cX2_expression 89 = .ok (.aload_n 0, 1) := by decide +kernel
theorem dX2_expression_90 : decode cX2_expression 90 = .ok (.aload_n 1, 1) := by decide +kernel
theorem dX2_expression_91 : decode cX2_expression 91 = .ok (.iload_n 2, 1) := by decide +kernel
theorem dX2_expression_92 : decode cX2_expression 92 = .ok (.invokevirtual 79, 3) := by decide +kernel
theorem dX2_expression_95 : decode cX2_expression 95 = .ok (.invokevirtual 86, 3) := by decide +kernel
theorem dX2_expression_98 : decode cX2_expression 98 = .ok (.istore 5, 2) := by decide +kernel
theorem dX2_expression_100 : decode cX2_expression 100 = .ok (.goto 42, 3) := by decide +kernel
theorem dX2_expression_103 : decode cX2_expression 103 = .ok (.iload 4, 2) := by decide +kernel
theorem dX2_expression_105 : decode cX2_expression 105 = .ok (.ifCond .eq 10, 3) := by decide +kernel
theorem dX2_expression_108 : decode cX2_expression 108 = .ok (.iload_n 3, 1) := by decide +kernel
theorem dX2_expression_109 : decode cX2_expression 109 = .ok (.iload 5, 2) := by decide +kernel
theorem dX2_expression_111 : decode cX2_expression 111 = .ok (.isub, 1) := by decide +kernel
theorem dX2_expression_112 : decode cX2_expression 112 = .ok (.goto 7, 3) := by decide +kernel
theorem dX2_expression_115 : decode cX2_expression 115 = .ok (.iload_n 3, 1) := by decide +kernel
theorem dX2_expression_116 : decode cX2_expression 116 = .ok (.iload 5, 2) := by decide +kernel
theorem dX2_expression_118 : decode cX2_expression 118 = .ok (.iadd, 1) := by decide +kernel
theorem dX2_expression_119 : decode cX2_expression 119 = .ok (.istore_n 3, 1) := by decide +kernel
theorem dX2_expression_120 : decode cX2_expression 120 = .ok (.iload 7, 2) := by decide +kernel
theorem dX2_expression_122 : decode cX2_expression 122 = .ok (.bipush 45, 2) := by decide +kernel
theorem dX2_expression_124 : decode cX2_expression 124 = .ok (.if_icmp .ne 7, 3) := by decide +kernel
theorem dX2_expression_127 : decode cX2_expression 127 = .ok (.iconst 1, 1) := by decide +kernel
theorem dX2_expression_128 : decode cX2_expression 128 = .ok (.goto 4, 3) := by decide +kernel
theorem dX2_expression_131 : decode cX2_expression 131 = .ok (.iconst 0, 1) := by decide +kernel
theorem dX2_expression_132 : decode cX2_expression 132 = .ok (.istore 4, 2) := by decide +kernel
theorem dX2_expression_134 : decode cX2_expression 134 = .ok (.aload_n 0, 1) := by decide +kernel
theorem dX2_expression_135 : decode cX2_expression 135 = .ok (.aload_n 1, 1) := by decide +kernel
theorem dX2_expression_136 : decode cX2_expression 136 = .ok (.iload_n 2, 1) := by decide +kernel
theorem dX2_expression_137 : decode cX2_expression 137 = .ok (.invokevirtual 79, 3) := by decide +kernel
theorem dX2_expression_140 : decode cX2_expression 140 = .ok (.istore 5, 2) := by decide +kernel
theorem dX2_expression_142 : decode cX2_expression 142 = .ok (.iinc 6 1, 3) := by decide +kernel
theorem dX2_expression_145 : decode cX2_expression 145 = .ok (.goto (-129), 3) := by decide +kernel
theorem dX2_expression_148 : decode cX2_expression 148 = .ok (.iload 4, 2) := by decide +kernel
theorem dX2_expression_150 : decode cX2_expression 150 = .ok (.ifCond .eq 10, 3) := by decide +kernel
theorem dX2_expression_153 : decode cX2_expression 153 = .ok (.iload_n 3, 1) := by decide +kernel
theorem dX2_expression_154 : decode cX2_expression 154 = .ok (.iload 5, 2) := by decide +kernel
theorem dX2_expression_156 : decode cX2_expression 156 = .ok (.isub, 1) := by decide +kernel
theorem dX2_expression_157 : decode cX2_expression 157 = .ok (.goto 7, 3) := by decide +kernel
theorem dX2_expression_160 : decode cX2_expression 160 = .ok (.iload_n 3, 1) := by decide +kernel
theorem dX2_expression_161 : decode cX2_expression 161 = .ok (.iload 5, 2) := by decide +kernel
theorem dX2_expression_163 : decode cX2_expression 163 = .ok (.iadd, 1) := by decide +kernel
theorem dX2_expression_164 : decode cX2_expression 164 = .ok (.ireturn, 1) := by decide +kernel
theorem dX2_unit_0 : decode cX2_unit 0 = .ok (.aload_n 1, 1) := by decide +kernel
theorem dX2_unit_1 : decode cX2_unit 1 = .ok (.aload_n 0, 1) := by decide +kernel
theorem dX2_unit_2 : decode cX2_unit 2 = .ok (.getfield 60, 3) := by decide +kernel
theorem dX2_unit_5 : decode cX2_unit 5 = .ok (.invokevirtual 67, 3) := by decide +kernel
theorem dX2_unit_8 : decode cX2_unit 8 = .ok (.istore_n 3, 1) := by decide +kernel
theorem dX2_unit_9 : decode cX2_unit 9 = .ok (.aload_n 1, 1) := by decide +kernel
theorem dX2_unit_10 : decode cX2_unit 10 = .ok (.aload_n 0, 1) := by decide +kernel
theorem dX2_unit_11 : decode cX2_unit 11 = .ok (.getfield 60, 3) := by decide +kernel
theorem dX2_unit_14 : decode cX2_unit 14 = .ok (.invokevirtual 89, 3) := by decide +kernel
theorem dX2_unit_17 : decode cX2_unit 17 = .ok (.l2i, 1) := by decide +kernel
theorem dX2_unit_18 : decode cX2_unit 18 = .ok (.istore 4, 2) := by decide +kernel
theorem dX2_unit_20 : decode cX2_unit 20 = .ok (.aload_n 0, 1) := by decide +kernel
theorem dX2_unit_21 : decode cX2_unit 21 = .ok (.dup, 1) := by decide +kernel
theorem dX2_unit_22 : decode cX2_unit 22 = .ok (.getfield 60, 3) := by decide +kernel
theorem dX2_unit_25 : decode cX2_unit 25 = .ok (.iconst 1, 1) := by decide +kernel
theorem dX2_unit_26 : decode cX2_unit 26 = .ok (.iadd, 1) := by decide +kernel
theorem dX2_unit_27 : decode cX2_unit 27 = .ok (.putfield 60, 3) := by decide +kernel
theorem dX2_unit_30 : decode cX2_unit 30 = .ok (.iload_n 3, 1) := by decide +kernel
theorem dX2_unit_31 : decode cX2_unit 31 = .ok (.bipush 40, 2) := by decide +kernel
theorem dX2_unit_33 : decode cX2_unit 33 = .ok (.if_icmp .ne 32, 3) := by decide +kernel
theorem dX2_unit_36 : decode cX2_unit 36 = .ok (.iload_n 2, 1) := by decide +kernel
theorem dX2_unit_37 : decode cX2_unit 37 = .ok (.bipush 6, 2) := by decide +kernel
theorem dX2_unit_39 : decode cX2_unit 39 = .ok (.if_icmp .ge 26, 3) := by decide +kernel
theorem dX2_unit_42 : decode cX2_unit 42 = .ok (.aload_n 0, 1) := by decide +kernel
theorem dX2_unit_43 : decode cX2_unit 43 = .ok (.aload_n 1, 1) := by decide +kernel
theorem dX2_unit_44 : decode cX2_unit 44 = .ok (.iload_n 2, 1) := by decide +kernel
theorem dX2_unit_45 : decode cX2_unit 45 = .ok (.iconst 1, 1) := by decide +kernel
theorem dX2_unit_46 : decode cX2_unit 46 = .ok (.iadd, 1) := by decide +kernel
theorem dX2_unit_47 : decode cX2_unit 47 = .ok (.invokevirtual 72, 3) := by decide +kernel
theorem dX2_unit_50 : decode cX2_unit 50 = .ok (.istore 4, 2) := by decide +kernel
theorem dX2_unit_52 : decode cX2_unit 52 = .ok (.aload_n 0, 1) := by decide +kernel
theorem dX2_unit_53 : decode cX2_unit 53 = .ok (.dup, 1) := by decide +kernel
theorem dX2_unit_54 : decode cX2_unit 54 = .ok (.getfield 60, 3) := by decide +kernel
theorem dX2_unit_57 : decode cX2_unit 57 = .ok (.iconst 1, 1) := by decide +kernel
theorem dX2_unit_58 : decode cX2_unit 58 = .ok (.iadd, 1) := by decide +kernel
theorem dX2_unit_59 : decode cX2_unit 59 = .ok (.putfield 60, 3) := by decide +kernel
theorem dX2_unit_62 : decode cX2_unit 62 = .ok (.goto 21, 3) := by decide +kernel
theorem dX2_unit_65 : decode cX2_unit 65 = .ok (.iload_n 3, 1) := by decide +kernel
theorem dX2_unit_66 : decode cX2_unit 66 = .ok (.invokestatic 93, 3) := by decide +kernel
theorem dX2_unit_69 : decode cX2_unit 69 = .ok (.ifCond .eq 14, 3) := by decide +kernel
theorem dX2_unit_72 : decode cX2_unit 72 = .ok (.aload_n 0, 1) := by decide +kernel
theorem dX2_unit_73 : decode cX2_unit 73 = .ok (.getfield 11, 3) := by decide +kernel
theorem dX2_unit_76 : decode cX2_unit 76 = .ok (.iload_n 3, 1) := by decide +kernel
theorem dX2_unit_77 : decode cX2_unit 77 = .ok (.bipush 11, 2) := by decide +kernel
theorem dX2_unit_79 : decode cX2_unit 79 = .ok (.isub, 1) := by decide +kernel
theorem dX2_unit_80 : decode cX2_unit 80 = .ok (.iaload, 1) := by decide +kernel
theorem dX2_unit_81 : decode cX2_unit 81 = .ok (.istore 4, 2) := by decide +kernel
theorem dX2_unit_83 : decode cX2_unit 83 = .ok (.iload 4, 2) := by decide +kernel
theorem dX2_unit_85 : decode cX2_unit 85 = .ok (.ireturn, 1) := by decide +kernel
def xX2_expression (d : Nat) : zX := (RX2, cX2_expression, 8, (some .int), false, { frames := 2 + 2 * d, cells := 0, slots := 0, locals := 112 + 51 * d }, 0, 0, 0, 0)
theorem rmX2_expression (d : Nat) : z_Rm (xX2_expression d) := by unfold z_Rm xX2_expression; exact ⟨by simp, by simp⟩
theorem reX2_expression (d : Nat) : z_Re (xX2_expression d) := ⟨rfl, rfl⟩
theorem rlX2_expression (d : Nat) : 1 ≤ (xX2_expression d).2.2.2.2.2.1.frames ∧ 21 ≤ (xX2_expression d).2.2.2.2.2.1.locals := by unfold xX2_expression; exact ⟨by simp; try omega, by simp; try omega⟩
theorem meX2_expression (d : Nat) : z_Me yX2_expression (xX2_expression d) 2 := ⟨wd128, wd90, by decide, by decide, by decide +kernel⟩
def xX2_unit (d : Nat) : zX := (RX2, cX2_unit, 5, (some .int), false, { frames := 3 + 2 * d, cells := 0, slots := 0, locals := 139 + 51 * d }, 0, 0, 0, 0)
theorem rmX2_unit (d : Nat) : z_Rm (xX2_unit d) := by unfold z_Rm xX2_unit; exact ⟨by simp, by simp⟩
theorem reX2_unit (d : Nat) : z_Re (xX2_unit d) := ⟨rfl, rfl⟩
theorem rlX2_unit (d : Nat) : 1 ≤ (xX2_unit d).2.2.2.2.2.1.frames ∧ 21 ≤ (xX2_unit d).2.2.2.2.2.1.locals := by unfold xX2_unit; exact ⟨by simp; try omega, by simp; try omega⟩
theorem meX2_unit (d : Nat) : z_Me yX2_unit (xX2_unit d) 2 := ⟨wd136, wd90, by decide, by decide, by decide +kernel⟩
theorem fitX2_expression_8 (d : Nat) : z_Fit (xX2_unit d) (xX2_expression (d + 1)) := by unfold z_Fit; simp only [xX2_unit, xX2_expression]; exact ⟨by omega, by omega⟩
theorem fitX2_expression_29 (d : Nat) : z_Fit xX8_kind (xX2_expression (d + 1)) := by unfold z_Fit; simp only [xX8_kind, xX2_expression]; exact ⟨by omega, by omega⟩
theorem fitX2_expression_32 (d : Nat) : z_Fit xX7_isOperator (xX2_expression (d + 1)) := by unfold z_Fit; simp only [xX7_isOperator, xX2_expression]; exact ⟨by omega, by omega⟩
theorem fitX2_expression_43 (d : Nat) : z_Fit xX8_kind (xX2_expression (d + 1)) := by unfold z_Fit; simp only [xX8_kind, xX2_expression]; exact ⟨by omega, by omega⟩
theorem fitX2_expression_137 (d : Nat) : z_Fit (xX2_unit d) (xX2_expression (d + 1)) := by unfold z_Fit; simp only [xX2_unit, xX2_expression]; exact ⟨by omega, by omega⟩
theorem fitX2_expression_92 (d : Nat) : z_Fit (xX2_unit d) (xX2_expression (d + 1)) := by unfold z_Fit; simp only [xX2_unit, xX2_expression]; exact ⟨by omega, by omega⟩
theorem fitX2_expression_95 (d : Nat) : z_Fit xX2_quotient (xX2_expression (d + 1)) := by unfold z_Fit; simp only [xX2_quotient, xX2_expression]; exact ⟨by omega, by omega⟩
theorem fitX2_expression_70 (d : Nat) : z_Fit (xX2_unit d) (xX2_expression (d + 1)) := by unfold z_Fit; simp only [xX2_unit, xX2_expression]; exact ⟨by omega, by omega⟩
theorem fitX2_unit_5 (d : Nat) : z_Fit xX8_kind (xX2_unit d) := by unfold z_Fit; simp only [xX8_kind, xX2_unit]; exact ⟨by omega, by omega⟩
theorem fitX2_unit_14 (d : Nat) : z_Fit xX8_value (xX2_unit d) := by unfold z_Fit; simp only [xX8_value, xX2_unit]; exact ⟨by omega, by omega⟩
theorem fitX2_unit_66 (d : Nat) : z_Fit xX7_isVariable (xX2_unit d) := by unfold z_Fit; simp only [xX7_isVariable, xX2_unit]; exact ⟨by omega, by omega⟩
theorem fitX2_unit_47 (d : Nat) : z_Fit (xX2_expression d) (xX2_unit d) := by unfold z_Fit; simp only [xX2_expression, xX2_unit]; exact ⟨by omega, by omega⟩
noncomputable def kX2_expression_164 (g : zF) : zK zR := q_iret
noncomputable def kX2_expression_148 (g : zF) : zK zR := (q_iload 4 (q_if_eq (q_iload 3 (q_iload 5 (q_iadd (kX2_expression_164 g)))) (q_iload 3 (q_iload 5 (q_isub (kX2_expression_164 g))))))
noncomputable def kX2_expression_142 (g : zF) : zK ((zL × zS) ⊕ zR) := (q_iinc 6 1 q_ag)
noncomputable def kX2_expression_132 (g : zF) : zK ((zL × zS) ⊕ zR) := (q_istore 4 (q_aload 0 (q_aload 1 (q_iload 2 (q_callV 2 g 2 (q_istore 5 (kX2_expression_142 g)))))))
noncomputable def kX2_expression_119 (g : zF) : zK ((zL × zS) ⊕ zR) := (q_istore 3 (q_iload 7 (q_push 45 (q_icmp_ne (q_push 0 (kX2_expression_132 g)) (q_push 1 (kX2_expression_132 g))))))
noncomputable def bX2_expression_16 (g : zF) : zK ((zL × zS) ⊕ zR) := (q_iload 6 (q_push 400 (q_icmp_ge (q_dn (kX2_expression_148 g)) (q_aload 1 (q_aload 0 (q_getI 2 1 (q_callV 8 fX8_kind 1 (q_callS fX7_isOperator 1 (q_if_eq (q_dn (kX2_expression_148 g)) (q_aload 1 (q_aload 0 (q_getI 2 1 (q_callV 8 fX8_kind 1 (q_istore 7 (q_aload 0 (q_dup (q_getI 2 1 (q_push 1 (q_iadd (q_putI 2 1 (q_iload 7 (q_push 42 (q_icmp_ne (q_iload 7 (q_push 47 (q_icmp_ne (q_iload 4 (q_if_eq (q_iload 3 (q_iload 5 (q_iadd (kX2_expression_119 g)))) (q_iload 3 (q_iload 5 (q_isub (kX2_expression_119 g)))))) (q_aload 0 (q_iload 5 (q_aload 0 (q_aload 1 (q_iload 2 (q_callV 2 g 2 (q_callV 2 fX2_quotient 2 (q_istore 5 (kX2_expression_142 g)))))))))))) (q_iload 5 (q_aload 0 (q_aload 1 (q_iload 2 (q_callV 2 g 2 (q_imul (q_istore 5 (kX2_expression_142 g)))))))))))))))))))))))))))))))
noncomputable def kX2_expression_16 (g : zF) : zK zR := q_lp (bX2_expression_16 g)
noncomputable def kX2_expression_0 (g : zF) : zK zR := (q_push 0 (q_istore 3 (q_push 0 (q_istore 4 (q_aload 0 (q_aload 1 (q_iload 2 (q_callV 2 g 2 (q_istore 5 (q_push 0 (q_istore 6 (kX2_expression_16 g))))))))))))
noncomputable def kX2_unit_83 (g : zF) : zK zR := (q_iload 4 q_iret)
noncomputable def kX2_unit_65 (g : zF) : zK zR := (q_iload 3 (q_callS fX7_isVariable 1 (q_if_eq (kX2_unit_83 g) (q_aload 0 (q_getR 2 0 (q_iload 3 (q_push 11 (q_isub (q_iald (q_istore 4 (kX2_unit_83 g)))))))))))
noncomputable def kX2_unit_0 (g : zF) : zK zR := (q_aload 1 (q_aload 0 (q_getI 2 1 (q_callV 8 fX8_kind 1 (q_istore 3 (q_aload 1 (q_aload 0 (q_getI 2 1 (q_callV 8 fX8_value 1 (q_l2i (q_istore 4 (q_aload 0 (q_dup (q_getI 2 1 (q_push 1 (q_iadd (q_putI 2 1 (q_iload 3 (q_push 40 (q_icmp_ne (kX2_unit_65 g) (q_iload 2 (q_push 6 (q_icmp_ge (kX2_unit_65 g) (q_aload 0 (q_aload 1 (q_iload 2 (q_push 1 (q_iadd (q_callV 2 g 2 (q_istore 4 (q_aload 0 (q_dup (q_getI 2 1 (q_push 1 (q_iadd (q_putI 2 1 (kX2_unit_83 g)))))))))))))))))))))))))))))))))))))
set_option maxRecDepth 100000 in
theorem tX2_expression_164 (d : Nat) {g : zF} {l : Launch} {D : zD} {B sz0 : Nat} {post : Option Value → zS → Prop} (hg : z_MF l D B yX2_unit (xX2_unit d) g) : zSnd l D B (xX2_expression (d + 1)) sz0 post 164 (kX2_expression_164 g) (z_Jr post) := (s_iret dX2_expression_164 rfl)
set_option maxRecDepth 100000 in
theorem tX2_expression_148 (d : Nat) {g : zF} {l : Launch} {D : zD} {B sz0 : Nat} {post : Option Value → zS → Prop} (hg : z_MF l D B yX2_unit (xX2_unit d) g) : zSnd l D B (xX2_expression (d + 1)) sz0 post 148 (kX2_expression_148 g) (z_Jr post) := (s_iload dX2_expression_148 (s_if_eq (tgt := 160) dX2_expression_150 (by decide) (s_iload_n dX2_expression_160 rfl (s_iload dX2_expression_161 (s_iadd dX2_expression_163 (tX2_expression_164 d hg)))) (s_iload_n dX2_expression_153 rfl (s_iload dX2_expression_154 (s_isub dX2_expression_156 (s_goto (tgt := 164) dX2_expression_157 (by decide) (tX2_expression_164 d hg)))))))
set_option maxRecDepth 100000 in
theorem tX2_expression_142 (d : Nat) {g : zF} {l : Launch} {D : zD} {B sz0 : Nat} {post : Option Value → zS → Prop} (hg : z_MF l D B yX2_unit (xX2_unit d) g) : zSnd l D B (xX2_expression (d + 1)) sz0 post 142 (kX2_expression_142 g) (z_Jl l D B (xX2_expression (d + 1)) sz0 post 16 (z_Jr post)) := (s_iinc dX2_expression_142 (by decide) (s_goto (tgt := 16) dX2_expression_145 (by decide) s_ag))
set_option maxRecDepth 100000 in
theorem tX2_expression_132 (d : Nat) {g : zF} {l : Launch} {D : zD} {B sz0 : Nat} {post : Option Value → zS → Prop} (hg : z_MF l D B yX2_unit (xX2_unit d) g) : zSnd l D B (xX2_expression (d + 1)) sz0 post 132 (kX2_expression_132 g) (z_Jl l D B (xX2_expression (d + 1)) sz0 post 16 (z_Jr post)) := (s_istore dX2_expression_132 (s_aload_n dX2_expression_134 rfl (s_aload_n dX2_expression_135 rfl (s_iload_n dX2_expression_136 rfl (s_callV (r := (RX2, TX2, 3)) dX2_expression_137 hg (meX2_unit d) wd117 wd118 rfl rfl (reX2_unit d) (rmX2_expression (d + 1)) (fitX2_expression_137 d) wd119 (s_istore dX2_expression_140 (tX2_expression_142 d hg)))))))
set_option maxRecDepth 100000 in
theorem tX2_expression_119 (d : Nat) {g : zF} {l : Launch} {D : zD} {B sz0 : Nat} {post : Option Value → zS → Prop} (hg : z_MF l D B yX2_unit (xX2_unit d) g) : zSnd l D B (xX2_expression (d + 1)) sz0 post 119 (kX2_expression_119 g) (z_Jl l D B (xX2_expression (d + 1)) sz0 post 16 (z_Jr post)) := (s_istore_n dX2_expression_119 rfl (s_iload dX2_expression_120 (s_bipush dX2_expression_122 (by decide) (s_icmp_ne (tgt := 131) dX2_expression_124 (by decide) (s_iconst dX2_expression_131 (by decide) (tX2_expression_132 d hg)) (s_iconst dX2_expression_127 (by decide) (s_goto (tgt := 132) dX2_expression_128 (by decide) (tX2_expression_132 d hg)))))))
set_option maxRecDepth 100000 in
theorem tX2_expression_16 (d : Nat) {g : zF} {l : Launch} {D : zD} {B sz0 : Nat} {post : Option Value → zS → Prop} (hg : z_MF l D B yX2_unit (xX2_unit d) g) : zSnd l D B (xX2_expression (d + 1)) sz0 post 16 (kX2_expression_16 g) (z_Jr post) := s_lp (body := bX2_expression_16 g) (s_iload dX2_expression_16 (s_sipush dX2_expression_18 (by decide) (s_icmp_ge (tgt := 148) dX2_expression_21 (by decide) (s_dn (tX2_expression_148 d hg)) (s_aload_n dX2_expression_24 rfl (s_aload_n dX2_expression_25 rfl (s_getI (f := 1) dX2_expression_26 clX2 (by decide) rfl wd120 (s_callV (r := (RX8, TX8, 4)) dX2_expression_29 mX8_kind meX8_kind wd121 wd122 rfl rfl reX8_kind (rmX2_expression (d + 1)) (fitX2_expression_29 d) wd123 (s_callSN (host := RX11) dX2_expression_32 mX7_isOperator meX7_isOperator wd124 rfl reX7_isOperator (rmX2_expression (d + 1)) (fitX2_expression_32 d) neX2_82 (s_if_eq (tgt := 148) dX2_expression_35 (by decide) (s_dn (tX2_expression_148 d hg)) (s_aload_n dX2_expression_38 rfl (s_aload_n dX2_expression_39 rfl (s_getI (f := 1) dX2_expression_40 clX2 (by decide) rfl wd120 (s_callV (r := (RX8, TX8, 4)) dX2_expression_43 mX8_kind meX8_kind wd121 wd122 rfl rfl reX8_kind (rmX2_expression (d + 1)) (fitX2_expression_43 d) wd123 (s_istore dX2_expression_46 (s_aload_n dX2_expression_48 rfl (s_dup dX2_expression_49 (s_getI (f := 1) dX2_expression_50 clX2 (by decide) rfl wd120 (s_iconst dX2_expression_53 (by decide) (s_iadd dX2_expression_54 (s_putI (f := 1) dX2_expression_55 clX2 (by decide) rfl rfl rfl wd120 (s_iload dX2_expression_58 (s_bipush dX2_expression_60 (by decide) (s_icmp_ne (tgt := 79) dX2_expression_62 (by decide) (s_iload dX2_expression_79 (s_bipush dX2_expression_81 (by decide) (s_icmp_ne (tgt := 103) dX2_expression_83 (by decide) (s_iload dX2_expression_103 (s_if_eq (tgt := 115) dX2_expression_105 (by decide) (s_iload_n dX2_expression_115 rfl (s_iload dX2_expression_116 (s_iadd dX2_expression_118 (tX2_expression_119 d hg)))) (s_iload_n dX2_expression_108 rfl (s_iload dX2_expression_109 (s_isub dX2_expression_111 (s_goto (tgt := 119) dX2_expression_112 (by decide) (tX2_expression_119 d hg))))))) (s_aload_n dX2_expression_86 rfl (s_iload dX2_expression_87 (s_aload_n dX2_expression_89 rfl (s_aload_n dX2_expression_90 rfl (s_iload_n dX2_expression_91 rfl (s_callV (r := (RX2, TX2, 3)) dX2_expression_92 hg (meX2_unit d) wd117 wd118 rfl rfl (reX2_unit d) (rmX2_expression (d + 1)) (fitX2_expression_92 d) wd119 (s_callV (r := (RX2, TX2, 3)) dX2_expression_95 mX2_quotient meX2_quotient wd125 wd126 rfl rfl reX2_quotient (rmX2_expression (d + 1)) (fitX2_expression_95 d) wd127 (s_istore dX2_expression_98 (s_goto (tgt := 142) dX2_expression_100 (by decide) (tX2_expression_142 d hg))))))))))))) (s_iload dX2_expression_65 (s_aload_n dX2_expression_67 rfl (s_aload_n dX2_expression_68 rfl (s_iload_n dX2_expression_69 rfl (s_callV (r := (RX2, TX2, 3)) dX2_expression_70 hg (meX2_unit d) wd117 wd118 rfl rfl (reX2_unit d) (rmX2_expression (d + 1)) (fitX2_expression_70 d) wd119 (s_imul dX2_expression_73 (s_istore dX2_expression_74 (s_goto (tgt := 142) dX2_expression_76 (by decide) (tX2_expression_142 d hg))))))))))))))))))))))))))))))))
set_option maxRecDepth 100000 in
theorem tX2_expression_0 (d : Nat) {g : zF} {l : Launch} {D : zD} {B sz0 : Nat} {post : Option Value → zS → Prop} (hg : z_MF l D B yX2_unit (xX2_unit d) g) : zSnd l D B (xX2_expression (d + 1)) sz0 post 0 (kX2_expression_0 g) (z_Jr post) := (s_iconst dX2_expression_0 (by decide) (s_istore_n dX2_expression_1 rfl (s_iconst dX2_expression_2 (by decide) (s_istore dX2_expression_3 (s_aload_n dX2_expression_5 rfl (s_aload_n dX2_expression_6 rfl (s_iload_n dX2_expression_7 rfl (s_callV (r := (RX2, TX2, 3)) dX2_expression_8 hg (meX2_unit d) wd117 wd118 rfl rfl (reX2_unit d) (rmX2_expression (d + 1)) (fitX2_expression_8 d) wd119 (s_istore dX2_expression_11 (s_iconst dX2_expression_13 (by decide) (s_istore dX2_expression_14 (tX2_expression_16 d hg))))))))))))
set_option maxRecDepth 100000 in
theorem tX2_unit_83 (d : Nat) {g : zF} {l : Launch} {D : zD} {B sz0 : Nat} {post : Option Value → zS → Prop} (hg : z_MF l D B yX2_expression (xX2_expression d) g) : zSnd l D B (xX2_unit d) sz0 post 83 (kX2_unit_83 g) (z_Jr post) := (s_iload dX2_unit_83 (s_iret dX2_unit_85 rfl))
set_option maxRecDepth 100000 in
theorem tX2_unit_65 (d : Nat) {g : zF} {l : Launch} {D : zD} {B sz0 : Nat} {post : Option Value → zS → Prop} (hg : z_MF l D B yX2_expression (xX2_expression d) g) : zSnd l D B (xX2_unit d) sz0 post 65 (kX2_unit_65 g) (z_Jr post) := (s_iload_n dX2_unit_65 rfl (s_callSN (host := RX11) dX2_unit_66 mX7_isVariable meX7_isVariable wd132 rfl reX7_isVariable (rmX2_unit d) (fitX2_unit_66 d) neX2_93 (s_if_eq (tgt := 83) dX2_unit_69 (by decide) (tX2_unit_83 d hg) (s_aload_n dX2_unit_72 rfl (s_getR (f := 0) dX2_unit_73 clX2 (by decide) rfl wd88 (s_iload_n dX2_unit_76 rfl (s_bipush dX2_unit_77 (by decide) (s_isub dX2_unit_79 (s_iald dX2_unit_80 (s_istore dX2_unit_81 (tX2_unit_83 d hg)))))))))))
set_option maxRecDepth 100000 in
theorem tX2_unit_0 (d : Nat) {g : zF} {l : Launch} {D : zD} {B sz0 : Nat} {post : Option Value → zS → Prop} (hg : z_MF l D B yX2_expression (xX2_expression d) g) : zSnd l D B (xX2_unit d) sz0 post 0 (kX2_unit_0 g) (z_Jr post) := (s_aload_n dX2_unit_0 rfl (s_aload_n dX2_unit_1 rfl (s_getI (f := 1) dX2_unit_2 clX2 (by decide) rfl wd120 (s_callV (r := (RX8, TX8, 4)) dX2_unit_5 mX8_kind meX8_kind wd121 wd122 rfl rfl reX8_kind (rmX2_unit d) (fitX2_unit_5 d) wd123 (s_istore_n dX2_unit_8 rfl (s_aload_n dX2_unit_9 rfl (s_aload_n dX2_unit_10 rfl (s_getI (f := 1) dX2_unit_11 clX2 (by decide) rfl wd120 (s_callV (r := (RX8, TX8, 4)) dX2_unit_14 mX8_value meX8_value wd129 wd130 rfl rfl reX8_value (rmX2_unit d) (fitX2_unit_14 d) wd131 (s_l2i dX2_unit_17 (s_istore dX2_unit_18 (s_aload_n dX2_unit_20 rfl (s_dup dX2_unit_21 (s_getI (f := 1) dX2_unit_22 clX2 (by decide) rfl wd120 (s_iconst dX2_unit_25 (by decide) (s_iadd dX2_unit_26 (s_putI (f := 1) dX2_unit_27 clX2 (by decide) rfl rfl rfl wd120 (s_iload_n dX2_unit_30 rfl (s_bipush dX2_unit_31 (by decide) (s_icmp_ne (tgt := 65) dX2_unit_33 (by decide) (tX2_unit_65 d hg) (s_iload_n dX2_unit_36 rfl (s_bipush dX2_unit_37 (by decide) (s_icmp_ge (tgt := 65) dX2_unit_39 (by decide) (tX2_unit_65 d hg) (s_aload_n dX2_unit_42 rfl (s_aload_n dX2_unit_43 rfl (s_iload_n dX2_unit_44 rfl (s_iconst dX2_unit_45 (by decide) (s_iadd dX2_unit_46 (s_callV (r := (RX2, TX2, 3)) dX2_unit_47 hg (meX2_expression d) wd133 wd134 rfl rfl (reX2_expression d) (rmX2_unit d) (fitX2_unit_47 d) wd135 (s_istore dX2_unit_50 (s_aload_n dX2_unit_52 rfl (s_dup dX2_unit_53 (s_getI (f := 1) dX2_unit_54 clX2 (by decide) rfl wd120 (s_iconst dX2_unit_57 (by decide) (s_iadd dX2_unit_58 (s_putI (f := 1) dX2_unit_59 clX2 (by decide) rfl rfl rfl wd120 (s_goto (tgt := 83) dX2_unit_62 (by decide) (tX2_unit_83 d hg))))))))))))))))))))))))))))))))))))))
noncomputable def fX2_expression : Nat → zF
  | 0 => fun _ _ => none
  | d + 1 => z_fn 8 (kX2_expression_0 (z_fn 5 (kX2_unit_0 (fX2_expression d))))
noncomputable def fX2_unit (d : Nat) : zF := z_fn 5 (kX2_unit_0 (fX2_expression d))
theorem mX2_unit_of {l : Launch} {D : zD} {B d : Nat} (h : z_MF l D B yX2_expression (xX2_expression d) (fX2_expression d)) : z_MF l D B yX2_unit (xX2_unit d) (fX2_unit d) := z_mf (by decide) rfl (fun h => by cases h) rfl (fun as σ r hh => ⟨z_fn_len (k := kX2_unit_0 (fX2_expression d)) hh, kX2_unit_0 (fX2_expression d), z_fn_run (k := kX2_unit_0 (fX2_expression d)) hh, fun _ => tX2_unit_0 d h⟩)
theorem mX2_expression {l : Launch} {D : zD} {B : Nat} : ∀ d : Nat, z_MF l D B yX2_expression (xX2_expression d) (fX2_expression d)
  | 0 => fun _ _ _ h => by cases h
  | d + 1 => z_mf (by decide) rfl (fun h => by cases h) rfl (fun as σ r h => ⟨z_fn_len (k := kX2_expression_0 (fX2_unit d)) h, kX2_expression_0 (fX2_unit d), z_fn_run (k := kX2_expression_0 (fX2_unit d)) h, fun _ => tX2_expression_0 d (mX2_unit_of (mX2_expression d))⟩)
theorem mX2_unit {l : Launch} {D : zD} {B : Nat} (d : Nat) : z_MF l D B yX2_unit (xX2_unit d) (fX2_unit d) := mX2_unit_of (mX2_expression d)
/-! ===== RowChildren$Laws.passElse ===== -/
theorem dX2_passElse_0 : decode cX2_passElse 0 = .ok (.aload_n 0, 1) := by decide +kernel
theorem dX2_passElse_1 : decode cX2_passElse 1 = .ok (.getfield 60, 3) := by decide +kernel
theorem dX2_passElse_4 : decode cX2_passElse 4 = .ok (.sipush 400, 3) := by decide +kernel
theorem dX2_passElse_7 : decode cX2_passElse 7 = .ok (.if_icmp .ge 29, 3) := by decide +kernel
theorem dX2_passElse_10 : decode cX2_passElse 10 = .ok (.aload_n 1, 1) := by decide +kernel
theorem dX2_passElse_11 : decode cX2_passElse 11 = .ok (.aload_n 0, 1) := by decide +kernel
theorem dX2_passElse_12 : decode cX2_passElse 12 = .ok (.getfield 60, 3) := by decide +kernel
theorem dX2_passElse_15 : decode cX2_passElse 15 = .ok (.invokevirtual 67, 3) := by decide +kernel
theorem dX2_passElse_18 : decode cX2_passElse 18 = .ok (.bipush 10, 2) := by decide +kernel
theorem dX2_passElse_20 : decode cX2_passElse 20 = .ok (.if_icmp .eq 16, 3) := by decide +kernel
theorem dX2_passElse_23 : decode cX2_passElse 23 = .ok (.aload_n 0, 1) := by decide +kernel
theorem dX2_passElse_24 : decode cX2_passElse 24 = .ok (.dup, 1) := by decide +kernel
theorem dX2_passElse_25 : decode cX2_passElse 25 = .ok (.getfield 60, 3) := by decide +kernel
theorem dX2_passElse_28 : decode cX2_passElse 28 = .ok (.iconst 1, 1) := by decide +kernel
theorem dX2_passElse_29 : decode cX2_passElse 29 = .ok (.iadd, 1) := by decide +kernel
theorem dX2_passElse_30 : decode cX2_passElse 30 = .ok (.putfield 60, 3) := by decide +kernel
theorem dX2_passElse_33 : decode cX2_passElse 33 = .ok (.goto (-33), 3) := by decide +kernel
theorem dX2_passElse_36 : decode cX2_passElse 36 = .ok (.aload_n 0, 1) := by decide +kernel
theorem dX2_passElse_37 : decode cX2_passElse 37 = .ok (.dup, 1) := by decide +kernel
theorem dX2_passElse_38 : decode cX2_passElse 38 = .ok (.getfield 60, 3) := by decide +kernel
theorem dX2_passElse_41 : decode cX2_passElse 41 = .ok (.iconst 1, 1) := by decide +kernel
theorem dX2_passElse_42 : decode cX2_passElse 42 = .ok (.iadd, 1) := by decide +kernel
theorem dX2_passElse_43 : decode cX2_passElse 43 = .ok (.putfield 60, 3) := by decide +kernel
theorem dX2_passElse_46 : decode cX2_passElse 46 = .ok (.return_, 1) := by decide +kernel
def xX2_passElse : zX := (RX2, cX2_passElse, 2, none, false, { frames := 2, cells := 0, slots := 0, locals := 111 }, 0, 0, 0, 0)
theorem rmX2_passElse : z_Rm xX2_passElse := by unfold z_Rm xX2_passElse; exact ⟨by decide, by decide⟩
theorem reX2_passElse : z_Re xX2_passElse := ⟨rfl, rfl⟩
theorem rlX2_passElse : 1 ≤ xX2_passElse.2.2.2.2.2.1.frames ∧ 21 ≤ xX2_passElse.2.2.2.2.2.1.locals := by unfold xX2_passElse; exact ⟨by decide, by decide⟩
theorem meX2_passElse : z_Me yX2_passElse xX2_passElse 1 := ⟨wd137, wd90, by decide, by decide, by decide +kernel⟩
theorem fitX2_passElse_15 : z_Fit xX8_kind xX2_passElse := by unfold z_Fit; simp only [xX8_kind, xX2_passElse]; exact ⟨by decide, by decide⟩
noncomputable def kX2_passElse_36 : zK zR := (q_aload 0 (q_dup (q_getI 2 1 (q_push 1 (q_iadd (q_putI 2 1 q_vret))))))
noncomputable def bX2_passElse_0 : zK ((zL × zS) ⊕ zR) := (q_aload 0 (q_getI 2 1 (q_push 400 (q_icmp_ge (q_dn kX2_passElse_36) (q_aload 1 (q_aload 0 (q_getI 2 1 (q_callV 8 fX8_kind 1 (q_push 10 (q_icmp_eq (q_dn kX2_passElse_36) (q_aload 0 (q_dup (q_getI 2 1 (q_push 1 (q_iadd (q_putI 2 1 q_ag))))))))))))))))
noncomputable def kX2_passElse_0 : zK zR := q_lp (bX2_passElse_0)
set_option maxRecDepth 100000 in
theorem tX2_passElse_36 {l : Launch} {D : zD} {B sz0 : Nat} {post : Option Value → zS → Prop} : zSnd l D B xX2_passElse sz0 post 36 kX2_passElse_36 (z_Jr post) := (s_aload_n dX2_passElse_36 rfl (s_dup dX2_passElse_37 (s_getI (f := 1) dX2_passElse_38 clX2 (by decide) rfl wd120 (s_iconst dX2_passElse_41 (by decide) (s_iadd dX2_passElse_42 (s_putI (f := 1) dX2_passElse_43 clX2 (by decide) rfl rfl rfl wd120 (s_vret dX2_passElse_46 rfl)))))))
set_option maxRecDepth 100000 in
theorem tX2_passElse_0 {l : Launch} {D : zD} {B sz0 : Nat} {post : Option Value → zS → Prop} : zSnd l D B xX2_passElse sz0 post 0 kX2_passElse_0 (z_Jr post) := s_lp (body := bX2_passElse_0) (s_aload_n dX2_passElse_0 rfl (s_getI (f := 1) dX2_passElse_1 clX2 (by decide) rfl wd120 (s_sipush dX2_passElse_4 (by decide) (s_icmp_ge (tgt := 36) dX2_passElse_7 (by decide) (s_dn tX2_passElse_36) (s_aload_n dX2_passElse_10 rfl (s_aload_n dX2_passElse_11 rfl (s_getI (f := 1) dX2_passElse_12 clX2 (by decide) rfl wd120 (s_callV (r := (RX8, TX8, 4)) dX2_passElse_15 mX8_kind meX8_kind wd121 wd122 rfl rfl reX8_kind rmX2_passElse (fitX2_passElse_15) wd123 (s_bipush dX2_passElse_18 (by decide) (s_icmp_eq (tgt := 36) dX2_passElse_20 (by decide) (s_dn tX2_passElse_36) (s_aload_n dX2_passElse_23 rfl (s_dup dX2_passElse_24 (s_getI (f := 1) dX2_passElse_25 clX2 (by decide) rfl wd120 (s_iconst dX2_passElse_28 (by decide) (s_iadd dX2_passElse_29 (s_putI (f := 1) dX2_passElse_30 clX2 (by decide) rfl rfl rfl wd120 (s_goto (tgt := 0) dX2_passElse_33 (by decide) s_ag)))))))))))))))))
noncomputable def fX2_passElse : zF := z_fn 2 kX2_passElse_0
theorem mX2_passElse {l : Launch} {D : zD} {B : Nat} : z_MF l D B yX2_passElse xX2_passElse fX2_passElse := z_mf (by decide) rfl (fun h => by cases h) rfl (fun as σ r h => ⟨z_fn_len h, kX2_passElse_0, z_fn_run h, fun _ => tX2_passElse_0⟩)
/-! ===== RowChildren$Laws.told ===== -/
theorem dX2_told_0 : decode cX2_told 0 = .ok (.aload_n 0, 1) := by decide +kernel
theorem dX2_told_1 : decode cX2_told 1 = .ok (.iload_n 2, 1) := by decide +kernel
theorem dX2_told_2 : decode cX2_told 2 = .ok (.putfield 60, 3) := by decide +kernel
theorem dX2_told_5 : decode cX2_told 5 = .ok (.aload_n 0, 1) := by decide +kernel
theorem dX2_told_6 : decode cX2_told 6 = .ok (.iconst 0, 1) := by decide +kernel
theorem dX2_told_7 : decode cX2_told 7 = .ok (.putfield 63, 3) := by decide +kernel
theorem dX2_told_10 : decode cX2_told 10 = .ok (.iconst 0, 1) := by decide +kernel
theorem dX2_told_11 : decode cX2_told 11 = .ok (.istore_n 3, 1) := by decide +kernel
theorem dX2_told_12 : decode cX2_told 12 = .ok (.iconst 0, 1) := by decide +kernel
theorem dX2_told_13 : decode cX2_told 13 = .ok (.istore 4, 2) := by decide +kernel
theorem dX2_told_15 : decode cX2_told 15 = .ok (.iload 4, 2) := by decide +kernel
theorem dX2_told_17 : decode cX2_told 17 = .ok (.iconst 4, 1) := by decide +kernel
theorem dX2_told_18 : decode cX2_told 18 = .ok (.if_icmp .ge 103, 3) := by decide +kernel
theorem dX2_told_21 : decode cX2_told 21 = .ok (.iload_n 3, 1) := by decide +kernel
theorem dX2_told_22 : decode cX2_told 22 = .ok (.ifCond .ne 99, 3) := by decide +kernel
theorem dX2_told_25 : decode cX2_told 25 = .ok (.aload_n 1, 1) := by decide +kernel
theorem dX2_told_26 : decode cX2_told 26 = .ok (.aload_n 0, 1) := by decide +kernel
theorem dX2_told_27 : decode cX2_told 27 = .ok (.getfield 60, 3) := by decide +kernel
theorem dX2_told_30 : decode cX2_told 30 = .ok (.invokevirtual 67, 3) := by decide +kernel
theorem dX2_told_33 : decode cX2_told 33 = .ok (.bipush 8, 2) := by decide +kernel
theorem dX2_told_35 : decode cX2_told 35 = .ok (.if_icmp .ne 86, 3) := by decide +kernel
theorem dX2_told_38 : decode cX2_told 38 = .ok (.aload_n 0, 1) := by decide +kernel
theorem dX2_told_39 : decode cX2_told 39 = .ok (.dup, 1) := by decide +kernel
theorem dX2_told_40 : decode cX2_told 40 = .ok (.getfield 60, 3) := by decide +kernel
theorem dX2_told_43 : decode cX2_told 43 = .ok (.iconst 1, 1) := by decide +kernel
theorem dX2_told_44 : decode cX2_told 44 = .ok (.iadd, 1) := by decide +kernel
theorem dX2_told_45 : decode cX2_told 45 = .ok (.putfield 60, 3) := by decide +kernel
theorem dX2_told_48 : decode cX2_told 48 = .ok (.aload_n 0, 1) := by decide +kernel
theorem dX2_told_49 : decode cX2_told 49 = .ok (.aload_n 1, 1) := by decide +kernel
theorem dX2_told_50 : decode cX2_told 50 = .ok (.iconst 0, 1) := by decide +kernel
theorem dX2_told_51 : decode cX2_told 51 = .ok (.invokevirtual 72, 3) := by decide +kernel
theorem dX2_told_54 : decode cX2_told 54 = .ok (.istore 5, 2) := by decide +kernel
theorem dX2_told_56 : decode cX2_told 56 = .ok (.aload_n 0, 1) := by decide +kernel
theorem dX2_told_57 : decode cX2_told 57 = .ok (.dup, 1) := by decide +kernel
theorem dX2_told_58 : decode cX2_told 58 = .ok (.getfield 60, 3) := by decide +kernel
theorem dX2_told_61 : decode cX2_told 61 = .ok (.iconst 1, 1) := by decide +kernel
theorem dX2_told_62 : decode cX2_told 62 = .ok (.iadd, 1) := by decide +kernel
theorem dX2_told_63 : decode cX2_told 63 = .ok (.putfield 60, 3) := by decide +kernel
theorem dX2_told_66 : decode cX2_told 66 = .ok (.aload_n 0, 1) := by decide +kernel
theorem dX2_told_67 : decode cX2_told 67 = .ok (.aload_n 1, 1) := by decide +kernel
theorem dX2_told_68 : decode cX2_told 68 = .ok (.iconst 0, 1) := by decide +kernel
theorem dX2_told_69 : decode cX2_told 69 = .ok (.invokevirtual 72, 3) := by decide +kernel
theorem dX2_told_72 : decode cX2_told 72 = .ok (.istore 6, 2) := by decide +kernel
theorem dX2_told_74 : decode cX2_told 74 = .ok (.aload_n 0, 1) := by decide +kernel
theorem dX2_told_75 : decode cX2_told 75 = .ok (.dup, 1) := by decide +kernel
theorem dX2_told_76 : decode cX2_told 76 = .ok (.getfield 60, 3) := by decide +kernel
theorem dX2_told_79 : decode cX2_told 79 = .ok (.iconst 1, 1) := by decide +kernel
theorem dX2_told_80 : decode cX2_told 80 = .ok (.iadd, 1) := by decide +kernel
theorem dX2_told_81 : decode cX2_told 81 = .ok (.putfield 60, 3) := by decide +kernel
theorem dX2_told_84 : decode cX2_told 84 = .ok (.aload_n 0, 1) := by decide +kernel
theorem dX2_told_85 : decode cX2_told 85 = .ok (.getfield 63, 3) := by decide +kernel
theorem dX2_told_88 : decode cX2_told 88 = .ok (.ifCond .eq 5, 3) := by decide +kernel
theorem dX2_told_91 : decode cX2_told 91 = .ok (.iconst 0, 1) := by decide +kernel
theorem dX2_told_92 : decode cX2_told 92 = .ok (.ireturn, 1) := by decide +kernel
theorem dX2_told_93 : decode cX2_told 93 = .ok (.iload 5, 2) := by decide +kernel
theorem dX2_told_95 : decode cX2_told 95 = .ok (.iload 6, 2) := by decide +kernel
theorem dX2_told_97 : decode cX2_told 97 = .ok (.if_icmp .ge 7, 3) := by decide +kernel
theorem dX2_told_100 : decode cX2_told 100 = .ok (.iconst 1, 1) := by decide +kernel
theorem dX2_told_101 : decode cX2_told 101 = .ok (.goto 4, 3) := by decide +kernel
theorem dX2_told_104 : decode cX2_told 104 = .ok (.iconst 0, 1) := by decide +kernel
theorem dX2_told_105 : decode cX2_told 105 = .ok (.istore_n 3, 1) := by decide +kernel
theorem dX2_told_106 : decode cX2_told 106 = .ok (.iload_n 3, 1) := by decide +kernel
theorem dX2_told_107 : decode cX2_told 107 = .ok (.ifCond .ne 8, 3) := by decide +kernel
theorem dX2_told_110 : decode cX2_told 110 = .ok (.aload_n 0, 1) := by decide +kernel
theorem dX2_told_111 : decode cX2_told 111 = .ok (.aload_n 1, 1) := by decide +kernel
theorem dX2_told_112 : decode cX2_told 112 = .ok (.invokevirtual 75, 3) := by decide +kernel
theorem dX2_told_115 : decode cX2_told 115 = .ok (.iinc 4 1, 3) := by decide +kernel
theorem dX2_told_118 : decode cX2_told 118 = .ok (.goto (-103), 3) := by decide +kernel
theorem dX2_told_121 : decode cX2_told 121 = .ok (.aload_n 0, 1) := by decide +kernel
theorem dX2_told_122 : decode cX2_told 122 = .ok (.aload_n 1, 1) := by decide +kernel
theorem dX2_told_123 : decode cX2_told 123 = .ok (.iconst 0, 1) := by decide +kernel
theorem dX2_told_124 : decode cX2_told 124 = .ok (.invokevirtual 72, 3) := by decide +kernel
theorem dX2_told_127 : decode cX2_told 127 = .ok (.istore 4, 2) := by decide +kernel
theorem dX2_told_129 : decode cX2_told 129 = .ok (.aload_n 0, 1) := by decide +kernel
theorem dX2_told_130 : decode cX2_told 130 = .ok (.getfield 63, 3) := by decide +kernel
theorem dX2_told_133 : decode cX2_told 133 = .ok (.ifCond .eq 7, 3) := by decide +kernel
theorem dX2_told_136 : decode cX2_told 136 = .ok (.iconst 0, 1) := by decide +kernel
theorem dX2_told_137 : decode cX2_told 137 = .ok (.goto 5, 3) := by decide +kernel
theorem dX2_told_140 : decode cX2_told 140 = .ok (.iload 4, 2) := by decide +kernel
theorem dX2_told_142 : decode cX2_told 142 = .ok (.ireturn, 1) := by decide +kernel
def xX2_told : zX := (RX2, cX2_told, 7, (some .int), false, { frames := 19, cells := 0, slots := 0, locals := 547 }, 0, 0, 0, 0)
theorem rmX2_told : z_Rm xX2_told := by unfold z_Rm xX2_told; exact ⟨by decide, by decide⟩
theorem reX2_told : z_Re xX2_told := ⟨rfl, rfl⟩
theorem rlX2_told : 1 ≤ xX2_told.2.2.2.2.2.1.frames ∧ 21 ≤ xX2_told.2.2.2.2.2.1.locals := by unfold xX2_told; exact ⟨by decide, by decide⟩
theorem meX2_told : z_Me yX2_told xX2_told 2 := ⟨wd141, wd90, by decide, by decide, by decide +kernel⟩
theorem fitX2_told_124 : z_Fit (xX2_expression 8) xX2_told := by unfold z_Fit; simp only [xX2_expression, xX2_told]; exact ⟨by decide, by decide⟩
theorem fitX2_told_30 : z_Fit xX8_kind xX2_told := by unfold z_Fit; simp only [xX8_kind, xX2_told]; exact ⟨by decide, by decide⟩
theorem fitX2_told_51 : z_Fit (xX2_expression 8) xX2_told := by unfold z_Fit; simp only [xX2_expression, xX2_told]; exact ⟨by decide, by decide⟩
theorem fitX2_told_69 : z_Fit (xX2_expression 8) xX2_told := by unfold z_Fit; simp only [xX2_expression, xX2_told]; exact ⟨by decide, by decide⟩
theorem fitX2_told_112 : z_Fit xX2_passElse xX2_told := by unfold z_Fit; simp only [xX2_passElse, xX2_told]; exact ⟨by decide, by decide⟩
noncomputable def kX2_told_142 : zK zR := q_iret
noncomputable def kX2_told_121 : zK zR := (q_aload 0 (q_aload 1 (q_push 0 (q_callV 2 (fX2_expression 8) 2 (q_istore 4 (q_aload 0 (q_getI 2 2 (q_if_eq (q_iload 4 kX2_told_142) (q_push 0 kX2_told_142)))))))))
noncomputable def kX2_told_115 : zK ((zL × zS) ⊕ zR) := (q_iinc 4 1 q_ag)
noncomputable def kX2_told_105 : zK ((zL × zS) ⊕ zR) := (q_istore 3 (q_iload 3 (q_if_ne kX2_told_115 (q_aload 0 (q_aload 1 (q_callV 2 fX2_passElse 1 kX2_told_115))))))
noncomputable def kX2_told_91 : zK zR := (q_push 0 q_iret)
noncomputable def bX2_told_15 : zK ((zL × zS) ⊕ zR) := (q_iload 4 (q_push 4 (q_icmp_ge (q_dn kX2_told_121) (q_iload 3 (q_if_ne (q_dn kX2_told_121) (q_aload 1 (q_aload 0 (q_getI 2 1 (q_callV 8 fX8_kind 1 (q_push 8 (q_icmp_ne (q_dn kX2_told_121) (q_aload 0 (q_dup (q_getI 2 1 (q_push 1 (q_iadd (q_putI 2 1 (q_aload 0 (q_aload 1 (q_push 0 (q_callV 2 (fX2_expression 8) 2 (q_istore 5 (q_aload 0 (q_dup (q_getI 2 1 (q_push 1 (q_iadd (q_putI 2 1 (q_aload 0 (q_aload 1 (q_push 0 (q_callV 2 (fX2_expression 8) 2 (q_istore 6 (q_aload 0 (q_dup (q_getI 2 1 (q_push 1 (q_iadd (q_putI 2 1 (q_aload 0 (q_getI 2 2 (q_if_eq (q_iload 5 (q_iload 6 (q_icmp_ge (q_push 0 kX2_told_105) (q_push 1 kX2_told_105)))) (q_dn kX2_told_91)))))))))))))))))))))))))))))))))))))))))))
noncomputable def kX2_told_15 : zK zR := q_lp (bX2_told_15)
noncomputable def kX2_told_0 : zK zR := (q_aload 0 (q_iload 2 (q_putI 2 1 (q_aload 0 (q_push 0 (q_putZ 2 2 (q_push 0 (q_istore 3 (q_push 0 (q_istore 4 kX2_told_15))))))))))
set_option maxRecDepth 100000 in
theorem tX2_told_142 {l : Launch} {D : zD} {B sz0 : Nat} {post : Option Value → zS → Prop} : zSnd l D B xX2_told sz0 post 142 kX2_told_142 (z_Jr post) := (s_iret dX2_told_142 rfl)
set_option maxRecDepth 100000 in
theorem tX2_told_121 {l : Launch} {D : zD} {B sz0 : Nat} {post : Option Value → zS → Prop} : zSnd l D B xX2_told sz0 post 121 kX2_told_121 (z_Jr post) := (s_aload_n dX2_told_121 rfl (s_aload_n dX2_told_122 rfl (s_iconst dX2_told_123 (by decide) (s_callV (r := (RX2, TX2, 3)) dX2_told_124 (mX2_expression 8) (meX2_expression 8) wd133 wd134 rfl rfl (reX2_expression 8) rmX2_told (fitX2_told_124) wd135 (s_istore dX2_told_127 (s_aload_n dX2_told_129 rfl (s_getI (f := 2) dX2_told_130 clX2 (by decide) rfl wd112 (s_if_eq (tgt := 140) dX2_told_133 (by decide) (s_iload dX2_told_140 tX2_told_142) (s_iconst dX2_told_136 (by decide) (s_goto (tgt := 142) dX2_told_137 (by decide) tX2_told_142))))))))))
set_option maxRecDepth 100000 in
theorem tX2_told_115 {l : Launch} {D : zD} {B sz0 : Nat} {post : Option Value → zS → Prop} : zSnd l D B xX2_told sz0 post 115 kX2_told_115 (z_Jl l D B xX2_told sz0 post 15 (z_Jr post)) := (s_iinc dX2_told_115 (by decide) (s_goto (tgt := 15) dX2_told_118 (by decide) s_ag))
set_option maxRecDepth 100000 in
theorem tX2_told_105 {l : Launch} {D : zD} {B sz0 : Nat} {post : Option Value → zS → Prop} : zSnd l D B xX2_told sz0 post 105 kX2_told_105 (z_Jl l D B xX2_told sz0 post 15 (z_Jr post)) := (s_istore_n dX2_told_105 rfl (s_iload_n dX2_told_106 rfl (s_if_ne (tgt := 115) dX2_told_107 (by decide) tX2_told_115 (s_aload_n dX2_told_110 rfl (s_aload_n dX2_told_111 rfl (s_callV (r := (RX2, TX2, 3)) dX2_told_112 mX2_passElse meX2_passElse wd138 wd139 rfl rfl reX2_passElse rmX2_told (fitX2_told_112) wd140 tX2_told_115))))))
set_option maxRecDepth 100000 in
theorem tX2_told_91 {l : Launch} {D : zD} {B sz0 : Nat} {post : Option Value → zS → Prop} : zSnd l D B xX2_told sz0 post 91 kX2_told_91 (z_Jr post) := (s_iconst dX2_told_91 (by decide) (s_iret dX2_told_92 rfl))
set_option maxRecDepth 100000 in
theorem tX2_told_15 {l : Launch} {D : zD} {B sz0 : Nat} {post : Option Value → zS → Prop} : zSnd l D B xX2_told sz0 post 15 kX2_told_15 (z_Jr post) := s_lp (body := bX2_told_15) (s_iload dX2_told_15 (s_iconst dX2_told_17 (by decide) (s_icmp_ge (tgt := 121) dX2_told_18 (by decide) (s_dn tX2_told_121) (s_iload_n dX2_told_21 rfl (s_if_ne (tgt := 121) dX2_told_22 (by decide) (s_dn tX2_told_121) (s_aload_n dX2_told_25 rfl (s_aload_n dX2_told_26 rfl (s_getI (f := 1) dX2_told_27 clX2 (by decide) rfl wd120 (s_callV (r := (RX8, TX8, 4)) dX2_told_30 mX8_kind meX8_kind wd121 wd122 rfl rfl reX8_kind rmX2_told (fitX2_told_30) wd123 (s_bipush dX2_told_33 (by decide) (s_icmp_ne (tgt := 121) dX2_told_35 (by decide) (s_dn tX2_told_121) (s_aload_n dX2_told_38 rfl (s_dup dX2_told_39 (s_getI (f := 1) dX2_told_40 clX2 (by decide) rfl wd120 (s_iconst dX2_told_43 (by decide) (s_iadd dX2_told_44 (s_putI (f := 1) dX2_told_45 clX2 (by decide) rfl rfl rfl wd120 (s_aload_n dX2_told_48 rfl (s_aload_n dX2_told_49 rfl (s_iconst dX2_told_50 (by decide) (s_callV (r := (RX2, TX2, 3)) dX2_told_51 (mX2_expression 8) (meX2_expression 8) wd133 wd134 rfl rfl (reX2_expression 8) rmX2_told (fitX2_told_51) wd135 (s_istore dX2_told_54 (s_aload_n dX2_told_56 rfl (s_dup dX2_told_57 (s_getI (f := 1) dX2_told_58 clX2 (by decide) rfl wd120 (s_iconst dX2_told_61 (by decide) (s_iadd dX2_told_62 (s_putI (f := 1) dX2_told_63 clX2 (by decide) rfl rfl rfl wd120 (s_aload_n dX2_told_66 rfl (s_aload_n dX2_told_67 rfl (s_iconst dX2_told_68 (by decide) (s_callV (r := (RX2, TX2, 3)) dX2_told_69 (mX2_expression 8) (meX2_expression 8) wd133 wd134 rfl rfl (reX2_expression 8) rmX2_told (fitX2_told_69) wd135 (s_istore dX2_told_72 (s_aload_n dX2_told_74 rfl (s_dup dX2_told_75 (s_getI (f := 1) dX2_told_76 clX2 (by decide) rfl wd120 (s_iconst dX2_told_79 (by decide) (s_iadd dX2_told_80 (s_putI (f := 1) dX2_told_81 clX2 (by decide) rfl rfl rfl wd120 (s_aload_n dX2_told_84 rfl (s_getI (f := 2) dX2_told_85 clX2 (by decide) rfl wd112 (s_if_eq (tgt := 93) dX2_told_88 (by decide) (s_iload dX2_told_93 (s_iload dX2_told_95 (s_icmp_ge (tgt := 104) dX2_told_97 (by decide) (s_iconst dX2_told_104 (by decide) tX2_told_105) (s_iconst dX2_told_100 (by decide) (s_goto (tgt := 105) dX2_told_101 (by decide) tX2_told_105))))) (s_dn tX2_told_91)))))))))))))))))))))))))))))))))))))))))))
set_option maxRecDepth 100000 in
theorem tX2_told_0 {l : Launch} {D : zD} {B sz0 : Nat} {post : Option Value → zS → Prop} : zSnd l D B xX2_told sz0 post 0 kX2_told_0 (z_Jr post) := (s_aload_n dX2_told_0 rfl (s_iload_n dX2_told_1 rfl (s_putI (f := 1) dX2_told_2 clX2 (by decide) rfl rfl rfl wd120 (s_aload_n dX2_told_5 rfl (s_iconst dX2_told_6 (by decide) (s_putZ (f := 2) dX2_told_7 clX2 (by decide) rfl rfl rfl wd112 (s_iconst dX2_told_10 (by decide) (s_istore_n dX2_told_11 rfl (s_iconst dX2_told_12 (by decide) (s_istore dX2_told_13 tX2_told_15))))))))))
noncomputable def fX2_told : zF := z_fn 7 kX2_told_0
theorem mX2_told {l : Launch} {D : zD} {B : Nat} : z_MF l D B yX2_told xX2_told fX2_told := z_mf (by decide) rfl (fun h => by cases h) rfl (fun as σ r h => ⟨z_fn_len h, kX2_told_0, z_fn_run h, fun _ => tX2_told_0⟩)
/-! ===== RowChildren$Laws.held ===== -/
theorem dX2_held_0 : decode cX2_held 0 = .ok (.aload_n 1, 1) := by decide +kernel
theorem dX2_held_1 : decode cX2_held 1 = .ok (.getfield 36, 3) := by decide +kernel
theorem dX2_held_4 : decode cX2_held 4 = .ok (.iload_n 2, 1) := by decide +kernel
theorem dX2_held_5 : decode cX2_held 5 = .ok (.iconst 3, 1) := by decide +kernel
theorem dX2_held_6 : decode cX2_held 6 = .ok (.iand, 1) := by decide +kernel
theorem dX2_held_7 : decode cX2_held 7 = .ok (.iaload, 1) := by decide +kernel
theorem dX2_held_8 : decode cX2_held 8 = .ok (.istore 4, 2) := by decide +kernel
theorem dX2_held_10 : decode cX2_held 10 = .ok (.iload 4, 2) := by decide +kernel
theorem dX2_held_12 : decode cX2_held 12 = .ok (.iconst (-1), 1) := by decide +kernel
theorem dX2_held_13 : decode cX2_held 13 = .ok (.if_icmp .ne 11, 3) := by decide +kernel
theorem dX2_held_16 : decode cX2_held 16 = .ok (.aload_n 0, 1) := by decide +kernel
theorem dX2_held_17 : decode cX2_held 17 = .ok (.iload_n 2, 1) := by decide +kernel
theorem dX2_held_18 : decode cX2_held 18 = .ok (.invokevirtual 41, 3) := by decide +kernel
theorem dX2_held_21 : decode cX2_held 21 = .ok (.goto 13, 3) := by decide +kernel
theorem dX2_held_24 : decode cX2_held 24 = .ok (.aload_n 0, 1) := by decide +kernel
theorem dX2_held_25 : decode cX2_held 25 = .ok (.aload_n 1, 1) := by decide +kernel
theorem dX2_held_26 : decode cX2_held 26 = .ok (.getfield 44, 3) := by decide +kernel
theorem dX2_held_29 : decode cX2_held 29 = .ok (.iload 4, 2) := by decide +kernel
theorem dX2_held_31 : decode cX2_held 31 = .ok (.invokevirtual 48, 3) := by decide +kernel
theorem dX2_held_34 : decode cX2_held 34 = .ok (.istore 5, 2) := by decide +kernel
theorem dX2_held_36 : decode cX2_held 36 = .ok (.iconst 0, 1) := by decide +kernel
theorem dX2_held_37 : decode cX2_held 37 = .ok (.iload_n 3, 1) := by decide +kernel
theorem dX2_held_38 : decode cX2_held 38 = .ok (.iload 5, 2) := by decide +kernel
theorem dX2_held_40 : decode cX2_held 40 = .ok (.invokestatic 52, 3) := by decide +kernel
theorem dX2_held_43 : decode cX2_held 43 = .ok (.invokestatic 57, 3) := by decide +kernel
theorem dX2_held_46 : decode cX2_held 46 = .ok (.ireturn, 1) := by decide +kernel
def xX2_held : zX := (RX2, cX2_held, 6, (some .int), false, { frames := 20, cells := 0, slots := 0, locals := 573 }, 0, 0, 0, 0)
theorem rmX2_held : z_Rm xX2_held := by unfold z_Rm xX2_held; exact ⟨by decide, by decide⟩
theorem reX2_held : z_Re xX2_held := ⟨rfl, rfl⟩
theorem rlX2_held : 1 ≤ xX2_held.2.2.2.2.2.1.frames ∧ 21 ≤ xX2_held.2.2.2.2.2.1.locals := by unfold xX2_held; exact ⟨by decide, by decide⟩
theorem meX2_held : z_Me yX2_held xX2_held 3 := ⟨wd157, wd90, by decide, by decide, by decide +kernel⟩
theorem fitX2_held_31 : z_Fit xX2_told xX2_held := by unfold z_Fit; simp only [xX2_told, xX2_held]; exact ⟨by decide, by decide⟩
theorem fitX2_held_18 : z_Fit xX2_untold xX2_held := by unfold z_Fit; simp only [xX2_untold, xX2_held]; exact ⟨by decide, by decide⟩
noncomputable def kX2_held_34 : zK zR := (q_istore 5 (q_push 0 (q_iload 3 (q_iload 5 (q_mmin (q_mmax q_iret))))))
noncomputable def kX2_held_0 : zK zR := (q_aload 1 (q_getR 7 3 (q_iload 2 (q_push 3 (q_iand (q_iald (q_istore 4 (q_iload 4 (q_push (-1) (q_icmp_ne (q_aload 0 (q_aload 1 (q_getR 7 0 (q_iload 4 (q_callV 2 fX2_told 2 kX2_held_34))))) (q_aload 0 (q_iload 2 (q_callV 2 fX2_untold 1 kX2_held_34)))))))))))))
set_option maxRecDepth 100000 in
theorem tX2_held_34 {l : Launch} {D : zD} {B sz0 : Nat} {post : Option Value → zS → Prop} : zSnd l D B xX2_held sz0 post 34 kX2_held_34 (z_Jr post) := (s_istore dX2_held_34 (s_iconst dX2_held_36 (by decide) (s_iload_n dX2_held_37 rfl (s_iload dX2_held_38 (s_mmin dX2_held_40 wd147 wd148 wd149 wd150 (rlX2_held) rmX2_held (s_mmax dX2_held_43 wd151 wd152 wd149 wd153 (rlX2_held) rmX2_held (s_iret dX2_held_46 rfl)))))))
set_option maxRecDepth 100000 in
theorem tX2_held_0 {l : Launch} {D : zD} {B sz0 : Nat} {post : Option Value → zS → Prop} : zSnd l D B xX2_held sz0 post 0 kX2_held_0 (z_Jr post) := (s_aload_n dX2_held_0 rfl (s_getR (f := 3) dX2_held_1 clX7 (by decide) rfl wd142 (s_iload_n dX2_held_4 rfl (s_iconst dX2_held_5 (by decide) (s_iand dX2_held_6 (s_iald dX2_held_7 (s_istore dX2_held_8 (s_iload dX2_held_10 (s_iconst dX2_held_12 (by decide) (s_icmp_ne (tgt := 24) dX2_held_13 (by decide) (s_aload_n dX2_held_24 rfl (s_aload_n dX2_held_25 rfl (s_getR (f := 0) dX2_held_26 clX7 (by decide) rfl wd143 (s_iload dX2_held_29 (s_callV (r := (RX2, TX2, 3)) dX2_held_31 mX2_told meX2_told wd144 wd145 rfl rfl reX2_told rmX2_held (fitX2_held_31) wd146 tX2_held_34))))) (s_aload_n dX2_held_16 rfl (s_iload_n dX2_held_17 rfl (s_callV (r := (RX2, TX2, 3)) dX2_held_18 mX2_untold meX2_untold wd154 wd155 rfl rfl reX2_untold rmX2_held (fitX2_held_18) wd156 (s_goto (tgt := 34) dX2_held_21 (by decide) tX2_held_34))))))))))))))
noncomputable def fX2_held : zF := z_fn 6 kX2_held_0
theorem mX2_held {l : Launch} {D : zD} {B : Nat} : z_MF l D B yX2_held xX2_held fX2_held := z_mf (by decide) rfl (fun h => by cases h) rfl (fun as σ r h => ⟨z_fn_len h, kX2_held_0, z_fn_run h, fun _ => tX2_held_0⟩)
/-! ===== RowChildren$Memory.<init> ===== -/
theorem dX3_init_0 : decode cX3_init 0 = .ok (.aload_n 0, 1) := by decide +kernel
theorem dX3_init_1 : decode cX3_init 1 = .ok (.invokespecial 3, 3) := by decide +kernel
theorem dX3_init_4 : decode cX3_init 4 = .ok (.aload_n 0, 1) := by decide +kernel
theorem dX3_init_5 : decode cX3_init 5 = .ok (.bipush 40, 2) := by decide +kernel
theorem dX3_init_7 : decode cX3_init 7 = .ok (.anewarray 9, 3) := by decide +kernel
theorem dX3_init_10 : decode cX3_init 10 = .ok (.putfield 11, 3) := by decide +kernel
theorem dX3_init_13 : decode cX3_init 13 = .ok (.aload_n 0, 1) := by decide +kernel
theorem dX3_init_14 : decode cX3_init 14 = .ok (.iconst 3, 1) := by decide +kernel
theorem dX3_init_15 : decode cX3_init 15 = .ok (.anewarray 9, 3) := by decide +kernel
theorem dX3_init_18 : decode cX3_init 18 = .ok (.putfield 17, 3) := by decide +kernel
theorem dX3_init_21 : decode cX3_init 21 = .ok (.aload_n 0, 1) := by decide +kernel
theorem dX3_init_22 : decode cX3_init 22 = .ok (.iconst 3, 1) := by decide +kernel
theorem dX3_init_23 : decode cX3_init 23 = .ok (.newarray .boolean, 2) := by decide +kernel
theorem dX3_init_25 : decode cX3_init 25 = .ok (.putfield 20, 3) := by decide +kernel
theorem dX3_init_28 : decode cX3_init 28 = .ok (.iconst 0, 1) := by decide +kernel
theorem dX3_init_29 : decode cX3_init 29 = .ok (.istore_n 1, 1) := by decide +kernel
theorem dX3_init_30 : decode cX3_init 30 = .ok (.iload_n 1, 1) := by decide +kernel
theorem dX3_init_31 : decode cX3_init 31 = .ok (.bipush 40, 2) := by decide +kernel
theorem dX3_init_33 : decode cX3_init 33 = .ok (.if_icmp .ge 22, 3) := by decide +kernel
theorem dX3_init_36 : decode cX3_init 36 = .ok (.aload_n 0, 1) := by decide +kernel
theorem dX3_init_37 : decode cX3_init 37 = .ok (.getfield 11, 3) := by decide +kernel
theorem dX3_init_40 : decode cX3_init 40 = .ok (.iload_n 1, 1) := by decide +kernel
theorem dX3_init_41 : decode cX3_init 41 = .ok (.new 9, 3) := by decide +kernel
theorem dX3_init_44 : decode cX3_init 44 = .ok (.dup, 1) := by decide +kernel
theorem dX3_init_45 : decode cX3_init 45 = .ok (.invokespecial 24, 3) := by decide +kernel
theorem dX3_init_48 : decode cX3_init 48 = .ok (.aastore, 1) := by decide +kernel
theorem dX3_init_49 : decode cX3_init 49 = .ok (.iinc 1 1, 3) := by decide +kernel
theorem dX3_init_52 : decode cX3_init 52 = .ok (.goto (-22), 3) := by decide +kernel
theorem dX3_init_55 : decode cX3_init 55 = .ok (.iconst 0, 1) := by decide +kernel
theorem dX3_init_56 : decode cX3_init 56 = .ok (.istore_n 1, 1) := by decide +kernel
theorem dX3_init_57 : decode cX3_init 57 = .ok (.iload_n 1, 1) := by decide +kernel
theorem dX3_init_58 : decode cX3_init 58 = .ok (.iconst 3, 1) := by decide +kernel
theorem dX3_init_59 : decode cX3_init 59 = .ok (.if_icmp .ge 22, 3) := by decide +kernel
theorem dX3_init_62 : decode cX3_init 62 = .ok (.aload_n 0, 1) := by decide +kernel
theorem dX3_init_63 : decode cX3_init 63 = .ok (.getfield 17, 3) := by decide +kernel
theorem dX3_init_66 : decode cX3_init 66 = .ok (.iload_n 1, 1) := by decide +kernel
theorem dX3_init_67 : decode cX3_init 67 = .ok (.new 9, 3) := by decide +kernel
theorem dX3_init_70 : decode cX3_init 70 = .ok (.dup, 1) := by decide +kernel
theorem dX3_init_71 : decode cX3_init 71 = .ok (.invokespecial 24, 3) := by decide +kernel
theorem dX3_init_74 : decode cX3_init 74 = .ok (.aastore, 1) := by decide +kernel
theorem dX3_init_75 : decode cX3_init 75 = .ok (.iinc 1 1, 3) := by decide +kernel
theorem dX3_init_78 : decode cX3_init 78 = .ok (.goto (-21), 3) := by decide +kernel
theorem dX3_init_81 : decode cX3_init 81 = .ok (.return_, 1) := by decide +kernel
def xX3_init : zX := (RX3, cX3_init, 2, none, true, { frames := 2, cells := 132, slots := 270336, locals := 110 }, 132, 2048, 0, 0)
theorem rmX3_init : z_Rm xX3_init := by unfold z_Rm xX3_init; exact ⟨by decide, by decide⟩
theorem reX3_init : z_Re xX3_init := ⟨rfl, rfl⟩
theorem rlX3_init : 1 ≤ xX3_init.2.2.2.2.2.1.frames ∧ 21 ≤ xX3_init.2.2.2.2.2.1.locals := by unfold xX3_init; exact ⟨by decide, by decide⟩
theorem meX3_init : z_Me yX3_init xX3_init 0 := ⟨wd165, wd166, by decide, by decide, by decide +kernel⟩
theorem fitX3_init_71 : z_Fit xX1_init xX3_init := by unfold z_Fit; simp only [xX1_init, xX3_init]; exact ⟨by decide, by decide⟩
theorem fitX3_init_45 : z_Fit xX1_init xX3_init := by unfold z_Fit; simp only [xX1_init, xX3_init]; exact ⟨by decide, by decide⟩
noncomputable def kX3_init_81 (lim : Nat) : zK zR := q_vret
noncomputable def bX3_init_57 (lim : Nat) : zK ((zL × zS) ⊕ zR) := (q_iload 1 (q_push 3 (q_icmp_ge (q_dn (kX3_init_81 lim)) (q_aload 0 (q_getR 3 3 (q_iload 1 (q_new 1 lim (q_dup (q_ctor fX1_init 0 2 lim (q_aast (q_iinc 1 1 q_ag)))))))))))
noncomputable def kX3_init_57 (lim : Nat) : zK zR := q_lp (bX3_init_57 lim)
noncomputable def kX3_init_55 (lim : Nat) : zK zR := (q_push 0 (q_istore 1 (kX3_init_57 lim)))
noncomputable def bX3_init_30 (lim : Nat) : zK ((zL × zS) ⊕ zR) := (q_iload 1 (q_push 40 (q_icmp_ge (q_dn (kX3_init_55 lim)) (q_aload 0 (q_getR 3 2 (q_iload 1 (q_new 1 lim (q_dup (q_ctor fX1_init 0 2 lim (q_aast (q_iinc 1 1 q_ag)))))))))))
noncomputable def kX3_init_30 (lim : Nat) : zK zR := q_lp (bX3_init_30 lim)
noncomputable def kX3_init_0 (lim : Nat) : zK zR := (q_aload 0 (q_obj (q_aload 0 (q_push 40 (q_newq 2048 lim (q_putR 3 2 (q_aload 0 (q_push 3 (q_newq 2048 lim (q_putR 3 3 (q_aload 0 (q_push 3 (q_newa 2 2048 lim (q_putR 3 4 (q_push 0 (q_istore 1 (kX3_init_30 lim)))))))))))))))))
set_option maxRecDepth 100000 in
theorem tX3_init_81 {l : Launch} {D : zD} {B sz0 : Nat} {post : Option Value → zS → Prop} : zSnd l D B xX3_init sz0 post 81 (kX3_init_81 (sz0 + 132)) (z_Jr post) := (s_vret dX3_init_81 rfl)
set_option maxRecDepth 100000 in
theorem tX3_init_57 {l : Launch} {D : zD} {B sz0 : Nat} {post : Option Value → zS → Prop} : zSnd l D B xX3_init sz0 post 57 (kX3_init_57 (sz0 + 132)) (z_Jr post) := s_lp (body := bX3_init_57 (sz0 + 132)) (s_iload_n dX3_init_57 rfl (s_iconst dX3_init_58 (by decide) (s_icmp_ge (tgt := 81) dX3_init_59 (by decide) (s_dn tX3_init_81) (s_aload_n dX3_init_62 rfl (s_getR (f := 3) dX3_init_63 clX3 (by decide) rfl wd161 (s_iload_n dX3_init_66 rfl (s_new dX3_init_67 clX1 dfX1 wd159 wd163 wd51 rmX3_init (by decide) rfl (s_dup dX3_init_70 (s_ctorN (host := RX11) dX3_init_71 mX1_init meX1_init wd164 rfl rfl reX1_init rmX3_init (fitX3_init_71) rfl (by decide) rfl neX3_24 (s_aast dX3_init_74 (s_iinc dX3_init_75 (by decide) (s_goto (tgt := 57) dX3_init_78 (by decide) s_ag))))))))))))
set_option maxRecDepth 100000 in
theorem tX3_init_55 {l : Launch} {D : zD} {B sz0 : Nat} {post : Option Value → zS → Prop} : zSnd l D B xX3_init sz0 post 55 (kX3_init_55 (sz0 + 132)) (z_Jr post) := (s_iconst dX3_init_55 (by decide) (s_istore_n dX3_init_56 rfl tX3_init_57))
set_option maxRecDepth 100000 in
theorem tX3_init_30 {l : Launch} {D : zD} {B sz0 : Nat} {post : Option Value → zS → Prop} : zSnd l D B xX3_init sz0 post 30 (kX3_init_30 (sz0 + 132)) (z_Jr post) := s_lp (body := bX3_init_30 (sz0 + 132)) (s_iload_n dX3_init_30 rfl (s_bipush dX3_init_31 (by decide) (s_icmp_ge (tgt := 55) dX3_init_33 (by decide) (s_dn tX3_init_55) (s_aload_n dX3_init_36 rfl (s_getR (f := 2) dX3_init_37 clX3 (by decide) rfl wd160 (s_iload_n dX3_init_40 rfl (s_new dX3_init_41 clX1 dfX1 wd159 wd163 wd51 rmX3_init (by decide) rfl (s_dup dX3_init_44 (s_ctorN (host := RX11) dX3_init_45 mX1_init meX1_init wd164 rfl rfl reX1_init rmX3_init (fitX3_init_45) rfl (by decide) rfl neX3_24 (s_aast dX3_init_48 (s_iinc dX3_init_49 (by decide) (s_goto (tgt := 30) dX3_init_52 (by decide) s_ag))))))))))))
set_option maxRecDepth 100000 in
theorem tX3_init_0 {l : Launch} {D : zD} {B sz0 : Nat} {post : Option Value → zS → Prop} : zSnd l D B xX3_init sz0 post 0 (kX3_init_0 (sz0 + 132)) (z_Jr post) := (s_aload_n dX3_init_0 rfl (s_obj dX3_init_1 wd158 wd1 wd2 (by decide) (s_aload_n dX3_init_4 rfl (s_bipush dX3_init_5 (by decide) (s_newq dX3_init_7 wd159 rmX3_init rfl (by decide) rfl (s_putRF (f := 2) dX3_init_10 clX3 (by decide) rfl rfl rfl rfl (Or.inr ⟨_, rfl⟩) wd160 (s_aload_n dX3_init_13 rfl (s_iconst dX3_init_14 (by decide) (s_newq dX3_init_15 wd159 rmX3_init rfl (by decide) rfl (s_putRF (f := 3) dX3_init_18 clX3 (by decide) rfl rfl rfl rfl (Or.inr ⟨_, rfl⟩) wd161 (s_aload_n dX3_init_21 rfl (s_iconst dX3_init_22 (by decide) (s_newa (t := 2) dX3_init_23 (by decide) rfl wd13 rmX3_init rfl (by decide) rfl (s_putRF (f := 4) dX3_init_25 clX3 (by decide) rfl rfl rfl rfl (Or.inr ⟨_, rfl⟩) wd162 (s_iconst dX3_init_28 (by decide) (s_istore_n dX3_init_29 rfl tX3_init_30))))))))))))))))
noncomputable def fX3_init : zF := fun as σ => z_fn 2 (kX3_init_0 (z_sz σ + 132)) as σ
theorem mX3_init {l : Launch} {D : zD} {B : Nat} : z_MF l D B yX3_init xX3_init fX3_init := z_mf (by decide) rfl (fun _ => rfl) rfl (fun as σ r h => ⟨z_fn_len h, kX3_init_0 (z_sz σ + 132), z_fn_run h, fun _ => tX3_init_0⟩)
/-! ===== RowChildren$Memory.remember ===== -/
theorem dX3_remember_0 : decode cX3_remember 0 = .ok (.aload_n 0, 1) := by decide +kernel
theorem dX3_remember_1 : decode cX3_remember 1 = .ok (.aload_n 0, 1) := by decide +kernel
theorem dX3_remember_2 : decode cX3_remember 2 = .ok (.getfield 25, 3) := by decide +kernel
theorem dX3_remember_5 : decode cX3_remember 5 = .ok (.iconst 1, 1) := by decide +kernel
theorem dX3_remember_6 : decode cX3_remember 6 = .ok (.iadd, 1) := by decide +kernel
theorem dX3_remember_7 : decode cX3_remember 7 = .ok (.bipush 40, 2) := by decide +kernel
theorem dX3_remember_9 : decode cX3_remember 9 = .ok (.if_icmp .ge 12, 3) := by decide +kernel
theorem dX3_remember_12 : decode cX3_remember 12 = .ok (.aload_n 0, 1) := by decide +kernel
theorem dX3_remember_13 : decode cX3_remember 13 = .ok (.getfield 25, 3) := by decide +kernel
theorem dX3_remember_16 : decode cX3_remember 16 = .ok (.iconst 1, 1) := by decide +kernel
theorem dX3_remember_17 : decode cX3_remember 17 = .ok (.iadd, 1) := by decide +kernel
theorem dX3_remember_18 : decode cX3_remember 18 = .ok (.goto 4, 3) := by decide +kernel
theorem dX3_remember_21 : decode cX3_remember 21 = .ok (.iconst 0, 1) := by decide +kernel
theorem dX3_remember_22 : decode cX3_remember 22 = .ok (.putfield 25, 3) := by decide +kernel
theorem dX3_remember_25 : decode cX3_remember 25 = .ok (.aload_n 0, 1) := by decide +kernel
theorem dX3_remember_26 : decode cX3_remember 26 = .ok (.getfield 11, 3) := by decide +kernel
theorem dX3_remember_29 : decode cX3_remember 29 = .ok (.aload_n 0, 1) := by decide +kernel
theorem dX3_remember_30 : decode cX3_remember 30 = .ok (.getfield 25, 3) := by decide +kernel
theorem dX3_remember_33 : decode cX3_remember 33 = .ok (.aaload, 1) := by decide +kernel
theorem dX3_remember_34 : decode cX3_remember 34 = .ok (.aload_n 1, 1) := by decide +kernel
theorem dX3_remember_35 : decode cX3_remember 35 = .ok (.invokevirtual 29, 3) := by decide +kernel
theorem dX3_remember_38 : decode cX3_remember 38 = .ok (.aload_n 0, 1) := by decide +kernel
theorem dX3_remember_39 : decode cX3_remember 39 = .ok (.aload_n 0, 1) := by decide +kernel
theorem dX3_remember_40 : decode cX3_remember 40 = .ok (.getfield 33, 3) := by decide +kernel
theorem dX3_remember_43 : decode cX3_remember 43 = .ok (.iconst 1, 1) := by decide +kernel
theorem dX3_remember_44 : decode cX3_remember 44 = .ok (.iadd, 1) := by decide +kernel
theorem dX3_remember_45 : decode cX3_remember 45 = .ok (.bipush 40, 2) := by decide +kernel
theorem dX3_remember_47 : decode cX3_remember 47 = .ok (.invokestatic 36, 3) := by decide +kernel
theorem dX3_remember_50 : decode cX3_remember 50 = .ok (.putfield 33, 3) := by decide +kernel
theorem dX3_remember_53 : decode cX3_remember 53 = .ok (.return_, 1) := by decide +kernel
def xX3_remember : zX := (RX3, cX3_remember, 2, none, false, { frames := 2, cells := 0, slots := 0, locals := 111 }, 0, 0, 0, 0)
theorem rmX3_remember : z_Rm xX3_remember := by unfold z_Rm xX3_remember; exact ⟨by decide, by decide⟩
theorem reX3_remember : z_Re xX3_remember := ⟨rfl, rfl⟩
theorem rlX3_remember : 1 ≤ xX3_remember.2.2.2.2.2.1.frames ∧ 21 ≤ xX3_remember.2.2.2.2.2.1.locals := by unfold xX3_remember; exact ⟨by decide, by decide⟩
theorem meX3_remember : z_Me yX3_remember xX3_remember 1 := ⟨wd173, wd166, by decide, by decide, by decide +kernel⟩
theorem fitX3_remember_35 : z_Fit xX1_copyFrom xX3_remember := by unfold z_Fit; simp only [xX1_copyFrom, xX3_remember]; exact ⟨by decide, by decide⟩
noncomputable def kX3_remember_22 : zK zR := (q_putI 3 1 (q_aload 0 (q_getR 3 2 (q_aload 0 (q_getI 3 1 (q_aald (q_aload 1 (q_callV 1 fX1_copyFrom 1 (q_aload 0 (q_aload 0 (q_getI 3 0 (q_push 1 (q_iadd (q_push 40 (q_mmin (q_putI 3 0 q_vret))))))))))))))))
noncomputable def kX3_remember_0 : zK zR := (q_aload 0 (q_aload 0 (q_getI 3 1 (q_push 1 (q_iadd (q_push 40 (q_icmp_ge (q_push 0 kX3_remember_22) (q_aload 0 (q_getI 3 1 (q_push 1 (q_iadd kX3_remember_22)))))))))))
set_option maxRecDepth 100000 in
theorem tX3_remember_22 {l : Launch} {D : zD} {B sz0 : Nat} {post : Option Value → zS → Prop} : zSnd l D B xX3_remember sz0 post 22 kX3_remember_22 (z_Jr post) := (s_putI (f := 1) dX3_remember_22 clX3 (by decide) rfl rfl rfl wd167 (s_aload_n dX3_remember_25 rfl (s_getR (f := 2) dX3_remember_26 clX3 (by decide) rfl wd160 (s_aload_n dX3_remember_29 rfl (s_getI (f := 1) dX3_remember_30 clX3 (by decide) rfl wd167 (s_aald dX3_remember_33 (s_aload_n dX3_remember_34 rfl (s_callV (r := (RX1, TX1, 5)) dX3_remember_35 mX1_copyFrom meX1_copyFrom wd168 wd169 rfl rfl reX1_copyFrom rmX3_remember (fitX3_remember_35) wd170 (s_aload_n dX3_remember_38 rfl (s_aload_n dX3_remember_39 rfl (s_getI (f := 0) dX3_remember_40 clX3 (by decide) rfl wd171 (s_iconst dX3_remember_43 (by decide) (s_iadd dX3_remember_44 (s_bipush dX3_remember_45 (by decide) (s_mmin dX3_remember_47 wd172 wd148 wd149 wd150 (rlX3_remember) rmX3_remember (s_putI (f := 0) dX3_remember_50 clX3 (by decide) rfl rfl rfl wd171 (s_vret dX3_remember_53 rfl)))))))))))))))))
set_option maxRecDepth 100000 in
theorem tX3_remember_0 {l : Launch} {D : zD} {B sz0 : Nat} {post : Option Value → zS → Prop} : zSnd l D B xX3_remember sz0 post 0 kX3_remember_0 (z_Jr post) := (s_aload_n dX3_remember_0 rfl (s_aload_n dX3_remember_1 rfl (s_getI (f := 1) dX3_remember_2 clX3 (by decide) rfl wd167 (s_iconst dX3_remember_5 (by decide) (s_iadd dX3_remember_6 (s_bipush dX3_remember_7 (by decide) (s_icmp_ge (tgt := 21) dX3_remember_9 (by decide) (s_iconst dX3_remember_21 (by decide) tX3_remember_22) (s_aload_n dX3_remember_12 rfl (s_getI (f := 1) dX3_remember_13 clX3 (by decide) rfl wd167 (s_iconst dX3_remember_16 (by decide) (s_iadd dX3_remember_17 (s_goto (tgt := 22) dX3_remember_18 (by decide) tX3_remember_22))))))))))))
noncomputable def fX3_remember : zF := z_fn 2 kX3_remember_0
theorem mX3_remember {l : Launch} {D : zD} {B : Nat} : z_MF l D B yX3_remember xX3_remember fX3_remember := z_mf (by decide) rfl (fun h => by cases h) rfl (fun as σ r h => ⟨z_fn_len h, kX3_remember_0, z_fn_run h, fun _ => tX3_remember_0⟩)
/-! ===== RowChildren$Memory.recall ===== -/
theorem dX3_recall_0 : decode cX3_recall 0 = .ok (.aload_n 0, 1) := by decide +kernel
theorem dX3_recall_1 : decode cX3_recall 1 = .ok (.getfield 33, 3) := by decide +kernel
theorem dX3_recall_4 : decode cX3_recall 4 = .ok (.ifCond .ne 5, 3) := by decide +kernel
theorem dX3_recall_7 : decode cX3_recall 7 = .ok (.iconst 0, 1) := by decide +kernel
theorem dX3_recall_8 : decode cX3_recall 8 = .ok (.ireturn, 1) := by decide +kernel
theorem dX3_recall_9 : decode cX3_recall 9 = .ok (.aload_n 1, 1) := by decide +kernel
theorem dX3_recall_10 : decode cX3_recall 10 = .ok (.aload_n 0, 1) := by decide +kernel
theorem dX3_recall_11 : decode cX3_recall 11 = .ok (.getfield 11, 3) := by decide +kernel
theorem dX3_recall_14 : decode cX3_recall 14 = .ok (.aload_n 0, 1) := by decide +kernel
theorem dX3_recall_15 : decode cX3_recall 15 = .ok (.getfield 25, 3) := by decide +kernel
theorem dX3_recall_18 : decode cX3_recall 18 = .ok (.aaload, 1) := by decide +kernel
theorem dX3_recall_19 : decode cX3_recall 19 = .ok (.invokevirtual 29, 3) := by decide +kernel
theorem dX3_recall_22 : decode cX3_recall 22 = .ok (.aload_n 0, 1) := by decide +kernel
theorem dX3_recall_23 : decode cX3_recall 23 = .ok (.aload_n 0, 1) := by decide +kernel
theorem dX3_recall_24 : decode cX3_recall 24 = .ok (.getfield 25, 3) := by decide +kernel
theorem dX3_recall_27 : decode cX3_recall 27 = .ok (.ifCond .le 12, 3) := by decide +kernel
theorem dX3_recall_30 : decode cX3_recall 30 = .ok (.aload_n 0, 1) := by decide +kernel
theorem dX3_recall_31 : decode cX3_recall 31 = .ok (.getfield 25, 3) := by decide +kernel
theorem dX3_recall_34 : decode cX3_recall 34 = .ok (.iconst 1, 1) := by decide +kernel
theorem dX3_recall_35 : decode cX3_recall 35 = .ok (.isub, 1) := by decide +kernel
theorem dX3_recall_36 : decode cX3_recall 36 = .ok (.goto 5, 3) := by decide +kernel
theorem dX3_recall_39 : decode cX3_recall 39 = .ok (.bipush 39, 2) := by decide +kernel
theorem dX3_recall_41 : decode cX3_recall 41 = .ok (.putfield 25, 3) := by decide +kernel
theorem dX3_recall_44 : decode cX3_recall 44 = .ok (.aload_n 0, 1) := by decide +kernel
theorem dX3_recall_45 : decode cX3_recall 45 = .ok (.dup, 1) := by decide +kernel
theorem dX3_recall_46 : decode cX3_recall 46 = .ok (.getfield 33, 3) := by decide +kernel
theorem dX3_recall_49 : decode cX3_recall 49 = .ok (.iconst 1, 1) := by decide +kernel
theorem dX3_recall_50 : decode cX3_recall 50 = .ok (.isub, 1) := by decide +kernel
theorem dX3_recall_51 : decode cX3_recall 51 = .ok (.putfield 33, 3) := by decide +kernel
theorem dX3_recall_54 : decode cX3_recall 54 = .ok (.iconst 1, 1) := by decide +kernel
theorem dX3_recall_55 : decode cX3_recall 55 = .ok (.ireturn, 1) := by decide +kernel
def xX3_recall : zX := (RX3, cX3_recall, 2, (some .boolean), false, { frames := 2, cells := 0, slots := 0, locals := 111 }, 0, 0, 0, 0)
theorem rmX3_recall : z_Rm xX3_recall := by unfold z_Rm xX3_recall; exact ⟨by decide, by decide⟩
theorem reX3_recall : z_Re xX3_recall := ⟨rfl, rfl⟩
theorem rlX3_recall : 1 ≤ xX3_recall.2.2.2.2.2.1.frames ∧ 21 ≤ xX3_recall.2.2.2.2.2.1.locals := by unfold xX3_recall; exact ⟨by decide, by decide⟩
theorem meX3_recall : z_Me yX3_recall xX3_recall 1 := ⟨wd174, wd166, by decide, by decide, by decide +kernel⟩
theorem fitX3_recall_19 : z_Fit xX1_copyFrom xX3_recall := by unfold z_Fit; simp only [xX1_copyFrom, xX3_recall]; exact ⟨by decide, by decide⟩
noncomputable def kX3_recall_41 : zK zR := (q_putI 3 1 (q_aload 0 (q_dup (q_getI 3 0 (q_push 1 (q_isub (q_putI 3 0 (q_push 1 q_zret))))))))
noncomputable def kX3_recall_0 : zK zR := (q_aload 0 (q_getI 3 0 (q_if_ne (q_aload 1 (q_aload 0 (q_getR 3 2 (q_aload 0 (q_getI 3 1 (q_aald (q_callV 1 fX1_copyFrom 1 (q_aload 0 (q_aload 0 (q_getI 3 1 (q_if_le (q_push 39 kX3_recall_41) (q_aload 0 (q_getI 3 1 (q_push 1 (q_isub kX3_recall_41))))))))))))))) (q_push 0 q_zret))))
set_option maxRecDepth 100000 in
theorem tX3_recall_41 {l : Launch} {D : zD} {B sz0 : Nat} {post : Option Value → zS → Prop} : zSnd l D B xX3_recall sz0 post 41 kX3_recall_41 (z_Jr post) := (s_putI (f := 1) dX3_recall_41 clX3 (by decide) rfl rfl rfl wd167 (s_aload_n dX3_recall_44 rfl (s_dup dX3_recall_45 (s_getI (f := 0) dX3_recall_46 clX3 (by decide) rfl wd171 (s_iconst dX3_recall_49 (by decide) (s_isub dX3_recall_50 (s_putI (f := 0) dX3_recall_51 clX3 (by decide) rfl rfl rfl wd171 (s_iconst dX3_recall_54 (by decide) (s_zret dX3_recall_55 rfl)))))))))
set_option maxRecDepth 100000 in
theorem tX3_recall_0 {l : Launch} {D : zD} {B sz0 : Nat} {post : Option Value → zS → Prop} : zSnd l D B xX3_recall sz0 post 0 kX3_recall_0 (z_Jr post) := (s_aload_n dX3_recall_0 rfl (s_getI (f := 0) dX3_recall_1 clX3 (by decide) rfl wd171 (s_if_ne (tgt := 9) dX3_recall_4 (by decide) (s_aload_n dX3_recall_9 rfl (s_aload_n dX3_recall_10 rfl (s_getR (f := 2) dX3_recall_11 clX3 (by decide) rfl wd160 (s_aload_n dX3_recall_14 rfl (s_getI (f := 1) dX3_recall_15 clX3 (by decide) rfl wd167 (s_aald dX3_recall_18 (s_callV (r := (RX1, TX1, 5)) dX3_recall_19 mX1_copyFrom meX1_copyFrom wd168 wd169 rfl rfl reX1_copyFrom rmX3_recall (fitX3_recall_19) wd170 (s_aload_n dX3_recall_22 rfl (s_aload_n dX3_recall_23 rfl (s_getI (f := 1) dX3_recall_24 clX3 (by decide) rfl wd167 (s_if_le (tgt := 39) dX3_recall_27 (by decide) (s_bipush dX3_recall_39 (by decide) tX3_recall_41) (s_aload_n dX3_recall_30 rfl (s_getI (f := 1) dX3_recall_31 clX3 (by decide) rfl wd167 (s_iconst dX3_recall_34 (by decide) (s_isub dX3_recall_35 (s_goto (tgt := 41) dX3_recall_36 (by decide) tX3_recall_41)))))))))))))))) (s_iconst dX3_recall_7 (by decide) (s_zret dX3_recall_8 rfl)))))
noncomputable def fX3_recall : zF := z_fn 2 kX3_recall_0
theorem mX3_recall {l : Launch} {D : zD} {B : Nat} : z_MF l D B yX3_recall xX3_recall fX3_recall := z_mf (by decide) rfl (fun h => by cases h) rfl (fun as σ r h => ⟨z_fn_len h, kX3_recall_0, z_fn_run h, fun _ => tX3_recall_0⟩)
/-! ===== RowChildren$Memory.clearUndone ===== -/
theorem dX3_clearUndone_0 : decode cX3_clearUndone 0 = .ok (.aload_n 0, 1) := by decide +kernel
theorem dX3_clearUndone_1 : decode cX3_clearUndone 1 = .ok (.iconst 0, 1) := by decide +kernel
theorem dX3_clearUndone_2 : decode cX3_clearUndone 2 = .ok (.putfield 33, 3) := by decide +kernel
theorem dX3_clearUndone_5 : decode cX3_clearUndone 5 = .ok (.return_, 1) := by decide +kernel
def xX3_clearUndone : zX := (RX3, cX3_clearUndone, 1, none, false, { frames := 1, cells := 0, slots := 0, locals := 90 }, 0, 0, 0, 0)
theorem rmX3_clearUndone : z_Rm xX3_clearUndone := by unfold z_Rm xX3_clearUndone; exact ⟨by decide, by decide⟩
theorem reX3_clearUndone : z_Re xX3_clearUndone := ⟨rfl, rfl⟩
theorem rlX3_clearUndone : 1 ≤ xX3_clearUndone.2.2.2.2.2.1.frames ∧ 21 ≤ xX3_clearUndone.2.2.2.2.2.1.locals := by unfold xX3_clearUndone; exact ⟨by decide, by decide⟩
theorem meX3_clearUndone : z_Me yX3_clearUndone xX3_clearUndone 0 := ⟨wd175, wd166, by decide, by decide, by decide +kernel⟩
noncomputable def kX3_clearUndone_0 : zK zR := (q_aload 0 (q_push 0 (q_putI 3 0 q_vret)))
set_option maxRecDepth 100000 in
theorem tX3_clearUndone_0 {l : Launch} {D : zD} {B sz0 : Nat} {post : Option Value → zS → Prop} : zSnd l D B xX3_clearUndone sz0 post 0 kX3_clearUndone_0 (z_Jr post) := (s_aload_n dX3_clearUndone_0 rfl (s_iconst dX3_clearUndone_1 (by decide) (s_putI (f := 0) dX3_clearUndone_2 clX3 (by decide) rfl rfl rfl wd171 (s_vret dX3_clearUndone_5 rfl))))
noncomputable def fX3_clearUndone : zF := z_fn 1 kX3_clearUndone_0
theorem mX3_clearUndone {l : Launch} {D : zD} {B : Nat} : z_MF l D B yX3_clearUndone xX3_clearUndone fX3_clearUndone := z_mf (by decide) rfl (fun h => by cases h) rfl (fun as σ r h => ⟨z_fn_len h, kX3_clearUndone_0, z_fn_run h, fun _ => tX3_clearUndone_0⟩)
/-! ===== RowChildren$Memory.clearSlots ===== -/
theorem dX3_clearSlots_0 : decode cX3_clearSlots 0 = .ok (.iconst 0, 1) := by decide +kernel
theorem dX3_clearSlots_1 : decode cX3_clearSlots 1 = .ok (.istore_n 1, 1) := by decide +kernel
theorem dX3_clearSlots_2 : decode cX3_clearSlots 2 = .ok (.iload_n 1, 1) := by decide +kernel
theorem dX3_clearSlots_3 : decode cX3_clearSlots 3 = .ok (.iconst 3, 1) := by decide +kernel
theorem dX3_clearSlots_4 : decode cX3_clearSlots 4 = .ok (.if_icmp .ge 16, 3) := by decide +kernel
theorem dX3_clearSlots_7 : decode cX3_clearSlots 7 = .ok (.aload_n 0, 1) := by decide +kernel
theorem dX3_clearSlots_8 : decode cX3_clearSlots 8 = .ok (.getfield 20, 3) := by decide +kernel
theorem dX3_clearSlots_11 : decode cX3_clearSlots 11 = .ok (.iload_n 1, 1) := by decide +kernel
theorem dX3_clearSlots_12 : decode cX3_clearSlots 12 = .ok (.iconst 0, 1) := by decide +kernel
theorem dX3_clearSlots_13 : decode cX3_clearSlots 13 = .ok (.bastore, 1) := by decide +kernel
theorem dX3_clearSlots_14 : decode cX3_clearSlots 14 = .ok (.iinc 1 1, 3) := by decide +kernel
theorem dX3_clearSlots_17 : decode cX3_clearSlots 17 = .ok (.goto (-15), 3) := by decide +kernel
theorem dX3_clearSlots_20 : decode cX3_clearSlots 20 = .ok (.return_, 1) := by decide +kernel
def xX3_clearSlots : zX := (RX3, cX3_clearSlots, 2, none, false, { frames := 1, cells := 0, slots := 0, locals := 90 }, 0, 0, 0, 0)
theorem rmX3_clearSlots : z_Rm xX3_clearSlots := by unfold z_Rm xX3_clearSlots; exact ⟨by decide, by decide⟩
theorem reX3_clearSlots : z_Re xX3_clearSlots := ⟨rfl, rfl⟩
theorem rlX3_clearSlots : 1 ≤ xX3_clearSlots.2.2.2.2.2.1.frames ∧ 21 ≤ xX3_clearSlots.2.2.2.2.2.1.locals := by unfold xX3_clearSlots; exact ⟨by decide, by decide⟩
theorem meX3_clearSlots : z_Me yX3_clearSlots xX3_clearSlots 0 := ⟨wd176, wd166, by decide, by decide, by decide +kernel⟩
noncomputable def kX3_clearSlots_20 : zK zR := q_vret
noncomputable def bX3_clearSlots_2 : zK ((zL × zS) ⊕ zR) := (q_iload 1 (q_push 3 (q_icmp_ge (q_dn kX3_clearSlots_20) (q_aload 0 (q_getR 3 4 (q_iload 1 (q_push 0 (q_zast (q_iinc 1 1 q_ag)))))))))
noncomputable def kX3_clearSlots_2 : zK zR := q_lp (bX3_clearSlots_2)
noncomputable def kX3_clearSlots_0 : zK zR := (q_push 0 (q_istore 1 kX3_clearSlots_2))
set_option maxRecDepth 100000 in
theorem tX3_clearSlots_20 {l : Launch} {D : zD} {B sz0 : Nat} {post : Option Value → zS → Prop} : zSnd l D B xX3_clearSlots sz0 post 20 kX3_clearSlots_20 (z_Jr post) := (s_vret dX3_clearSlots_20 rfl)
set_option maxRecDepth 100000 in
theorem tX3_clearSlots_2 {l : Launch} {D : zD} {B sz0 : Nat} {post : Option Value → zS → Prop} : zSnd l D B xX3_clearSlots sz0 post 2 kX3_clearSlots_2 (z_Jr post) := s_lp (body := bX3_clearSlots_2) (s_iload_n dX3_clearSlots_2 rfl (s_iconst dX3_clearSlots_3 (by decide) (s_icmp_ge (tgt := 20) dX3_clearSlots_4 (by decide) (s_dn tX3_clearSlots_20) (s_aload_n dX3_clearSlots_7 rfl (s_getR (f := 4) dX3_clearSlots_8 clX3 (by decide) rfl wd162 (s_iload_n dX3_clearSlots_11 rfl (s_iconst dX3_clearSlots_12 (by decide) (s_zast dX3_clearSlots_13 (s_iinc dX3_clearSlots_14 (by decide) (s_goto (tgt := 2) dX3_clearSlots_17 (by decide) s_ag))))))))))
set_option maxRecDepth 100000 in
theorem tX3_clearSlots_0 {l : Launch} {D : zD} {B sz0 : Nat} {post : Option Value → zS → Prop} : zSnd l D B xX3_clearSlots sz0 post 0 kX3_clearSlots_0 (z_Jr post) := (s_iconst dX3_clearSlots_0 (by decide) (s_istore_n dX3_clearSlots_1 rfl tX3_clearSlots_2))
noncomputable def fX3_clearSlots : zF := z_fn 2 kX3_clearSlots_0
theorem mX3_clearSlots {l : Launch} {D : zD} {B : Nat} : z_MF l D B yX3_clearSlots xX3_clearSlots fX3_clearSlots := z_mf (by decide) rfl (fun h => by cases h) rfl (fun as σ r h => ⟨z_fn_len h, kX3_clearSlots_0, z_fn_run h, fun _ => tX3_clearSlots_0⟩)
/-! ===== RowChildren$Memory.keep ===== -/
theorem dX3_keep_0 : decode cX3_keep 0 = .ok (.iload_n 1, 1) := by decide +kernel
theorem dX3_keep_1 : decode cX3_keep 1 = .ok (.ifCond .lt 8, 3) := by decide +kernel
theorem dX3_keep_4 : decode cX3_keep 4 = .ok (.iload_n 1, 1) := by decide +kernel
theorem dX3_keep_5 : decode cX3_keep 5 = .ok (.iconst 3, 1) := by decide +kernel
theorem dX3_keep_6 : decode cX3_keep 6 = .ok (.if_icmp .lt 5, 3) := by decide +kernel
theorem dX3_keep_9 : decode cX3_keep 9 = .ok (.iconst 0, 1) := by decide +kernel
theorem dX3_keep_10 : decode cX3_keep 10 = .ok (.ireturn, 1) := by decide +kernel
theorem dX3_keep_11 : decode cX3_keep 11 = .ok (.aload_n 0, 1) := by decide +kernel
theorem dX3_keep_12 : decode cX3_keep 12 = .ok (.getfield 17, 3) := by decide +kernel
theorem dX3_keep_15 : decode cX3_keep 15 = .ok (.iload_n 1, 1) := by decide +kernel
theorem dX3_keep_16 : decode cX3_keep 16 = .ok (.aaload, 1) := by decide +kernel
theorem dX3_keep_17 : decode cX3_keep 17 = .ok (.aload_n 2, 1) := by decide +kernel
theorem dX3_keep_18 : decode cX3_keep 18 = .ok (.invokevirtual 29, 3) := by decide +kernel
theorem dX3_keep_21 : decode cX3_keep 21 = .ok (.aload_n 0, 1) := by decide +kernel
theorem dX3_keep_22 : decode cX3_keep 22 = .ok (.getfield 20, 3) := by decide +kernel
theorem dX3_keep_25 : decode cX3_keep 25 = .ok (.iload_n 1, 1) := by decide +kernel
theorem dX3_keep_26 : decode cX3_keep 26 = .ok (.iconst 1, 1) := by decide +kernel
theorem dX3_keep_27 : decode cX3_keep 27 = .ok (.bastore, 1) := by decide +kernel
theorem dX3_keep_28 : decode cX3_keep 28 = .ok (.iconst 1, 1) := by decide +kernel
theorem dX3_keep_29 : decode cX3_keep 29 = .ok (.ireturn, 1) := by decide +kernel
def xX3_keep : zX := (RX3, cX3_keep, 3, (some .boolean), false, { frames := 2, cells := 0, slots := 0, locals := 111 }, 0, 0, 0, 0)
theorem rmX3_keep : z_Rm xX3_keep := by unfold z_Rm xX3_keep; exact ⟨by decide, by decide⟩
theorem reX3_keep : z_Re xX3_keep := ⟨rfl, rfl⟩
theorem rlX3_keep : 1 ≤ xX3_keep.2.2.2.2.2.1.frames ∧ 21 ≤ xX3_keep.2.2.2.2.2.1.locals := by unfold xX3_keep; exact ⟨by decide, by decide⟩
theorem meX3_keep : z_Me yX3_keep xX3_keep 2 := ⟨wd177, wd166, by decide, by decide, by decide +kernel⟩
theorem fitX3_keep_18 : z_Fit xX1_copyFrom xX3_keep := by unfold z_Fit; simp only [xX1_copyFrom, xX3_keep]; exact ⟨by decide, by decide⟩
noncomputable def kX3_keep_9 : zK zR := (q_push 0 q_zret)
noncomputable def kX3_keep_0 : zK zR := (q_iload 1 (q_if_lt kX3_keep_9 (q_iload 1 (q_push 3 (q_icmp_lt (q_aload 0 (q_getR 3 3 (q_iload 1 (q_aald (q_aload 2 (q_callV 1 fX1_copyFrom 1 (q_aload 0 (q_getR 3 4 (q_iload 1 (q_push 1 (q_zast (q_push 1 q_zret)))))))))))) kX3_keep_9)))))
set_option maxRecDepth 100000 in
theorem tX3_keep_9 {l : Launch} {D : zD} {B sz0 : Nat} {post : Option Value → zS → Prop} : zSnd l D B xX3_keep sz0 post 9 kX3_keep_9 (z_Jr post) := (s_iconst dX3_keep_9 (by decide) (s_zret dX3_keep_10 rfl))
set_option maxRecDepth 100000 in
theorem tX3_keep_0 {l : Launch} {D : zD} {B sz0 : Nat} {post : Option Value → zS → Prop} : zSnd l D B xX3_keep sz0 post 0 kX3_keep_0 (z_Jr post) := (s_iload_n dX3_keep_0 rfl (s_if_lt (tgt := 9) dX3_keep_1 (by decide) tX3_keep_9 (s_iload_n dX3_keep_4 rfl (s_iconst dX3_keep_5 (by decide) (s_icmp_lt (tgt := 11) dX3_keep_6 (by decide) (s_aload_n dX3_keep_11 rfl (s_getR (f := 3) dX3_keep_12 clX3 (by decide) rfl wd161 (s_iload_n dX3_keep_15 rfl (s_aald dX3_keep_16 (s_aload_n dX3_keep_17 rfl (s_callV (r := (RX1, TX1, 5)) dX3_keep_18 mX1_copyFrom meX1_copyFrom wd168 wd169 rfl rfl reX1_copyFrom rmX3_keep (fitX3_keep_18) wd170 (s_aload_n dX3_keep_21 rfl (s_getR (f := 4) dX3_keep_22 clX3 (by decide) rfl wd162 (s_iload_n dX3_keep_25 rfl (s_iconst dX3_keep_26 (by decide) (s_zast dX3_keep_27 (s_iconst dX3_keep_28 (by decide) (s_zret dX3_keep_29 rfl))))))))))))) tX3_keep_9)))))
noncomputable def fX3_keep : zF := z_fn 3 kX3_keep_0
theorem mX3_keep {l : Launch} {D : zD} {B : Nat} : z_MF l D B yX3_keep xX3_keep fX3_keep := z_mf (by decide) rfl (fun h => by cases h) rfl (fun as σ r h => ⟨z_fn_len h, kX3_keep_0, z_fn_run h, fun _ => tX3_keep_0⟩)
/-! ===== RowChildren$Memory.bringBack ===== -/
theorem dX3_bringBack_0 : decode cX3_bringBack 0 = .ok (.iload_n 1, 1) := by decide +kernel
theorem dX3_bringBack_1 : decode cX3_bringBack 1 = .ok (.ifCond .lt 17, 3) := by decide +kernel
theorem dX3_bringBack_4 : decode cX3_bringBack 4 = .ok (.iload_n 1, 1) := by decide +kernel
theorem dX3_bringBack_5 : decode cX3_bringBack 5 = .ok (.iconst 3, 1) := by decide +kernel
theorem dX3_bringBack_6 : decode cX3_bringBack 6 = .ok (.if_icmp .ge 12, 3) := by decide +kernel
theorem dX3_bringBack_9 : decode cX3_bringBack 9 = .ok (.aload_n 0, 1) := by decide +kernel
theorem dX3_bringBack_10 : decode cX3_bringBack 10 = .ok (.getfield 20, 3) := by decide +kernel
theorem dX3_bringBack_13 : decode cX3_bringBack 13 = .ok (.iload_n 1, 1) := by decide +kernel
theorem dX3_bringBack_14 : decode cX3_bringBack 14 = .ok (.baload, 1) := by decide +kernel
theorem dX3_bringBack_15 : decode cX3_bringBack 15 = .ok (.ifCond .ne 5, 3) := by decide +kernel
theorem dX3_bringBack_18 : decode cX3_bringBack 18 = .ok (.iconst 0, 1) := by decide +kernel
theorem dX3_bringBack_19 : decode cX3_bringBack 19 = .ok (.ireturn, 1) := by decide +kernel
theorem dX3_bringBack_20 : decode cX3_bringBack 20 = .ok (.aload_n 2, 1) := by decide +kernel
theorem dX3_bringBack_21 : decode cX3_bringBack 21 = .ok (.aload_n 0, 1) := by decide +kernel
theorem dX3_bringBack_22 : decode cX3_bringBack 22 = .ok (.getfield 17, 3) := by decide +kernel
theorem dX3_bringBack_25 : decode cX3_bringBack 25 = .ok (.iload_n 1, 1) := by decide +kernel
theorem dX3_bringBack_26 : decode cX3_bringBack 26 = .ok (.aaload, 1) := by decide +kernel
theorem dX3_bringBack_27 : decode cX3_bringBack 27 = .ok (.invokevirtual 29, 3) := by decide +kernel
theorem dX3_bringBack_30 : decode cX3_bringBack 30 = .ok (.iconst 1, 1) := by decide +kernel
theorem dX3_bringBack_31 : decode cX3_bringBack 31 = .ok (.ireturn, 1) := by decide +kernel
def xX3_bringBack : zX := (RX3, cX3_bringBack, 3, (some .boolean), false, { frames := 2, cells := 0, slots := 0, locals := 111 }, 0, 0, 0, 0)
theorem rmX3_bringBack : z_Rm xX3_bringBack := by unfold z_Rm xX3_bringBack; exact ⟨by decide, by decide⟩
theorem reX3_bringBack : z_Re xX3_bringBack := ⟨rfl, rfl⟩
theorem rlX3_bringBack : 1 ≤ xX3_bringBack.2.2.2.2.2.1.frames ∧ 21 ≤ xX3_bringBack.2.2.2.2.2.1.locals := by unfold xX3_bringBack; exact ⟨by decide, by decide⟩
theorem meX3_bringBack : z_Me yX3_bringBack xX3_bringBack 2 := ⟨wd178, wd166, by decide, by decide, by decide +kernel⟩
theorem fitX3_bringBack_27 : z_Fit xX1_copyFrom xX3_bringBack := by unfold z_Fit; simp only [xX1_copyFrom, xX3_bringBack]; exact ⟨by decide, by decide⟩
noncomputable def kX3_bringBack_18 : zK zR := (q_push 0 q_zret)
noncomputable def kX3_bringBack_0 : zK zR := (q_iload 1 (q_if_lt kX3_bringBack_18 (q_iload 1 (q_push 3 (q_icmp_ge kX3_bringBack_18 (q_aload 0 (q_getR 3 4 (q_iload 1 (q_zald (q_if_ne (q_aload 2 (q_aload 0 (q_getR 3 3 (q_iload 1 (q_aald (q_callV 1 fX1_copyFrom 1 (q_push 1 q_zret))))))) kX3_bringBack_18))))))))))
set_option maxRecDepth 100000 in
theorem tX3_bringBack_18 {l : Launch} {D : zD} {B sz0 : Nat} {post : Option Value → zS → Prop} : zSnd l D B xX3_bringBack sz0 post 18 kX3_bringBack_18 (z_Jr post) := (s_iconst dX3_bringBack_18 (by decide) (s_zret dX3_bringBack_19 rfl))
set_option maxRecDepth 100000 in
theorem tX3_bringBack_0 {l : Launch} {D : zD} {B sz0 : Nat} {post : Option Value → zS → Prop} : zSnd l D B xX3_bringBack sz0 post 0 kX3_bringBack_0 (z_Jr post) := (s_iload_n dX3_bringBack_0 rfl (s_if_lt (tgt := 18) dX3_bringBack_1 (by decide) tX3_bringBack_18 (s_iload_n dX3_bringBack_4 rfl (s_iconst dX3_bringBack_5 (by decide) (s_icmp_ge (tgt := 18) dX3_bringBack_6 (by decide) tX3_bringBack_18 (s_aload_n dX3_bringBack_9 rfl (s_getR (f := 4) dX3_bringBack_10 clX3 (by decide) rfl wd162 (s_iload_n dX3_bringBack_13 rfl (s_zald dX3_bringBack_14 (s_if_ne (tgt := 20) dX3_bringBack_15 (by decide) (s_aload_n dX3_bringBack_20 rfl (s_aload_n dX3_bringBack_21 rfl (s_getR (f := 3) dX3_bringBack_22 clX3 (by decide) rfl wd161 (s_iload_n dX3_bringBack_25 rfl (s_aald dX3_bringBack_26 (s_callV (r := (RX1, TX1, 5)) dX3_bringBack_27 mX1_copyFrom meX1_copyFrom wd168 wd169 rfl rfl reX1_copyFrom rmX3_bringBack (fitX3_bringBack_27) wd170 (s_iconst dX3_bringBack_30 (by decide) (s_zret dX3_bringBack_31 rfl)))))))) tX3_bringBack_18))))))))))
noncomputable def fX3_bringBack : zF := z_fn 3 kX3_bringBack_0
theorem mX3_bringBack {l : Launch} {D : zD} {B : Nat} : z_MF l D B yX3_bringBack xX3_bringBack fX3_bringBack := z_mf (by decide) rfl (fun h => by cases h) rfl (fun as σ r h => ⟨z_fn_len h, kX3_bringBack_0, z_fn_run h, fun _ => tX3_bringBack_0⟩)
/-! ===== RowChildren$Memory.slotsHeld ===== -/
theorem dX3_slotsHeld_0 : decode cX3_slotsHeld 0 = .ok (.iconst 0, 1) := by decide +kernel
theorem dX3_slotsHeld_1 : decode cX3_slotsHeld 1 = .ok (.istore_n 1, 1) := by decide +kernel
theorem dX3_slotsHeld_2 : decode cX3_slotsHeld 2 = .ok (.iconst 0, 1) := by decide +kernel
theorem dX3_slotsHeld_3 : decode cX3_slotsHeld 3 = .ok (.istore_n 2, 1) := by decide +kernel
theorem dX3_slotsHeld_4 : decode cX3_slotsHeld 4 = .ok (.iload_n 2, 1) := by decide +kernel
theorem dX3_slotsHeld_5 : decode cX3_slotsHeld 5 = .ok (.iconst 3, 1) := by decide +kernel
theorem dX3_slotsHeld_6 : decode cX3_slotsHeld 6 = .ok (.if_icmp .ge 26, 3) := by decide +kernel
theorem dX3_slotsHeld_9 : decode cX3_slotsHeld 9 = .ok (.iload_n 1, 1) := by decide +kernel
theorem dX3_slotsHeld_10 : decode cX3_slotsHeld 10 = .ok (.aload_n 0, 1) := by decide +kernel
theorem dX3_slotsHeld_11 : decode cX3_slotsHeld 11 = .ok (.getfield 20, 3) := by decide +kernel
theorem dX3_slotsHeld_14 : decode cX3_slotsHeld 14 = .ok (.iload_n 2, 1) := by decide +kernel
theorem dX3_slotsHeld_15 : decode cX3_slotsHeld 15 = .ok (.baload, 1) := by decide +kernel
theorem dX3_slotsHeld_16 : decode cX3_slotsHeld 16 = .ok (.ifCond .eq 7, 3) := by decide +kernel
theorem dX3_slotsHeld_19 : decode cX3_slotsHeld 19 = .ok (.iconst 1, 1) := by decide +kernel
theorem dX3_slotsHeld_20 : decode cX3_slotsHeld 20 = .ok (.goto 4, 3) := by decide +kernel
theorem dX3_slotsHeld_23 : decode cX3_slotsHeld 23 = .ok (.iconst 0, 1) := by decide +kernel
theorem dX3_slotsHeld_24 : decode cX3_slotsHeld 24 = .ok (.iadd, 1) := by decide +kernel
theorem dX3_slotsHeld_25 : decode cX3_slotsHeld 25 = .ok (.istore_n 1, 1) := by decide +kernel
theorem dX3_slotsHeld_26 : decode cX3_slotsHeld 26 = .ok (.iinc 2 1, 3) := by decide +kernel
theorem dX3_slotsHeld_29 : decode cX3_slotsHeld 29 = .ok (.goto (-25), 3) := by decide +kernel
theorem dX3_slotsHeld_32 : decode cX3_slotsHeld 32 = .ok (.iload_n 1, 1) := by decide +kernel
theorem dX3_slotsHeld_33 : decode cX3_slotsHeld 33 = .ok (.ireturn, 1) := by decide +kernel
def xX3_slotsHeld : zX := (RX3, cX3_slotsHeld, 3, (some .int), false, { frames := 1, cells := 0, slots := 0, locals := 90 }, 0, 0, 0, 0)
theorem rmX3_slotsHeld : z_Rm xX3_slotsHeld := by unfold z_Rm xX3_slotsHeld; exact ⟨by decide, by decide⟩
theorem reX3_slotsHeld : z_Re xX3_slotsHeld := ⟨rfl, rfl⟩
theorem rlX3_slotsHeld : 1 ≤ xX3_slotsHeld.2.2.2.2.2.1.frames ∧ 21 ≤ xX3_slotsHeld.2.2.2.2.2.1.locals := by unfold xX3_slotsHeld; exact ⟨by decide, by decide⟩
theorem meX3_slotsHeld : z_Me yX3_slotsHeld xX3_slotsHeld 0 := ⟨wd179, wd166, by decide, by decide, by decide +kernel⟩
noncomputable def kX3_slotsHeld_32 : zK zR := (q_iload 1 q_iret)
noncomputable def kX3_slotsHeld_24 : zK ((zL × zS) ⊕ zR) := (q_iadd (q_istore 1 (q_iinc 2 1 q_ag)))
noncomputable def bX3_slotsHeld_4 : zK ((zL × zS) ⊕ zR) := (q_iload 2 (q_push 3 (q_icmp_ge (q_dn kX3_slotsHeld_32) (q_iload 1 (q_aload 0 (q_getR 3 4 (q_iload 2 (q_zald (q_if_eq (q_push 0 kX3_slotsHeld_24) (q_push 1 kX3_slotsHeld_24))))))))))
noncomputable def kX3_slotsHeld_4 : zK zR := q_lp (bX3_slotsHeld_4)
noncomputable def kX3_slotsHeld_0 : zK zR := (q_push 0 (q_istore 1 (q_push 0 (q_istore 2 kX3_slotsHeld_4))))
set_option maxRecDepth 100000 in
theorem tX3_slotsHeld_32 {l : Launch} {D : zD} {B sz0 : Nat} {post : Option Value → zS → Prop} : zSnd l D B xX3_slotsHeld sz0 post 32 kX3_slotsHeld_32 (z_Jr post) := (s_iload_n dX3_slotsHeld_32 rfl (s_iret dX3_slotsHeld_33 rfl))
set_option maxRecDepth 100000 in
theorem tX3_slotsHeld_24 {l : Launch} {D : zD} {B sz0 : Nat} {post : Option Value → zS → Prop} : zSnd l D B xX3_slotsHeld sz0 post 24 kX3_slotsHeld_24 (z_Jl l D B xX3_slotsHeld sz0 post 4 (z_Jr post)) := (s_iadd dX3_slotsHeld_24 (s_istore_n dX3_slotsHeld_25 rfl (s_iinc dX3_slotsHeld_26 (by decide) (s_goto (tgt := 4) dX3_slotsHeld_29 (by decide) s_ag))))
set_option maxRecDepth 100000 in
theorem tX3_slotsHeld_4 {l : Launch} {D : zD} {B sz0 : Nat} {post : Option Value → zS → Prop} : zSnd l D B xX3_slotsHeld sz0 post 4 kX3_slotsHeld_4 (z_Jr post) := s_lp (body := bX3_slotsHeld_4) (s_iload_n dX3_slotsHeld_4 rfl (s_iconst dX3_slotsHeld_5 (by decide) (s_icmp_ge (tgt := 32) dX3_slotsHeld_6 (by decide) (s_dn tX3_slotsHeld_32) (s_iload_n dX3_slotsHeld_9 rfl (s_aload_n dX3_slotsHeld_10 rfl (s_getR (f := 4) dX3_slotsHeld_11 clX3 (by decide) rfl wd162 (s_iload_n dX3_slotsHeld_14 rfl (s_zald dX3_slotsHeld_15 (s_if_eq (tgt := 23) dX3_slotsHeld_16 (by decide) (s_iconst dX3_slotsHeld_23 (by decide) tX3_slotsHeld_24) (s_iconst dX3_slotsHeld_19 (by decide) (s_goto (tgt := 24) dX3_slotsHeld_20 (by decide) tX3_slotsHeld_24)))))))))))
set_option maxRecDepth 100000 in
theorem tX3_slotsHeld_0 {l : Launch} {D : zD} {B sz0 : Nat} {post : Option Value → zS → Prop} : zSnd l D B xX3_slotsHeld sz0 post 0 kX3_slotsHeld_0 (z_Jr post) := (s_iconst dX3_slotsHeld_0 (by decide) (s_istore_n dX3_slotsHeld_1 rfl (s_iconst dX3_slotsHeld_2 (by decide) (s_istore_n dX3_slotsHeld_3 rfl tX3_slotsHeld_4))))
noncomputable def fX3_slotsHeld : zF := z_fn 3 kX3_slotsHeld_0
theorem mX3_slotsHeld {l : Launch} {D : zD} {B : Nat} : z_MF l D B yX3_slotsHeld xX3_slotsHeld fX3_slotsHeld := z_mf (by decide) rfl (fun h => by cases h) rfl (fun as σ r h => ⟨z_fn_len h, kX3_slotsHeld_0, z_fn_run h, fun _ => tX3_slotsHeld_0⟩)
/-! ===== RowChildren$Repainting.<init> ===== -/
theorem dX4_init_0 : decode cX4_init 0 = .ok (.aload_n 0, 1) := by decide +kernel
theorem dX4_init_1 : decode cX4_init 1 = .ok (.invokespecial 3, 3) := by decide +kernel
theorem dX4_init_4 : decode cX4_init 4 = .ok (.aload_n 0, 1) := by decide +kernel
theorem dX4_init_5 : decode cX4_init 5 = .ok (.new 9, 3) := by decide +kernel
theorem dX4_init_8 : decode cX4_init 8 = .ok (.dup, 1) := by decide +kernel
theorem dX4_init_9 : decode cX4_init 9 = .ok (.invokespecial 11, 3) := by decide +kernel
theorem dX4_init_12 : decode cX4_init 12 = .ok (.putfield 12, 3) := by decide +kernel
theorem dX4_init_15 : decode cX4_init 15 = .ok (.aload_n 0, 1) := by decide +kernel
theorem dX4_init_16 : decode cX4_init 16 = .ok (.bipush 32, 2) := by decide +kernel
theorem dX4_init_18 : decode cX4_init 18 = .ok (.newarray .int, 2) := by decide +kernel
theorem dX4_init_20 : decode cX4_init 20 = .ok (.putfield 18, 3) := by decide +kernel
theorem dX4_init_23 : decode cX4_init 23 = .ok (.return_, 1) := by decide +kernel
def xX4_init : zX := (RX4, cX4_init, 1, none, true, { frames := 2, cells := 4, slots := 8192, locals := 110 }, 4, 2048, 0, 0)
theorem rmX4_init : z_Rm xX4_init := by unfold z_Rm xX4_init; exact ⟨by decide, by decide⟩
theorem reX4_init : z_Re xX4_init := ⟨rfl, rfl⟩
theorem rlX4_init : 1 ≤ xX4_init.2.2.2.2.2.1.frames ∧ 21 ≤ xX4_init.2.2.2.2.2.1.locals := by unfold xX4_init; exact ⟨by decide, by decide⟩
theorem meX4_init : z_Me yX4_init xX4_init 0 := ⟨wd184, wd185, by decide, by decide, by decide +kernel⟩
theorem fitX4_init_9 : z_Fit xX10_init xX4_init := by unfold z_Fit; simp only [xX10_init, xX4_init]; exact ⟨by decide, by decide⟩
noncomputable def kX4_init_0 (lim : Nat) : zK zR := (q_aload 0 (q_obj (q_aload 0 (q_new 10 lim (q_dup (q_ctor fX10_init 0 2 lim (q_putR 4 0 (q_aload 0 (q_push 32 (q_newa 0 2048 lim (q_putR 4 1 q_vret)))))))))))
set_option maxRecDepth 100000 in
theorem tX4_init_0 {l : Launch} {D : zD} {B sz0 : Nat} {post : Option Value → zS → Prop} : zSnd l D B xX4_init sz0 post 0 (kX4_init_0 (sz0 + 4)) (z_Jr post) := (s_aload_n dX4_init_0 rfl (s_obj dX4_init_1 wd180 wd1 wd2 (by decide) (s_aload_n dX4_init_4 rfl (s_new dX4_init_5 clX10 dfX10 wd181 wd10 wd7 rmX4_init (by decide) rfl (s_dup dX4_init_8 (s_ctorN (host := RX11) dX4_init_9 mX10_init meX10_init wd11 rfl rfl reX10_init rmX4_init (fitX4_init_9) rfl (by decide) rfl neX4_11 (s_putRF (f := 0) dX4_init_12 clX4 (by decide) rfl rfl rfl rfl (Or.inl ⟨_, rfl⟩) wd182 (s_aload_n dX4_init_15 rfl (s_bipush dX4_init_16 (by decide) (s_newa (t := 0) dX4_init_18 (by decide) rfl wd3 rmX4_init rfl (by decide) rfl (s_putRF (f := 1) dX4_init_20 clX4 (by decide) rfl rfl rfl rfl (Or.inr ⟨_, rfl⟩) wd183 (s_vret dX4_init_23 rfl))))))))))))
noncomputable def fX4_init : zF := fun as σ => z_fn 1 (kX4_init_0 (z_sz σ + 4)) as σ
theorem mX4_init {l : Launch} {D : zD} {B : Nat} : z_MF l D B yX4_init xX4_init fX4_init := z_mf (by decide) rfl (fun _ => rfl) rfl (fun as σ r h => ⟨z_fn_len h, kX4_init_0 (z_sz σ + 4), z_fn_run h, fun _ => tX4_init_0⟩)
/-! ===== RowChildren$Repainting.setPrice ===== -/
theorem dX4_setPrice_0 : decode cX4_setPrice 0 = .ok (.aload_n 0, 1) := by decide +kernel
theorem dX4_setPrice_1 : decode cX4_setPrice 1 = .ok (.getfield 18, 3) := by decide +kernel
theorem dX4_setPrice_4 : decode cX4_setPrice 4 = .ok (.iload_n 1, 1) := by decide +kernel
theorem dX4_setPrice_5 : decode cX4_setPrice 5 = .ok (.bipush 7, 2) := by decide +kernel
theorem dX4_setPrice_7 : decode cX4_setPrice 7 = .ok (.iand, 1) := by decide +kernel
theorem dX4_setPrice_8 : decode cX4_setPrice 8 = .ok (.iconst 4, 1) := by decide +kernel
theorem dX4_setPrice_9 : decode cX4_setPrice 9 = .ok (.imul, 1) := by decide +kernel
theorem dX4_setPrice_10 : decode cX4_setPrice 10 = .ok (.iload_n 2, 1) := by decide +kernel
theorem dX4_setPrice_11 : decode cX4_setPrice 11 = .ok (.iconst 3, 1) := by decide +kernel
theorem dX4_setPrice_12 : decode cX4_setPrice 12 = .ok (.iand, 1) := by decide +kernel
theorem dX4_setPrice_13 : decode cX4_setPrice 13 = .ok (.iadd, 1) := by decide +kernel
theorem dX4_setPrice_14 : decode cX4_setPrice 14 = .ok (.iload_n 3, 1) := by decide +kernel
theorem dX4_setPrice_15 : decode cX4_setPrice 15 = .ok (.iastore, 1) := by decide +kernel
theorem dX4_setPrice_16 : decode cX4_setPrice 16 = .ok (.return_, 1) := by decide +kernel
def xX4_setPrice : zX := (RX4, cX4_setPrice, 4, none, false, { frames := 1, cells := 0, slots := 0, locals := 90 }, 0, 0, 0, 0)
theorem rmX4_setPrice : z_Rm xX4_setPrice := by unfold z_Rm xX4_setPrice; exact ⟨by decide, by decide⟩
theorem reX4_setPrice : z_Re xX4_setPrice := ⟨rfl, rfl⟩
theorem rlX4_setPrice : 1 ≤ xX4_setPrice.2.2.2.2.2.1.frames ∧ 21 ≤ xX4_setPrice.2.2.2.2.2.1.locals := by unfold xX4_setPrice; exact ⟨by decide, by decide⟩
theorem meX4_setPrice : z_Me yX4_setPrice xX4_setPrice 3 := ⟨wd186, wd185, by decide, by decide, by decide +kernel⟩
noncomputable def kX4_setPrice_0 : zK zR := (q_aload 0 (q_getR 4 1 (q_iload 1 (q_push 7 (q_iand (q_push 4 (q_imul (q_iload 2 (q_push 3 (q_iand (q_iadd (q_iload 3 (q_iast q_vret)))))))))))))
set_option maxRecDepth 100000 in
theorem tX4_setPrice_0 {l : Launch} {D : zD} {B sz0 : Nat} {post : Option Value → zS → Prop} : zSnd l D B xX4_setPrice sz0 post 0 kX4_setPrice_0 (z_Jr post) := (s_aload_n dX4_setPrice_0 rfl (s_getR (f := 1) dX4_setPrice_1 clX4 (by decide) rfl wd183 (s_iload_n dX4_setPrice_4 rfl (s_bipush dX4_setPrice_5 (by decide) (s_iand dX4_setPrice_7 (s_iconst dX4_setPrice_8 (by decide) (s_imul dX4_setPrice_9 (s_iload_n dX4_setPrice_10 rfl (s_iconst dX4_setPrice_11 (by decide) (s_iand dX4_setPrice_12 (s_iadd dX4_setPrice_13 (s_iload_n dX4_setPrice_14 rfl (s_iast dX4_setPrice_15 (s_vret dX4_setPrice_16 rfl))))))))))))))
noncomputable def fX4_setPrice : zF := z_fn 4 kX4_setPrice_0
theorem mX4_setPrice {l : Launch} {D : zD} {B : Nat} : z_MF l D B yX4_setPrice xX4_setPrice fX4_setPrice := z_mf (by decide) rfl (fun h => by cases h) rfl (fun as σ r h => ⟨z_fn_len h, kX4_setPrice_0, z_fn_run h, fun _ => tX4_setPrice_0⟩)
/-! ===== RowChildren$Triangle.tally ===== -/
theorem dX10_tally_0 : decode cX10_tally 0 = .ok (.iload_n 1, 1) := by decide +kernel
theorem dX10_tally_1 : decode cX10_tally 1 = .ok (.ifCond .lt 24, 3) := by decide +kernel
theorem dX10_tally_4 : decode cX10_tally 4 = .ok (.iload_n 1, 1) := by decide +kernel
theorem dX10_tally_5 : decode cX10_tally 5 = .ok (.bipush 8, 2) := by decide +kernel
theorem dX10_tally_7 : decode cX10_tally 7 = .ok (.if_icmp .gt 18, 3) := by decide +kernel
theorem dX10_tally_10 : decode cX10_tally 10 = .ok (.aload_n 0, 1) := by decide +kernel
theorem dX10_tally_11 : decode cX10_tally 11 = .ok (.getfield 15, 3) := by decide +kernel
theorem dX10_tally_14 : decode cX10_tally 14 = .ok (.iload_n 1, 1) := by decide +kernel
theorem dX10_tally_15 : decode cX10_tally 15 = .ok (.iconst 4, 1) := by decide +kernel
theorem dX10_tally_16 : decode cX10_tally 16 = .ok (.imul, 1) := by decide +kernel
theorem dX10_tally_17 : decode cX10_tally 17 = .ok (.iload_n 2, 1) := by decide +kernel
theorem dX10_tally_18 : decode cX10_tally 18 = .ok (.iconst 3, 1) := by decide +kernel
theorem dX10_tally_19 : decode cX10_tally 19 = .ok (.iand, 1) := by decide +kernel
theorem dX10_tally_20 : decode cX10_tally 20 = .ok (.iadd, 1) := by decide +kernel
theorem dX10_tally_21 : decode cX10_tally 21 = .ok (.iaload, 1) := by decide +kernel
theorem dX10_tally_22 : decode cX10_tally 22 = .ok (.goto 4, 3) := by decide +kernel
theorem dX10_tally_25 : decode cX10_tally 25 = .ok (.iconst 0, 1) := by decide +kernel
theorem dX10_tally_26 : decode cX10_tally 26 = .ok (.ireturn, 1) := by decide +kernel
def xX10_tally : zX := (RX10, cX10_tally, 3, (some .int), false, { frames := 1, cells := 0, slots := 0, locals := 90 }, 0, 0, 0, 0)
theorem rmX10_tally : z_Rm xX10_tally := by unfold z_Rm xX10_tally; exact ⟨by decide, by decide⟩
theorem reX10_tally : z_Re xX10_tally := ⟨rfl, rfl⟩
theorem rlX10_tally : 1 ≤ xX10_tally.2.2.2.2.2.1.frames ∧ 21 ≤ xX10_tally.2.2.2.2.2.1.locals := by unfold xX10_tally; exact ⟨by decide, by decide⟩
theorem meX10_tally : z_Me yX10_tally xX10_tally 2 := ⟨wd187, wd7, by decide, by decide, by decide +kernel⟩
noncomputable def kX10_tally_26 : zK zR := q_iret
noncomputable def kX10_tally_25 : zK zR := (q_push 0 kX10_tally_26)
noncomputable def kX10_tally_0 : zK zR := (q_iload 1 (q_if_lt kX10_tally_25 (q_iload 1 (q_push 8 (q_icmp_gt kX10_tally_25 (q_aload 0 (q_getR 10 2 (q_iload 1 (q_push 4 (q_imul (q_iload 2 (q_push 3 (q_iand (q_iadd (q_iald kX10_tally_26)))))))))))))))
set_option maxRecDepth 100000 in
theorem tX10_tally_26 {l : Launch} {D : zD} {B sz0 : Nat} {post : Option Value → zS → Prop} : zSnd l D B xX10_tally sz0 post 26 kX10_tally_26 (z_Jr post) := (s_iret dX10_tally_26 rfl)
set_option maxRecDepth 100000 in
theorem tX10_tally_25 {l : Launch} {D : zD} {B sz0 : Nat} {post : Option Value → zS → Prop} : zSnd l D B xX10_tally sz0 post 25 kX10_tally_25 (z_Jr post) := (s_iconst dX10_tally_25 (by decide) tX10_tally_26)
set_option maxRecDepth 100000 in
theorem tX10_tally_0 {l : Launch} {D : zD} {B sz0 : Nat} {post : Option Value → zS → Prop} : zSnd l D B xX10_tally sz0 post 0 kX10_tally_0 (z_Jr post) := (s_iload_n dX10_tally_0 rfl (s_if_lt (tgt := 25) dX10_tally_1 (by decide) tX10_tally_25 (s_iload_n dX10_tally_4 rfl (s_bipush dX10_tally_5 (by decide) (s_icmp_gt (tgt := 25) dX10_tally_7 (by decide) tX10_tally_25 (s_aload_n dX10_tally_10 rfl (s_getR (f := 2) dX10_tally_11 clX10 (by decide) rfl wd5 (s_iload_n dX10_tally_14 rfl (s_iconst dX10_tally_15 (by decide) (s_imul dX10_tally_16 (s_iload_n dX10_tally_17 rfl (s_iconst dX10_tally_18 (by decide) (s_iand dX10_tally_19 (s_iadd dX10_tally_20 (s_iald dX10_tally_21 (s_goto (tgt := 26) dX10_tally_22 (by decide) tX10_tally_26))))))))))))))))
noncomputable def fX10_tally : zF := z_fn 3 kX10_tally_0
theorem mX10_tally {l : Launch} {D : zD} {B : Nat} : z_MF l D B yX10_tally xX10_tally fX10_tally := z_mf (by decide) rfl (fun h => by cases h) rfl (fun as σ r h => ⟨z_fn_len h, kX10_tally_0, z_fn_run h, fun _ => tX10_tally_0⟩)
/-! ===== RowChildren$Triangle.isFair ===== -/
theorem dX10_isFair_0 : decode cX10_isFair 0 = .ok (.aload_n 0, 1) := by decide +kernel
theorem dX10_isFair_1 : decode cX10_isFair 1 = .ok (.aload_n 0, 1) := by decide +kernel
theorem dX10_isFair_2 : decode cX10_isFair 2 = .ok (.getfield 18, 3) := by decide +kernel
theorem dX10_isFair_5 : decode cX10_isFair 5 = .ok (.iconst 0, 1) := by decide +kernel
theorem dX10_isFair_6 : decode cX10_isFair 6 = .ok (.invokevirtual 48, 3) := by decide +kernel
theorem dX10_isFair_9 : decode cX10_isFair 9 = .ok (.istore_n 2, 1) := by decide +kernel
theorem dX10_isFair_10 : decode cX10_isFair 10 = .ok (.iload_n 2, 1) := by decide +kernel
theorem dX10_isFair_11 : decode cX10_isFair 11 = .ok (.istore_n 3, 1) := by decide +kernel
theorem dX10_isFair_12 : decode cX10_isFair 12 = .ok (.iconst 1, 1) := by decide +kernel
theorem dX10_isFair_13 : decode cX10_isFair 13 = .ok (.istore 4, 2) := by decide +kernel
theorem dX10_isFair_15 : decode cX10_isFair 15 = .ok (.iload 4, 2) := by decide +kernel
theorem dX10_isFair_17 : decode cX10_isFair 17 = .ok (.iload_n 1, 1) := by decide +kernel
theorem dX10_isFair_18 : decode cX10_isFair 18 = .ok (.if_icmp .ge 39, 3) := by decide +kernel
theorem dX10_isFair_21 : decode cX10_isFair 21 = .ok (.iload_n 2, 1) := by decide +kernel
theorem dX10_isFair_22 : decode cX10_isFair 22 = .ok (.aload_n 0, 1) := by decide +kernel
theorem dX10_isFair_23 : decode cX10_isFair 23 = .ok (.aload_n 0, 1) := by decide +kernel
theorem dX10_isFair_24 : decode cX10_isFair 24 = .ok (.getfield 18, 3) := by decide +kernel
theorem dX10_isFair_27 : decode cX10_isFair 27 = .ok (.iload 4, 2) := by decide +kernel
theorem dX10_isFair_29 : decode cX10_isFair 29 = .ok (.invokevirtual 48, 3) := by decide +kernel
theorem dX10_isFair_32 : decode cX10_isFair 32 = .ok (.invokestatic 51, 3) := by decide +kernel
theorem dX10_isFair_35 : decode cX10_isFair 35 = .ok (.istore_n 2, 1) := by decide +kernel
theorem dX10_isFair_36 : decode cX10_isFair 36 = .ok (.iload_n 3, 1) := by decide +kernel
theorem dX10_isFair_37 : decode cX10_isFair 37 = .ok (.aload_n 0, 1) := by decide +kernel
theorem dX10_isFair_38 : decode cX10_isFair 38 = .ok (.aload_n 0, 1) := by decide +kernel
theorem dX10_isFair_39 : decode cX10_isFair 39 = .ok (.getfield 18, 3) := by decide +kernel
theorem dX10_isFair_42 : decode cX10_isFair 42 = .ok (.iload 4, 2) := by decide +kernel
theorem dX10_isFair_44 : decode cX10_isFair 44 = .ok (.invokevirtual 48, 3) := by decide +kernel
theorem dX10_isFair_47 : decode cX10_isFair 47 = .ok (.invokestatic 56, 3) := by decide +kernel
theorem dX10_isFair_50 : decode cX10_isFair 50 = .ok (.istore_n 3, 1) := by decide +kernel
theorem dX10_isFair_51 : decode cX10_isFair 51 = .ok (.iinc 4 1, 3) := by decide +kernel
theorem dX10_isFair_54 : decode cX10_isFair 54 = .ok (.goto (-39), 3) := by decide +kernel
theorem dX10_isFair_57 : decode cX10_isFair 57 = .ok (.iload_n 3, 1) := by decide +kernel
theorem dX10_isFair_58 : decode cX10_isFair 58 = .ok (.iload_n 2, 1) := by decide +kernel
theorem dX10_isFair_59 : decode cX10_isFair 59 = .ok (.isub, 1) := by decide +kernel
theorem dX10_isFair_60 : decode cX10_isFair 60 = .ok (.iconst 1, 1) := by decide +kernel
theorem dX10_isFair_61 : decode cX10_isFair 61 = .ok (.if_icmp .gt 7, 3) := by decide +kernel
theorem dX10_isFair_64 : decode cX10_isFair 64 = .ok (.iconst 1, 1) := by decide +kernel
theorem dX10_isFair_65 : decode cX10_isFair 65 = .ok (.goto 4, 3) := by decide +kernel
theorem dX10_isFair_68 : decode cX10_isFair 68 = .ok (.iconst 0, 1) := by decide +kernel
theorem dX10_isFair_69 : decode cX10_isFair 69 = .ok (.ireturn, 1) := by decide +kernel
def xX10_isFair : zX := (RX10, cX10_isFair, 5, (some .boolean), false, { frames := 2, cells := 0, slots := 0, locals := 112 }, 0, 0, 0, 0)
theorem rmX10_isFair : z_Rm xX10_isFair := by unfold z_Rm xX10_isFair; exact ⟨by decide, by decide⟩
theorem reX10_isFair : z_Re xX10_isFair := ⟨rfl, rfl⟩
theorem rlX10_isFair : 1 ≤ xX10_isFair.2.2.2.2.2.1.frames ∧ 21 ≤ xX10_isFair.2.2.2.2.2.1.locals := by unfold xX10_isFair; exact ⟨by decide, by decide⟩
theorem meX10_isFair : z_Me yX10_isFair xX10_isFair 1 := ⟨wd193, wd7, by decide, by decide, by decide +kernel⟩
theorem fitX10_isFair_6 : z_Fit xX10_tally xX10_isFair := by unfold z_Fit; simp only [xX10_tally, xX10_isFair]; exact ⟨by decide, by decide⟩
theorem fitX10_isFair_29 : z_Fit xX10_tally xX10_isFair := by unfold z_Fit; simp only [xX10_tally, xX10_isFair]; exact ⟨by decide, by decide⟩
theorem fitX10_isFair_44 : z_Fit xX10_tally xX10_isFair := by unfold z_Fit; simp only [xX10_tally, xX10_isFair]; exact ⟨by decide, by decide⟩
noncomputable def kX10_isFair_69 : zK zR := q_zret
noncomputable def kX10_isFair_57 : zK zR := (q_iload 3 (q_iload 2 (q_isub (q_push 1 (q_icmp_gt (q_push 0 kX10_isFair_69) (q_push 1 kX10_isFair_69))))))
noncomputable def bX10_isFair_15 : zK ((zL × zS) ⊕ zR) := (q_iload 4 (q_iload 1 (q_icmp_ge (q_dn kX10_isFair_57) (q_iload 2 (q_aload 0 (q_aload 0 (q_getI 10 0 (q_iload 4 (q_callV 10 fX10_tally 2 (q_mmin (q_istore 2 (q_iload 3 (q_aload 0 (q_aload 0 (q_getI 10 0 (q_iload 4 (q_callV 10 fX10_tally 2 (q_mmax (q_istore 3 (q_iinc 4 1 q_ag))))))))))))))))))))
noncomputable def kX10_isFair_15 : zK zR := q_lp (bX10_isFair_15)
noncomputable def kX10_isFair_0 : zK zR := (q_aload 0 (q_aload 0 (q_getI 10 0 (q_push 0 (q_callV 10 fX10_tally 2 (q_istore 2 (q_iload 2 (q_istore 3 (q_push 1 (q_istore 4 kX10_isFair_15))))))))))
set_option maxRecDepth 100000 in
theorem tX10_isFair_69 {l : Launch} {D : zD} {B sz0 : Nat} {post : Option Value → zS → Prop} : zSnd l D B xX10_isFair sz0 post 69 kX10_isFair_69 (z_Jr post) := (s_zret dX10_isFair_69 rfl)
set_option maxRecDepth 100000 in
theorem tX10_isFair_57 {l : Launch} {D : zD} {B sz0 : Nat} {post : Option Value → zS → Prop} : zSnd l D B xX10_isFair sz0 post 57 kX10_isFair_57 (z_Jr post) := (s_iload_n dX10_isFair_57 rfl (s_iload_n dX10_isFair_58 rfl (s_isub dX10_isFair_59 (s_iconst dX10_isFair_60 (by decide) (s_icmp_gt (tgt := 68) dX10_isFair_61 (by decide) (s_iconst dX10_isFair_68 (by decide) tX10_isFair_69) (s_iconst dX10_isFair_64 (by decide) (s_goto (tgt := 69) dX10_isFair_65 (by decide) tX10_isFair_69)))))))
set_option maxRecDepth 100000 in
theorem tX10_isFair_15 {l : Launch} {D : zD} {B sz0 : Nat} {post : Option Value → zS → Prop} : zSnd l D B xX10_isFair sz0 post 15 kX10_isFair_15 (z_Jr post) := s_lp (body := bX10_isFair_15) (s_iload dX10_isFair_15 (s_iload_n dX10_isFair_17 rfl (s_icmp_ge (tgt := 57) dX10_isFair_18 (by decide) (s_dn tX10_isFair_57) (s_iload_n dX10_isFair_21 rfl (s_aload_n dX10_isFair_22 rfl (s_aload_n dX10_isFair_23 rfl (s_getI (f := 0) dX10_isFair_24 clX10 (by decide) rfl wd22 (s_iload dX10_isFair_27 (s_callV (r := (RX10, TX10, 3)) dX10_isFair_29 mX10_tally meX10_tally wd188 wd189 rfl rfl reX10_tally rmX10_isFair (fitX10_isFair_29) wd190 (s_mmin dX10_isFair_32 wd191 wd148 wd149 wd150 (rlX10_isFair) rmX10_isFair (s_istore_n dX10_isFair_35 rfl (s_iload_n dX10_isFair_36 rfl (s_aload_n dX10_isFair_37 rfl (s_aload_n dX10_isFair_38 rfl (s_getI (f := 0) dX10_isFair_39 clX10 (by decide) rfl wd22 (s_iload dX10_isFair_42 (s_callV (r := (RX10, TX10, 3)) dX10_isFair_44 mX10_tally meX10_tally wd188 wd189 rfl rfl reX10_tally rmX10_isFair (fitX10_isFair_44) wd190 (s_mmax dX10_isFair_47 wd192 wd152 wd149 wd153 (rlX10_isFair) rmX10_isFair (s_istore_n dX10_isFair_50 rfl (s_iinc dX10_isFair_51 (by decide) (s_goto (tgt := 15) dX10_isFair_54 (by decide) s_ag)))))))))))))))))))))
set_option maxRecDepth 100000 in
theorem tX10_isFair_0 {l : Launch} {D : zD} {B sz0 : Nat} {post : Option Value → zS → Prop} : zSnd l D B xX10_isFair sz0 post 0 kX10_isFair_0 (z_Jr post) := (s_aload_n dX10_isFair_0 rfl (s_aload_n dX10_isFair_1 rfl (s_getI (f := 0) dX10_isFair_2 clX10 (by decide) rfl wd22 (s_iconst dX10_isFair_5 (by decide) (s_callV (r := (RX10, TX10, 3)) dX10_isFair_6 mX10_tally meX10_tally wd188 wd189 rfl rfl reX10_tally rmX10_isFair (fitX10_isFair_6) wd190 (s_istore_n dX10_isFair_9 rfl (s_iload_n dX10_isFair_10 rfl (s_istore_n dX10_isFair_11 rfl (s_iconst dX10_isFair_12 (by decide) (s_istore dX10_isFair_13 tX10_isFair_15))))))))))
noncomputable def fX10_isFair : zF := z_fn 5 kX10_isFair_0
theorem mX10_isFair {l : Launch} {D : zD} {B : Nat} : z_MF l D B yX10_isFair xX10_isFair fX10_isFair := z_mf (by decide) rfl (fun h => by cases h) rfl (fun as σ r h => ⟨z_fn_len h, kX10_isFair_0, z_fn_run h, fun _ => tX10_isFair_0⟩)
/-! ===== RowChildren$Repainting.noteRow ===== -/
theorem dX4_noteRow_0 : decode cX4_noteRow 0 = .ok (.aload_n 0, 1) := by decide +kernel
theorem dX4_noteRow_1 : decode cX4_noteRow 1 = .ok (.getfield 22, 3) := by decide +kernel
theorem dX4_noteRow_4 : decode cX4_noteRow 4 = .ok (.iconst (-1), 1) := by decide +kernel
theorem dX4_noteRow_5 : decode cX4_noteRow 5 = .ok (.if_icmp .ne 17, 3) := by decide +kernel
theorem dX4_noteRow_8 : decode cX4_noteRow 8 = .ok (.aload_n 0, 1) := by decide +kernel
theorem dX4_noteRow_9 : decode cX4_noteRow 9 = .ok (.getfield 12, 3) := by decide +kernel
theorem dX4_noteRow_12 : decode cX4_noteRow 12 = .ok (.aload_n 1, 1) := by decide +kernel
theorem dX4_noteRow_13 : decode cX4_noteRow 13 = .ok (.getfield 30, 3) := by decide +kernel
theorem dX4_noteRow_16 : decode cX4_noteRow 16 = .ok (.invokevirtual 76, 3) := by decide +kernel
theorem dX4_noteRow_19 : decode cX4_noteRow 19 = .ok (.goto 22, 3) := by decide +kernel
theorem dX4_noteRow_22 : decode cX4_noteRow 22 = .ok (.aload_n 0, 1) := by decide +kernel
theorem dX4_noteRow_23 : decode cX4_noteRow 23 = .ok (.getfield 12, 3) := by decide +kernel
theorem dX4_noteRow_26 : decode cX4_noteRow 26 = .ok (.invokevirtual 80, 3) := by decide +kernel
theorem dX4_noteRow_29 : decode cX4_noteRow 29 = .ok (.aload_n 0, 1) := by decide +kernel
theorem dX4_noteRow_30 : decode cX4_noteRow 30 = .ok (.getfield 22, 3) := by decide +kernel
theorem dX4_noteRow_33 : decode cX4_noteRow 33 = .ok (.if_icmp .ne 7, 3) := by decide +kernel
theorem dX4_noteRow_36 : decode cX4_noteRow 36 = .ok (.iconst 1, 1) := by decide +kernel
theorem dX4_noteRow_37 : decode cX4_noteRow 37 = .ok (.goto 4, 3) := by decide +kernel
theorem dX4_noteRow_40 : decode cX4_noteRow 40 = .ok (.iconst 0, 1) := by decide +kernel
theorem dX4_noteRow_41 : decode cX4_noteRow 41 = .ok (.istore 4, 2) := by decide +kernel
theorem dX4_noteRow_43 : decode cX4_noteRow 43 = .ok (.iload 4, 2) := by decide +kernel
theorem dX4_noteRow_45 : decode cX4_noteRow 45 = .ok (.ifCond .eq 13, 3) := by decide +kernel
theorem dX4_noteRow_48 : decode cX4_noteRow 48 = .ok (.aload_n 0, 1) := by decide +kernel
theorem dX4_noteRow_49 : decode cX4_noteRow 49 = .ok (.iload_n 2, 1) := by decide +kernel
theorem dX4_noteRow_50 : decode cX4_noteRow 50 = .ok (.putfield 41, 3) := by decide +kernel
theorem dX4_noteRow_53 : decode cX4_noteRow 53 = .ok (.aload_n 0, 1) := by decide +kernel
theorem dX4_noteRow_54 : decode cX4_noteRow 54 = .ok (.iload_n 3, 1) := by decide +kernel
theorem dX4_noteRow_55 : decode cX4_noteRow 55 = .ok (.putfield 38, 3) := by decide +kernel
theorem dX4_noteRow_58 : decode cX4_noteRow 58 = .ok (.return_, 1) := by decide +kernel
def xX4_noteRow : zX := (RX4, cX4_noteRow, 5, none, false, { frames := 3, cells := 0, slots := 0, locals := 136 }, 0, 0, 0, 0)
theorem rmX4_noteRow : z_Rm xX4_noteRow := by unfold z_Rm xX4_noteRow; exact ⟨by decide, by decide⟩
theorem reX4_noteRow : z_Re xX4_noteRow := ⟨rfl, rfl⟩
theorem rlX4_noteRow : 1 ≤ xX4_noteRow.2.2.2.2.2.1.frames ∧ 21 ≤ xX4_noteRow.2.2.2.2.2.1.locals := by unfold xX4_noteRow; exact ⟨by decide, by decide⟩
theorem meX4_noteRow : z_Me yX4_noteRow xX4_noteRow 3 := ⟨wd202, wd185, by decide, by decide, by decide +kernel⟩
theorem fitX4_noteRow_26 : z_Fit xX10_lastChild xX4_noteRow := by unfold z_Fit; simp only [xX10_lastChild, xX4_noteRow]; exact ⟨by decide, by decide⟩
theorem fitX4_noteRow_16 : z_Fit xX10_isFair xX4_noteRow := by unfold z_Fit; simp only [xX10_isFair, xX4_noteRow]; exact ⟨by decide, by decide⟩
noncomputable def kX4_noteRow_58 : zK zR := q_vret
noncomputable def kX4_noteRow_41 : zK zR := (q_istore 4 (q_iload 4 (q_if_eq kX4_noteRow_58 (q_aload 0 (q_iload 2 (q_putI 4 5 (q_aload 0 (q_iload 3 (q_putI 4 6 kX4_noteRow_58)))))))))
noncomputable def kX4_noteRow_0 : zK zR := (q_aload 0 (q_getI 4 3 (q_push (-1) (q_icmp_ne (q_aload 0 (q_getR 4 0 (q_callV 10 fX10_lastChild 0 (q_aload 0 (q_getI 4 3 (q_icmp_ne (q_push 0 kX4_noteRow_41) (q_push 1 kX4_noteRow_41))))))) (q_aload 0 (q_getR 4 0 (q_aload 1 (q_getI 5 0 (q_callV 10 fX10_isFair 1 kX4_noteRow_41)))))))))
set_option maxRecDepth 100000 in
theorem tX4_noteRow_58 {l : Launch} {D : zD} {B sz0 : Nat} {post : Option Value → zS → Prop} : zSnd l D B xX4_noteRow sz0 post 58 kX4_noteRow_58 (z_Jr post) := (s_vret dX4_noteRow_58 rfl)
set_option maxRecDepth 100000 in
theorem tX4_noteRow_41 {l : Launch} {D : zD} {B sz0 : Nat} {post : Option Value → zS → Prop} : zSnd l D B xX4_noteRow sz0 post 41 kX4_noteRow_41 (z_Jr post) := (s_istore dX4_noteRow_41 (s_iload dX4_noteRow_43 (s_if_eq (tgt := 58) dX4_noteRow_45 (by decide) tX4_noteRow_58 (s_aload_n dX4_noteRow_48 rfl (s_iload_n dX4_noteRow_49 rfl (s_putI (f := 5) dX4_noteRow_50 clX4 (by decide) rfl rfl rfl wd196 (s_aload_n dX4_noteRow_53 rfl (s_iload_n dX4_noteRow_54 rfl (s_putI (f := 6) dX4_noteRow_55 clX4 (by decide) rfl rfl rfl wd197 tX4_noteRow_58)))))))))
set_option maxRecDepth 100000 in
theorem tX4_noteRow_0 {l : Launch} {D : zD} {B sz0 : Nat} {post : Option Value → zS → Prop} : zSnd l D B xX4_noteRow sz0 post 0 kX4_noteRow_0 (z_Jr post) := (s_aload_n dX4_noteRow_0 rfl (s_getI (f := 3) dX4_noteRow_1 clX4 (by decide) rfl wd194 (s_iconst dX4_noteRow_4 (by decide) (s_icmp_ne (tgt := 22) dX4_noteRow_5 (by decide) (s_aload_n dX4_noteRow_22 rfl (s_getR (f := 0) dX4_noteRow_23 clX4 (by decide) rfl wd182 (s_callV (r := (RX10, TX10, 3)) dX4_noteRow_26 mX10_lastChild meX10_lastChild wd27 wd28 rfl rfl reX10_lastChild rmX4_noteRow (fitX4_noteRow_26) wd195 (s_aload_n dX4_noteRow_29 rfl (s_getI (f := 3) dX4_noteRow_30 clX4 (by decide) rfl wd194 (s_icmp_ne (tgt := 40) dX4_noteRow_33 (by decide) (s_iconst dX4_noteRow_40 (by decide) tX4_noteRow_41) (s_iconst dX4_noteRow_36 (by decide) (s_goto (tgt := 41) dX4_noteRow_37 (by decide) tX4_noteRow_41)))))))) (s_aload_n dX4_noteRow_8 rfl (s_getR (f := 0) dX4_noteRow_9 clX4 (by decide) rfl wd182 (s_aload_n dX4_noteRow_12 rfl (s_getI (f := 0) dX4_noteRow_13 clX5 (by decide) rfl wd198 (s_callV (r := (RX10, TX10, 3)) dX4_noteRow_16 mX10_isFair meX10_isFair wd199 wd200 rfl rfl reX10_isFair rmX4_noteRow (fitX4_noteRow_16) wd201 (s_goto (tgt := 41) dX4_noteRow_19 (by decide) tX4_noteRow_41))))))))))
noncomputable def fX4_noteRow : zF := z_fn 5 kX4_noteRow_0
theorem mX4_noteRow {l : Launch} {D : zD} {B : Nat} : z_MF l D B yX4_noteRow xX4_noteRow fX4_noteRow := z_mf (by decide) rfl (fun h => by cases h) rfl (fun as σ r h => ⟨z_fn_len h, kX4_noteRow_0, z_fn_run h, fun _ => tX4_noteRow_0⟩)
/-! ===== RowChildren$Triangle.tallyEdge ===== -/
theorem dX10_tallyEdge_0 : decode cX10_tallyEdge 0 = .ok (.iload_n 1, 1) := by decide +kernel
theorem dX10_tallyEdge_1 : decode cX10_tallyEdge 1 = .ok (.ifCond .lt 9, 3) := by decide +kernel
theorem dX10_tallyEdge_4 : decode cX10_tallyEdge 4 = .ok (.iload_n 1, 1) := by decide +kernel
theorem dX10_tallyEdge_5 : decode cX10_tallyEdge 5 = .ok (.bipush 8, 2) := by decide +kernel
theorem dX10_tallyEdge_7 : decode cX10_tallyEdge 7 = .ok (.if_icmp .lt 4, 3) := by decide +kernel
theorem dX10_tallyEdge_10 : decode cX10_tallyEdge 10 = .ok (.return_, 1) := by decide +kernel
theorem dX10_tallyEdge_11 : decode cX10_tallyEdge 11 = .ok (.iload_n 1, 1) := by decide +kernel
theorem dX10_tallyEdge_12 : decode cX10_tallyEdge 12 = .ok (.iconst 4, 1) := by decide +kernel
theorem dX10_tallyEdge_13 : decode cX10_tallyEdge 13 = .ok (.imul, 1) := by decide +kernel
theorem dX10_tallyEdge_14 : decode cX10_tallyEdge 14 = .ok (.istore_n 2, 1) := by decide +kernel
theorem dX10_tallyEdge_15 : decode cX10_tallyEdge 15 = .ok (.iload_n 2, 1) := by decide +kernel
theorem dX10_tallyEdge_16 : decode cX10_tallyEdge 16 = .ok (.istore_n 3, 1) := by decide +kernel
theorem dX10_tallyEdge_17 : decode cX10_tallyEdge 17 = .ok (.iload_n 3, 1) := by decide +kernel
theorem dX10_tallyEdge_18 : decode cX10_tallyEdge 18 = .ok (.iload_n 2, 1) := by decide +kernel
theorem dX10_tallyEdge_19 : decode cX10_tallyEdge 19 = .ok (.iconst 4, 1) := by decide +kernel
theorem dX10_tallyEdge_20 : decode cX10_tallyEdge 20 = .ok (.iadd, 1) := by decide +kernel
theorem dX10_tallyEdge_21 : decode cX10_tallyEdge 21 = .ok (.if_icmp .ge 23, 3) := by decide +kernel
theorem dX10_tallyEdge_24 : decode cX10_tallyEdge 24 = .ok (.aload_n 0, 1) := by decide +kernel
theorem dX10_tallyEdge_25 : decode cX10_tallyEdge 25 = .ok (.getfield 15, 3) := by decide +kernel
theorem dX10_tallyEdge_28 : decode cX10_tallyEdge 28 = .ok (.iload_n 3, 1) := by decide +kernel
theorem dX10_tallyEdge_29 : decode cX10_tallyEdge 29 = .ok (.iconst 4, 1) := by decide +kernel
theorem dX10_tallyEdge_30 : decode cX10_tallyEdge 30 = .ok (.iadd, 1) := by decide +kernel
theorem dX10_tallyEdge_31 : decode cX10_tallyEdge 31 = .ok (.aload_n 0, 1) := by decide +kernel
theorem dX10_tallyEdge_32 : decode cX10_tallyEdge 32 = .ok (.getfield 15, 3) := by decide +kernel
theorem dX10_tallyEdge_35 : decode cX10_tallyEdge 35 = .ok (.iload_n 3, 1) := by decide +kernel
theorem dX10_tallyEdge_36 : decode cX10_tallyEdge 36 = .ok (.iaload, 1) := by decide +kernel
theorem dX10_tallyEdge_37 : decode cX10_tallyEdge 37 = .ok (.iastore, 1) := by decide +kernel
theorem dX10_tallyEdge_38 : decode cX10_tallyEdge 38 = .ok (.iinc 3 1, 3) := by decide +kernel
theorem dX10_tallyEdge_41 : decode cX10_tallyEdge 41 = .ok (.goto (-24), 3) := by decide +kernel
theorem dX10_tallyEdge_44 : decode cX10_tallyEdge 44 = .ok (.iconst 0, 1) := by decide +kernel
theorem dX10_tallyEdge_45 : decode cX10_tallyEdge 45 = .ok (.istore_n 3, 1) := by decide +kernel
theorem dX10_tallyEdge_46 : decode cX10_tallyEdge 46 = .ok (.iload_n 3, 1) := by decide +kernel
theorem dX10_tallyEdge_47 : decode cX10_tallyEdge 47 = .ok (.iload_n 1, 1) := by decide +kernel
theorem dX10_tallyEdge_48 : decode cX10_tallyEdge 48 = .ok (.if_icmp .gt 30, 3) := by decide +kernel
theorem dX10_tallyEdge_51 : decode cX10_tallyEdge 51 = .ok (.aload_n 0, 1) := by decide +kernel
theorem dX10_tallyEdge_52 : decode cX10_tallyEdge 52 = .ok (.getfield 15, 3) := by decide +kernel
theorem dX10_tallyEdge_55 : decode cX10_tallyEdge 55 = .ok (.iload_n 2, 1) := by decide +kernel
theorem dX10_tallyEdge_56 : decode cX10_tallyEdge 56 = .ok (.iconst 4, 1) := by decide +kernel
theorem dX10_tallyEdge_57 : decode cX10_tallyEdge 57 = .ok (.iadd, 1) := by decide +kernel
theorem dX10_tallyEdge_58 : decode cX10_tallyEdge 58 = .ok (.aload_n 0, 1) := by decide +kernel
theorem dX10_tallyEdge_59 : decode cX10_tallyEdge 59 = .ok (.iload_n 3, 1) := by decide +kernel
theorem dX10_tallyEdge_60 : decode cX10_tallyEdge 60 = .ok (.iload_n 1, 1) := by decide +kernel
theorem dX10_tallyEdge_61 : decode cX10_tallyEdge 61 = .ok (.iload_n 3, 1) := by decide +kernel
theorem dX10_tallyEdge_62 : decode cX10_tallyEdge 62 = .ok (.isub, 1) := by decide +kernel
theorem dX10_tallyEdge_63 : decode cX10_tallyEdge 63 = .ok (.invokevirtual 45, 3) := by decide +kernel
theorem dX10_tallyEdge_66 : decode cX10_tallyEdge 66 = .ok (.iadd, 1) := by decide +kernel
theorem dX10_tallyEdge_67 : decode cX10_tallyEdge 67 = .ok (.dup2, 1) := by decide +kernel
theorem dX10_tallyEdge_68 : decode cX10_tallyEdge 68 = .ok (.iaload, 1) := by decide +kernel
theorem dX10_tallyEdge_69 : decode cX10_tallyEdge 69 = .ok (.iconst 1, 1) := by decide +kernel
theorem dX10_tallyEdge_70 : decode cX10_tallyEdge 70 = .ok (.iadd, 1) := by decide +kernel
theorem dX10_tallyEdge_71 : decode cX10_tallyEdge 71 = .ok (.iastore, 1) := by decide +kernel
theorem dX10_tallyEdge_72 : decode cX10_tallyEdge 72 = .ok (.iinc 3 1, 3) := by decide +kernel
theorem dX10_tallyEdge_75 : decode cX10_tallyEdge 75 = .ok (.goto (-29), 3) := by decide +kernel
theorem dX10_tallyEdge_78 : decode cX10_tallyEdge 78 = .ok (.return_, 1) := by decide +kernel
def xX10_tallyEdge : zX := (RX10, cX10_tallyEdge, 4, none, false, { frames := 2, cells := 0, slots := 0, locals := 112 }, 0, 0, 0, 0)
theorem rmX10_tallyEdge : z_Rm xX10_tallyEdge := by unfold z_Rm xX10_tallyEdge; exact ⟨by decide, by decide⟩
theorem reX10_tallyEdge : z_Re xX10_tallyEdge := ⟨rfl, rfl⟩
theorem rlX10_tallyEdge : 1 ≤ xX10_tallyEdge.2.2.2.2.2.1.frames ∧ 21 ≤ xX10_tallyEdge.2.2.2.2.2.1.locals := by unfold xX10_tallyEdge; exact ⟨by decide, by decide⟩
theorem meX10_tallyEdge : z_Me yX10_tallyEdge xX10_tallyEdge 1 := ⟨wd203, wd7, by decide, by decide, by decide +kernel⟩
theorem fitX10_tallyEdge_63 : z_Fit xX10_cell xX10_tallyEdge := by unfold z_Fit; simp only [xX10_cell, xX10_tallyEdge]; exact ⟨by decide, by decide⟩
noncomputable def kX10_tallyEdge_10 : zK zR := q_vret
noncomputable def kX10_tallyEdge_78 : zK zR := q_vret
noncomputable def bX10_tallyEdge_46 : zK ((zL × zS) ⊕ zR) := (q_iload 3 (q_iload 1 (q_icmp_gt (q_dn kX10_tallyEdge_78) (q_aload 0 (q_getR 10 2 (q_iload 2 (q_push 4 (q_iadd (q_aload 0 (q_iload 3 (q_iload 1 (q_iload 3 (q_isub (q_callV 10 fX10_cell 2 (q_iadd (q_dup2 (q_iald (q_push 1 (q_iadd (q_iast (q_iinc 3 1 q_ag)))))))))))))))))))))
noncomputable def kX10_tallyEdge_46 : zK zR := q_lp (bX10_tallyEdge_46)
noncomputable def kX10_tallyEdge_44 : zK zR := (q_push 0 (q_istore 3 kX10_tallyEdge_46))
noncomputable def bX10_tallyEdge_17 : zK ((zL × zS) ⊕ zR) := (q_iload 3 (q_iload 2 (q_push 4 (q_iadd (q_icmp_ge (q_dn kX10_tallyEdge_44) (q_aload 0 (q_getR 10 2 (q_iload 3 (q_push 4 (q_iadd (q_aload 0 (q_getR 10 2 (q_iload 3 (q_iald (q_iast (q_iinc 3 1 q_ag))))))))))))))))
noncomputable def kX10_tallyEdge_17 : zK zR := q_lp (bX10_tallyEdge_17)
noncomputable def kX10_tallyEdge_0 : zK zR := (q_iload 1 (q_if_lt kX10_tallyEdge_10 (q_iload 1 (q_push 8 (q_icmp_lt (q_iload 1 (q_push 4 (q_imul (q_istore 2 (q_iload 2 (q_istore 3 kX10_tallyEdge_17)))))) kX10_tallyEdge_10)))))
set_option maxRecDepth 100000 in
theorem tX10_tallyEdge_10 {l : Launch} {D : zD} {B sz0 : Nat} {post : Option Value → zS → Prop} : zSnd l D B xX10_tallyEdge sz0 post 10 kX10_tallyEdge_10 (z_Jr post) := (s_vret dX10_tallyEdge_10 rfl)
set_option maxRecDepth 100000 in
theorem tX10_tallyEdge_78 {l : Launch} {D : zD} {B sz0 : Nat} {post : Option Value → zS → Prop} : zSnd l D B xX10_tallyEdge sz0 post 78 kX10_tallyEdge_78 (z_Jr post) := (s_vret dX10_tallyEdge_78 rfl)
set_option maxRecDepth 100000 in
theorem tX10_tallyEdge_46 {l : Launch} {D : zD} {B sz0 : Nat} {post : Option Value → zS → Prop} : zSnd l D B xX10_tallyEdge sz0 post 46 kX10_tallyEdge_46 (z_Jr post) := s_lp (body := bX10_tallyEdge_46) (s_iload_n dX10_tallyEdge_46 rfl (s_iload_n dX10_tallyEdge_47 rfl (s_icmp_gt (tgt := 78) dX10_tallyEdge_48 (by decide) (s_dn tX10_tallyEdge_78) (s_aload_n dX10_tallyEdge_51 rfl (s_getR (f := 2) dX10_tallyEdge_52 clX10 (by decide) rfl wd5 (s_iload_n dX10_tallyEdge_55 rfl (s_iconst dX10_tallyEdge_56 (by decide) (s_iadd dX10_tallyEdge_57 (s_aload_n dX10_tallyEdge_58 rfl (s_iload_n dX10_tallyEdge_59 rfl (s_iload_n dX10_tallyEdge_60 rfl (s_iload_n dX10_tallyEdge_61 rfl (s_isub dX10_tallyEdge_62 (s_callV (r := (RX10, TX10, 3)) dX10_tallyEdge_63 mX10_cell meX10_cell wd23 wd24 rfl rfl reX10_cell rmX10_tallyEdge (fitX10_tallyEdge_63) wd25 (s_iadd dX10_tallyEdge_66 (s_dup2 dX10_tallyEdge_67 (s_iald dX10_tallyEdge_68 (s_iconst dX10_tallyEdge_69 (by decide) (s_iadd dX10_tallyEdge_70 (s_iast dX10_tallyEdge_71 (s_iinc dX10_tallyEdge_72 (by decide) (s_goto (tgt := 46) dX10_tallyEdge_75 (by decide) s_ag))))))))))))))))))))))
set_option maxRecDepth 100000 in
theorem tX10_tallyEdge_44 {l : Launch} {D : zD} {B sz0 : Nat} {post : Option Value → zS → Prop} : zSnd l D B xX10_tallyEdge sz0 post 44 kX10_tallyEdge_44 (z_Jr post) := (s_iconst dX10_tallyEdge_44 (by decide) (s_istore_n dX10_tallyEdge_45 rfl tX10_tallyEdge_46))
set_option maxRecDepth 100000 in
theorem tX10_tallyEdge_17 {l : Launch} {D : zD} {B sz0 : Nat} {post : Option Value → zS → Prop} : zSnd l D B xX10_tallyEdge sz0 post 17 kX10_tallyEdge_17 (z_Jr post) := s_lp (body := bX10_tallyEdge_17) (s_iload_n dX10_tallyEdge_17 rfl (s_iload_n dX10_tallyEdge_18 rfl (s_iconst dX10_tallyEdge_19 (by decide) (s_iadd dX10_tallyEdge_20 (s_icmp_ge (tgt := 44) dX10_tallyEdge_21 (by decide) (s_dn tX10_tallyEdge_44) (s_aload_n dX10_tallyEdge_24 rfl (s_getR (f := 2) dX10_tallyEdge_25 clX10 (by decide) rfl wd5 (s_iload_n dX10_tallyEdge_28 rfl (s_iconst dX10_tallyEdge_29 (by decide) (s_iadd dX10_tallyEdge_30 (s_aload_n dX10_tallyEdge_31 rfl (s_getR (f := 2) dX10_tallyEdge_32 clX10 (by decide) rfl wd5 (s_iload_n dX10_tallyEdge_35 rfl (s_iald dX10_tallyEdge_36 (s_iast dX10_tallyEdge_37 (s_iinc dX10_tallyEdge_38 (by decide) (s_goto (tgt := 17) dX10_tallyEdge_41 (by decide) s_ag)))))))))))))))))
set_option maxRecDepth 100000 in
theorem tX10_tallyEdge_0 {l : Launch} {D : zD} {B sz0 : Nat} {post : Option Value → zS → Prop} : zSnd l D B xX10_tallyEdge sz0 post 0 kX10_tallyEdge_0 (z_Jr post) := (s_iload_n dX10_tallyEdge_0 rfl (s_if_lt (tgt := 10) dX10_tallyEdge_1 (by decide) tX10_tallyEdge_10 (s_iload_n dX10_tallyEdge_4 rfl (s_bipush dX10_tallyEdge_5 (by decide) (s_icmp_lt (tgt := 11) dX10_tallyEdge_7 (by decide) (s_iload_n dX10_tallyEdge_11 rfl (s_iconst dX10_tallyEdge_12 (by decide) (s_imul dX10_tallyEdge_13 (s_istore_n dX10_tallyEdge_14 rfl (s_iload_n dX10_tallyEdge_15 rfl (s_istore_n dX10_tallyEdge_16 rfl tX10_tallyEdge_17)))))) tX10_tallyEdge_10)))))
noncomputable def fX10_tallyEdge : zF := z_fn 4 kX10_tallyEdge_0
theorem mX10_tallyEdge {l : Launch} {D : zD} {B : Nat} : z_MF l D B yX10_tallyEdge xX10_tallyEdge fX10_tallyEdge := z_mf (by decide) rfl (fun h => by cases h) rfl (fun as σ r h => ⟨z_fn_len h, kX10_tallyEdge_0, z_fn_run h, fun _ => tX10_tallyEdge_0⟩)
/-! ===== RowChildren$Repainting.canStillBe ===== -/
theorem dX4_canStillBe_0 : decode cX4_canStillBe 0 = .ok (.aload_n 0, 1) := by decide +kernel
theorem dX4_canStillBe_1 : decode cX4_canStillBe 1 = .ok (.getfield 22, 3) := by decide +kernel
theorem dX4_canStillBe_4 : decode cX4_canStillBe 4 = .ok (.iconst (-1), 1) := by decide +kernel
theorem dX4_canStillBe_5 : decode cX4_canStillBe 5 = .ok (.if_icmp .eq 5, 3) := by decide +kernel
theorem dX4_canStillBe_8 : decode cX4_canStillBe 8 = .ok (.iconst 1, 1) := by decide +kernel
theorem dX4_canStillBe_9 : decode cX4_canStillBe 9 = .ok (.ireturn, 1) := by decide +kernel
theorem dX4_canStillBe_10 : decode cX4_canStillBe 10 = .ok (.aload_n 0, 1) := by decide +kernel
theorem dX4_canStillBe_11 : decode cX4_canStillBe 11 = .ok (.getfield 12, 3) := by decide +kernel
theorem dX4_canStillBe_14 : decode cX4_canStillBe 14 = .ok (.iload_n 1, 1) := by decide +kernel
theorem dX4_canStillBe_15 : decode cX4_canStillBe 15 = .ok (.invokevirtual 69, 3) := by decide +kernel
theorem dX4_canStillBe_18 : decode cX4_canStillBe 18 = .ok (.iconst 0, 1) := by decide +kernel
theorem dX4_canStillBe_19 : decode cX4_canStillBe 19 = .ok (.istore_n 3, 1) := by decide +kernel
theorem dX4_canStillBe_20 : decode cX4_canStillBe 20 = .ok (.iload_n 3, 1) := by decide +kernel
theorem dX4_canStillBe_21 : decode cX4_canStillBe 21 = .ok (.iload_n 2, 1) := by decide +kernel
theorem dX4_canStillBe_22 : decode cX4_canStillBe 22 = .ok (.if_icmp .ge 29, 3) := by decide +kernel
theorem dX4_canStillBe_25 : decode cX4_canStillBe 25 = .ok (.aload_n 0, 1) := by decide +kernel
theorem dX4_canStillBe_26 : decode cX4_canStillBe 26 = .ok (.getfield 12, 3) := by decide +kernel
theorem dX4_canStillBe_29 : decode cX4_canStillBe 29 = .ok (.iload_n 1, 1) := by decide +kernel
theorem dX4_canStillBe_30 : decode cX4_canStillBe 30 = .ok (.iconst 1, 1) := by decide +kernel
theorem dX4_canStillBe_31 : decode cX4_canStillBe 31 = .ok (.iadd, 1) := by decide +kernel
theorem dX4_canStillBe_32 : decode cX4_canStillBe 32 = .ok (.iload_n 3, 1) := by decide +kernel
theorem dX4_canStillBe_33 : decode cX4_canStillBe 33 = .ok (.invokevirtual 73, 3) := by decide +kernel
theorem dX4_canStillBe_36 : decode cX4_canStillBe 36 = .ok (.aload_n 0, 1) := by decide +kernel
theorem dX4_canStillBe_37 : decode cX4_canStillBe 37 = .ok (.getfield 35, 3) := by decide +kernel
theorem dX4_canStillBe_40 : decode cX4_canStillBe 40 = .ok (.if_icmp .le 5, 3) := by decide +kernel
theorem dX4_canStillBe_43 : decode cX4_canStillBe 43 = .ok (.iconst 0, 1) := by decide +kernel
theorem dX4_canStillBe_44 : decode cX4_canStillBe 44 = .ok (.ireturn, 1) := by decide +kernel
theorem dX4_canStillBe_45 : decode cX4_canStillBe 45 = .ok (.iinc 3 1, 3) := by decide +kernel
theorem dX4_canStillBe_48 : decode cX4_canStillBe 48 = .ok (.goto (-28), 3) := by decide +kernel
theorem dX4_canStillBe_51 : decode cX4_canStillBe 51 = .ok (.iconst 1, 1) := by decide +kernel
theorem dX4_canStillBe_52 : decode cX4_canStillBe 52 = .ok (.ireturn, 1) := by decide +kernel
def xX4_canStillBe : zX := (RX4, cX4_canStillBe, 4, (some .boolean), false, { frames := 3, cells := 0, slots := 0, locals := 135 }, 0, 0, 0, 0)
theorem rmX4_canStillBe : z_Rm xX4_canStillBe := by unfold z_Rm xX4_canStillBe; exact ⟨by decide, by decide⟩
theorem reX4_canStillBe : z_Re xX4_canStillBe := ⟨rfl, rfl⟩
theorem rlX4_canStillBe : 1 ≤ xX4_canStillBe.2.2.2.2.2.1.frames ∧ 21 ≤ xX4_canStillBe.2.2.2.2.2.1.locals := by unfold xX4_canStillBe; exact ⟨by decide, by decide⟩
theorem meX4_canStillBe : z_Me yX4_canStillBe xX4_canStillBe 2 := ⟨wd209, wd185, by decide, by decide, by decide +kernel⟩
theorem fitX4_canStillBe_15 : z_Fit xX10_tallyEdge xX4_canStillBe := by unfold z_Fit; simp only [xX10_tallyEdge, xX4_canStillBe]; exact ⟨by decide, by decide⟩
theorem fitX4_canStillBe_33 : z_Fit xX10_tally xX4_canStillBe := by unfold z_Fit; simp only [xX10_tally, xX4_canStillBe]; exact ⟨by decide, by decide⟩
noncomputable def kX4_canStillBe_51 : zK zR := (q_push 1 q_zret)
noncomputable def kX4_canStillBe_43 : zK zR := (q_push 0 q_zret)
noncomputable def bX4_canStillBe_20 : zK ((zL × zS) ⊕ zR) := (q_iload 3 (q_iload 2 (q_icmp_ge (q_dn kX4_canStillBe_51) (q_aload 0 (q_getR 4 0 (q_iload 1 (q_push 1 (q_iadd (q_iload 3 (q_callV 10 fX10_tally 2 (q_aload 0 (q_getI 4 4 (q_icmp_le (q_iinc 3 1 q_ag) (q_dn kX4_canStillBe_43))))))))))))))
noncomputable def kX4_canStillBe_20 : zK zR := q_lp (bX4_canStillBe_20)
noncomputable def kX4_canStillBe_0 : zK zR := (q_aload 0 (q_getI 4 3 (q_push (-1) (q_icmp_eq (q_aload 0 (q_getR 4 0 (q_iload 1 (q_callV 10 fX10_tallyEdge 1 (q_push 0 (q_istore 3 kX4_canStillBe_20)))))) (q_push 1 q_zret)))))
set_option maxRecDepth 100000 in
theorem tX4_canStillBe_51 {l : Launch} {D : zD} {B sz0 : Nat} {post : Option Value → zS → Prop} : zSnd l D B xX4_canStillBe sz0 post 51 kX4_canStillBe_51 (z_Jr post) := (s_iconst dX4_canStillBe_51 (by decide) (s_zret dX4_canStillBe_52 rfl))
set_option maxRecDepth 100000 in
theorem tX4_canStillBe_43 {l : Launch} {D : zD} {B sz0 : Nat} {post : Option Value → zS → Prop} : zSnd l D B xX4_canStillBe sz0 post 43 kX4_canStillBe_43 (z_Jr post) := (s_iconst dX4_canStillBe_43 (by decide) (s_zret dX4_canStillBe_44 rfl))
set_option maxRecDepth 100000 in
theorem tX4_canStillBe_20 {l : Launch} {D : zD} {B sz0 : Nat} {post : Option Value → zS → Prop} : zSnd l D B xX4_canStillBe sz0 post 20 kX4_canStillBe_20 (z_Jr post) := s_lp (body := bX4_canStillBe_20) (s_iload_n dX4_canStillBe_20 rfl (s_iload_n dX4_canStillBe_21 rfl (s_icmp_ge (tgt := 51) dX4_canStillBe_22 (by decide) (s_dn tX4_canStillBe_51) (s_aload_n dX4_canStillBe_25 rfl (s_getR (f := 0) dX4_canStillBe_26 clX4 (by decide) rfl wd182 (s_iload_n dX4_canStillBe_29 rfl (s_iconst dX4_canStillBe_30 (by decide) (s_iadd dX4_canStillBe_31 (s_iload_n dX4_canStillBe_32 rfl (s_callV (r := (RX10, TX10, 3)) dX4_canStillBe_33 mX10_tally meX10_tally wd188 wd189 rfl rfl reX10_tally rmX4_canStillBe (fitX4_canStillBe_33) wd207 (s_aload_n dX4_canStillBe_36 rfl (s_getI (f := 4) dX4_canStillBe_37 clX4 (by decide) rfl wd208 (s_icmp_le (tgt := 45) dX4_canStillBe_40 (by decide) (s_iinc dX4_canStillBe_45 (by decide) (s_goto (tgt := 20) dX4_canStillBe_48 (by decide) s_ag)) (s_dn tX4_canStillBe_43))))))))))))))
set_option maxRecDepth 100000 in
theorem tX4_canStillBe_0 {l : Launch} {D : zD} {B sz0 : Nat} {post : Option Value → zS → Prop} : zSnd l D B xX4_canStillBe sz0 post 0 kX4_canStillBe_0 (z_Jr post) := (s_aload_n dX4_canStillBe_0 rfl (s_getI (f := 3) dX4_canStillBe_1 clX4 (by decide) rfl wd194 (s_iconst dX4_canStillBe_4 (by decide) (s_icmp_eq (tgt := 10) dX4_canStillBe_5 (by decide) (s_aload_n dX4_canStillBe_10 rfl (s_getR (f := 0) dX4_canStillBe_11 clX4 (by decide) rfl wd182 (s_iload_n dX4_canStillBe_14 rfl (s_callV (r := (RX10, TX10, 3)) dX4_canStillBe_15 mX10_tallyEdge meX10_tallyEdge wd204 wd205 rfl rfl reX10_tallyEdge rmX4_canStillBe (fitX4_canStillBe_15) wd206 (s_iconst dX4_canStillBe_18 (by decide) (s_istore_n dX4_canStillBe_19 rfl tX4_canStillBe_20)))))) (s_iconst dX4_canStillBe_8 (by decide) (s_zret dX4_canStillBe_9 rfl))))))
noncomputable def fX4_canStillBe : zF := z_fn 4 kX4_canStillBe_0
theorem mX4_canStillBe {l : Launch} {D : zD} {B : Nat} : z_MF l D B yX4_canStillBe xX4_canStillBe fX4_canStillBe := z_mf (by decide) rfl (fun h => by cases h) rfl (fun as σ r h => ⟨z_fn_len h, kX4_canStillBe_0, z_fn_run h, fun _ => tX4_canStillBe_0⟩)
/-! ===== RowChildren$Repainting.goThrough ===== -/
theorem dX4_goThrough_0 : decode cX4_goThrough 0 = .ok (.iload_n 3, 1) := by decide +kernel
theorem dX4_goThrough_1 : decode cX4_goThrough 1 = .ok (.aload_n 0, 1) := by decide +kernel
theorem dX4_goThrough_2 : decode cX4_goThrough 2 = .ok (.getfield 41, 3) := by decide +kernel
theorem dX4_goThrough_5 : decode cX4_goThrough 5 = .ok (.if_icmp .lt 4, 3) := by decide +kernel
theorem dX4_goThrough_8 : decode cX4_goThrough 8 = .ok (.return_, 1) := by decide +kernel
theorem dX4_goThrough_9 : decode cX4_goThrough 9 = .ok (.iload_n 2, 1) := by decide +kernel
theorem dX4_goThrough_10 : decode cX4_goThrough 10 = .ok (.aload_n 0, 1) := by decide +kernel
theorem dX4_goThrough_11 : decode cX4_goThrough 11 = .ok (.getfield 50, 3) := by decide +kernel
theorem dX4_goThrough_14 : decode cX4_goThrough 14 = .ok (.if_icmp .lt 12, 3) := by decide +kernel
theorem dX4_goThrough_17 : decode cX4_goThrough 17 = .ok (.aload_n 0, 1) := by decide +kernel
theorem dX4_goThrough_18 : decode cX4_goThrough 18 = .ok (.aload_n 1, 1) := by decide +kernel
theorem dX4_goThrough_19 : decode cX4_goThrough 19 = .ok (.iload_n 3, 1) := by decide +kernel
theorem dX4_goThrough_20 : decode cX4_goThrough 20 = .ok (.iload 4, 2) := by decide +kernel
theorem dX4_goThrough_22 : decode cX4_goThrough 22 = .ok (.invokevirtual 58, 3) := by decide +kernel
theorem dX4_goThrough_25 : decode cX4_goThrough 25 = .ok (.return_, 1) := by decide +kernel
theorem dX4_goThrough_26 : decode cX4_goThrough 26 = .ok (.iconst 0, 1) := by decide +kernel
theorem dX4_goThrough_27 : decode cX4_goThrough 27 = .ok (.istore 5, 2) := by decide +kernel
theorem dX4_goThrough_29 : decode cX4_goThrough 29 = .ok (.iload 5, 2) := by decide +kernel
theorem dX4_goThrough_31 : decode cX4_goThrough 31 = .ok (.aload_n 1, 1) := by decide +kernel
theorem dX4_goThrough_32 : decode cX4_goThrough 32 = .ok (.getfield 30, 3) := by decide +kernel
theorem dX4_goThrough_35 : decode cX4_goThrough 35 = .ok (.if_icmp .ge 67, 3) := by decide +kernel
theorem dX4_goThrough_38 : decode cX4_goThrough 38 = .ok (.aload_n 0, 1) := by decide +kernel
theorem dX4_goThrough_39 : decode cX4_goThrough 39 = .ok (.getfield 12, 3) := by decide +kernel
theorem dX4_goThrough_42 : decode cX4_goThrough 42 = .ok (.aload_n 1, 1) := by decide +kernel
theorem dX4_goThrough_43 : decode cX4_goThrough 43 = .ok (.iload_n 2, 1) := by decide +kernel
theorem dX4_goThrough_44 : decode cX4_goThrough 44 = .ok (.iload 5, 2) := by decide +kernel
theorem dX4_goThrough_46 : decode cX4_goThrough 46 = .ok (.invokevirtual 62, 3) := by decide +kernel
theorem dX4_goThrough_49 : decode cX4_goThrough 49 = .ok (.aload_n 0, 1) := by decide +kernel
theorem dX4_goThrough_50 : decode cX4_goThrough 50 = .ok (.iload_n 2, 1) := by decide +kernel
theorem dX4_goThrough_51 : decode cX4_goThrough 51 = .ok (.aload_n 1, 1) := by decide +kernel
theorem dX4_goThrough_52 : decode cX4_goThrough 52 = .ok (.getfield 30, 3) := by decide +kernel
theorem dX4_goThrough_55 : decode cX4_goThrough 55 = .ok (.invokevirtual 65, 3) := by decide +kernel
theorem dX4_goThrough_58 : decode cX4_goThrough 58 = .ok (.ifCond .eq 38, 3) := by decide +kernel
theorem dX4_goThrough_61 : decode cX4_goThrough 61 = .ok (.iload_n 3, 1) := by decide +kernel
theorem dX4_goThrough_62 : decode cX4_goThrough 62 = .ok (.aload_n 0, 1) := by decide +kernel
theorem dX4_goThrough_63 : decode cX4_goThrough 63 = .ok (.getfield 18, 3) := by decide +kernel
theorem dX4_goThrough_66 : decode cX4_goThrough 66 = .ok (.iload_n 2, 1) := by decide +kernel
theorem dX4_goThrough_67 : decode cX4_goThrough 67 = .ok (.iconst 4, 1) := by decide +kernel
theorem dX4_goThrough_68 : decode cX4_goThrough 68 = .ok (.imul, 1) := by decide +kernel
theorem dX4_goThrough_69 : decode cX4_goThrough 69 = .ok (.iload 5, 2) := by decide +kernel
theorem dX4_goThrough_71 : decode cX4_goThrough 71 = .ok (.iadd, 1) := by decide +kernel
theorem dX4_goThrough_72 : decode cX4_goThrough 72 = .ok (.iaload, 1) := by decide +kernel
theorem dX4_goThrough_73 : decode cX4_goThrough 73 = .ok (.iadd, 1) := by decide +kernel
theorem dX4_goThrough_74 : decode cX4_goThrough 74 = .ok (.istore 6, 2) := by decide +kernel
theorem dX4_goThrough_76 : decode cX4_goThrough 76 = .ok (.aload_n 0, 1) := by decide +kernel
theorem dX4_goThrough_77 : decode cX4_goThrough 77 = .ok (.aload_n 1, 1) := by decide +kernel
theorem dX4_goThrough_78 : decode cX4_goThrough 78 = .ok (.iload_n 2, 1) := by decide +kernel
theorem dX4_goThrough_79 : decode cX4_goThrough 79 = .ok (.iconst 1, 1) := by decide +kernel
theorem dX4_goThrough_80 : decode cX4_goThrough 80 = .ok (.iadd, 1) := by decide +kernel
theorem dX4_goThrough_81 : decode cX4_goThrough 81 = .ok (.iload 6, 2) := by decide +kernel
theorem dX4_goThrough_83 : decode cX4_goThrough 83 = .ok (.iload 4, 2) := by decide +kernel
theorem dX4_goThrough_85 : decode cX4_goThrough 85 = .ok (.aload_n 1, 1) := by decide +kernel
theorem dX4_goThrough_86 : decode cX4_goThrough 86 = .ok (.getfield 30, 3) := by decide +kernel
theorem dX4_goThrough_89 : decode cX4_goThrough 89 = .ok (.imul, 1) := by decide +kernel
theorem dX4_goThrough_90 : decode cX4_goThrough 90 = .ok (.iload 5, 2) := by decide +kernel
theorem dX4_goThrough_92 : decode cX4_goThrough 92 = .ok (.iadd, 1) := by decide +kernel
theorem dX4_goThrough_93 : decode cX4_goThrough 93 = .ok (.invokestatic 54, 3) := by decide +kernel
theorem dX4_goThrough_96 : decode cX4_goThrough 96 = .ok (.iinc 5 1, 3) := by decide +kernel
theorem dX4_goThrough_99 : decode cX4_goThrough 99 = .ok (.goto (-70), 3) := by decide +kernel
theorem dX4_goThrough_102 : decode cX4_goThrough 102 = .ok (.return_, 1) := by decide +kernel
def xX4_goThrough (d : Nat) : zX := (RX4, cX4_goThrough, 7, none, false, { frames := 4 + 1 * d, cells := 0, slots := 0, locals := 160 + 26 * d }, 0, 0, 0, 0)
theorem rmX4_goThrough (d : Nat) : z_Rm (xX4_goThrough d) := by unfold z_Rm xX4_goThrough; exact ⟨by simp, by simp⟩
theorem reX4_goThrough (d : Nat) : z_Re (xX4_goThrough d) := ⟨rfl, rfl⟩
theorem rlX4_goThrough (d : Nat) : 1 ≤ (xX4_goThrough d).2.2.2.2.2.1.frames ∧ 21 ≤ (xX4_goThrough d).2.2.2.2.2.1.locals := by unfold xX4_goThrough; exact ⟨by simp; try omega, by simp; try omega⟩
theorem meX4_goThrough (d : Nat) : z_Me yX4_goThrough (xX4_goThrough d) 5 := ⟨wd220, wd185, by decide, by decide, by decide +kernel⟩
theorem fitX4_goThrough_46 (d : Nat) : z_Fit xX10_put (xX4_goThrough (d + 1)) := by unfold z_Fit; simp only [xX10_put, xX4_goThrough]; exact ⟨by omega, by omega⟩
theorem fitX4_goThrough_55 (d : Nat) : z_Fit xX4_canStillBe (xX4_goThrough (d + 1)) := by unfold z_Fit; simp only [xX4_canStillBe, xX4_goThrough]; exact ⟨by omega, by omega⟩
theorem fitX4_goThrough_93 (d : Nat) : z_Fit (xX4_goThrough d) (xX4_goThrough (d + 1)) := by unfold z_Fit; simp only [xX4_goThrough, xX4_goThrough]; exact ⟨by omega, by omega⟩
theorem fitX4_goThrough_22 (d : Nat) : z_Fit xX4_noteRow (xX4_goThrough (d + 1)) := by unfold z_Fit; simp only [xX4_noteRow, xX4_goThrough]; exact ⟨by omega, by omega⟩
noncomputable def kX4_goThrough_102 (g : zF) : zK zR := q_vret
noncomputable def kX4_goThrough_96 (g : zF) : zK ((zL × zS) ⊕ zR) := (q_iinc 5 1 q_ag)
noncomputable def bX4_goThrough_29 (g : zF) : zK ((zL × zS) ⊕ zR) := (q_iload 5 (q_aload 1 (q_getI 5 0 (q_icmp_ge (q_dn (kX4_goThrough_102 g)) (q_aload 0 (q_getR 4 0 (q_aload 1 (q_iload 2 (q_iload 5 (q_callV 10 fX10_put 3 (q_aload 0 (q_iload 2 (q_aload 1 (q_getI 5 0 (q_callV 4 fX4_canStillBe 2 (q_if_eq (kX4_goThrough_96 g) (q_iload 3 (q_aload 0 (q_getR 4 1 (q_iload 2 (q_push 4 (q_imul (q_iload 5 (q_iadd (q_iald (q_iadd (q_istore 6 (q_aload 0 (q_aload 1 (q_iload 2 (q_push 1 (q_iadd (q_iload 6 (q_iload 4 (q_aload 1 (q_getI 5 0 (q_imul (q_iload 5 (q_iadd (q_callS g 5 (kX4_goThrough_96 g)))))))))))))))))))))))))))))))))))))))))
noncomputable def kX4_goThrough_29 (g : zF) : zK zR := q_lp (bX4_goThrough_29 g)
noncomputable def kX4_goThrough_0 (g : zF) : zK zR := (q_iload 3 (q_aload 0 (q_getI 4 5 (q_icmp_lt (q_iload 2 (q_aload 0 (q_getI 4 2 (q_icmp_lt (q_push 0 (q_istore 5 (kX4_goThrough_29 g))) (q_aload 0 (q_aload 1 (q_iload 3 (q_iload 4 (q_callV 4 fX4_noteRow 3 q_vret))))))))) q_vret))))
set_option maxRecDepth 100000 in
theorem tX4_goThrough_102 (d : Nat) {g : zF} {l : Launch} {D : zD} {B sz0 : Nat} {post : Option Value → zS → Prop} (hg : z_MF l D B yX4_goThrough (xX4_goThrough d) g) : zSnd l D B (xX4_goThrough (d + 1)) sz0 post 102 (kX4_goThrough_102 g) (z_Jr post) := (s_vret dX4_goThrough_102 rfl)
set_option maxRecDepth 100000 in
theorem tX4_goThrough_96 (d : Nat) {g : zF} {l : Launch} {D : zD} {B sz0 : Nat} {post : Option Value → zS → Prop} (hg : z_MF l D B yX4_goThrough (xX4_goThrough d) g) : zSnd l D B (xX4_goThrough (d + 1)) sz0 post 96 (kX4_goThrough_96 g) (z_Jl l D B (xX4_goThrough (d + 1)) sz0 post 29 (z_Jr post)) := (s_iinc dX4_goThrough_96 (by decide) (s_goto (tgt := 29) dX4_goThrough_99 (by decide) s_ag))
set_option maxRecDepth 100000 in
theorem tX4_goThrough_29 (d : Nat) {g : zF} {l : Launch} {D : zD} {B sz0 : Nat} {post : Option Value → zS → Prop} (hg : z_MF l D B yX4_goThrough (xX4_goThrough d) g) : zSnd l D B (xX4_goThrough (d + 1)) sz0 post 29 (kX4_goThrough_29 g) (z_Jr post) := s_lp (body := bX4_goThrough_29 g) (s_iload dX4_goThrough_29 (s_aload_n dX4_goThrough_31 rfl (s_getI (f := 0) dX4_goThrough_32 clX5 (by decide) rfl wd198 (s_icmp_ge (tgt := 102) dX4_goThrough_35 (by decide) (s_dn (tX4_goThrough_102 d hg)) (s_aload_n dX4_goThrough_38 rfl (s_getR (f := 0) dX4_goThrough_39 clX4 (by decide) rfl wd182 (s_aload_n dX4_goThrough_42 rfl (s_iload_n dX4_goThrough_43 rfl (s_iload dX4_goThrough_44 (s_callV (r := (RX10, TX10, 3)) dX4_goThrough_46 mX10_put meX10_put wd34 wd35 rfl rfl reX10_put (rmX4_goThrough (d + 1)) (fitX4_goThrough_46 d) wd211 (s_aload_n dX4_goThrough_49 rfl (s_iload_n dX4_goThrough_50 rfl (s_aload_n dX4_goThrough_51 rfl (s_getI (f := 0) dX4_goThrough_52 clX5 (by decide) rfl wd198 (s_callV (r := (RX4, TX4, 7)) dX4_goThrough_55 mX4_canStillBe meX4_canStillBe wd212 wd213 rfl rfl reX4_canStillBe (rmX4_goThrough (d + 1)) (fitX4_goThrough_55 d) wd214 (s_if_eq (tgt := 96) dX4_goThrough_58 (by decide) (tX4_goThrough_96 d hg) (s_iload_n dX4_goThrough_61 rfl (s_aload_n dX4_goThrough_62 rfl (s_getR (f := 1) dX4_goThrough_63 clX4 (by decide) rfl wd183 (s_iload_n dX4_goThrough_66 rfl (s_iconst dX4_goThrough_67 (by decide) (s_imul dX4_goThrough_68 (s_iload dX4_goThrough_69 (s_iadd dX4_goThrough_71 (s_iald dX4_goThrough_72 (s_iadd dX4_goThrough_73 (s_istore dX4_goThrough_74 (s_aload_n dX4_goThrough_76 rfl (s_aload_n dX4_goThrough_77 rfl (s_iload_n dX4_goThrough_78 rfl (s_iconst dX4_goThrough_79 (by decide) (s_iadd dX4_goThrough_80 (s_iload dX4_goThrough_81 (s_iload dX4_goThrough_83 (s_aload_n dX4_goThrough_85 rfl (s_getI (f := 0) dX4_goThrough_86 clX5 (by decide) rfl wd198 (s_imul dX4_goThrough_89 (s_iload dX4_goThrough_90 (s_iadd dX4_goThrough_92 (s_callS dX4_goThrough_93 hg (meX4_goThrough d) wd215 rfl (reX4_goThrough d) (rmX4_goThrough (d + 1)) (fitX4_goThrough_93 d) wd216 (tX4_goThrough_96 d hg)))))))))))))))))))))))))))))))))))))))))
set_option maxRecDepth 100000 in
theorem tX4_goThrough_0 (d : Nat) {g : zF} {l : Launch} {D : zD} {B sz0 : Nat} {post : Option Value → zS → Prop} (hg : z_MF l D B yX4_goThrough (xX4_goThrough d) g) : zSnd l D B (xX4_goThrough (d + 1)) sz0 post 0 (kX4_goThrough_0 g) (z_Jr post) := (s_iload_n dX4_goThrough_0 rfl (s_aload_n dX4_goThrough_1 rfl (s_getI (f := 5) dX4_goThrough_2 clX4 (by decide) rfl wd196 (s_icmp_lt (tgt := 9) dX4_goThrough_5 (by decide) (s_iload_n dX4_goThrough_9 rfl (s_aload_n dX4_goThrough_10 rfl (s_getI (f := 2) dX4_goThrough_11 clX4 (by decide) rfl wd210 (s_icmp_lt (tgt := 26) dX4_goThrough_14 (by decide) (s_iconst dX4_goThrough_26 (by decide) (s_istore dX4_goThrough_27 (tX4_goThrough_29 d hg))) (s_aload_n dX4_goThrough_17 rfl (s_aload_n dX4_goThrough_18 rfl (s_iload_n dX4_goThrough_19 rfl (s_iload dX4_goThrough_20 (s_callV (r := (RX4, TX4, 7)) dX4_goThrough_22 mX4_noteRow meX4_noteRow wd217 wd218 rfl rfl reX4_noteRow (rmX4_goThrough (d + 1)) (fitX4_goThrough_22 d) wd219 (s_vret dX4_goThrough_25 rfl)))))))))) (s_vret dX4_goThrough_8 rfl)))))
noncomputable def fX4_goThrough : Nat → zF
  | 0 => fun _ _ => none
  | d + 1 => z_fn 7 (kX4_goThrough_0 (fX4_goThrough d))
theorem mX4_goThrough {l : Launch} {D : zD} {B : Nat} : ∀ d : Nat, z_MF l D B yX4_goThrough (xX4_goThrough d) (fX4_goThrough d)
  | 0 => fun _ _ _ h => by cases h
  | d + 1 => z_mf (by decide) rfl (fun h => by cases h) rfl (fun as σ r h => ⟨z_fn_len (k := kX4_goThrough_0 (fX4_goThrough d)) h, kX4_goThrough_0 (fX4_goThrough d), z_fn_run (k := kX4_goThrough_0 (fX4_goThrough d)) h, fun _ => tX4_goThrough_0 d (mX4_goThrough d)⟩)
