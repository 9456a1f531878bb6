/-! ===== RowChildrenModel.expression ===== -/
theorem dX12_expression_0 : decode cX12_expression 0 = .ok (.aload_n 0, 1) := by decide +kernel
theorem dX12_expression_1 : decode cX12_expression 1 = .ok (.iconst 0, 1) := by decide +kernel
theorem dX12_expression_2 : decode cX12_expression 2 = .ok (.putfield 306, 3) := by decide +kernel
theorem dX12_expression_5 : decode cX12_expression 5 = .ok (.aload_n 0, 1) := by decide +kernel
theorem dX12_expression_6 : decode cX12_expression 6 = .ok (.getfield 246, 3) := by decide +kernel
theorem dX12_expression_9 : decode cX12_expression 9 = .ok (.istore_n 1, 1) := by decide +kernel
theorem dX12_expression_10 : decode cX12_expression 10 = .ok (.iconst 1, 1) := by decide +kernel
theorem dX12_expression_11 : decode cX12_expression 11 = .ok (.istore_n 2, 1) := by decide +kernel
theorem dX12_expression_12 : decode cX12_expression 12 = .ok (.iload_n 2, 1) := by decide +kernel
theorem dX12_expression_13 : decode cX12_expression 13 = .ok (.ifCond .eq 259, 3) := by decide +kernel
theorem dX12_expression_16 : decode cX12_expression 16 = .ok (.aload_n 0, 1) := by decide +kernel
theorem dX12_expression_17 : decode cX12_expression 17 = .ok (.getfield 219, 3) := by decide +kernel
theorem dX12_expression_20 : decode cX12_expression 20 = .ok (.ifCond .ne 252, 3) := by decide +kernel
theorem dX12_expression_23 : decode cX12_expression 23 = .ok (.aload_n 0, 1) := by decide +kernel
theorem dX12_expression_24 : decode cX12_expression 24 = .ok (.bipush 6, 2) := by decide +kernel
theorem dX12_expression_26 : decode cX12_expression 26 = .ok (.invokevirtual 237, 3) := by decide +kernel
theorem dX12_expression_29 : decode cX12_expression 29 = .ok (.ifCond .eq 55, 3) := by decide +kernel
theorem dX12_expression_32 : decode cX12_expression 32 = .ok (.aload_n 0, 1) := by decide +kernel
theorem dX12_expression_33 : decode cX12_expression 33 = .ok (.getfield 246, 3) := by decide +kernel
theorem dX12_expression_36 : decode cX12_expression 36 = .ok (.bipush 6, 2) := by decide +kernel
theorem dX12_expression_38 : decode cX12_expression 38 = .ok (.if_icmp .ne 8, 3) := by decide +kernel
theorem dX12_expression_41 : decode cX12_expression 41 = .ok (.aload_n 0, 1) := by decide +kernel
theorem dX12_expression_42 : decode cX12_expression 42 = .ok (.iconst 2, 1) := by decide +kernel
theorem dX12_expression_43 : decode cX12_expression 43 = .ok (.invokevirtual 234, 3) := by decide +kernel
theorem dX12_expression_46 : decode cX12_expression 46 = .ok (.aload_n 0, 1) := by decide +kernel
theorem dX12_expression_47 : decode cX12_expression 47 = .ok (.dup, 1) := by decide +kernel
theorem dX12_expression_48 : decode cX12_expression 48 = .ok (.getfield 246, 3) := by decide +kernel
theorem dX12_expression_51 : decode cX12_expression 51 = .ok (.iconst 1, 1) := by decide +kernel
theorem dX12_expression_52 : decode cX12_expression 52 = .ok (.iadd, 1) := by decide +kernel
theorem dX12_expression_53 : decode cX12_expression 53 = .ok (.putfield 246, 3) := by decide +kernel
theorem dX12_expression_56 : decode cX12_expression 56 = .ok (.aload_n 0, 1) := by decide +kernel
theorem dX12_expression_57 : decode cX12_expression 57 = .ok (.invokevirtual 240, 3) := by decide +kernel
theorem dX12_expression_60 : decode cX12_expression 60 = .ok (.aload_n 0, 1) := by decide +kernel
theorem dX12_expression_61 : decode cX12_expression 61 = .ok (.getfield 95, 3) := by decide +kernel
theorem dX12_expression_64 : decode cX12_expression 64 = .ok (.aload_n 0, 1) := by decide +kernel
theorem dX12_expression_65 : decode cX12_expression 65 = .ok (.getfield 306, 3) := by decide +kernel
theorem dX12_expression_68 : decode cX12_expression 68 = .ok (.bipush 6, 2) := by decide +kernel
theorem dX12_expression_70 : decode cX12_expression 70 = .ok (.iastore, 1) := by decide +kernel
theorem dX12_expression_71 : decode cX12_expression 71 = .ok (.aload_n 0, 1) := by decide +kernel
theorem dX12_expression_72 : decode cX12_expression 72 = .ok (.dup, 1) := by decide +kernel
theorem dX12_expression_73 : decode cX12_expression 73 = .ok (.getfield 306, 3) := by decide +kernel
theorem dX12_expression_76 : decode cX12_expression 76 = .ok (.iconst 1, 1) := by decide +kernel
theorem dX12_expression_77 : decode cX12_expression 77 = .ok (.iadd, 1) := by decide +kernel
theorem dX12_expression_78 : decode cX12_expression 78 = .ok (.putfield 306, 3) := by decide +kernel
theorem dX12_expression_81 : decode cX12_expression 81 = .ok (.goto (-58), 3) := by decide +kernel
theorem dX12_expression_84 : decode cX12_expression 84 = .ok (.aload_n 0, 1) := by decide +kernel
theorem dX12_expression_85 : decode cX12_expression 85 = .ok (.invokevirtual 312, 3) := by decide +kernel
theorem dX12_expression_88 : decode cX12_expression 88 = .ok (.aload_n 0, 1) := by decide +kernel
theorem dX12_expression_89 : decode cX12_expression 89 = .ok (.getfield 219, 3) := by decide +kernel
theorem dX12_expression_92 : decode cX12_expression 92 = .ok (.ifCond .le 4, 3) := by decide +kernel
theorem dX12_expression_95 : decode cX12_expression 95 = .ok (.return_, 1) := by decide +kernel
theorem dX12_expression_96 : decode cX12_expression 96 = .ok (.aload_n 0, 1) := by decide +kernel
theorem dX12_expression_97 : decode cX12_expression 97 = .ok (.bipush 7, 2) := by decide +kernel
theorem dX12_expression_99 : decode cX12_expression 99 = .ok (.invokevirtual 237, 3) := by decide +kernel
theorem dX12_expression_102 : decode cX12_expression 102 = .ok (.ifCond .eq 43, 3) := by decide +kernel
theorem dX12_expression_105 : decode cX12_expression 105 = .ok (.aload_n 0, 1) := by decide +kernel
theorem dX12_expression_106 : decode cX12_expression 106 = .ok (.getfield 246, 3) := by decide +kernel
theorem dX12_expression_109 : decode cX12_expression 109 = .ok (.iload_n 1, 1) := by decide +kernel
theorem dX12_expression_110 : decode cX12_expression 110 = .ok (.if_icmp .le 35, 3) := by decide +kernel
theorem dX12_expression_113 : decode cX12_expression 113 = .ok (.aload_n 0, 1) := by decide +kernel
theorem dX12_expression_114 : decode cX12_expression 114 = .ok (.iconst 0, 1) := by decide +kernel
theorem dX12_expression_115 : decode cX12_expression 115 = .ok (.invokevirtual 315, 3) := by decide +kernel
theorem dX12_expression_118 : decode cX12_expression 118 = .ok (.aload_n 0, 1) := by decide +kernel
theorem dX12_expression_119 : decode cX12_expression 119 = .ok (.dup, 1) := by decide +kernel
theorem dX12_expression_120 : decode cX12_expression 120 = .ok (.getfield 306, 3) := by decide +kernel
theorem dX12_expression_123 : decode cX12_expression 123 = .ok (.iconst 1, 1) := by decide +kernel
theorem dX12_expression_124 : decode cX12_expression 124 = .ok (.isub, 1) := by decide +kernel
theorem dX12_expression_125 : decode cX12_expression 125 = .ok (.putfield 306, 3) := by decide +kernel
theorem dX12_expression_128 : decode cX12_expression 128 = .ok (.aload_n 0, 1) := by decide +kernel
theorem dX12_expression_129 : decode cX12_expression 129 = .ok (.dup, 1) := by decide +kernel
theorem dX12_expression_130 : decode cX12_expression 130 = .ok (.getfield 246, 3) := by decide +kernel
theorem dX12_expression_133 : decode cX12_expression 133 = .ok (.iconst 1, 1) := by decide +kernel
theorem dX12_expression_134 : decode cX12_expression 134 = .ok (.isub, 1) := by decide +kernel
theorem dX12_expression_135 : decode cX12_expression 135 = .ok (.putfield 246, 3) := by decide +kernel
theorem dX12_expression_138 : decode cX12_expression 138 = .ok (.aload_n 0, 1) := by decide +kernel
theorem dX12_expression_139 : decode cX12_expression 139 = .ok (.invokevirtual 240, 3) := by decide +kernel
theorem dX12_expression_142 : decode cX12_expression 142 = .ok (.goto (-46), 3) := by decide +kernel
theorem dX12_expression_145 : decode cX12_expression 145 = .ok (.aload_n 0, 1) := by decide +kernel
theorem dX12_expression_146 : decode cX12_expression 146 = .ok (.bipush 8, 2) := by decide +kernel
theorem dX12_expression_148 : decode cX12_expression 148 = .ok (.invokevirtual 237, 3) := by decide +kernel
theorem dX12_expression_151 : decode cX12_expression 151 = .ok (.ifCond .ne 30, 3) := by decide +kernel
theorem dX12_expression_154 : decode cX12_expression 154 = .ok (.aload_n 0, 1) := by decide +kernel
theorem dX12_expression_155 : decode cX12_expression 155 = .ok (.bipush 9, 2) := by decide +kernel
theorem dX12_expression_157 : decode cX12_expression 157 = .ok (.invokevirtual 237, 3) := by decide +kernel
theorem dX12_expression_160 : decode cX12_expression 160 = .ok (.ifCond .ne 21, 3) := by decide +kernel
theorem dX12_expression_163 : decode cX12_expression 163 = .ok (.aload_n 0, 1) := by decide +kernel
theorem dX12_expression_164 : decode cX12_expression 164 = .ok (.bipush 10, 2) := by decide +kernel
theorem dX12_expression_166 : decode cX12_expression 166 = .ok (.invokevirtual 237, 3) := by decide +kernel
theorem dX12_expression_169 : decode cX12_expression 169 = .ok (.ifCond .ne 12, 3) := by decide +kernel
theorem dX12_expression_172 : decode cX12_expression 172 = .ok (.aload_n 0, 1) := by decide +kernel
theorem dX12_expression_173 : decode cX12_expression 173 = .ok (.bipush 15, 2) := by decide +kernel
theorem dX12_expression_175 : decode cX12_expression 175 = .ok (.invokevirtual 237, 3) := by decide +kernel
theorem dX12_expression_178 : decode cX12_expression 178 = .ok (.ifCond .eq 7, 3) := by decide +kernel
theorem dX12_expression_181 : decode cX12_expression 181 = .ok (.iconst 1, 1) := by decide +kernel
theorem dX12_expression_182 : decode cX12_expression 182 = .ok (.goto 4, 3) := by decide +kernel
theorem dX12_expression_185 : decode cX12_expression 185 = .ok (.iconst 0, 1) := by decide +kernel
theorem dX12_expression_186 : decode cX12_expression 186 = .ok (.istore_n 2, 1) := by decide +kernel
theorem dX12_expression_187 : decode cX12_expression 187 = .ok (.iload_n 2, 1) := by decide +kernel
theorem dX12_expression_188 : decode cX12_expression 188 = .ok (.ifCond .ne 22, 3) := by decide +kernel
theorem dX12_expression_191 : decode cX12_expression 191 = .ok (.aload_n 0, 1) := by decide +kernel
theorem dX12_expression_192 : decode cX12_expression 192 = .ok (.getfield 246, 3) := by decide +kernel
theorem dX12_expression_195 : decode cX12_expression 195 = .ok (.iload_n 1, 1) := by decide +kernel
theorem dX12_expression_196 : decode cX12_expression 196 = .ok (.if_icmp .le 8, 3) := by decide +kernel
theorem dX12_expression_199 : decode cX12_expression 199 = .ok (.aload_n 0, 1) := by decide +kernel
theorem dX12_expression_200 : decode cX12_expression 200 = .ok (.iconst 1, 1) := by decide +kernel
theorem dX12_expression_201 : decode cX12_expression 201 = .ok (.invokevirtual 234, 3) := by decide +kernel
theorem dX12_expression_204 : decode cX12_expression 204 = .ok (.aload_n 0, 1) := by decide +kernel
theorem dX12_expression_205 : decode cX12_expression 205 = .ok (.iconst 0, 1) := by decide +kernel
theorem dX12_expression_206 : decode cX12_expression 206 = .ok (.invokevirtual 315, 3) := by decide +kernel
theorem dX12_expression_209 : decode cX12_expression 209 = .ok (.return_, 1) := by decide +kernel
theorem dX12_expression_210 : decode cX12_expression 210 = .ok (.aload_n 0, 1) := by decide +kernel
theorem dX12_expression_211 : decode cX12_expression 211 = .ok (.aload_n 0, 1) := by decide +kernel
theorem dX12_expression_212 : decode cX12_expression 212 = .ok (.bipush 10, 2) := by decide +kernel
theorem dX12_expression_214 : decode cX12_expression 214 = .ok (.invokevirtual 237, 3) := by decide +kernel
theorem dX12_expression_217 : decode cX12_expression 217 = .ok (.ifCond .ne 12, 3) := by decide +kernel
theorem dX12_expression_220 : decode cX12_expression 220 = .ok (.aload_n 0, 1) := by decide +kernel
theorem dX12_expression_221 : decode cX12_expression 221 = .ok (.bipush 15, 2) := by decide +kernel
theorem dX12_expression_223 : decode cX12_expression 223 = .ok (.invokevirtual 237, 3) := by decide +kernel
theorem dX12_expression_226 : decode cX12_expression 226 = .ok (.ifCond .eq 7, 3) := by decide +kernel
theorem dX12_expression_229 : decode cX12_expression 229 = .ok (.iconst 1, 1) := by decide +kernel
theorem dX12_expression_230 : decode cX12_expression 230 = .ok (.goto 4, 3) := by decide +kernel
theorem dX12_expression_233 : decode cX12_expression 233 = .ok (.iconst 0, 1) := by decide +kernel
theorem dX12_expression_234 : decode cX12_expression 234 = .ok (.invokevirtual 315, 3) := by decide +kernel
theorem dX12_expression_237 : decode cX12_expression 237 = .ok (.aload_n 0, 1) := by decide +kernel
theorem dX12_expression_238 : decode cX12_expression 238 = .ok (.getfield 95, 3) := by decide +kernel
theorem dX12_expression_241 : decode cX12_expression 241 = .ok (.aload_n 0, 1) := by decide +kernel
theorem dX12_expression_242 : decode cX12_expression 242 = .ok (.getfield 306, 3) := by decide +kernel
theorem dX12_expression_245 : decode cX12_expression 245 = .ok (.aload_n 0, 1) := by decide +kernel
theorem dX12_expression_246 : decode cX12_expression 246 = .ok (.getfield 20, 3) := by decide +kernel
theorem dX12_expression_249 : decode cX12_expression 249 = .ok (.aload_n 0, 1) := by decide +kernel
theorem dX12_expression_250 : decode cX12_expression 250 = .ok (.getfield 222, 3) := by decide +kernel
theorem dX12_expression_253 : decode cX12_expression 253 = .ok (.iaload, 1) := by decide +kernel
theorem dX12_expression_254 : decode cX12_expression 254 = .ok (.iastore, 1) := by decide +kernel
theorem dX12_expression_255 : decode cX12_expression 255 = .ok (.aload_n 0, 1) := by decide +kernel
theorem dX12_expression_256 : decode cX12_expression 256 = .ok (.dup, 1) := by decide +kernel
theorem dX12_expression_257 : decode cX12_expression 257 = .ok (.getfield 306, 3) := by decide +kernel
theorem dX12_expression_260 : decode cX12_expression 260 = .ok (.iconst 1, 1) := by decide +kernel
theorem dX12_expression_261 : decode cX12_expression 261 = .ok (.iadd, 1) := by decide +kernel
theorem dX12_expression_262 : decode cX12_expression 262 = .ok (.putfield 306, 3) := by decide +kernel
theorem dX12_expression_265 : decode cX12_expression 265 = .ok (.aload_n 0, 1) := by decide +kernel
theorem dX12_expression_266 : decode cX12_expression 266 = .ok (.invokevirtual 240, 3) := by decide +kernel
theorem dX12_expression_269 : decode cX12_expression 269 = .ok (.goto (-257), 3) := by decide +kernel
theorem dX12_expression_272 : decode cX12_expression 272 = .ok (.return_, 1) := by decide +kernel
def xX12_expression : zX := (RX12, cX12_expression, 3, none, false, { frames := 4, cells := 0, slots := 0, locals := 151 }, 0, 0, 0, 0)
theorem rmX12_expression : z_Rm xX12_expression := by unfold z_Rm xX12_expression; exact ⟨by decide, by decide⟩
theorem reX12_expression : z_Re xX12_expression := ⟨rfl, rfl⟩
theorem rlX12_expression : 1 ≤ xX12_expression.2.2.2.2.2.1.frames ∧ 21 ≤ xX12_expression.2.2.2.2.2.1.locals := by unfold xX12_expression; exact ⟨by decide, by decide⟩
theorem meX12_expression : z_Me yX12_expression xX12_expression 0 := ⟨wd1040, wd893, by decide, by decide, by decide +kernel⟩
theorem fitX12_expression_26 : z_Fit xX12_is xX12_expression := by unfold z_Fit; simp only [xX12_is, xX12_expression]; exact ⟨by decide, by decide⟩
theorem fitX12_expression_85 : z_Fit xX12_unit xX12_expression := by unfold z_Fit; simp only [xX12_unit, xX12_expression]; exact ⟨by decide, by decide⟩
theorem fitX12_expression_99 : z_Fit xX12_is xX12_expression := by unfold z_Fit; simp only [xX12_is, xX12_expression]; exact ⟨by decide, by decide⟩
theorem fitX12_expression_148 : z_Fit xX12_is xX12_expression := by unfold z_Fit; simp only [xX12_is, xX12_expression]; exact ⟨by decide, by decide⟩
theorem fitX12_expression_214 : z_Fit xX12_is xX12_expression := by unfold z_Fit; simp only [xX12_is, xX12_expression]; exact ⟨by decide, by decide⟩
theorem fitX12_expression_234 : z_Fit xX12_comesOut xX12_expression := by unfold z_Fit; simp only [xX12_comesOut, xX12_expression]; exact ⟨by decide, by decide⟩
theorem fitX12_expression_266 : z_Fit xX12_goesOn xX12_expression := by unfold z_Fit; simp only [xX12_goesOn, xX12_expression]; exact ⟨by decide, by decide⟩
theorem fitX12_expression_223 : z_Fit xX12_is xX12_expression := by unfold z_Fit; simp only [xX12_is, xX12_expression]; exact ⟨by decide, by decide⟩
theorem fitX12_expression_206 : z_Fit xX12_comesOut xX12_expression := by unfold z_Fit; simp only [xX12_comesOut, xX12_expression]; exact ⟨by decide, by decide⟩
theorem fitX12_expression_201 : z_Fit xX12_fail xX12_expression := by unfold z_Fit; simp only [xX12_fail, xX12_expression]; exact ⟨by decide, by decide⟩
theorem fitX12_expression_157 : z_Fit xX12_is xX12_expression := by unfold z_Fit; simp only [xX12_is, xX12_expression]; exact ⟨by decide, by decide⟩
theorem fitX12_expression_166 : z_Fit xX12_is xX12_expression := by unfold z_Fit; simp only [xX12_is, xX12_expression]; exact ⟨by decide, by decide⟩
theorem fitX12_expression_175 : z_Fit xX12_is xX12_expression := by unfold z_Fit; simp only [xX12_is, xX12_expression]; exact ⟨by decide, by decide⟩
theorem fitX12_expression_115 : z_Fit xX12_comesOut xX12_expression := by unfold z_Fit; simp only [xX12_comesOut, xX12_expression]; exact ⟨by decide, by decide⟩
theorem fitX12_expression_139 : z_Fit xX12_goesOn xX12_expression := by unfold z_Fit; simp only [xX12_goesOn, xX12_expression]; exact ⟨by decide, by decide⟩
theorem fitX12_expression_57 : z_Fit xX12_goesOn xX12_expression := by unfold z_Fit; simp only [xX12_goesOn, xX12_expression]; exact ⟨by decide, by decide⟩
theorem fitX12_expression_43 : z_Fit xX12_fail xX12_expression := by unfold z_Fit; simp only [xX12_fail, xX12_expression]; exact ⟨by decide, by decide⟩
noncomputable def kX12_expression_272 : zK zR := q_vret
noncomputable def kX12_expression_234 : zK ((zL × zS) ⊕ zR) := (q_callV 12 fX12_comesOut 1 (q_aload 0 (q_getR 12 41 (q_aload 0 (q_getI 12 42 (q_aload 0 (q_getR 12 5 (q_aload 0 (q_getI 12 11 (q_iald (q_iast (q_aload 0 (q_dup (q_getI 12 42 (q_push 1 (q_iadd (q_putI 12 42 (q_aload 0 (q_callV 12 fX12_goesOn 0 q_ag)))))))))))))))))))
noncomputable def kX12_expression_229 : zK ((zL × zS) ⊕ zR) := (q_push 1 kX12_expression_234)
noncomputable def kX12_expression_204 : zK zR := (q_aload 0 (q_push 0 (q_callV 12 fX12_comesOut 1 q_vret)))
noncomputable def kX12_expression_191 : zK zR := (q_aload 0 (q_getI 12 12 (q_iload 1 (q_icmp_le kX12_expression_204 (q_aload 0 (q_push 1 (q_callV 12 fX12_fail 1 kX12_expression_204)))))))
noncomputable def kX12_expression_186 : zK ((zL × zS) ⊕ zR) := (q_istore 2 (q_iload 2 (q_if_ne (q_aload 0 (q_aload 0 (q_push 10 (q_callV 12 fX12_is 1 (q_if_ne kX12_expression_229 (q_aload 0 (q_push 15 (q_callV 12 fX12_is 1 (q_if_eq (q_push 0 kX12_expression_234) kX12_expression_229))))))))) (q_dn kX12_expression_191))))
noncomputable def kX12_expression_181 : zK ((zL × zS) ⊕ zR) := (q_push 1 kX12_expression_186)
noncomputable def kX12_expression_145 : zK ((zL × zS) ⊕ zR) := (q_aload 0 (q_push 8 (q_callV 12 fX12_is 1 (q_if_ne kX12_expression_181 (q_aload 0 (q_push 9 (q_callV 12 fX12_is 1 (q_if_ne kX12_expression_181 (q_aload 0 (q_push 10 (q_callV 12 fX12_is 1 (q_if_ne kX12_expression_181 (q_aload 0 (q_push 15 (q_callV 12 fX12_is 1 (q_if_eq (q_push 0 kX12_expression_186) kX12_expression_181))))))))))))))))
noncomputable def bX12_expression_96 : zK ((zL × zS) ⊕ ((zL × zS) ⊕ zR)) := (q_aload 0 (q_push 7 (q_callV 12 fX12_is 1 (q_if_eq (q_dn kX12_expression_145) (q_aload 0 (q_getI 12 12 (q_iload 1 (q_icmp_le (q_dn kX12_expression_145) (q_aload 0 (q_push 0 (q_callV 12 fX12_comesOut 1 (q_aload 0 (q_dup (q_getI 12 42 (q_push 1 (q_isub (q_putI 12 42 (q_aload 0 (q_dup (q_getI 12 12 (q_push 1 (q_isub (q_putI 12 12 (q_aload 0 (q_callV 12 fX12_goesOn 0 q_ag)))))))))))))))))))))))))
noncomputable def kX12_expression_96 : zK ((zL × zS) ⊕ zR) := q_lp (bX12_expression_96)
noncomputable def kX12_expression_95 : zK zR := q_vret
noncomputable def kX12_expression_84 : zK ((zL × zS) ⊕ zR) := (q_aload 0 (q_callV 12 fX12_unit 0 (q_aload 0 (q_getI 12 13 (q_if_le kX12_expression_96 (q_dn kX12_expression_95))))))
noncomputable def kX12_expression_46 : zK ((zL × zS) ⊕ ((zL × zS) ⊕ zR)) := (q_aload 0 (q_dup (q_getI 12 12 (q_push 1 (q_iadd (q_putI 12 12 (q_aload 0 (q_callV 12 fX12_goesOn 0 (q_aload 0 (q_getR 12 41 (q_aload 0 (q_getI 12 42 (q_push 6 (q_iast (q_aload 0 (q_dup (q_getI 12 42 (q_push 1 (q_iadd (q_putI 12 42 q_ag))))))))))))))))))))
noncomputable def bX12_expression_23 : zK ((zL × zS) ⊕ ((zL × zS) ⊕ zR)) := (q_aload 0 (q_push 6 (q_callV 12 fX12_is 1 (q_if_eq (q_dn kX12_expression_84) (q_aload 0 (q_getI 12 12 (q_push 6 (q_icmp_ne kX12_expression_46 (q_aload 0 (q_push 2 (q_callV 12 fX12_fail 1 kX12_expression_46)))))))))))
noncomputable def kX12_expression_23 : zK ((zL × zS) ⊕ zR) := q_lp (bX12_expression_23)
noncomputable def bX12_expression_12 : zK ((zL × zS) ⊕ zR) := (q_iload 2 (q_if_eq (q_dn kX12_expression_272) (q_aload 0 (q_getI 12 13 (q_if_ne (q_dn kX12_expression_272) kX12_expression_23)))))
noncomputable def kX12_expression_12 : zK zR := q_lp (bX12_expression_12)
noncomputable def kX12_expression_0 : zK zR := (q_aload 0 (q_push 0 (q_putI 12 42 (q_aload 0 (q_getI 12 12 (q_istore 1 (q_push 1 (q_istore 2 kX12_expression_12))))))))
set_option maxRecDepth 100000 in
theorem tX12_expression_272 {l : Launch} {D : zD} {B sz0 : Nat} {post : Option Value → zS → Prop} : zSnd l D B xX12_expression sz0 post 272 kX12_expression_272 (z_Jr post) := (s_vret dX12_expression_272 rfl)
set_option maxRecDepth 100000 in
theorem tX12_expression_234 {l : Launch} {D : zD} {B sz0 : Nat} {post : Option Value → zS → Prop} : zSnd l D B xX12_expression sz0 post 234 kX12_expression_234 (z_Jl l D B xX12_expression sz0 post 12 (z_Jr post)) := (s_callV (r := (RX12, TX12, 74)) dX12_expression_234 mX12_comesOut meX12_comesOut wd1037 wd1038 rfl rfl reX12_comesOut rmX12_expression (fitX12_expression_234) wd1039 (s_aload_n dX12_expression_237 rfl (s_getR (f := 41) dX12_expression_238 clX12 (by decide) rfl wd924 (s_aload_n dX12_expression_241 rfl (s_getI (f := 42) dX12_expression_242 clX12 (by decide) rfl wd1031 (s_aload_n dX12_expression_245 rfl (s_getR (f := 5) dX12_expression_246 clX12 (by decide) rfl wd910 (s_aload_n dX12_expression_249 rfl (s_getI (f := 11) dX12_expression_250 clX12 (by decide) rfl wd988 (s_iald dX12_expression_253 (s_iast dX12_expression_254 (s_aload_n dX12_expression_255 rfl (s_dup dX12_expression_256 (s_getI (f := 42) dX12_expression_257 clX12 (by decide) rfl wd1031 (s_iconst dX12_expression_260 (by decide) (s_iadd dX12_expression_261 (s_putI (f := 42) dX12_expression_262 clX12 (by decide) rfl rfl rfl wd1031 (s_aload_n dX12_expression_265 rfl (s_callV (r := (RX12, TX12, 74)) dX12_expression_266 mX12_goesOn meX12_goesOn wd1002 wd1003 rfl rfl reX12_goesOn rmX12_expression (fitX12_expression_266) wd1004 (s_goto (tgt := 12) dX12_expression_269 (by decide) s_ag))))))))))))))))))))
set_option maxRecDepth 100000 in
theorem tX12_expression_229 {l : Launch} {D : zD} {B sz0 : Nat} {post : Option Value → zS → Prop} : zSnd l D B xX12_expression sz0 post 229 kX12_expression_229 (z_Jl l D B xX12_expression sz0 post 12 (z_Jr post)) := (s_iconst dX12_expression_229 (by decide) (s_goto (tgt := 234) dX12_expression_230 (by decide) tX12_expression_234))
set_option maxRecDepth 100000 in
theorem tX12_expression_204 {l : Launch} {D : zD} {B sz0 : Nat} {post : Option Value → zS → Prop} : zSnd l D B xX12_expression sz0 post 204 kX12_expression_204 (z_Jr post) := (s_aload_n dX12_expression_204 rfl (s_iconst dX12_expression_205 (by decide) (s_callV (r := (RX12, TX12, 74)) dX12_expression_206 mX12_comesOut meX12_comesOut wd1037 wd1038 rfl rfl reX12_comesOut rmX12_expression (fitX12_expression_206) wd1039 (s_vret dX12_expression_209 rfl))))
set_option maxRecDepth 100000 in
theorem tX12_expression_191 {l : Launch} {D : zD} {B sz0 : Nat} {post : Option Value → zS → Prop} : zSnd l D B xX12_expression sz0 post 191 kX12_expression_191 (z_Jr post) := (s_aload_n dX12_expression_191 rfl (s_getI (f := 12) dX12_expression_192 clX12 (by decide) rfl wd1033 (s_iload_n dX12_expression_195 rfl (s_icmp_le (tgt := 204) dX12_expression_196 (by decide) tX12_expression_204 (s_aload_n dX12_expression_199 rfl (s_iconst dX12_expression_200 (by decide) (s_callV (r := (RX12, TX12, 74)) dX12_expression_201 mX12_fail meX12_fail wd995 wd996 rfl rfl reX12_fail rmX12_expression (fitX12_expression_201) wd997 tX12_expression_204)))))))
set_option maxRecDepth 100000 in
theorem tX12_expression_186 {l : Launch} {D : zD} {B sz0 : Nat} {post : Option Value → zS → Prop} : zSnd l D B xX12_expression sz0 post 186 kX12_expression_186 (z_Jl l D B xX12_expression sz0 post 12 (z_Jr post)) := (s_istore_n dX12_expression_186 rfl (s_iload_n dX12_expression_187 rfl (s_if_ne (tgt := 210) dX12_expression_188 (by decide) (s_aload_n dX12_expression_210 rfl (s_aload_n dX12_expression_211 rfl (s_bipush dX12_expression_212 (by decide) (s_callV (r := (RX12, TX12, 74)) dX12_expression_214 mX12_is meX12_is wd999 wd1000 rfl rfl reX12_is rmX12_expression (fitX12_expression_214) wd1001 (s_if_ne (tgt := 229) dX12_expression_217 (by decide) tX12_expression_229 (s_aload_n dX12_expression_220 rfl (s_bipush dX12_expression_221 (by decide) (s_callV (r := (RX12, TX12, 74)) dX12_expression_223 mX12_is meX12_is wd999 wd1000 rfl rfl reX12_is rmX12_expression (fitX12_expression_223) wd1001 (s_if_eq (tgt := 233) dX12_expression_226 (by decide) (s_iconst dX12_expression_233 (by decide) tX12_expression_234) tX12_expression_229))))))))) (s_dn tX12_expression_191))))
set_option maxRecDepth 100000 in
theorem tX12_expression_181 {l : Launch} {D : zD} {B sz0 : Nat} {post : Option Value → zS → Prop} : zSnd l D B xX12_expression sz0 post 181 kX12_expression_181 (z_Jl l D B xX12_expression sz0 post 12 (z_Jr post)) := (s_iconst dX12_expression_181 (by decide) (s_goto (tgt := 186) dX12_expression_182 (by decide) tX12_expression_186))
set_option maxRecDepth 100000 in
theorem tX12_expression_145 {l : Launch} {D : zD} {B sz0 : Nat} {post : Option Value → zS → Prop} : zSnd l D B xX12_expression sz0 post 145 kX12_expression_145 (z_Jl l D B xX12_expression sz0 post 12 (z_Jr post)) := (s_aload_n dX12_expression_145 rfl (s_bipush dX12_expression_146 (by decide) (s_callV (r := (RX12, TX12, 74)) dX12_expression_148 mX12_is meX12_is wd999 wd1000 rfl rfl reX12_is rmX12_expression (fitX12_expression_148) wd1001 (s_if_ne (tgt := 181) dX12_expression_151 (by decide) tX12_expression_181 (s_aload_n dX12_expression_154 rfl (s_bipush dX12_expression_155 (by decide) (s_callV (r := (RX12, TX12, 74)) dX12_expression_157 mX12_is meX12_is wd999 wd1000 rfl rfl reX12_is rmX12_expression (fitX12_expression_157) wd1001 (s_if_ne (tgt := 181) dX12_expression_160 (by decide) tX12_expression_181 (s_aload_n dX12_expression_163 rfl (s_bipush dX12_expression_164 (by decide) (s_callV (r := (RX12, TX12, 74)) dX12_expression_166 mX12_is meX12_is wd999 wd1000 rfl rfl reX12_is rmX12_expression (fitX12_expression_166) wd1001 (s_if_ne (tgt := 181) dX12_expression_169 (by decide) tX12_expression_181 (s_aload_n dX12_expression_172 rfl (s_bipush dX12_expression_173 (by decide) (s_callV (r := (RX12, TX12, 74)) dX12_expression_175 mX12_is meX12_is wd999 wd1000 rfl rfl reX12_is rmX12_expression (fitX12_expression_175) wd1001 (s_if_eq (tgt := 185) dX12_expression_178 (by decide) (s_iconst dX12_expression_185 (by decide) tX12_expression_186) tX12_expression_181))))))))))))))))
set_option maxRecDepth 100000 in
theorem tX12_expression_96 {l : Launch} {D : zD} {B sz0 : Nat} {post : Option Value → zS → Prop} : zSnd l D B xX12_expression sz0 post 96 kX12_expression_96 (z_Jl l D B xX12_expression sz0 post 12 (z_Jr post)) := s_lp (body := bX12_expression_96) (s_aload_n dX12_expression_96 rfl (s_bipush dX12_expression_97 (by decide) (s_callV (r := (RX12, TX12, 74)) dX12_expression_99 mX12_is meX12_is wd999 wd1000 rfl rfl reX12_is rmX12_expression (fitX12_expression_99) wd1001 (s_if_eq (tgt := 145) dX12_expression_102 (by decide) (s_dn tX12_expression_145) (s_aload_n dX12_expression_105 rfl (s_getI (f := 12) dX12_expression_106 clX12 (by decide) rfl wd1033 (s_iload_n dX12_expression_109 rfl (s_icmp_le (tgt := 145) dX12_expression_110 (by decide) (s_dn tX12_expression_145) (s_aload_n dX12_expression_113 rfl (s_iconst dX12_expression_114 (by decide) (s_callV (r := (RX12, TX12, 74)) dX12_expression_115 mX12_comesOut meX12_comesOut wd1037 wd1038 rfl rfl reX12_comesOut rmX12_expression (fitX12_expression_115) wd1039 (s_aload_n dX12_expression_118 rfl (s_dup dX12_expression_119 (s_getI (f := 42) dX12_expression_120 clX12 (by decide) rfl wd1031 (s_iconst dX12_expression_123 (by decide) (s_isub dX12_expression_124 (s_putI (f := 42) dX12_expression_125 clX12 (by decide) rfl rfl rfl wd1031 (s_aload_n dX12_expression_128 rfl (s_dup dX12_expression_129 (s_getI (f := 12) dX12_expression_130 clX12 (by decide) rfl wd1033 (s_iconst dX12_expression_133 (by decide) (s_isub dX12_expression_134 (s_putI (f := 12) dX12_expression_135 clX12 (by decide) rfl rfl rfl wd1033 (s_aload_n dX12_expression_138 rfl (s_callV (r := (RX12, TX12, 74)) dX12_expression_139 mX12_goesOn meX12_goesOn wd1002 wd1003 rfl rfl reX12_goesOn rmX12_expression (fitX12_expression_139) wd1004 (s_goto (tgt := 96) dX12_expression_142 (by decide) s_ag))))))))))))))))))))))))))
set_option maxRecDepth 100000 in
theorem tX12_expression_95 {l : Launch} {D : zD} {B sz0 : Nat} {post : Option Value → zS → Prop} : zSnd l D B xX12_expression sz0 post 95 kX12_expression_95 (z_Jr post) := (s_vret dX12_expression_95 rfl)
set_option maxRecDepth 100000 in
theorem tX12_expression_84 {l : Launch} {D : zD} {B sz0 : Nat} {post : Option Value → zS → Prop} : zSnd l D B xX12_expression sz0 post 84 kX12_expression_84 (z_Jl l D B xX12_expression sz0 post 12 (z_Jr post)) := (s_aload_n dX12_expression_84 rfl (s_callV (r := (RX12, TX12, 74)) dX12_expression_85 mX12_unit meX12_unit wd1034 wd1035 rfl rfl reX12_unit rmX12_expression (fitX12_expression_85) wd1036 (s_aload_n dX12_expression_88 rfl (s_getI (f := 13) dX12_expression_89 clX12 (by decide) rfl wd987 (s_if_le (tgt := 96) dX12_expression_92 (by decide) tX12_expression_96 (s_dn tX12_expression_95))))))
set_option maxRecDepth 100000 in
theorem tX12_expression_46 {l : Launch} {D : zD} {B sz0 : Nat} {post : Option Value → zS → Prop} : zSnd l D B xX12_expression sz0 post 46 kX12_expression_46 (z_Jl l D B xX12_expression sz0 post 23 (z_Jl l D B xX12_expression sz0 post 12 (z_Jr post))) := (s_aload_n dX12_expression_46 rfl (s_dup dX12_expression_47 (s_getI (f := 12) dX12_expression_48 clX12 (by decide) rfl wd1033 (s_iconst dX12_expression_51 (by decide) (s_iadd dX12_expression_52 (s_putI (f := 12) dX12_expression_53 clX12 (by decide) rfl rfl rfl wd1033 (s_aload_n dX12_expression_56 rfl (s_callV (r := (RX12, TX12, 74)) dX12_expression_57 mX12_goesOn meX12_goesOn wd1002 wd1003 rfl rfl reX12_goesOn rmX12_expression (fitX12_expression_57) wd1004 (s_aload_n dX12_expression_60 rfl (s_getR (f := 41) dX12_expression_61 clX12 (by decide) rfl wd924 (s_aload_n dX12_expression_64 rfl (s_getI (f := 42) dX12_expression_65 clX12 (by decide) rfl wd1031 (s_bipush dX12_expression_68 (by decide) (s_iast dX12_expression_70 (s_aload_n dX12_expression_71 rfl (s_dup dX12_expression_72 (s_getI (f := 42) dX12_expression_73 clX12 (by decide) rfl wd1031 (s_iconst dX12_expression_76 (by decide) (s_iadd dX12_expression_77 (s_putI (f := 42) dX12_expression_78 clX12 (by decide) rfl rfl rfl wd1031 (s_goto (tgt := 23) dX12_expression_81 (by decide) s_ag)))))))))))))))))))))
set_option maxRecDepth 100000 in
theorem tX12_expression_23 {l : Launch} {D : zD} {B sz0 : Nat} {post : Option Value → zS → Prop} : zSnd l D B xX12_expression sz0 post 23 kX12_expression_23 (z_Jl l D B xX12_expression sz0 post 12 (z_Jr post)) := s_lp (body := bX12_expression_23) (s_aload_n dX12_expression_23 rfl (s_bipush dX12_expression_24 (by decide) (s_callV (r := (RX12, TX12, 74)) dX12_expression_26 mX12_is meX12_is wd999 wd1000 rfl rfl reX12_is rmX12_expression (fitX12_expression_26) wd1001 (s_if_eq (tgt := 84) dX12_expression_29 (by decide) (s_dn tX12_expression_84) (s_aload_n dX12_expression_32 rfl (s_getI (f := 12) dX12_expression_33 clX12 (by decide) rfl wd1033 (s_bipush dX12_expression_36 (by decide) (s_icmp_ne (tgt := 46) dX12_expression_38 (by decide) tX12_expression_46 (s_aload_n dX12_expression_41 rfl (s_iconst dX12_expression_42 (by decide) (s_callV (r := (RX12, TX12, 74)) dX12_expression_43 mX12_fail meX12_fail wd995 wd996 rfl rfl reX12_fail rmX12_expression (fitX12_expression_43) wd997 tX12_expression_46)))))))))))
set_option maxRecDepth 100000 in
theorem tX12_expression_12 {l : Launch} {D : zD} {B sz0 : Nat} {post : Option Value → zS → Prop} : zSnd l D B xX12_expression sz0 post 12 kX12_expression_12 (z_Jr post) := s_lp (body := bX12_expression_12) (s_iload_n dX12_expression_12 rfl (s_if_eq (tgt := 272) dX12_expression_13 (by decide) (s_dn tX12_expression_272) (s_aload_n dX12_expression_16 rfl (s_getI (f := 13) dX12_expression_17 clX12 (by decide) rfl wd987 (s_if_ne (tgt := 272) dX12_expression_20 (by decide) (s_dn tX12_expression_272) tX12_expression_23)))))
set_option maxRecDepth 100000 in
theorem tX12_expression_0 {l : Launch} {D : zD} {B sz0 : Nat} {post : Option Value → zS → Prop} : zSnd l D B xX12_expression sz0 post 0 kX12_expression_0 (z_Jr post) := (s_aload_n dX12_expression_0 rfl (s_iconst dX12_expression_1 (by decide) (s_putI (f := 42) dX12_expression_2 clX12 (by decide) rfl rfl rfl wd1031 (s_aload_n dX12_expression_5 rfl (s_getI (f := 12) dX12_expression_6 clX12 (by decide) rfl wd1033 (s_istore_n dX12_expression_9 rfl (s_iconst dX12_expression_10 (by decide) (s_istore_n dX12_expression_11 rfl tX12_expression_12))))))))
noncomputable def fX12_expression : zF := z_fn 3 kX12_expression_0
theorem mX12_expression {l : Launch} {D : zD} {B : Nat} : z_MF l D B yX12_expression xX12_expression fX12_expression := z_mf (by decide) rfl (fun h => by cases h) rfl (fun as σ r h => ⟨z_fn_len h, kX12_expression_0, z_fn_run h, fun _ => tX12_expression_0⟩)
/-! ===== RowChildrenModel.term ===== -/
theorem dX12_term_0 : decode cX12_term 0 = .ok (.aload_n 0, 1) := by decide +kernel
theorem dX12_term_1 : decode cX12_term 1 = .ok (.getfield 83, 3) := by decide +kernel
theorem dX12_term_4 : decode cX12_term 4 = .ok (.aload_n 0, 1) := by decide +kernel
theorem dX12_term_5 : decode cX12_term 5 = .ok (.getfield 258, 3) := by decide +kernel
theorem dX12_term_8 : decode cX12_term 8 = .ok (.aload_n 0, 1) := by decide +kernel
theorem dX12_term_9 : decode cX12_term 9 = .ok (.getfield 261, 3) := by decide +kernel
theorem dX12_term_12 : decode cX12_term 12 = .ok (.iastore, 1) := by decide +kernel
theorem dX12_term_13 : decode cX12_term 13 = .ok (.aload_n 0, 1) := by decide +kernel
theorem dX12_term_14 : decode cX12_term 14 = .ok (.getfield 219, 3) := by decide +kernel
theorem dX12_term_17 : decode cX12_term 17 = .ok (.ifCond .ne 7, 3) := by decide +kernel
theorem dX12_term_20 : decode cX12_term 20 = .ok (.aload_n 0, 1) := by decide +kernel
theorem dX12_term_21 : decode cX12_term 21 = .ok (.invokevirtual 300, 3) := by decide +kernel
theorem dX12_term_24 : decode cX12_term 24 = .ok (.aload_n 0, 1) := by decide +kernel
theorem dX12_term_25 : decode cX12_term 25 = .ok (.getfield 86, 3) := by decide +kernel
theorem dX12_term_28 : decode cX12_term 28 = .ok (.aload_n 0, 1) := by decide +kernel
theorem dX12_term_29 : decode cX12_term 29 = .ok (.getfield 258, 3) := by decide +kernel
theorem dX12_term_32 : decode cX12_term 32 = .ok (.aload_n 0, 1) := by decide +kernel
theorem dX12_term_33 : decode cX12_term 33 = .ok (.getfield 261, 3) := by decide +kernel
theorem dX12_term_36 : decode cX12_term 36 = .ok (.iastore, 1) := by decide +kernel
theorem dX12_term_37 : decode cX12_term 37 = .ok (.aload_n 0, 1) := by decide +kernel
theorem dX12_term_38 : decode cX12_term 38 = .ok (.dup, 1) := by decide +kernel
theorem dX12_term_39 : decode cX12_term 39 = .ok (.getfield 258, 3) := by decide +kernel
theorem dX12_term_42 : decode cX12_term 42 = .ok (.iconst 1, 1) := by decide +kernel
theorem dX12_term_43 : decode cX12_term 43 = .ok (.iadd, 1) := by decide +kernel
theorem dX12_term_44 : decode cX12_term 44 = .ok (.putfield 258, 3) := by decide +kernel
theorem dX12_term_47 : decode cX12_term 47 = .ok (.return_, 1) := by decide +kernel
def xX12_term : zX := (RX12, cX12_term, 1, none, false, { frames := 5, cells := 0, slots := 0, locals := 173 }, 0, 0, 0, 0)
theorem rmX12_term : z_Rm xX12_term := by unfold z_Rm xX12_term; exact ⟨by decide, by decide⟩
theorem reX12_term : z_Re xX12_term := ⟨rfl, rfl⟩
theorem rlX12_term : 1 ≤ xX12_term.2.2.2.2.2.1.frames ∧ 21 ≤ xX12_term.2.2.2.2.2.1.locals := by unfold xX12_term; exact ⟨by decide, by decide⟩
theorem meX12_term : z_Me yX12_term xX12_term 0 := ⟨wd1045, wd893, by decide, by decide, by decide +kernel⟩
theorem fitX12_term_21 : z_Fit xX12_expression xX12_term := by unfold z_Fit; simp only [xX12_expression, xX12_term]; exact ⟨by decide, by decide⟩
noncomputable def kX12_term_24 : zK zR := (q_aload 0 (q_getR 12 37 (q_aload 0 (q_getI 12 32 (q_aload 0 (q_getI 12 38 (q_iast (q_aload 0 (q_dup (q_getI 12 32 (q_push 1 (q_iadd (q_putI 12 32 q_vret)))))))))))))
noncomputable def kX12_term_0 : zK zR := (q_aload 0 (q_getR 12 36 (q_aload 0 (q_getI 12 32 (q_aload 0 (q_getI 12 38 (q_iast (q_aload 0 (q_getI 12 13 (q_if_ne kX12_term_24 (q_aload 0 (q_callV 12 fX12_expression 0 kX12_term_24))))))))))))
set_option maxRecDepth 100000 in
theorem tX12_term_24 {l : Launch} {D : zD} {B sz0 : Nat} {post : Option Value → zS → Prop} : zSnd l D B xX12_term sz0 post 24 kX12_term_24 (z_Jr post) := (s_aload_n dX12_term_24 rfl (s_getR (f := 37) dX12_term_25 clX12 (by decide) rfl wd921 (s_aload_n dX12_term_28 rfl (s_getI (f := 32) dX12_term_29 clX12 (by decide) rfl wd1041 (s_aload_n dX12_term_32 rfl (s_getI (f := 38) dX12_term_33 clX12 (by decide) rfl wd1025 (s_iast dX12_term_36 (s_aload_n dX12_term_37 rfl (s_dup dX12_term_38 (s_getI (f := 32) dX12_term_39 clX12 (by decide) rfl wd1041 (s_iconst dX12_term_42 (by decide) (s_iadd dX12_term_43 (s_putI (f := 32) dX12_term_44 clX12 (by decide) rfl rfl rfl wd1041 (s_vret dX12_term_47 rfl))))))))))))))
set_option maxRecDepth 100000 in
theorem tX12_term_0 {l : Launch} {D : zD} {B sz0 : Nat} {post : Option Value → zS → Prop} : zSnd l D B xX12_term sz0 post 0 kX12_term_0 (z_Jr post) := (s_aload_n dX12_term_0 rfl (s_getR (f := 36) dX12_term_1 clX12 (by decide) rfl wd920 (s_aload_n dX12_term_4 rfl (s_getI (f := 32) dX12_term_5 clX12 (by decide) rfl wd1041 (s_aload_n dX12_term_8 rfl (s_getI (f := 38) dX12_term_9 clX12 (by decide) rfl wd1025 (s_iast dX12_term_12 (s_aload_n dX12_term_13 rfl (s_getI (f := 13) dX12_term_14 clX12 (by decide) rfl wd987 (s_if_ne (tgt := 24) dX12_term_17 (by decide) tX12_term_24 (s_aload_n dX12_term_20 rfl (s_callV (r := (RX12, TX12, 74)) dX12_term_21 mX12_expression meX12_expression wd1042 wd1043 rfl rfl reX12_expression rmX12_term (fitX12_term_21) wd1044 tX12_term_24))))))))))))
noncomputable def fX12_term : zF := z_fn 1 kX12_term_0
theorem mX12_term {l : Launch} {D : zD} {B : Nat} : z_MF l D B yX12_term xX12_term fX12_term := z_mf (by decide) rfl (fun h => by cases h) rfl (fun as σ r h => ⟨z_fn_len h, kX12_term_0, z_fn_run h, fun _ => tX12_term_0⟩)
/-! ===== RowChildrenModel.tellLaw ===== -/
theorem dX12_tellLaw_0 : decode cX12_tellLaw 0 = .ok (.aload_n 0, 1) := by decide +kernel
theorem dX12_tellLaw_1 : decode cX12_tellLaw 1 = .ok (.iconst 5, 1) := by decide +kernel
theorem dX12_tellLaw_2 : decode cX12_tellLaw 2 = .ok (.invokevirtual 281, 3) := by decide +kernel
theorem dX12_tellLaw_5 : decode cX12_tellLaw 5 = .ok (.aload_n 0, 1) := by decide +kernel
theorem dX12_tellLaw_6 : decode cX12_tellLaw 6 = .ok (.getfield 258, 3) := by decide +kernel
theorem dX12_tellLaw_9 : decode cX12_tellLaw 9 = .ok (.istore_n 2, 1) := by decide +kernel
theorem dX12_tellLaw_10 : decode cX12_tellLaw 10 = .ok (.iconst 0, 1) := by decide +kernel
theorem dX12_tellLaw_11 : decode cX12_tellLaw 11 = .ok (.istore_n 3, 1) := by decide +kernel
theorem dX12_tellLaw_12 : decode cX12_tellLaw 12 = .ok (.aload_n 0, 1) := by decide +kernel
theorem dX12_tellLaw_13 : decode cX12_tellLaw 13 = .ok (.getfield 219, 3) := by decide +kernel
theorem dX12_tellLaw_16 : decode cX12_tellLaw 16 = .ok (.ifCond .ne 113, 3) := by decide +kernel
theorem dX12_tellLaw_19 : decode cX12_tellLaw 19 = .ok (.aload_n 0, 1) := by decide +kernel
theorem dX12_tellLaw_20 : decode cX12_tellLaw 20 = .ok (.bipush 28, 2) := by decide +kernel
theorem dX12_tellLaw_22 : decode cX12_tellLaw 22 = .ok (.invokevirtual 237, 3) := by decide +kernel
theorem dX12_tellLaw_25 : decode cX12_tellLaw 25 = .ok (.ifCond .eq 104, 3) := by decide +kernel
theorem dX12_tellLaw_28 : decode cX12_tellLaw 28 = .ok (.iload_n 3, 1) := by decide +kernel
theorem dX12_tellLaw_29 : decode cX12_tellLaw 29 = .ok (.iconst 4, 1) := by decide +kernel
theorem dX12_tellLaw_30 : decode cX12_tellLaw 30 = .ok (.if_icmp .ne 8, 3) := by decide +kernel
theorem dX12_tellLaw_33 : decode cX12_tellLaw 33 = .ok (.aload_n 0, 1) := by decide +kernel
theorem dX12_tellLaw_34 : decode cX12_tellLaw 34 = .ok (.iconst 2, 1) := by decide +kernel
theorem dX12_tellLaw_35 : decode cX12_tellLaw 35 = .ok (.invokevirtual 234, 3) := by decide +kernel
theorem dX12_tellLaw_38 : decode cX12_tellLaw 38 = .ok (.aload_n 0, 1) := by decide +kernel
theorem dX12_tellLaw_39 : decode cX12_tellLaw 39 = .ok (.getfield 219, 3) := by decide +kernel
theorem dX12_tellLaw_42 : decode cX12_tellLaw 42 = .ok (.ifCond .le 4, 3) := by decide +kernel
theorem dX12_tellLaw_45 : decode cX12_tellLaw 45 = .ok (.return_, 1) := by decide +kernel
theorem dX12_tellLaw_46 : decode cX12_tellLaw 46 = .ok (.iinc 3 1, 3) := by decide +kernel
theorem dX12_tellLaw_49 : decode cX12_tellLaw 49 = .ok (.aload_n 0, 1) := by decide +kernel
theorem dX12_tellLaw_50 : decode cX12_tellLaw 50 = .ok (.invokevirtual 240, 3) := by decide +kernel
theorem dX12_tellLaw_53 : decode cX12_tellLaw 53 = .ok (.aload_n 0, 1) := by decide +kernel
theorem dX12_tellLaw_54 : decode cX12_tellLaw 54 = .ok (.getfield 73, 3) := by decide +kernel
theorem dX12_tellLaw_57 : decode cX12_tellLaw 57 = .ok (.aload_n 0, 1) := by decide +kernel
theorem dX12_tellLaw_58 : decode cX12_tellLaw 58 = .ok (.getfield 258, 3) := by decide +kernel
theorem dX12_tellLaw_61 : decode cX12_tellLaw 61 = .ok (.iconst 1, 1) := by decide +kernel
theorem dX12_tellLaw_62 : decode cX12_tellLaw 62 = .ok (.bastore, 1) := by decide +kernel
theorem dX12_tellLaw_63 : decode cX12_tellLaw 63 = .ok (.aload_n 0, 1) := by decide +kernel
theorem dX12_tellLaw_64 : decode cX12_tellLaw 64 = .ok (.getfield 77, 3) := by decide +kernel
theorem dX12_tellLaw_67 : decode cX12_tellLaw 67 = .ok (.aload_n 0, 1) := by decide +kernel
theorem dX12_tellLaw_68 : decode cX12_tellLaw 68 = .ok (.getfield 258, 3) := by decide +kernel
theorem dX12_tellLaw_71 : decode cX12_tellLaw 71 = .ok (.aload_n 0, 1) := by decide +kernel
theorem dX12_tellLaw_72 : decode cX12_tellLaw 72 = .ok (.getfield 261, 3) := by decide +kernel
theorem dX12_tellLaw_75 : decode cX12_tellLaw 75 = .ok (.iastore, 1) := by decide +kernel
theorem dX12_tellLaw_76 : decode cX12_tellLaw 76 = .ok (.aload_n 0, 1) := by decide +kernel
theorem dX12_tellLaw_77 : decode cX12_tellLaw 77 = .ok (.invokevirtual 300, 3) := by decide +kernel
theorem dX12_tellLaw_80 : decode cX12_tellLaw 80 = .ok (.aload_n 0, 1) := by decide +kernel
theorem dX12_tellLaw_81 : decode cX12_tellLaw 81 = .ok (.bipush 13, 2) := by decide +kernel
theorem dX12_tellLaw_83 : decode cX12_tellLaw 83 = .ok (.invokevirtual 281, 3) := by decide +kernel
theorem dX12_tellLaw_86 : decode cX12_tellLaw 86 = .ok (.aload_n 0, 1) := by decide +kernel
theorem dX12_tellLaw_87 : decode cX12_tellLaw 87 = .ok (.getfield 80, 3) := by decide +kernel
theorem dX12_tellLaw_90 : decode cX12_tellLaw 90 = .ok (.aload_n 0, 1) := by decide +kernel
theorem dX12_tellLaw_91 : decode cX12_tellLaw 91 = .ok (.getfield 258, 3) := by decide +kernel
theorem dX12_tellLaw_94 : decode cX12_tellLaw 94 = .ok (.aload_n 0, 1) := by decide +kernel
theorem dX12_tellLaw_95 : decode cX12_tellLaw 95 = .ok (.getfield 261, 3) := by decide +kernel
theorem dX12_tellLaw_98 : decode cX12_tellLaw 98 = .ok (.iastore, 1) := by decide +kernel
theorem dX12_tellLaw_99 : decode cX12_tellLaw 99 = .ok (.aload_n 0, 1) := by decide +kernel
theorem dX12_tellLaw_100 : decode cX12_tellLaw 100 = .ok (.getfield 219, 3) := by decide +kernel
theorem dX12_tellLaw_103 : decode cX12_tellLaw 103 = .ok (.ifCond .ne 7, 3) := by decide +kernel
theorem dX12_tellLaw_106 : decode cX12_tellLaw 106 = .ok (.aload_n 0, 1) := by decide +kernel
theorem dX12_tellLaw_107 : decode cX12_tellLaw 107 = .ok (.invokevirtual 300, 3) := by decide +kernel
theorem dX12_tellLaw_110 : decode cX12_tellLaw 110 = .ok (.aload_n 0, 1) := by decide +kernel
theorem dX12_tellLaw_111 : decode cX12_tellLaw 111 = .ok (.bipush 29, 2) := by decide +kernel
theorem dX12_tellLaw_113 : decode cX12_tellLaw 113 = .ok (.invokevirtual 281, 3) := by decide +kernel
theorem dX12_tellLaw_116 : decode cX12_tellLaw 116 = .ok (.aload_n 0, 1) := by decide +kernel
theorem dX12_tellLaw_117 : decode cX12_tellLaw 117 = .ok (.invokevirtual 303, 3) := by decide +kernel
theorem dX12_tellLaw_120 : decode cX12_tellLaw 120 = .ok (.aload_n 0, 1) := by decide +kernel
theorem dX12_tellLaw_121 : decode cX12_tellLaw 121 = .ok (.bipush 30, 2) := by decide +kernel
theorem dX12_tellLaw_123 : decode cX12_tellLaw 123 = .ok (.invokevirtual 281, 3) := by decide +kernel
theorem dX12_tellLaw_126 : decode cX12_tellLaw 126 = .ok (.goto (-114), 3) := by decide +kernel
theorem dX12_tellLaw_129 : decode cX12_tellLaw 129 = .ok (.aload_n 0, 1) := by decide +kernel
theorem dX12_tellLaw_130 : decode cX12_tellLaw 130 = .ok (.getfield 73, 3) := by decide +kernel
theorem dX12_tellLaw_133 : decode cX12_tellLaw 133 = .ok (.aload_n 0, 1) := by decide +kernel
theorem dX12_tellLaw_134 : decode cX12_tellLaw 134 = .ok (.getfield 258, 3) := by decide +kernel
theorem dX12_tellLaw_137 : decode cX12_tellLaw 137 = .ok (.iconst 0, 1) := by decide +kernel
theorem dX12_tellLaw_138 : decode cX12_tellLaw 138 = .ok (.bastore, 1) := by decide +kernel
theorem dX12_tellLaw_139 : decode cX12_tellLaw 139 = .ok (.aload_n 0, 1) := by decide +kernel
theorem dX12_tellLaw_140 : decode cX12_tellLaw 140 = .ok (.invokevirtual 303, 3) := by decide +kernel
theorem dX12_tellLaw_143 : decode cX12_tellLaw 143 = .ok (.aload_n 0, 1) := by decide +kernel
theorem dX12_tellLaw_144 : decode cX12_tellLaw 144 = .ok (.iconst 4, 1) := by decide +kernel
theorem dX12_tellLaw_145 : decode cX12_tellLaw 145 = .ok (.invokevirtual 281, 3) := by decide +kernel
theorem dX12_tellLaw_148 : decode cX12_tellLaw 148 = .ok (.aload_n 0, 1) := by decide +kernel
theorem dX12_tellLaw_149 : decode cX12_tellLaw 149 = .ok (.getfield 219, 3) := by decide +kernel
theorem dX12_tellLaw_152 : decode cX12_tellLaw 152 = .ok (.ifCond .le 4, 3) := by decide +kernel
theorem dX12_tellLaw_155 : decode cX12_tellLaw 155 = .ok (.return_, 1) := by decide +kernel
theorem dX12_tellLaw_156 : decode cX12_tellLaw 156 = .ok (.aload_n 0, 1) := by decide +kernel
theorem dX12_tellLaw_157 : decode cX12_tellLaw 157 = .ok (.getfield 67, 3) := by decide +kernel
theorem dX12_tellLaw_160 : decode cX12_tellLaw 160 = .ok (.iconst 4, 1) := by decide +kernel
theorem dX12_tellLaw_161 : decode cX12_tellLaw 161 = .ok (.aload_n 0, 1) := by decide +kernel
theorem dX12_tellLaw_162 : decode cX12_tellLaw 162 = .ok (.getfield 252, 3) := by decide +kernel
theorem dX12_tellLaw_165 : decode cX12_tellLaw 165 = .ok (.imul, 1) := by decide +kernel
theorem dX12_tellLaw_166 : decode cX12_tellLaw 166 = .ok (.iload_n 1, 1) := by decide +kernel
theorem dX12_tellLaw_167 : decode cX12_tellLaw 167 = .ok (.iadd, 1) := by decide +kernel
theorem dX12_tellLaw_168 : decode cX12_tellLaw 168 = .ok (.iload_n 2, 1) := by decide +kernel
theorem dX12_tellLaw_169 : decode cX12_tellLaw 169 = .ok (.iastore, 1) := by decide +kernel
theorem dX12_tellLaw_170 : decode cX12_tellLaw 170 = .ok (.aload_n 0, 1) := by decide +kernel
theorem dX12_tellLaw_171 : decode cX12_tellLaw 171 = .ok (.getfield 70, 3) := by decide +kernel
theorem dX12_tellLaw_174 : decode cX12_tellLaw 174 = .ok (.iconst 4, 1) := by decide +kernel
theorem dX12_tellLaw_175 : decode cX12_tellLaw 175 = .ok (.aload_n 0, 1) := by decide +kernel
theorem dX12_tellLaw_176 : decode cX12_tellLaw 176 = .ok (.getfield 252, 3) := by decide +kernel
theorem dX12_tellLaw_179 : decode cX12_tellLaw 179 = .ok (.imul, 1) := by decide +kernel
theorem dX12_tellLaw_180 : decode cX12_tellLaw 180 = .ok (.iload_n 1, 1) := by decide +kernel
theorem dX12_tellLaw_181 : decode cX12_tellLaw 181 = .ok (.iadd, 1) := by decide +kernel
theorem dX12_tellLaw_182 : decode cX12_tellLaw 182 = .ok (.aload_n 0, 1) := by decide +kernel
theorem dX12_tellLaw_183 : decode cX12_tellLaw 183 = .ok (.getfield 258, 3) := by decide +kernel
theorem dX12_tellLaw_186 : decode cX12_tellLaw 186 = .ok (.iastore, 1) := by decide +kernel
theorem dX12_tellLaw_187 : decode cX12_tellLaw 187 = .ok (.return_, 1) := by decide +kernel
def xX12_tellLaw : zX := (RX12, cX12_tellLaw, 4, none, false, { frames := 6, cells := 0, slots := 0, locals := 193 }, 0, 0, 0, 0)
theorem rmX12_tellLaw : z_Rm xX12_tellLaw := by unfold z_Rm xX12_tellLaw; exact ⟨by decide, by decide⟩
theorem reX12_tellLaw : z_Re xX12_tellLaw := ⟨rfl, rfl⟩
theorem rlX12_tellLaw : 1 ≤ xX12_tellLaw.2.2.2.2.2.1.frames ∧ 21 ≤ xX12_tellLaw.2.2.2.2.2.1.locals := by unfold xX12_tellLaw; exact ⟨by decide, by decide⟩
theorem meX12_tellLaw : z_Me yX12_tellLaw xX12_tellLaw 1 := ⟨wd1049, wd893, by decide, by decide, by decide +kernel⟩
theorem fitX12_tellLaw_2 : z_Fit xX12_must xX12_tellLaw := by unfold z_Fit; simp only [xX12_must, xX12_tellLaw]; exact ⟨by decide, by decide⟩
theorem fitX12_tellLaw_140 : z_Fit xX12_term xX12_tellLaw := by unfold z_Fit; simp only [xX12_term, xX12_tellLaw]; exact ⟨by decide, by decide⟩
theorem fitX12_tellLaw_145 : z_Fit xX12_must xX12_tellLaw := by unfold z_Fit; simp only [xX12_must, xX12_tellLaw]; exact ⟨by decide, by decide⟩
theorem fitX12_tellLaw_22 : z_Fit xX12_is xX12_tellLaw := by unfold z_Fit; simp only [xX12_is, xX12_tellLaw]; exact ⟨by decide, by decide⟩
theorem fitX12_tellLaw_50 : z_Fit xX12_goesOn xX12_tellLaw := by unfold z_Fit; simp only [xX12_goesOn, xX12_tellLaw]; exact ⟨by decide, by decide⟩
theorem fitX12_tellLaw_77 : z_Fit xX12_expression xX12_tellLaw := by unfold z_Fit; simp only [xX12_expression, xX12_tellLaw]; exact ⟨by decide, by decide⟩
theorem fitX12_tellLaw_83 : z_Fit xX12_must xX12_tellLaw := by unfold z_Fit; simp only [xX12_must, xX12_tellLaw]; exact ⟨by decide, by decide⟩
theorem fitX12_tellLaw_113 : z_Fit xX12_must xX12_tellLaw := by unfold z_Fit; simp only [xX12_must, xX12_tellLaw]; exact ⟨by decide, by decide⟩
theorem fitX12_tellLaw_117 : z_Fit xX12_term xX12_tellLaw := by unfold z_Fit; simp only [xX12_term, xX12_tellLaw]; exact ⟨by decide, by decide⟩
theorem fitX12_tellLaw_123 : z_Fit xX12_must xX12_tellLaw := by unfold z_Fit; simp only [xX12_must, xX12_tellLaw]; exact ⟨by decide, by decide⟩
theorem fitX12_tellLaw_107 : z_Fit xX12_expression xX12_tellLaw := by unfold z_Fit; simp only [xX12_expression, xX12_tellLaw]; exact ⟨by decide, by decide⟩
theorem fitX12_tellLaw_35 : z_Fit xX12_fail xX12_tellLaw := by unfold z_Fit; simp only [xX12_fail, xX12_tellLaw]; exact ⟨by decide, by decide⟩
noncomputable def kX12_tellLaw_129 : zK zR := (q_aload 0 (q_getR 12 33 (q_aload 0 (q_getI 12 32 (q_push 0 (q_zast (q_aload 0 (q_callV 12 fX12_term 0 (q_aload 0 (q_push 4 (q_callV 12 fX12_must 1 (q_aload 0 (q_getI 12 13 (q_if_le (q_aload 0 (q_getR 12 30 (q_push 4 (q_aload 0 (q_getI 12 19 (q_imul (q_iload 1 (q_iadd (q_iload 2 (q_iast (q_aload 0 (q_getR 12 31 (q_push 4 (q_aload 0 (q_getI 12 19 (q_imul (q_iload 1 (q_iadd (q_aload 0 (q_getI 12 32 (q_iast q_vret))))))))))))))))))))) q_vret))))))))))))))
noncomputable def kX12_tellLaw_110 : zK ((zL × zS) ⊕ zR) := (q_aload 0 (q_push 29 (q_callV 12 fX12_must 1 (q_aload 0 (q_callV 12 fX12_term 0 (q_aload 0 (q_push 30 (q_callV 12 fX12_must 1 q_ag))))))))
noncomputable def kX12_tellLaw_45 : zK zR := q_vret
noncomputable def kX12_tellLaw_38 : zK ((zL × zS) ⊕ zR) := (q_aload 0 (q_getI 12 13 (q_if_le (q_iinc 3 1 (q_aload 0 (q_callV 12 fX12_goesOn 0 (q_aload 0 (q_getR 12 33 (q_aload 0 (q_getI 12 32 (q_push 1 (q_zast (q_aload 0 (q_getR 12 34 (q_aload 0 (q_getI 12 32 (q_aload 0 (q_getI 12 38 (q_iast (q_aload 0 (q_callV 12 fX12_expression 0 (q_aload 0 (q_push 13 (q_callV 12 fX12_must 1 (q_aload 0 (q_getR 12 35 (q_aload 0 (q_getI 12 32 (q_aload 0 (q_getI 12 38 (q_iast (q_aload 0 (q_getI 12 13 (q_if_ne kX12_tellLaw_110 (q_aload 0 (q_callV 12 fX12_expression 0 kX12_tellLaw_110))))))))))))))))))))))))))))))))) (q_dn kX12_tellLaw_45))))
noncomputable def bX12_tellLaw_12 : zK ((zL × zS) ⊕ zR) := (q_aload 0 (q_getI 12 13 (q_if_ne (q_dn kX12_tellLaw_129) (q_aload 0 (q_push 28 (q_callV 12 fX12_is 1 (q_if_eq (q_dn kX12_tellLaw_129) (q_iload 3 (q_push 4 (q_icmp_ne kX12_tellLaw_38 (q_aload 0 (q_push 2 (q_callV 12 fX12_fail 1 kX12_tellLaw_38)))))))))))))
noncomputable def kX12_tellLaw_12 : zK zR := q_lp (bX12_tellLaw_12)
noncomputable def kX12_tellLaw_0 : zK zR := (q_aload 0 (q_push 5 (q_callV 12 fX12_must 1 (q_aload 0 (q_getI 12 32 (q_istore 2 (q_push 0 (q_istore 3 kX12_tellLaw_12))))))))
set_option maxRecDepth 100000 in
theorem tX12_tellLaw_129 {l : Launch} {D : zD} {B sz0 : Nat} {post : Option Value → zS → Prop} : zSnd l D B xX12_tellLaw sz0 post 129 kX12_tellLaw_129 (z_Jr post) := (s_aload_n dX12_tellLaw_129 rfl (s_getR (f := 33) dX12_tellLaw_130 clX12 (by decide) rfl wd917 (s_aload_n dX12_tellLaw_133 rfl (s_getI (f := 32) dX12_tellLaw_134 clX12 (by decide) rfl wd1041 (s_iconst dX12_tellLaw_137 (by decide) (s_zast dX12_tellLaw_138 (s_aload_n dX12_tellLaw_139 rfl (s_callV (r := (RX12, TX12, 74)) dX12_tellLaw_140 mX12_term meX12_term wd1046 wd1047 rfl rfl reX12_term rmX12_tellLaw (fitX12_tellLaw_140) wd1048 (s_aload_n dX12_tellLaw_143 rfl (s_iconst dX12_tellLaw_144 (by decide) (s_callV (r := (RX12, TX12, 74)) dX12_tellLaw_145 mX12_must meX12_must wd1019 wd1020 rfl rfl reX12_must rmX12_tellLaw (fitX12_tellLaw_145) wd1021 (s_aload_n dX12_tellLaw_148 rfl (s_getI (f := 13) dX12_tellLaw_149 clX12 (by decide) rfl wd987 (s_if_le (tgt := 156) dX12_tellLaw_152 (by decide) (s_aload_n dX12_tellLaw_156 rfl (s_getR (f := 30) dX12_tellLaw_157 clX12 (by decide) rfl wd889 (s_iconst dX12_tellLaw_160 (by decide) (s_aload_n dX12_tellLaw_161 rfl (s_getI (f := 19) dX12_tellLaw_162 clX12 (by decide) rfl wd1014 (s_imul dX12_tellLaw_165 (s_iload_n dX12_tellLaw_166 rfl (s_iadd dX12_tellLaw_167 (s_iload_n dX12_tellLaw_168 rfl (s_iast dX12_tellLaw_169 (s_aload_n dX12_tellLaw_170 rfl (s_getR (f := 31) dX12_tellLaw_171 clX12 (by decide) rfl wd890 (s_iconst dX12_tellLaw_174 (by decide) (s_aload_n dX12_tellLaw_175 rfl (s_getI (f := 19) dX12_tellLaw_176 clX12 (by decide) rfl wd1014 (s_imul dX12_tellLaw_179 (s_iload_n dX12_tellLaw_180 rfl (s_iadd dX12_tellLaw_181 (s_aload_n dX12_tellLaw_182 rfl (s_getI (f := 32) dX12_tellLaw_183 clX12 (by decide) rfl wd1041 (s_iast dX12_tellLaw_186 (s_vret dX12_tellLaw_187 rfl)))))))))))))))))))))) (s_vret dX12_tellLaw_155 rfl)))))))))))))))
set_option maxRecDepth 100000 in
theorem tX12_tellLaw_110 {l : Launch} {D : zD} {B sz0 : Nat} {post : Option Value → zS → Prop} : zSnd l D B xX12_tellLaw sz0 post 110 kX12_tellLaw_110 (z_Jl l D B xX12_tellLaw sz0 post 12 (z_Jr post)) := (s_aload_n dX12_tellLaw_110 rfl (s_bipush dX12_tellLaw_111 (by decide) (s_callV (r := (RX12, TX12, 74)) dX12_tellLaw_113 mX12_must meX12_must wd1019 wd1020 rfl rfl reX12_must rmX12_tellLaw (fitX12_tellLaw_113) wd1021 (s_aload_n dX12_tellLaw_116 rfl (s_callV (r := (RX12, TX12, 74)) dX12_tellLaw_117 mX12_term meX12_term wd1046 wd1047 rfl rfl reX12_term rmX12_tellLaw (fitX12_tellLaw_117) wd1048 (s_aload_n dX12_tellLaw_120 rfl (s_bipush dX12_tellLaw_121 (by decide) (s_callV (r := (RX12, TX12, 74)) dX12_tellLaw_123 mX12_must meX12_must wd1019 wd1020 rfl rfl reX12_must rmX12_tellLaw (fitX12_tellLaw_123) wd1021 (s_goto (tgt := 12) dX12_tellLaw_126 (by decide) s_ag)))))))))
set_option maxRecDepth 100000 in
theorem tX12_tellLaw_45 {l : Launch} {D : zD} {B sz0 : Nat} {post : Option Value → zS → Prop} : zSnd l D B xX12_tellLaw sz0 post 45 kX12_tellLaw_45 (z_Jr post) := (s_vret dX12_tellLaw_45 rfl)
set_option maxRecDepth 100000 in
theorem tX12_tellLaw_38 {l : Launch} {D : zD} {B sz0 : Nat} {post : Option Value → zS → Prop} : zSnd l D B xX12_tellLaw sz0 post 38 kX12_tellLaw_38 (z_Jl l D B xX12_tellLaw sz0 post 12 (z_Jr post)) := (s_aload_n dX12_tellLaw_38 rfl (s_getI (f := 13) dX12_tellLaw_39 clX12 (by decide) rfl wd987 (s_if_le (tgt := 46) dX12_tellLaw_42 (by decide) (s_iinc dX12_tellLaw_46 (by decide) (s_aload_n dX12_tellLaw_49 rfl (s_callV (r := (RX12, TX12, 74)) dX12_tellLaw_50 mX12_goesOn meX12_goesOn wd1002 wd1003 rfl rfl reX12_goesOn rmX12_tellLaw (fitX12_tellLaw_50) wd1004 (s_aload_n dX12_tellLaw_53 rfl (s_getR (f := 33) dX12_tellLaw_54 clX12 (by decide) rfl wd917 (s_aload_n dX12_tellLaw_57 rfl (s_getI (f := 32) dX12_tellLaw_58 clX12 (by decide) rfl wd1041 (s_iconst dX12_tellLaw_61 (by decide) (s_zast dX12_tellLaw_62 (s_aload_n dX12_tellLaw_63 rfl (s_getR (f := 34) dX12_tellLaw_64 clX12 (by decide) rfl wd918 (s_aload_n dX12_tellLaw_67 rfl (s_getI (f := 32) dX12_tellLaw_68 clX12 (by decide) rfl wd1041 (s_aload_n dX12_tellLaw_71 rfl (s_getI (f := 38) dX12_tellLaw_72 clX12 (by decide) rfl wd1025 (s_iast dX12_tellLaw_75 (s_aload_n dX12_tellLaw_76 rfl (s_callV (r := (RX12, TX12, 74)) dX12_tellLaw_77 mX12_expression meX12_expression wd1042 wd1043 rfl rfl reX12_expression rmX12_tellLaw (fitX12_tellLaw_77) wd1044 (s_aload_n dX12_tellLaw_80 rfl (s_bipush dX12_tellLaw_81 (by decide) (s_callV (r := (RX12, TX12, 74)) dX12_tellLaw_83 mX12_must meX12_must wd1019 wd1020 rfl rfl reX12_must rmX12_tellLaw (fitX12_tellLaw_83) wd1021 (s_aload_n dX12_tellLaw_86 rfl (s_getR (f := 35) dX12_tellLaw_87 clX12 (by decide) rfl wd919 (s_aload_n dX12_tellLaw_90 rfl (s_getI (f := 32) dX12_tellLaw_91 clX12 (by decide) rfl wd1041 (s_aload_n dX12_tellLaw_94 rfl (s_getI (f := 38) dX12_tellLaw_95 clX12 (by decide) rfl wd1025 (s_iast dX12_tellLaw_98 (s_aload_n dX12_tellLaw_99 rfl (s_getI (f := 13) dX12_tellLaw_100 clX12 (by decide) rfl wd987 (s_if_ne (tgt := 110) dX12_tellLaw_103 (by decide) tX12_tellLaw_110 (s_aload_n dX12_tellLaw_106 rfl (s_callV (r := (RX12, TX12, 74)) dX12_tellLaw_107 mX12_expression meX12_expression wd1042 wd1043 rfl rfl reX12_expression rmX12_tellLaw (fitX12_tellLaw_107) wd1044 tX12_tellLaw_110))))))))))))))))))))))))))))))))) (s_dn tX12_tellLaw_45))))
set_option maxRecDepth 100000 in
theorem tX12_tellLaw_12 {l : Launch} {D : zD} {B sz0 : Nat} {post : Option Value → zS → Prop} : zSnd l D B xX12_tellLaw sz0 post 12 kX12_tellLaw_12 (z_Jr post) := s_lp (body := bX12_tellLaw_12) (s_aload_n dX12_tellLaw_12 rfl (s_getI (f := 13) dX12_tellLaw_13 clX12 (by decide) rfl wd987 (s_if_ne (tgt := 129) dX12_tellLaw_16 (by decide) (s_dn tX12_tellLaw_129) (s_aload_n dX12_tellLaw_19 rfl (s_bipush dX12_tellLaw_20 (by decide) (s_callV (r := (RX12, TX12, 74)) dX12_tellLaw_22 mX12_is meX12_is wd999 wd1000 rfl rfl reX12_is rmX12_tellLaw (fitX12_tellLaw_22) wd1001 (s_if_eq (tgt := 129) dX12_tellLaw_25 (by decide) (s_dn tX12_tellLaw_129) (s_iload_n dX12_tellLaw_28 rfl (s_iconst dX12_tellLaw_29 (by decide) (s_icmp_ne (tgt := 38) dX12_tellLaw_30 (by decide) tX12_tellLaw_38 (s_aload_n dX12_tellLaw_33 rfl (s_iconst dX12_tellLaw_34 (by decide) (s_callV (r := (RX12, TX12, 74)) dX12_tellLaw_35 mX12_fail meX12_fail wd995 wd996 rfl rfl reX12_fail rmX12_tellLaw (fitX12_tellLaw_35) wd997 tX12_tellLaw_38)))))))))))))
set_option maxRecDepth 100000 in
theorem tX12_tellLaw_0 {l : Launch} {D : zD} {B sz0 : Nat} {post : Option Value → zS → Prop} : zSnd l D B xX12_tellLaw sz0 post 0 kX12_tellLaw_0 (z_Jr post) := (s_aload_n dX12_tellLaw_0 rfl (s_iconst dX12_tellLaw_1 (by decide) (s_callV (r := (RX12, TX12, 74)) dX12_tellLaw_2 mX12_must meX12_must wd1019 wd1020 rfl rfl reX12_must rmX12_tellLaw (fitX12_tellLaw_2) wd1021 (s_aload_n dX12_tellLaw_5 rfl (s_getI (f := 32) dX12_tellLaw_6 clX12 (by decide) rfl wd1041 (s_istore_n dX12_tellLaw_9 rfl (s_iconst dX12_tellLaw_10 (by decide) (s_istore_n dX12_tellLaw_11 rfl tX12_tellLaw_12))))))))
noncomputable def fX12_tellLaw : zF := z_fn 4 kX12_tellLaw_0
theorem mX12_tellLaw {l : Launch} {D : zD} {B : Nat} : z_MF l D B yX12_tellLaw xX12_tellLaw fX12_tellLaw := z_mf (by decide) rfl (fun h => by cases h) rfl (fun as σ r h => ⟨z_fn_len h, kX12_tellLaw_0, z_fn_run h, fun _ => tX12_tellLaw_0⟩)
/-! ===== RowChildrenModel.tellOne ===== -/
theorem dX12_tellOne_0 : decode cX12_tellOne 0 = .ok (.aload_n 0, 1) := by decide +kernel
theorem dX12_tellOne_1 : decode cX12_tellOne 1 = .ok (.getfield 20, 3) := by decide +kernel
theorem dX12_tellOne_4 : decode cX12_tellOne 4 = .ok (.aload_n 0, 1) := by decide +kernel
theorem dX12_tellOne_5 : decode cX12_tellOne 5 = .ok (.getfield 222, 3) := by decide +kernel
theorem dX12_tellOne_8 : decode cX12_tellOne 8 = .ok (.iaload, 1) := by decide +kernel
theorem dX12_tellOne_9 : decode cX12_tellOne 9 = .ok (.tableswitch 160 20 27 #[47, 74, 103, 160, 160, 160, 160, 131], 47) := by decide +kernel
theorem dX12_tellOne_56 : decode cX12_tellOne 56 = .ok (.aload_n 0, 1) := by decide +kernel
theorem dX12_tellOne_57 : decode cX12_tellOne 57 = .ok (.invokevirtual 240, 3) := by decide +kernel
theorem dX12_tellOne_60 : decode cX12_tellOne 60 = .ok (.aload_n 0, 1) := by decide +kernel
theorem dX12_tellOne_61 : decode cX12_tellOne 61 = .ok (.getfield 43, 3) := by decide +kernel
theorem dX12_tellOne_64 : decode cX12_tellOne 64 = .ok (.aload_n 0, 1) := by decide +kernel
theorem dX12_tellOne_65 : decode cX12_tellOne 65 = .ok (.getfield 252, 3) := by decide +kernel
theorem dX12_tellOne_68 : decode cX12_tellOne 68 = .ok (.aload_n 0, 1) := by decide +kernel
theorem dX12_tellOne_69 : decode cX12_tellOne 69 = .ok (.iconst 2, 1) := by decide +kernel
theorem dX12_tellOne_70 : decode cX12_tellOne 70 = .ok (.iconst 4, 1) := by decide +kernel
theorem dX12_tellOne_71 : decode cX12_tellOne 71 = .ok (.invokevirtual 277, 3) := by decide +kernel
theorem dX12_tellOne_74 : decode cX12_tellOne 74 = .ok (.iastore, 1) := by decide +kernel
theorem dX12_tellOne_75 : decode cX12_tellOne 75 = .ok (.aload_n 0, 1) := by decide +kernel
theorem dX12_tellOne_76 : decode cX12_tellOne 76 = .ok (.iconst 4, 1) := by decide +kernel
theorem dX12_tellOne_77 : decode cX12_tellOne 77 = .ok (.invokevirtual 281, 3) := by decide +kernel
theorem dX12_tellOne_80 : decode cX12_tellOne 80 = .ok (.goto 142, 3) := by decide +kernel
theorem dX12_tellOne_83 : decode cX12_tellOne 83 = .ok (.aload_n 0, 1) := by decide +kernel
theorem dX12_tellOne_84 : decode cX12_tellOne 84 = .ok (.aload_n 0, 1) := by decide +kernel
theorem dX12_tellOne_85 : decode cX12_tellOne 85 = .ok (.getfield 46, 3) := by decide +kernel
theorem dX12_tellOne_88 : decode cX12_tellOne 88 = .ok (.aload_n 0, 1) := by decide +kernel
theorem dX12_tellOne_89 : decode cX12_tellOne 89 = .ok (.getfield 252, 3) := by decide +kernel
theorem dX12_tellOne_92 : decode cX12_tellOne 92 = .ok (.iaload, 1) := by decide +kernel
theorem dX12_tellOne_93 : decode cX12_tellOne 93 = .ok (.bipush 20, 2) := by decide +kernel
theorem dX12_tellOne_95 : decode cX12_tellOne 95 = .ok (.invokevirtual 284, 3) := by decide +kernel
theorem dX12_tellOne_98 : decode cX12_tellOne 98 = .ok (.aload_n 0, 1) := by decide +kernel
theorem dX12_tellOne_99 : decode cX12_tellOne 99 = .ok (.getfield 219, 3) := by decide +kernel
theorem dX12_tellOne_102 : decode cX12_tellOne 102 = .ok (.ifCond .ne 120, 3) := by decide +kernel
theorem dX12_tellOne_105 : decode cX12_tellOne 105 = .ok (.aload_n 0, 1) := by decide +kernel
theorem dX12_tellOne_106 : decode cX12_tellOne 106 = .ok (.invokevirtual 287, 3) := by decide +kernel
theorem dX12_tellOne_109 : decode cX12_tellOne 109 = .ok (.goto 113, 3) := by decide +kernel
theorem dX12_tellOne_112 : decode cX12_tellOne 112 = .ok (.aload_n 0, 1) := by decide +kernel
theorem dX12_tellOne_113 : decode cX12_tellOne 113 = .ok (.aload_n 0, 1) := by decide +kernel
theorem dX12_tellOne_114 : decode cX12_tellOne 114 = .ok (.getfield 55, 3) := by decide +kernel
theorem dX12_tellOne_117 : decode cX12_tellOne 117 = .ok (.aload_n 0, 1) := by decide +kernel
theorem dX12_tellOne_118 : decode cX12_tellOne 118 = .ok (.getfield 252, 3) := by decide +kernel
theorem dX12_tellOne_121 : decode cX12_tellOne 121 = .ok (.iaload, 1) := by decide +kernel
theorem dX12_tellOne_122 : decode cX12_tellOne 122 = .ok (.iconst 4, 1) := by decide +kernel
theorem dX12_tellOne_123 : decode cX12_tellOne 123 = .ok (.invokevirtual 284, 3) := by decide +kernel
theorem dX12_tellOne_126 : decode cX12_tellOne 126 = .ok (.aload_n 0, 1) := by decide +kernel
theorem dX12_tellOne_127 : decode cX12_tellOne 127 = .ok (.getfield 219, 3) := by decide +kernel
theorem dX12_tellOne_130 : decode cX12_tellOne 130 = .ok (.ifCond .ne 92, 3) := by decide +kernel
theorem dX12_tellOne_133 : decode cX12_tellOne 133 = .ok (.aload_n 0, 1) := by decide +kernel
theorem dX12_tellOne_134 : decode cX12_tellOne 134 = .ok (.invokevirtual 290, 3) := by decide +kernel
theorem dX12_tellOne_137 : decode cX12_tellOne 137 = .ok (.goto 85, 3) := by decide +kernel
theorem dX12_tellOne_140 : decode cX12_tellOne 140 = .ok (.aload_n 0, 1) := by decide +kernel
theorem dX12_tellOne_141 : decode cX12_tellOne 141 = .ok (.invokevirtual 240, 3) := by decide +kernel
theorem dX12_tellOne_144 : decode cX12_tellOne 144 = .ok (.aload_n 0, 1) := by decide +kernel
theorem dX12_tellOne_145 : decode cX12_tellOne 145 = .ok (.getfield 64, 3) := by decide +kernel
theorem dX12_tellOne_148 : decode cX12_tellOne 148 = .ok (.aload_n 0, 1) := by decide +kernel
theorem dX12_tellOne_149 : decode cX12_tellOne 149 = .ok (.getfield 252, 3) := by decide +kernel
theorem dX12_tellOne_152 : decode cX12_tellOne 152 = .ok (.aload_n 0, 1) := by decide +kernel
theorem dX12_tellOne_153 : decode cX12_tellOne 153 = .ok (.iconst 0, 1) := by decide +kernel
theorem dX12_tellOne_154 : decode cX12_tellOne 154 = .ok (.sipush 9999, 3) := by decide +kernel
theorem dX12_tellOne_157 : decode cX12_tellOne 157 = .ok (.invokevirtual 277, 3) := by decide +kernel
theorem dX12_tellOne_160 : decode cX12_tellOne 160 = .ok (.iastore, 1) := by decide +kernel
theorem dX12_tellOne_161 : decode cX12_tellOne 161 = .ok (.aload_n 0, 1) := by decide +kernel
theorem dX12_tellOne_162 : decode cX12_tellOne 162 = .ok (.iconst 4, 1) := by decide +kernel
theorem dX12_tellOne_163 : decode cX12_tellOne 163 = .ok (.invokevirtual 281, 3) := by decide +kernel
theorem dX12_tellOne_166 : decode cX12_tellOne 166 = .ok (.goto 56, 3) := by decide +kernel
theorem dX12_tellOne_169 : decode cX12_tellOne 169 = .ok (.aload_n 0, 1) := by decide +kernel
theorem dX12_tellOne_170 : decode cX12_tellOne 170 = .ok (.getfield 20, 3) := by decide +kernel
theorem dX12_tellOne_173 : decode cX12_tellOne 173 = .ok (.aload_n 0, 1) := by decide +kernel
theorem dX12_tellOne_174 : decode cX12_tellOne 174 = .ok (.getfield 222, 3) := by decide +kernel
theorem dX12_tellOne_177 : decode cX12_tellOne 177 = .ok (.iaload, 1) := by decide +kernel
theorem dX12_tellOne_178 : decode cX12_tellOne 178 = .ok (.bipush 23, 2) := by decide +kernel
theorem dX12_tellOne_180 : decode cX12_tellOne 180 = .ok (.isub, 1) := by decide +kernel
theorem dX12_tellOne_181 : decode cX12_tellOne 181 = .ok (.istore_n 1, 1) := by decide +kernel
theorem dX12_tellOne_182 : decode cX12_tellOne 182 = .ok (.iload_n 1, 1) := by decide +kernel
theorem dX12_tellOne_183 : decode cX12_tellOne 183 = .ok (.ifCond .lt 17, 3) := by decide +kernel
theorem dX12_tellOne_186 : decode cX12_tellOne 186 = .ok (.aload_n 0, 1) := by decide +kernel
theorem dX12_tellOne_187 : decode cX12_tellOne 187 = .ok (.getfield 20, 3) := by decide +kernel
theorem dX12_tellOne_190 : decode cX12_tellOne 190 = .ok (.aload_n 0, 1) := by decide +kernel
theorem dX12_tellOne_191 : decode cX12_tellOne 191 = .ok (.getfield 222, 3) := by decide +kernel
theorem dX12_tellOne_194 : decode cX12_tellOne 194 = .ok (.iaload, 1) := by decide +kernel
theorem dX12_tellOne_195 : decode cX12_tellOne 195 = .ok (.bipush 26, 2) := by decide +kernel
theorem dX12_tellOne_197 : decode cX12_tellOne 197 = .ok (.if_icmp .le 8, 3) := by decide +kernel
theorem dX12_tellOne_200 : decode cX12_tellOne 200 = .ok (.aload_n 0, 1) := by decide +kernel
theorem dX12_tellOne_201 : decode cX12_tellOne 201 = .ok (.iconst 1, 1) := by decide +kernel
theorem dX12_tellOne_202 : decode cX12_tellOne 202 = .ok (.invokevirtual 234, 3) := by decide +kernel
theorem dX12_tellOne_205 : decode cX12_tellOne 205 = .ok (.aload_n 0, 1) := by decide +kernel
theorem dX12_tellOne_206 : decode cX12_tellOne 206 = .ok (.getfield 219, 3) := by decide +kernel
theorem dX12_tellOne_209 : decode cX12_tellOne 209 = .ok (.ifCond .le 4, 3) := by decide +kernel
theorem dX12_tellOne_212 : decode cX12_tellOne 212 = .ok (.return_, 1) := by decide +kernel
theorem dX12_tellOne_213 : decode cX12_tellOne 213 = .ok (.aload_n 0, 1) := by decide +kernel
theorem dX12_tellOne_214 : decode cX12_tellOne 214 = .ok (.invokevirtual 240, 3) := by decide +kernel
theorem dX12_tellOne_217 : decode cX12_tellOne 217 = .ok (.aload_n 0, 1) := by decide +kernel
theorem dX12_tellOne_218 : decode cX12_tellOne 218 = .ok (.iload_n 1, 1) := by decide +kernel
theorem dX12_tellOne_219 : decode cX12_tellOne 219 = .ok (.invokevirtual 293, 3) := by decide +kernel
theorem dX12_tellOne_222 : decode cX12_tellOne 222 = .ok (.return_, 1) := by decide +kernel
def xX12_tellOne : zX := (RX12, cX12_tellOne, 2, none, false, { frames := 7, cells := 0, slots := 0, locals := 216 }, 0, 0, 0, 0)
theorem rmX12_tellOne : z_Rm xX12_tellOne := by unfold z_Rm xX12_tellOne; exact ⟨by decide, by decide⟩
theorem reX12_tellOne : z_Re xX12_tellOne := ⟨rfl, rfl⟩
theorem rlX12_tellOne : 1 ≤ xX12_tellOne.2.2.2.2.2.1.frames ∧ 21 ≤ xX12_tellOne.2.2.2.2.2.1.locals := by unfold xX12_tellOne; exact ⟨by decide, by decide⟩
theorem meX12_tellOne : z_Me yX12_tellOne xX12_tellOne 0 := ⟨wd1062, wd893, by decide, by decide, by decide +kernel⟩
theorem fitX12_tellOne_57 : z_Fit xX12_goesOn xX12_tellOne := by unfold z_Fit; simp only [xX12_goesOn, xX12_tellOne]; exact ⟨by decide, by decide⟩
theorem fitX12_tellOne_71 : z_Fit xX12_bounded xX12_tellOne := by unfold z_Fit; simp only [xX12_bounded, xX12_tellOne]; exact ⟨by decide, by decide⟩
theorem fitX12_tellOne_77 : z_Fit xX12_must xX12_tellOne := by unfold z_Fit; simp only [xX12_must, xX12_tellOne]; exact ⟨by decide, by decide⟩
theorem fitX12_tellOne_95 : z_Fit xX12_roomFor xX12_tellOne := by unfold z_Fit; simp only [xX12_roomFor, xX12_tellOne]; exact ⟨by decide, by decide⟩
theorem fitX12_tellOne_106 : z_Fit xX12_tellChild xX12_tellOne := by unfold z_Fit; simp only [xX12_tellChild, xX12_tellOne]; exact ⟨by decide, by decide⟩
theorem fitX12_tellOne_123 : z_Fit xX12_roomFor xX12_tellOne := by unfold z_Fit; simp only [xX12_roomFor, xX12_tellOne]; exact ⟨by decide, by decide⟩
theorem fitX12_tellOne_134 : z_Fit xX12_tellRow xX12_tellOne := by unfold z_Fit; simp only [xX12_tellRow, xX12_tellOne]; exact ⟨by decide, by decide⟩
theorem fitX12_tellOne_202 : z_Fit xX12_fail xX12_tellOne := by unfold z_Fit; simp only [xX12_fail, xX12_tellOne]; exact ⟨by decide, by decide⟩
theorem fitX12_tellOne_214 : z_Fit xX12_goesOn xX12_tellOne := by unfold z_Fit; simp only [xX12_goesOn, xX12_tellOne]; exact ⟨by decide, by decide⟩
theorem fitX12_tellOne_219 : z_Fit xX12_tellLaw xX12_tellOne := by unfold z_Fit; simp only [xX12_tellLaw, xX12_tellOne]; exact ⟨by decide, by decide⟩
theorem fitX12_tellOne_141 : z_Fit xX12_goesOn xX12_tellOne := by unfold z_Fit; simp only [xX12_goesOn, xX12_tellOne]; exact ⟨by decide, by decide⟩
theorem fitX12_tellOne_157 : z_Fit xX12_bounded xX12_tellOne := by unfold z_Fit; simp only [xX12_bounded, xX12_tellOne]; exact ⟨by decide, by decide⟩
theorem fitX12_tellOne_163 : z_Fit xX12_must xX12_tellOne := by unfold z_Fit; simp only [xX12_must, xX12_tellOne]; exact ⟨by decide, by decide⟩
noncomputable def kX12_tellOne_222 : zK zR := q_vret
noncomputable def kX12_tellOne_205 : zK zR := (q_aload 0 (q_getI 12 13 (q_if_le (q_aload 0 (q_callV 12 fX12_goesOn 0 (q_aload 0 (q_iload 1 (q_callV 12 fX12_tellLaw 1 kX12_tellOne_222))))) q_vret)))
noncomputable def kX12_tellOne_200 : zK zR := (q_aload 0 (q_push 1 (q_callV 12 fX12_fail 1 kX12_tellOne_205)))
noncomputable def kX12_tellOne_169 : zK zR := (q_aload 0 (q_getR 12 5 (q_aload 0 (q_getI 12 11 (q_iald (q_push 23 (q_isub (q_istore 1 (q_iload 1 (q_if_lt kX12_tellOne_200 (q_aload 0 (q_getR 12 5 (q_aload 0 (q_getI 12 11 (q_iald (q_push 26 (q_icmp_le kX12_tellOne_205 kX12_tellOne_200)))))))))))))))))
noncomputable def kX12_tellOne_0 : zK zR := (q_aload 0 (q_getR 12 5 (q_aload 0 (q_getI 12 11 (q_iald (q_sw 20 [(q_aload 0 (q_callV 12 fX12_goesOn 0 (q_aload 0 (q_getR 12 22 (q_aload 0 (q_getI 12 19 (q_aload 0 (q_push 2 (q_push 4 (q_callV 12 fX12_bounded 2 (q_iast (q_aload 0 (q_push 4 (q_callV 12 fX12_must 1 kX12_tellOne_222)))))))))))))), (q_aload 0 (q_aload 0 (q_getR 12 23 (q_aload 0 (q_getI 12 19 (q_iald (q_push 20 (q_callV 12 fX12_roomFor 2 (q_aload 0 (q_getI 12 13 (q_if_ne kX12_tellOne_222 (q_aload 0 (q_callV 12 fX12_tellChild 0 kX12_tellOne_222))))))))))))), (q_aload 0 (q_aload 0 (q_getR 12 26 (q_aload 0 (q_getI 12 19 (q_iald (q_push 4 (q_callV 12 fX12_roomFor 2 (q_aload 0 (q_getI 12 13 (q_if_ne kX12_tellOne_222 (q_aload 0 (q_callV 12 fX12_tellRow 0 kX12_tellOne_222))))))))))))), kX12_tellOne_169, kX12_tellOne_169, kX12_tellOne_169, kX12_tellOne_169, (q_aload 0 (q_callV 12 fX12_goesOn 0 (q_aload 0 (q_getR 12 29 (q_aload 0 (q_getI 12 19 (q_aload 0 (q_push 0 (q_push 9999 (q_callV 12 fX12_bounded 2 (q_iast (q_aload 0 (q_push 4 (q_callV 12 fX12_must 1 kX12_tellOne_222))))))))))))))] kX12_tellOne_169))))))
set_option maxRecDepth 100000 in
theorem tX12_tellOne_222 {l : Launch} {D : zD} {B sz0 : Nat} {post : Option Value → zS → Prop} : zSnd l D B xX12_tellOne sz0 post 222 kX12_tellOne_222 (z_Jr post) := (s_vret dX12_tellOne_222 rfl)
set_option maxRecDepth 100000 in
theorem tX12_tellOne_205 {l : Launch} {D : zD} {B sz0 : Nat} {post : Option Value → zS → Prop} : zSnd l D B xX12_tellOne sz0 post 205 kX12_tellOne_205 (z_Jr post) := (s_aload_n dX12_tellOne_205 rfl (s_getI (f := 13) dX12_tellOne_206 clX12 (by decide) rfl wd987 (s_if_le (tgt := 213) dX12_tellOne_209 (by decide) (s_aload_n dX12_tellOne_213 rfl (s_callV (r := (RX12, TX12, 74)) dX12_tellOne_214 mX12_goesOn meX12_goesOn wd1002 wd1003 rfl rfl reX12_goesOn rmX12_tellOne (fitX12_tellOne_214) wd1004 (s_aload_n dX12_tellOne_217 rfl (s_iload_n dX12_tellOne_218 rfl (s_callV (r := (RX12, TX12, 74)) dX12_tellOne_219 mX12_tellLaw meX12_tellLaw wd1059 wd1060 rfl rfl reX12_tellLaw rmX12_tellOne (fitX12_tellOne_219) wd1061 tX12_tellOne_222))))) (s_vret dX12_tellOne_212 rfl))))
set_option maxRecDepth 100000 in
theorem tX12_tellOne_200 {l : Launch} {D : zD} {B sz0 : Nat} {post : Option Value → zS → Prop} : zSnd l D B xX12_tellOne sz0 post 200 kX12_tellOne_200 (z_Jr post) := (s_aload_n dX12_tellOne_200 rfl (s_iconst dX12_tellOne_201 (by decide) (s_callV (r := (RX12, TX12, 74)) dX12_tellOne_202 mX12_fail meX12_fail wd995 wd996 rfl rfl reX12_fail rmX12_tellOne (fitX12_tellOne_202) wd997 tX12_tellOne_205)))
set_option maxRecDepth 100000 in
theorem tX12_tellOne_169 {l : Launch} {D : zD} {B sz0 : Nat} {post : Option Value → zS → Prop} : zSnd l D B xX12_tellOne sz0 post 169 kX12_tellOne_169 (z_Jr post) := (s_aload_n dX12_tellOne_169 rfl (s_getR (f := 5) dX12_tellOne_170 clX12 (by decide) rfl wd910 (s_aload_n dX12_tellOne_173 rfl (s_getI (f := 11) dX12_tellOne_174 clX12 (by decide) rfl wd988 (s_iald dX12_tellOne_177 (s_bipush dX12_tellOne_178 (by decide) (s_isub dX12_tellOne_180 (s_istore_n dX12_tellOne_181 rfl (s_iload_n dX12_tellOne_182 rfl (s_if_lt (tgt := 200) dX12_tellOne_183 (by decide) tX12_tellOne_200 (s_aload_n dX12_tellOne_186 rfl (s_getR (f := 5) dX12_tellOne_187 clX12 (by decide) rfl wd910 (s_aload_n dX12_tellOne_190 rfl (s_getI (f := 11) dX12_tellOne_191 clX12 (by decide) rfl wd988 (s_iald dX12_tellOne_194 (s_bipush dX12_tellOne_195 (by decide) (s_icmp_le (tgt := 205) dX12_tellOne_197 (by decide) tX12_tellOne_205 tX12_tellOne_200)))))))))))))))))
set_option maxRecDepth 100000 in
theorem tX12_tellOne_0 {l : Launch} {D : zD} {B sz0 : Nat} {post : Option Value → zS → Prop} : zSnd l D B xX12_tellOne sz0 post 0 kX12_tellOne_0 (z_Jr post) := (s_aload_n dX12_tellOne_0 rfl (s_getR (f := 5) dX12_tellOne_1 clX12 (by decide) rfl wd910 (s_aload_n dX12_tellOne_4 rfl (s_getI (f := 11) dX12_tellOne_5 clX12 (by decide) rfl wd988 (s_iald dX12_tellOne_8 (s_swL (tgts := [56, 83, 112, 169, 169, 169, 169, 140]) (td := 169) dX12_tellOne_9 (by decide) (by decide) (by decide) ⟨(s_aload_n dX12_tellOne_56 rfl (s_callV (r := (RX12, TX12, 74)) dX12_tellOne_57 mX12_goesOn meX12_goesOn wd1002 wd1003 rfl rfl reX12_goesOn rmX12_tellOne (fitX12_tellOne_57) wd1004 (s_aload_n dX12_tellOne_60 rfl (s_getR (f := 22) dX12_tellOne_61 clX12 (by decide) rfl wd884 (s_aload_n dX12_tellOne_64 rfl (s_getI (f := 19) dX12_tellOne_65 clX12 (by decide) rfl wd1014 (s_aload_n dX12_tellOne_68 rfl (s_iconst dX12_tellOne_69 (by decide) (s_iconst dX12_tellOne_70 (by decide) (s_callV (r := (RX12, TX12, 74)) dX12_tellOne_71 mX12_bounded meX12_bounded wd1011 wd1012 rfl rfl reX12_bounded rmX12_tellOne (fitX12_tellOne_71) wd1013 (s_iast dX12_tellOne_74 (s_aload_n dX12_tellOne_75 rfl (s_iconst dX12_tellOne_76 (by decide) (s_callV (r := (RX12, TX12, 74)) dX12_tellOne_77 mX12_must meX12_must wd1019 wd1020 rfl rfl reX12_must rmX12_tellOne (fitX12_tellOne_77) wd1021 (s_goto (tgt := 222) dX12_tellOne_80 (by decide) tX12_tellOne_222))))))))))))))), ⟨(s_aload_n dX12_tellOne_83 rfl (s_aload_n dX12_tellOne_84 rfl (s_getR (f := 23) dX12_tellOne_85 clX12 (by decide) rfl wd885 (s_aload_n dX12_tellOne_88 rfl (s_getI (f := 19) dX12_tellOne_89 clX12 (by decide) rfl wd1014 (s_iald dX12_tellOne_92 (s_bipush dX12_tellOne_93 (by decide) (s_callV (r := (RX12, TX12, 74)) dX12_tellOne_95 mX12_roomFor meX12_roomFor wd1050 wd1051 rfl rfl reX12_roomFor rmX12_tellOne (fitX12_tellOne_95) wd1052 (s_aload_n dX12_tellOne_98 rfl (s_getI (f := 13) dX12_tellOne_99 clX12 (by decide) rfl wd987 (s_if_ne (tgt := 222) dX12_tellOne_102 (by decide) tX12_tellOne_222 (s_aload_n dX12_tellOne_105 rfl (s_callV (r := (RX12, TX12, 74)) dX12_tellOne_106 mX12_tellChild meX12_tellChild wd1053 wd1054 rfl rfl reX12_tellChild rmX12_tellOne (fitX12_tellOne_106) wd1055 (s_goto (tgt := 222) dX12_tellOne_109 (by decide) tX12_tellOne_222)))))))))))))), ⟨(s_aload_n dX12_tellOne_112 rfl (s_aload_n dX12_tellOne_113 rfl (s_getR (f := 26) dX12_tellOne_114 clX12 (by decide) rfl wd887 (s_aload_n dX12_tellOne_117 rfl (s_getI (f := 19) dX12_tellOne_118 clX12 (by decide) rfl wd1014 (s_iald dX12_tellOne_121 (s_iconst dX12_tellOne_122 (by decide) (s_callV (r := (RX12, TX12, 74)) dX12_tellOne_123 mX12_roomFor meX12_roomFor wd1050 wd1051 rfl rfl reX12_roomFor rmX12_tellOne (fitX12_tellOne_123) wd1052 (s_aload_n dX12_tellOne_126 rfl (s_getI (f := 13) dX12_tellOne_127 clX12 (by decide) rfl wd987 (s_if_ne (tgt := 222) dX12_tellOne_130 (by decide) tX12_tellOne_222 (s_aload_n dX12_tellOne_133 rfl (s_callV (r := (RX12, TX12, 74)) dX12_tellOne_134 mX12_tellRow meX12_tellRow wd1056 wd1057 rfl rfl reX12_tellRow rmX12_tellOne (fitX12_tellOne_134) wd1058 (s_goto (tgt := 222) dX12_tellOne_137 (by decide) tX12_tellOne_222)))))))))))))), ⟨tX12_tellOne_169, ⟨tX12_tellOne_169, ⟨tX12_tellOne_169, ⟨tX12_tellOne_169, ⟨(s_aload_n dX12_tellOne_140 rfl (s_callV (r := (RX12, TX12, 74)) dX12_tellOne_141 mX12_goesOn meX12_goesOn wd1002 wd1003 rfl rfl reX12_goesOn rmX12_tellOne (fitX12_tellOne_141) wd1004 (s_aload_n dX12_tellOne_144 rfl (s_getR (f := 29) dX12_tellOne_145 clX12 (by decide) rfl wd888 (s_aload_n dX12_tellOne_148 rfl (s_getI (f := 19) dX12_tellOne_149 clX12 (by decide) rfl wd1014 (s_aload_n dX12_tellOne_152 rfl (s_iconst dX12_tellOne_153 (by decide) (s_sipush dX12_tellOne_154 (by decide) (s_callV (r := (RX12, TX12, 74)) dX12_tellOne_157 mX12_bounded meX12_bounded wd1011 wd1012 rfl rfl reX12_bounded rmX12_tellOne (fitX12_tellOne_157) wd1013 (s_iast dX12_tellOne_160 (s_aload_n dX12_tellOne_161 rfl (s_iconst dX12_tellOne_162 (by decide) (s_callV (r := (RX12, TX12, 74)) dX12_tellOne_163 mX12_must meX12_must wd1019 wd1020 rfl rfl reX12_must rmX12_tellOne (fitX12_tellOne_163) wd1021 (s_goto (tgt := 222) dX12_tellOne_166 (by decide) tX12_tellOne_222))))))))))))))), True.intro⟩⟩⟩⟩⟩⟩⟩⟩ tX12_tellOne_169))))))
noncomputable def fX12_tellOne : zF := z_fn 2 kX12_tellOne_0
theorem mX12_tellOne {l : Launch} {D : zD} {B : Nat} : z_MF l D B yX12_tellOne xX12_tellOne fX12_tellOne := z_mf (by decide) rfl (fun h => by cases h) rfl (fun as σ r h => ⟨z_fn_len h, kX12_tellOne_0, z_fn_run h, fun _ => tX12_tellOne_0⟩)
/-! ===== RowChildrenModel.read ===== -/
theorem dX12_read_0 : decode cX12_read 0 = .ok (.aload_n 0, 1) := by decide +kernel
theorem dX12_read_1 : decode cX12_read 1 = .ok (.aload_n 0, 1) := by decide +kernel
theorem dX12_read_2 : decode cX12_read 2 = .ok (.getfield 182, 3) := by decide +kernel
theorem dX12_read_5 : decode cX12_read 5 = .ok (.putfield 188, 3) := by decide +kernel
theorem dX12_read_8 : decode cX12_read 8 = .ok (.iconst 0, 1) := by decide +kernel
theorem dX12_read_9 : decode cX12_read 9 = .ok (.istore_n 1, 1) := by decide +kernel
theorem dX12_read_10 : decode cX12_read 10 = .ok (.iload_n 1, 1) := by decide +kernel
theorem dX12_read_11 : decode cX12_read 11 = .ok (.aload_n 0, 1) := by decide +kernel
theorem dX12_read_12 : decode cX12_read 12 = .ok (.getfield 188, 3) := by decide +kernel
theorem dX12_read_15 : decode cX12_read 15 = .ok (.if_icmp .ge 21, 3) := by decide +kernel
theorem dX12_read_18 : decode cX12_read 18 = .ok (.aload_n 0, 1) := by decide +kernel
theorem dX12_read_19 : decode cX12_read 19 = .ok (.getfield 17, 3) := by decide +kernel
theorem dX12_read_22 : decode cX12_read 22 = .ok (.iload_n 1, 1) := by decide +kernel
theorem dX12_read_23 : decode cX12_read 23 = .ok (.aload_n 0, 1) := by decide +kernel
theorem dX12_read_24 : decode cX12_read 24 = .ok (.getfield 13, 3) := by decide +kernel
theorem dX12_read_27 : decode cX12_read 27 = .ok (.iload_n 1, 1) := by decide +kernel
theorem dX12_read_28 : decode cX12_read 28 = .ok (.baload, 1) := by decide +kernel
theorem dX12_read_29 : decode cX12_read 29 = .ok (.bastore, 1) := by decide +kernel
theorem dX12_read_30 : decode cX12_read 30 = .ok (.iinc 1 1, 3) := by decide +kernel
theorem dX12_read_33 : decode cX12_read 33 = .ok (.goto (-23), 3) := by decide +kernel
theorem dX12_read_36 : decode cX12_read 36 = .ok (.aload_n 0, 1) := by decide +kernel
theorem dX12_read_37 : decode cX12_read 37 = .ok (.iconst 0, 1) := by decide +kernel
theorem dX12_read_38 : decode cX12_read 38 = .ok (.putfield 182, 3) := by decide +kernel
theorem dX12_read_41 : decode cX12_read 41 = .ok (.aload_n 0, 1) := by decide +kernel
theorem dX12_read_42 : decode cX12_read 42 = .ok (.invokevirtual 243, 3) := by decide +kernel
theorem dX12_read_45 : decode cX12_read 45 = .ok (.aload_n 0, 1) := by decide +kernel
theorem dX12_read_46 : decode cX12_read 46 = .ok (.iconst 0, 1) := by decide +kernel
theorem dX12_read_47 : decode cX12_read 47 = .ok (.putfield 222, 3) := by decide +kernel
theorem dX12_read_50 : decode cX12_read 50 = .ok (.aload_n 0, 1) := by decide +kernel
theorem dX12_read_51 : decode cX12_read 51 = .ok (.iconst 0, 1) := by decide +kernel
theorem dX12_read_52 : decode cX12_read 52 = .ok (.putfield 246, 3) := by decide +kernel
theorem dX12_read_55 : decode cX12_read 55 = .ok (.aload_n 0, 1) := by decide +kernel
theorem dX12_read_56 : decode cX12_read 56 = .ok (.iconst 0, 1) := by decide +kernel
theorem dX12_read_57 : decode cX12_read 57 = .ok (.putfield 219, 3) := by decide +kernel
theorem dX12_read_60 : decode cX12_read 60 = .ok (.aload_n 0, 1) := by decide +kernel
theorem dX12_read_61 : decode cX12_read 61 = .ok (.iconst 0, 1) := by decide +kernel
theorem dX12_read_62 : decode cX12_read 62 = .ok (.putfield 228, 3) := by decide +kernel
theorem dX12_read_65 : decode cX12_read 65 = .ok (.aload_n 0, 1) := by decide +kernel
theorem dX12_read_66 : decode cX12_read 66 = .ok (.iconst 1, 1) := by decide +kernel
theorem dX12_read_67 : decode cX12_read 67 = .ok (.aload_n 0, 1) := by decide +kernel
theorem dX12_read_68 : decode cX12_read 68 = .ok (.getfield 249, 3) := by decide +kernel
theorem dX12_read_71 : decode cX12_read 71 = .ok (.isub, 1) := by decide +kernel
theorem dX12_read_72 : decode cX12_read 72 = .ok (.putfield 252, 3) := by decide +kernel
theorem dX12_read_75 : decode cX12_read 75 = .ok (.aload_n 0, 1) := by decide +kernel
theorem dX12_read_76 : decode cX12_read 76 = .ok (.iconst 0, 1) := by decide +kernel
theorem dX12_read_77 : decode cX12_read 77 = .ok (.putfield 255, 3) := by decide +kernel
theorem dX12_read_80 : decode cX12_read 80 = .ok (.aload_n 0, 1) := by decide +kernel
theorem dX12_read_81 : decode cX12_read 81 = .ok (.aload_n 0, 1) := by decide +kernel
theorem dX12_read_82 : decode cX12_read 82 = .ok (.getfield 252, 3) := by decide +kernel
theorem dX12_read_85 : decode cX12_read 85 = .ok (.invokevirtual 168, 3) := by decide +kernel
theorem dX12_read_88 : decode cX12_read 88 = .ok (.aload_n 0, 1) := by decide +kernel
theorem dX12_read_89 : decode cX12_read 89 = .ok (.sipush 130, 3) := by decide +kernel
theorem dX12_read_92 : decode cX12_read 92 = .ok (.aload_n 0, 1) := by decide +kernel
theorem dX12_read_93 : decode cX12_read 93 = .ok (.getfield 252, 3) := by decide +kernel
theorem dX12_read_96 : decode cX12_read 96 = .ok (.imul, 1) := by decide +kernel
theorem dX12_read_97 : decode cX12_read 97 = .ok (.putfield 258, 3) := by decide +kernel
theorem dX12_read_100 : decode cX12_read 100 = .ok (.aload_n 0, 1) := by decide +kernel
theorem dX12_read_101 : decode cX12_read 101 = .ok (.sipush 420, 3) := by decide +kernel
theorem dX12_read_104 : decode cX12_read 104 = .ok (.aload_n 0, 1) := by decide +kernel
theorem dX12_read_105 : decode cX12_read 105 = .ok (.getfield 252, 3) := by decide +kernel
theorem dX12_read_108 : decode cX12_read 108 = .ok (.imul, 1) := by decide +kernel
theorem dX12_read_109 : decode cX12_read 109 = .ok (.putfield 261, 3) := by decide +kernel
theorem dX12_read_112 : decode cX12_read 112 = .ok (.aload_n 0, 1) := by decide +kernel
theorem dX12_read_113 : decode cX12_read 113 = .ok (.getfield 219, 3) := by decide +kernel
theorem dX12_read_116 : decode cX12_read 116 = .ok (.ifCond .ne 18, 3) := by decide +kernel
theorem dX12_read_119 : decode cX12_read 119 = .ok (.aload_n 0, 1) := by decide +kernel
theorem dX12_read_120 : decode cX12_read 120 = .ok (.iconst 0, 1) := by decide +kernel
theorem dX12_read_121 : decode cX12_read 121 = .ok (.invokevirtual 237, 3) := by decide +kernel
theorem dX12_read_124 : decode cX12_read 124 = .ok (.ifCond .ne 10, 3) := by decide +kernel
theorem dX12_read_127 : decode cX12_read 127 = .ok (.aload_n 0, 1) := by decide +kernel
theorem dX12_read_128 : decode cX12_read 128 = .ok (.invokevirtual 264, 3) := by decide +kernel
theorem dX12_read_131 : decode cX12_read 131 = .ok (.goto (-19), 3) := by decide +kernel
theorem dX12_read_134 : decode cX12_read 134 = .ok (.aload_n 0, 1) := by decide +kernel
theorem dX12_read_135 : decode cX12_read 135 = .ok (.getfield 219, 3) := by decide +kernel
theorem dX12_read_138 : decode cX12_read 138 = .ok (.ifCond .ne 34, 3) := by decide +kernel
theorem dX12_read_141 : decode cX12_read 141 = .ok (.aload_n 0, 1) := by decide +kernel
theorem dX12_read_142 : decode cX12_read 142 = .ok (.getfield 52, 3) := by decide +kernel
theorem dX12_read_145 : decode cX12_read 145 = .ok (.aload_n 0, 1) := by decide +kernel
theorem dX12_read_146 : decode cX12_read 146 = .ok (.getfield 252, 3) := by decide +kernel
theorem dX12_read_149 : decode cX12_read 149 = .ok (.iaload, 1) := by decide +kernel
theorem dX12_read_150 : decode cX12_read 150 = .ok (.aload_n 0, 1) := by decide +kernel
theorem dX12_read_151 : decode cX12_read 151 = .ok (.getfield 43, 3) := by decide +kernel
theorem dX12_read_154 : decode cX12_read 154 = .ok (.aload_n 0, 1) := by decide +kernel
theorem dX12_read_155 : decode cX12_read 155 = .ok (.getfield 252, 3) := by decide +kernel
theorem dX12_read_158 : decode cX12_read 158 = .ok (.iaload, 1) := by decide +kernel
theorem dX12_read_159 : decode cX12_read 159 = .ok (.if_icmp .lt 13, 3) := by decide +kernel
theorem dX12_read_162 : decode cX12_read 162 = .ok (.aload_n 0, 1) := by decide +kernel
theorem dX12_read_163 : decode cX12_read 163 = .ok (.bipush 6, 2) := by decide +kernel
theorem dX12_read_165 : decode cX12_read 165 = .ok (.aload_n 0, 1) := by decide +kernel
theorem dX12_read_166 : decode cX12_read 166 = .ok (.getfield 222, 3) := by decide +kernel
theorem dX12_read_169 : decode cX12_read 169 = .ok (.invokevirtual 267, 3) := by decide +kernel
theorem dX12_read_172 : decode cX12_read 172 = .ok (.aload_n 0, 1) := by decide +kernel
theorem dX12_read_173 : decode cX12_read 173 = .ok (.aload_n 0, 1) := by decide +kernel
theorem dX12_read_174 : decode cX12_read 174 = .ok (.getfield 219, 3) := by decide +kernel
theorem dX12_read_177 : decode cX12_read 177 = .ok (.ifCond .le 10, 3) := by decide +kernel
theorem dX12_read_180 : decode cX12_read 180 = .ok (.aload_n 0, 1) := by decide +kernel
theorem dX12_read_181 : decode cX12_read 181 = .ok (.getfield 225, 3) := by decide +kernel
theorem dX12_read_184 : decode cX12_read 184 = .ok (.goto 18, 3) := by decide +kernel
theorem dX12_read_187 : decode cX12_read 187 = .ok (.aload_n 0, 1) := by decide +kernel
theorem dX12_read_188 : decode cX12_read 188 = .ok (.getfield 228, 3) := by decide +kernel
theorem dX12_read_191 : decode cX12_read 191 = .ok (.ifCond .le 10, 3) := by decide +kernel
theorem dX12_read_194 : decode cX12_read 194 = .ok (.aload_n 0, 1) := by decide +kernel
theorem dX12_read_195 : decode cX12_read 195 = .ok (.getfield 231, 3) := by decide +kernel
theorem dX12_read_198 : decode cX12_read 198 = .ok (.goto 4, 3) := by decide +kernel
theorem dX12_read_201 : decode cX12_read 201 = .ok (.iconst (-1), 1) := by decide +kernel
theorem dX12_read_202 : decode cX12_read 202 = .ok (.putfield 37, 3) := by decide +kernel
theorem dX12_read_205 : decode cX12_read 205 = .ok (.aload_n 0, 1) := by decide +kernel
theorem dX12_read_206 : decode cX12_read 206 = .ok (.getfield 219, 3) := by decide +kernel
theorem dX12_read_209 : decode cX12_read 209 = .ok (.ifCond .le 8, 3) := by decide +kernel
theorem dX12_read_212 : decode cX12_read 212 = .ok (.aload_n 0, 1) := by decide +kernel
theorem dX12_read_213 : decode cX12_read 213 = .ok (.getfield 219, 3) := by decide +kernel
theorem dX12_read_216 : decode cX12_read 216 = .ok (.ireturn, 1) := by decide +kernel
theorem dX12_read_217 : decode cX12_read 217 = .ok (.aload_n 0, 1) := by decide +kernel
theorem dX12_read_218 : decode cX12_read 218 = .ok (.getfield 228, 3) := by decide +kernel
theorem dX12_read_221 : decode cX12_read 221 = .ok (.ifCond .le 8, 3) := by decide +kernel
theorem dX12_read_224 : decode cX12_read 224 = .ok (.aload_n 0, 1) := by decide +kernel
theorem dX12_read_225 : decode cX12_read 225 = .ok (.getfield 228, 3) := by decide +kernel
theorem dX12_read_228 : decode cX12_read 228 = .ok (.ireturn, 1) := by decide +kernel
theorem dX12_read_229 : decode cX12_read 229 = .ok (.aload_n 0, 1) := by decide +kernel
theorem dX12_read_230 : decode cX12_read 230 = .ok (.aload_n 0, 1) := by decide +kernel
theorem dX12_read_231 : decode cX12_read 231 = .ok (.getfield 252, 3) := by decide +kernel
theorem dX12_read_234 : decode cX12_read 234 = .ok (.putfield 249, 3) := by decide +kernel
theorem dX12_read_237 : decode cX12_read 237 = .ok (.aload_n 0, 1) := by decide +kernel
theorem dX12_read_238 : decode cX12_read 238 = .ok (.invokevirtual 176, 3) := by decide +kernel
theorem dX12_read_241 : decode cX12_read 241 = .ok (.aload_n 0, 1) := by decide +kernel
theorem dX12_read_242 : decode cX12_read 242 = .ok (.invokevirtual 179, 3) := by decide +kernel
theorem dX12_read_245 : decode cX12_read 245 = .ok (.aload_n 0, 1) := by decide +kernel
theorem dX12_read_246 : decode cX12_read 246 = .ok (.iconst 0, 1) := by decide +kernel
theorem dX12_read_247 : decode cX12_read 247 = .ok (.putfield 271, 3) := by decide +kernel
theorem dX12_read_250 : decode cX12_read 250 = .ok (.aload_n 0, 1) := by decide +kernel
theorem dX12_read_251 : decode cX12_read 251 = .ok (.iconst 0, 1) := by decide +kernel
theorem dX12_read_252 : decode cX12_read 252 = .ok (.putfield 274, 3) := by decide +kernel
theorem dX12_read_255 : decode cX12_read 255 = .ok (.iconst 0, 1) := by decide +kernel
theorem dX12_read_256 : decode cX12_read 256 = .ok (.istore_n 1, 1) := by decide +kernel
theorem dX12_read_257 : decode cX12_read 257 = .ok (.iload_n 1, 1) := by decide +kernel
theorem dX12_read_258 : decode cX12_read 258 = .ok (.iconst 3, 1) := by decide +kernel
theorem dX12_read_259 : decode cX12_read 259 = .ok (.if_icmp .ge 16, 3) := by decide +kernel
theorem dX12_read_262 : decode cX12_read 262 = .ok (.aload_n 0, 1) := by decide +kernel
theorem dX12_read_263 : decode cX12_read 263 = .ok (.getfield 162, 3) := by decide +kernel
theorem dX12_read_266 : decode cX12_read 266 = .ok (.iload_n 1, 1) := by decide +kernel
theorem dX12_read_267 : decode cX12_read 267 = .ok (.iconst 0, 1) := by decide +kernel
theorem dX12_read_268 : decode cX12_read 268 = .ok (.bastore, 1) := by decide +kernel
theorem dX12_read_269 : decode cX12_read 269 = .ok (.iinc 1 1, 3) := by decide +kernel
theorem dX12_read_272 : decode cX12_read 272 = .ok (.goto (-15), 3) := by decide +kernel
theorem dX12_read_275 : decode cX12_read 275 = .ok (.iconst 0, 1) := by decide +kernel
theorem dX12_read_276 : decode cX12_read 276 = .ok (.ireturn, 1) := by decide +kernel
def xX12_read : zX := (RX12, cX12_read, 2, (some .int), false, { frames := 8, cells := 0, slots := 0, locals := 237 }, 0, 0, 0, 0)
theorem rmX12_read : z_Rm xX12_read := by unfold z_Rm xX12_read; exact ⟨by decide, by decide⟩
theorem reX12_read : z_Re xX12_read := ⟨rfl, rfl⟩
theorem rlX12_read : 1 ≤ xX12_read.2.2.2.2.2.1.frames ∧ 21 ≤ xX12_read.2.2.2.2.2.1.locals := by unfold xX12_read; exact ⟨by decide, by decide⟩
theorem meX12_read : z_Me yX12_read xX12_read 0 := ⟨wd1071, wd893, by decide, by decide, by decide +kernel⟩
theorem fitX12_read_42 : z_Fit xX12_cut xX12_read := by unfold z_Fit; simp only [xX12_cut, xX12_read]; exact ⟨by decide, by decide⟩
theorem fitX12_read_85 : z_Fit xX12_plain xX12_read := by unfold z_Fit; simp only [xX12_plain, xX12_read]; exact ⟨by decide, by decide⟩
theorem fitX12_read_238 : z_Fit xX12_begins xX12_read := by unfold z_Fit; simp only [xX12_begins, xX12_read]; exact ⟨by decide, by decide⟩
theorem fitX12_read_242 : z_Fit xX12_keepsRow xX12_read := by unfold z_Fit; simp only [xX12_keepsRow, xX12_read]; exact ⟨by decide, by decide⟩
theorem fitX12_read_169 : z_Fit xX12_wrong xX12_read := by unfold z_Fit; simp only [xX12_wrong, xX12_read]; exact ⟨by decide, by decide⟩
theorem fitX12_read_121 : z_Fit xX12_is xX12_read := by unfold z_Fit; simp only [xX12_is, xX12_read]; exact ⟨by decide, by decide⟩
theorem fitX12_read_128 : z_Fit xX12_tellOne xX12_read := by unfold z_Fit; simp only [xX12_tellOne, xX12_read]; exact ⟨by decide, by decide⟩
noncomputable def kX12_read_275 : zK zR := (q_push 0 q_iret)
noncomputable def bX12_read_257 : zK ((zL × zS) ⊕ zR) := (q_iload 1 (q_push 3 (q_icmp_ge (q_dn kX12_read_275) (q_aload 0 (q_getR 12 72 (q_iload 1 (q_push 0 (q_zast (q_iinc 1 1 q_ag)))))))))
noncomputable def kX12_read_257 : zK zR := q_lp (bX12_read_257)
noncomputable def kX12_read_202 : zK zR := (q_putI 12 17 (q_aload 0 (q_getI 12 13 (q_if_le (q_aload 0 (q_getI 12 15 (q_if_le (q_aload 0 (q_aload 0 (q_getI 12 19 (q_putI 12 18 (q_aload 0 (q_callV 12 fX12_begins 0 (q_aload 0 (q_callV 12 fX12_keepsRow 0 (q_aload 0 (q_push 0 (q_putI 12 52 (q_aload 0 (q_push 0 (q_putI 12 66 (q_push 0 (q_istore 1 kX12_read_257)))))))))))))))) (q_aload 0 (q_getI 12 15 q_iret))))) (q_aload 0 (q_getI 12 13 q_iret))))))
noncomputable def kX12_read_172 : zK zR := (q_aload 0 (q_aload 0 (q_getI 12 13 (q_if_le (q_aload 0 (q_getI 12 15 (q_if_le (q_push (-1) kX12_read_202) (q_aload 0 (q_getI 12 16 kX12_read_202))))) (q_aload 0 (q_getI 12 14 kX12_read_202))))))
noncomputable def kX12_read_134 : zK zR := (q_aload 0 (q_getI 12 13 (q_if_ne kX12_read_172 (q_aload 0 (q_getR 12 25 (q_aload 0 (q_getI 12 19 (q_iald (q_aload 0 (q_getR 12 22 (q_aload 0 (q_getI 12 19 (q_iald (q_icmp_lt kX12_read_172 (q_aload 0 (q_push 6 (q_aload 0 (q_getI 12 11 (q_callV 12 fX12_wrong 2 kX12_read_172)))))))))))))))))))
noncomputable def bX12_read_112 : zK ((zL × zS) ⊕ zR) := (q_aload 0 (q_getI 12 13 (q_if_ne (q_dn kX12_read_134) (q_aload 0 (q_push 0 (q_callV 12 fX12_is 1 (q_if_ne (q_dn kX12_read_134) (q_aload 0 (q_callV 12 fX12_tellOne 0 q_ag)))))))))
noncomputable def kX12_read_112 : zK zR := q_lp (bX12_read_112)
noncomputable def kX12_read_36 : zK zR := (q_aload 0 (q_push 0 (q_putI 12 2 (q_aload 0 (q_callV 12 fX12_cut 0 (q_aload 0 (q_push 0 (q_putI 12 11 (q_aload 0 (q_push 0 (q_putI 12 12 (q_aload 0 (q_push 0 (q_putI 12 13 (q_aload 0 (q_push 0 (q_putI 12 15 (q_aload 0 (q_push 1 (q_aload 0 (q_getI 12 18 (q_isub (q_putI 12 19 (q_aload 0 (q_push 0 (q_putI 12 20 (q_aload 0 (q_aload 0 (q_getI 12 19 (q_callV 12 fX12_plain 1 (q_aload 0 (q_push 130 (q_aload 0 (q_getI 12 19 (q_imul (q_putI 12 32 (q_aload 0 (q_push 420 (q_aload 0 (q_getI 12 19 (q_imul (q_putI 12 38 kX12_read_112))))))))))))))))))))))))))))))))))))))))))
noncomputable def bX12_read_10 : zK ((zL × zS) ⊕ zR) := (q_iload 1 (q_aload 0 (q_getI 12 4 (q_icmp_ge (q_dn kX12_read_36) (q_aload 0 (q_getR 12 3 (q_iload 1 (q_aload 0 (q_getR 12 1 (q_iload 1 (q_bald (q_bast (q_iinc 1 1 q_ag)))))))))))))
noncomputable def kX12_read_10 : zK zR := q_lp (bX12_read_10)
noncomputable def kX12_read_0 : zK zR := (q_aload 0 (q_aload 0 (q_getI 12 2 (q_putI 12 4 (q_push 0 (q_istore 1 kX12_read_10))))))
set_option maxRecDepth 100000 in
theorem tX12_read_275 {l : Launch} {D : zD} {B sz0 : Nat} {post : Option Value → zS → Prop} : zSnd l D B xX12_read sz0 post 275 kX12_read_275 (z_Jr post) := (s_iconst dX12_read_275 (by decide) (s_iret dX12_read_276 rfl))
set_option maxRecDepth 100000 in
theorem tX12_read_257 {l : Launch} {D : zD} {B sz0 : Nat} {post : Option Value → zS → Prop} : zSnd l D B xX12_read sz0 post 257 kX12_read_257 (z_Jr post) := s_lp (body := bX12_read_257) (s_iload_n dX12_read_257 rfl (s_iconst dX12_read_258 (by decide) (s_icmp_ge (tgt := 275) dX12_read_259 (by decide) (s_dn tX12_read_275) (s_aload_n dX12_read_262 rfl (s_getR (f := 72) dX12_read_263 clX12 (by decide) rfl wd945 (s_iload_n dX12_read_266 rfl (s_iconst dX12_read_267 (by decide) (s_zast dX12_read_268 (s_iinc dX12_read_269 (by decide) (s_goto (tgt := 257) dX12_read_272 (by decide) s_ag))))))))))
set_option maxRecDepth 100000 in
theorem tX12_read_202 {l : Launch} {D : zD} {B sz0 : Nat} {post : Option Value → zS → Prop} : zSnd l D B xX12_read sz0 post 202 kX12_read_202 (z_Jr post) := (s_putI (f := 17) dX12_read_202 clX12 (by decide) rfl rfl rfl wd915 (s_aload_n dX12_read_205 rfl (s_getI (f := 13) dX12_read_206 clX12 (by decide) rfl wd987 (s_if_le (tgt := 217) dX12_read_209 (by decide) (s_aload_n dX12_read_217 rfl (s_getI (f := 15) dX12_read_218 clX12 (by decide) rfl wd992 (s_if_le (tgt := 229) dX12_read_221 (by decide) (s_aload_n dX12_read_229 rfl (s_aload_n dX12_read_230 rfl (s_getI (f := 19) dX12_read_231 clX12 (by decide) rfl wd1014 (s_putI (f := 18) dX12_read_234 clX12 (by decide) rfl rfl rfl wd899 (s_aload_n dX12_read_237 rfl (s_callV (r := (RX12, TX12, 74)) dX12_read_238 mX12_begins meX12_begins wd952 wd953 rfl rfl reX12_begins rmX12_read (fitX12_read_238) wd954 (s_aload_n dX12_read_241 rfl (s_callV (r := (RX12, TX12, 74)) dX12_read_242 mX12_keepsRow meX12_keepsRow wd955 wd956 rfl rfl reX12_keepsRow rmX12_read (fitX12_read_242) wd957 (s_aload_n dX12_read_245 rfl (s_iconst dX12_read_246 (by decide) (s_putI (f := 52) dX12_read_247 clX12 (by decide) rfl rfl rfl wd1066 (s_aload_n dX12_read_250 rfl (s_iconst dX12_read_251 (by decide) (s_putI (f := 66) dX12_read_252 clX12 (by decide) rfl rfl rfl wd1067 (s_iconst dX12_read_255 (by decide) (s_istore_n dX12_read_256 rfl tX12_read_257)))))))))))))))) (s_aload_n dX12_read_224 rfl (s_getI (f := 15) dX12_read_225 clX12 (by decide) rfl wd992 (s_iret dX12_read_228 rfl)))))) (s_aload_n dX12_read_212 rfl (s_getI (f := 13) dX12_read_213 clX12 (by decide) rfl wd987 (s_iret dX12_read_216 rfl)))))))
set_option maxRecDepth 100000 in
theorem tX12_read_172 {l : Launch} {D : zD} {B sz0 : Nat} {post : Option Value → zS → Prop} : zSnd l D B xX12_read sz0 post 172 kX12_read_172 (z_Jr post) := (s_aload_n dX12_read_172 rfl (s_aload_n dX12_read_173 rfl (s_getI (f := 13) dX12_read_174 clX12 (by decide) rfl wd987 (s_if_le (tgt := 187) dX12_read_177 (by decide) (s_aload_n dX12_read_187 rfl (s_getI (f := 15) dX12_read_188 clX12 (by decide) rfl wd992 (s_if_le (tgt := 201) dX12_read_191 (by decide) (s_iconst dX12_read_201 (by decide) tX12_read_202) (s_aload_n dX12_read_194 rfl (s_getI (f := 16) dX12_read_195 clX12 (by decide) rfl wd993 (s_goto (tgt := 202) dX12_read_198 (by decide) tX12_read_202)))))) (s_aload_n dX12_read_180 rfl (s_getI (f := 14) dX12_read_181 clX12 (by decide) rfl wd990 (s_goto (tgt := 202) dX12_read_184 (by decide) tX12_read_202)))))))
set_option maxRecDepth 100000 in
theorem tX12_read_134 {l : Launch} {D : zD} {B sz0 : Nat} {post : Option Value → zS → Prop} : zSnd l D B xX12_read sz0 post 134 kX12_read_134 (z_Jr post) := (s_aload_n dX12_read_134 rfl (s_getI (f := 13) dX12_read_135 clX12 (by decide) rfl wd987 (s_if_ne (tgt := 172) dX12_read_138 (by decide) tX12_read_172 (s_aload_n dX12_read_141 rfl (s_getR (f := 25) dX12_read_142 clX12 (by decide) rfl wd886 (s_aload_n dX12_read_145 rfl (s_getI (f := 19) dX12_read_146 clX12 (by decide) rfl wd1014 (s_iald dX12_read_149 (s_aload_n dX12_read_150 rfl (s_getR (f := 22) dX12_read_151 clX12 (by decide) rfl wd884 (s_aload_n dX12_read_154 rfl (s_getI (f := 19) dX12_read_155 clX12 (by decide) rfl wd1014 (s_iald dX12_read_158 (s_icmp_lt (tgt := 172) dX12_read_159 (by decide) tX12_read_172 (s_aload_n dX12_read_162 rfl (s_bipush dX12_read_163 (by decide) (s_aload_n dX12_read_165 rfl (s_getI (f := 11) dX12_read_166 clX12 (by decide) rfl wd988 (s_callV (r := (RX12, TX12, 74)) dX12_read_169 mX12_wrong meX12_wrong wd1006 wd1007 rfl rfl reX12_wrong rmX12_read (fitX12_read_169) wd1008 tX12_read_172)))))))))))))))))))
set_option maxRecDepth 100000 in
theorem tX12_read_112 {l : Launch} {D : zD} {B sz0 : Nat} {post : Option Value → zS → Prop} : zSnd l D B xX12_read sz0 post 112 kX12_read_112 (z_Jr post) := s_lp (body := bX12_read_112) (s_aload_n dX12_read_112 rfl (s_getI (f := 13) dX12_read_113 clX12 (by decide) rfl wd987 (s_if_ne (tgt := 134) dX12_read_116 (by decide) (s_dn tX12_read_134) (s_aload_n dX12_read_119 rfl (s_iconst dX12_read_120 (by decide) (s_callV (r := (RX12, TX12, 74)) dX12_read_121 mX12_is meX12_is wd999 wd1000 rfl rfl reX12_is rmX12_read (fitX12_read_121) wd1001 (s_if_ne (tgt := 134) dX12_read_124 (by decide) (s_dn tX12_read_134) (s_aload_n dX12_read_127 rfl (s_callV (r := (RX12, TX12, 74)) dX12_read_128 mX12_tellOne meX12_tellOne wd1068 wd1069 rfl rfl reX12_tellOne rmX12_read (fitX12_read_128) wd1070 (s_goto (tgt := 112) dX12_read_131 (by decide) s_ag))))))))))
set_option maxRecDepth 100000 in
theorem tX12_read_36 {l : Launch} {D : zD} {B sz0 : Nat} {post : Option Value → zS → Prop} : zSnd l D B xX12_read sz0 post 36 kX12_read_36 (z_Jr post) := (s_aload_n dX12_read_36 rfl (s_iconst dX12_read_37 (by decide) (s_putI (f := 2) dX12_read_38 clX12 (by decide) rfl rfl rfl wd959 (s_aload_n dX12_read_41 rfl (s_callV (r := (RX12, TX12, 74)) dX12_read_42 mX12_cut meX12_cut wd1063 wd1064 rfl rfl reX12_cut rmX12_read (fitX12_read_42) wd1065 (s_aload_n dX12_read_45 rfl (s_iconst dX12_read_46 (by decide) (s_putI (f := 11) dX12_read_47 clX12 (by decide) rfl rfl rfl wd988 (s_aload_n dX12_read_50 rfl (s_iconst dX12_read_51 (by decide) (s_putI (f := 12) dX12_read_52 clX12 (by decide) rfl rfl rfl wd1033 (s_aload_n dX12_read_55 rfl (s_iconst dX12_read_56 (by decide) (s_putI (f := 13) dX12_read_57 clX12 (by decide) rfl rfl rfl wd987 (s_aload_n dX12_read_60 rfl (s_iconst dX12_read_61 (by decide) (s_putI (f := 15) dX12_read_62 clX12 (by decide) rfl rfl rfl wd992 (s_aload_n dX12_read_65 rfl (s_iconst dX12_read_66 (by decide) (s_aload_n dX12_read_67 rfl (s_getI (f := 18) dX12_read_68 clX12 (by decide) rfl wd899 (s_isub dX12_read_71 (s_putI (f := 19) dX12_read_72 clX12 (by decide) rfl rfl rfl wd1014 (s_aload_n dX12_read_75 rfl (s_iconst dX12_read_76 (by decide) (s_putI (f := 20) dX12_read_77 clX12 (by decide) rfl rfl rfl wd1023 (s_aload_n dX12_read_80 rfl (s_aload_n dX12_read_81 rfl (s_getI (f := 19) dX12_read_82 clX12 (by decide) rfl wd1014 (s_callV (r := (RX12, TX12, 74)) dX12_read_85 mX12_plain meX12_plain wd947 wd948 rfl rfl reX12_plain rmX12_read (fitX12_read_85) wd949 (s_aload_n dX12_read_88 rfl (s_sipush dX12_read_89 (by decide) (s_aload_n dX12_read_92 rfl (s_getI (f := 19) dX12_read_93 clX12 (by decide) rfl wd1014 (s_imul dX12_read_96 (s_putI (f := 32) dX12_read_97 clX12 (by decide) rfl rfl rfl wd1041 (s_aload_n dX12_read_100 rfl (s_sipush dX12_read_101 (by decide) (s_aload_n dX12_read_104 rfl (s_getI (f := 19) dX12_read_105 clX12 (by decide) rfl wd1014 (s_imul dX12_read_108 (s_putI (f := 38) dX12_read_109 clX12 (by decide) rfl rfl rfl wd1025 tX12_read_112))))))))))))))))))))))))))))))))))))))))))
set_option maxRecDepth 100000 in
theorem tX12_read_10 {l : Launch} {D : zD} {B sz0 : Nat} {post : Option Value → zS → Prop} : zSnd l D B xX12_read sz0 post 10 kX12_read_10 (z_Jr post) := s_lp (body := bX12_read_10) (s_iload_n dX12_read_10 rfl (s_aload_n dX12_read_11 rfl (s_getI (f := 4) dX12_read_12 clX12 (by decide) rfl wd966 (s_icmp_ge (tgt := 36) dX12_read_15 (by decide) (s_dn tX12_read_36) (s_aload_n dX12_read_18 rfl (s_getR (f := 3) dX12_read_19 clX12 (by decide) rfl wd909 (s_iload_n dX12_read_22 rfl (s_aload_n dX12_read_23 rfl (s_getR (f := 1) dX12_read_24 clX12 (by decide) rfl wd908 (s_iload_n dX12_read_27 rfl (s_bald dX12_read_28 (s_bast dX12_read_29 (s_iinc dX12_read_30 (by decide) (s_goto (tgt := 10) dX12_read_33 (by decide) s_ag))))))))))))))
set_option maxRecDepth 100000 in
theorem tX12_read_0 {l : Launch} {D : zD} {B sz0 : Nat} {post : Option Value → zS → Prop} : zSnd l D B xX12_read sz0 post 0 kX12_read_0 (z_Jr post) := (s_aload_n dX12_read_0 rfl (s_aload_n dX12_read_1 rfl (s_getI (f := 2) dX12_read_2 clX12 (by decide) rfl wd959 (s_putI (f := 4) dX12_read_5 clX12 (by decide) rfl rfl rfl wd966 (s_iconst dX12_read_8 (by decide) (s_istore_n dX12_read_9 rfl tX12_read_10))))))
noncomputable def fX12_read : zF := z_fn 2 kX12_read_0
theorem mX12_read {l : Launch} {D : zD} {B : Nat} : z_MF l D B yX12_read xX12_read fX12_read := z_mf (by decide) rfl (fun h => by cases h) rfl (fun as σ r h => ⟨z_fn_len h, kX12_read_0, z_fn_run h, fun _ => tX12_read_0⟩)
/-! ===== RowChildrenModel.place ===== -/
theorem dX12_place_0 : decode cX12_place 0 = .ok (.aload_n 0, 1) := by decide +kernel
theorem dX12_place_1 : decode cX12_place 1 = .ok (.getfield 37, 3) := by decide +kernel
theorem dX12_place_4 : decode cX12_place 4 = .ok (.ireturn, 1) := by decide +kernel
def xX12_place : zX := (RX12, cX12_place, 1, (some .int), false, { frames := 1, cells := 0, slots := 0, locals := 90 }, 0, 0, 0, 0)
theorem rmX12_place : z_Rm xX12_place := by unfold z_Rm xX12_place; exact ⟨by decide, by decide⟩
theorem reX12_place : z_Re xX12_place := ⟨rfl, rfl⟩
theorem rlX12_place : 1 ≤ xX12_place.2.2.2.2.2.1.frames ∧ 21 ≤ xX12_place.2.2.2.2.2.1.locals := by unfold xX12_place; exact ⟨by decide, by decide⟩
theorem meX12_place : z_Me yX12_place xX12_place 0 := ⟨wd1072, wd893, by decide, by decide, by decide +kernel⟩
noncomputable def kX12_place_0 : zK zR := (q_aload 0 (q_getI 12 17 q_iret))
set_option maxRecDepth 100000 in
theorem tX12_place_0 {l : Launch} {D : zD} {B sz0 : Nat} {post : Option Value → zS → Prop} : zSnd l D B xX12_place sz0 post 0 kX12_place_0 (z_Jr post) := (s_aload_n dX12_place_0 rfl (s_getI (f := 17) dX12_place_1 clX12 (by decide) rfl wd915 (s_iret dX12_place_4 rfl)))
noncomputable def fX12_place : zF := z_fn 1 kX12_place_0
theorem mX12_place {l : Launch} {D : zD} {B : Nat} : z_MF l D B yX12_place xX12_place fX12_place := z_mf (by decide) rfl (fun h => by cases h) rfl (fun as σ r h => ⟨z_fn_len h, kX12_place_0, z_fn_run h, fun _ => tX12_place_0⟩)
/-! ===== RowChildrenModel.termOf ===== -/
theorem dX12_termOf_0 : decode cX12_termOf 0 = .ok (.iconst 0, 1) := by decide +kernel
theorem dX12_termOf_1 : decode cX12_termOf 1 = .ok (.istore_n 3, 1) := by decide +kernel
theorem dX12_termOf_2 : decode cX12_termOf 2 = .ok (.iload_n 1, 1) := by decide +kernel
theorem dX12_termOf_3 : decode cX12_termOf 3 = .ok (.istore 4, 2) := by decide +kernel
theorem dX12_termOf_5 : decode cX12_termOf 5 = .ok (.iload 4, 2) := by decide +kernel
theorem dX12_termOf_7 : decode cX12_termOf 7 = .ok (.iload_n 2, 1) := by decide +kernel
theorem dX12_termOf_8 : decode cX12_termOf 8 = .ok (.if_icmp .ge 157, 3) := by decide +kernel
theorem dX12_termOf_11 : decode cX12_termOf 11 = .ok (.aload_n 0, 1) := by decide +kernel
theorem dX12_termOf_12 : decode cX12_termOf 12 = .ok (.getfield 89, 3) := by decide +kernel
theorem dX12_termOf_15 : decode cX12_termOf 15 = .ok (.iload 4, 2) := by decide +kernel
theorem dX12_termOf_17 : decode cX12_termOf 17 = .ok (.iaload, 1) := by decide +kernel
theorem dX12_termOf_18 : decode cX12_termOf 18 = .ok (.istore 5, 2) := by decide +kernel
theorem dX12_termOf_20 : decode cX12_termOf 20 = .ok (.iload 5, 2) := by decide +kernel
theorem dX12_termOf_22 : decode cX12_termOf 22 = .ok (.iconst 2, 1) := by decide +kernel
theorem dX12_termOf_23 : decode cX12_termOf 23 = .ok (.if_icmp .ge 42, 3) := by decide +kernel
theorem dX12_termOf_26 : decode cX12_termOf 26 = .ok (.aload_n 0, 1) := by decide +kernel
theorem dX12_termOf_27 : decode cX12_termOf 27 = .ok (.getfield 101, 3) := by decide +kernel
theorem dX12_termOf_30 : decode cX12_termOf 30 = .ok (.iload_n 3, 1) := by decide +kernel
theorem dX12_termOf_31 : decode cX12_termOf 31 = .ok (.iload 5, 2) := by decide +kernel
theorem dX12_termOf_33 : decode cX12_termOf 33 = .ok (.ifCond .ne 13, 3) := by decide +kernel
theorem dX12_termOf_36 : decode cX12_termOf 36 = .ok (.aload_n 0, 1) := by decide +kernel
theorem dX12_termOf_37 : decode cX12_termOf 37 = .ok (.getfield 92, 3) := by decide +kernel
theorem dX12_termOf_40 : decode cX12_termOf 40 = .ok (.iload 4, 2) := by decide +kernel
theorem dX12_termOf_42 : decode cX12_termOf 42 = .ok (.iaload, 1) := by decide +kernel
theorem dX12_termOf_43 : decode cX12_termOf 43 = .ok (.goto 15, 3) := by decide +kernel
theorem dX12_termOf_46 : decode cX12_termOf 46 = .ok (.aload_n 0, 1) := by decide +kernel
theorem dX12_termOf_47 : decode cX12_termOf 47 = .ok (.getfield 98, 3) := by decide +kernel
theorem dX12_termOf_50 : decode cX12_termOf 50 = .ok (.aload_n 0, 1) := by decide +kernel
theorem dX12_termOf_51 : decode cX12_termOf 51 = .ok (.getfield 92, 3) := by decide +kernel
theorem dX12_termOf_54 : decode cX12_termOf 54 = .ok (.iload 4, 2) := by decide +kernel
theorem dX12_termOf_56 : decode cX12_termOf 56 = .ok (.iaload, 1) := by decide +kernel
theorem dX12_termOf_57 : decode cX12_termOf 57 = .ok (.iaload, 1) := by decide +kernel
theorem dX12_termOf_58 : decode cX12_termOf 58 = .ok (.iastore, 1) := by decide +kernel
theorem dX12_termOf_59 : decode cX12_termOf 59 = .ok (.iinc 3 1, 3) := by decide +kernel
theorem dX12_termOf_62 : decode cX12_termOf 62 = .ok (.goto 97, 3) := by decide +kernel
theorem dX12_termOf_65 : decode cX12_termOf 65 = .ok (.iinc 3 (-1), 3) := by decide +kernel
theorem dX12_termOf_68 : decode cX12_termOf 68 = .ok (.aload_n 0, 1) := by decide +kernel
theorem dX12_termOf_69 : decode cX12_termOf 69 = .ok (.getfield 101, 3) := by decide +kernel
theorem dX12_termOf_72 : decode cX12_termOf 72 = .ok (.iload_n 3, 1) := by decide +kernel
theorem dX12_termOf_73 : decode cX12_termOf 73 = .ok (.iconst 1, 1) := by decide +kernel
theorem dX12_termOf_74 : decode cX12_termOf 74 = .ok (.isub, 1) := by decide +kernel
theorem dX12_termOf_75 : decode cX12_termOf 75 = .ok (.iaload, 1) := by decide +kernel
theorem dX12_termOf_76 : decode cX12_termOf 76 = .ok (.istore 6, 2) := by decide +kernel
theorem dX12_termOf_78 : decode cX12_termOf 78 = .ok (.aload_n 0, 1) := by decide +kernel
theorem dX12_termOf_79 : decode cX12_termOf 79 = .ok (.getfield 101, 3) := by decide +kernel
theorem dX12_termOf_82 : decode cX12_termOf 82 = .ok (.iload_n 3, 1) := by decide +kernel
theorem dX12_termOf_83 : decode cX12_termOf 83 = .ok (.iaload, 1) := by decide +kernel
theorem dX12_termOf_84 : decode cX12_termOf 84 = .ok (.istore 7, 2) := by decide +kernel
theorem dX12_termOf_86 : decode cX12_termOf 86 = .ok (.iload 5, 2) := by decide +kernel
theorem dX12_termOf_88 : decode cX12_termOf 88 = .ok (.iconst 5, 1) := by decide +kernel
theorem dX12_termOf_89 : decode cX12_termOf 89 = .ok (.if_icmp .ne 15, 3) := by decide +kernel
theorem dX12_termOf_92 : decode cX12_termOf 92 = .ok (.iload 7, 2) := by decide +kernel
theorem dX12_termOf_94 : decode cX12_termOf 94 = .ok (.ifCond .ne 10, 3) := by decide +kernel
theorem dX12_termOf_97 : decode cX12_termOf 97 = .ok (.aload_n 0, 1) := by decide +kernel
theorem dX12_termOf_98 : decode cX12_termOf 98 = .ok (.iconst 1, 1) := by decide +kernel
theorem dX12_termOf_99 : decode cX12_termOf 99 = .ok (.putfield 319, 3) := by decide +kernel
theorem dX12_termOf_102 : decode cX12_termOf 102 = .ok (.iconst 0, 1) := by decide +kernel
theorem dX12_termOf_103 : decode cX12_termOf 103 = .ok (.ireturn, 1) := by decide +kernel
theorem dX12_termOf_104 : decode cX12_termOf 104 = .ok (.aload_n 0, 1) := by decide +kernel
theorem dX12_termOf_105 : decode cX12_termOf 105 = .ok (.getfield 101, 3) := by decide +kernel
theorem dX12_termOf_108 : decode cX12_termOf 108 = .ok (.iload_n 3, 1) := by decide +kernel
theorem dX12_termOf_109 : decode cX12_termOf 109 = .ok (.iconst 1, 1) := by decide +kernel
theorem dX12_termOf_110 : decode cX12_termOf 110 = .ok (.isub, 1) := by decide +kernel
theorem dX12_termOf_111 : decode cX12_termOf 111 = .ok (.iload 5, 2) := by decide +kernel
theorem dX12_termOf_113 : decode cX12_termOf 113 = .ok (.iconst 2, 1) := by decide +kernel
theorem dX12_termOf_114 : decode cX12_termOf 114 = .ok (.if_icmp .ne 11, 3) := by decide +kernel
theorem dX12_termOf_117 : decode cX12_termOf 117 = .ok (.iload 6, 2) := by decide +kernel
theorem dX12_termOf_119 : decode cX12_termOf 119 = .ok (.iload 7, 2) := by decide +kernel
theorem dX12_termOf_121 : decode cX12_termOf 121 = .ok (.iadd, 1) := by decide +kernel
theorem dX12_termOf_122 : decode cX12_termOf 122 = .ok (.goto 36, 3) := by decide +kernel
theorem dX12_termOf_125 : decode cX12_termOf 125 = .ok (.iload 5, 2) := by decide +kernel
theorem dX12_termOf_127 : decode cX12_termOf 127 = .ok (.iconst 3, 1) := by decide +kernel
theorem dX12_termOf_128 : decode cX12_termOf 128 = .ok (.if_icmp .ne 11, 3) := by decide +kernel
theorem dX12_termOf_131 : decode cX12_termOf 131 = .ok (.iload 6, 2) := by decide +kernel
theorem dX12_termOf_133 : decode cX12_termOf 133 = .ok (.iload 7, 2) := by decide +kernel
theorem dX12_termOf_135 : decode cX12_termOf 135 = .ok (.isub, 1) := by decide +kernel
theorem dX12_termOf_136 : decode cX12_termOf 136 = .ok (.goto 22, 3) := by decide +kernel
theorem dX12_termOf_139 : decode cX12_termOf 139 = .ok (.iload 5, 2) := by decide +kernel
theorem dX12_termOf_141 : decode cX12_termOf 141 = .ok (.iconst 4, 1) := by decide +kernel
theorem dX12_termOf_142 : decode cX12_termOf 142 = .ok (.if_icmp .ne 11, 3) := by decide +kernel
theorem dX12_termOf_145 : decode cX12_termOf 145 = .ok (.iload 6, 2) := by decide +kernel
theorem dX12_termOf_147 : decode cX12_termOf 147 = .ok (.iload 7, 2) := by decide +kernel
theorem dX12_termOf_149 : decode cX12_termOf 149 = .ok (.imul, 1) := by decide +kernel
theorem dX12_termOf_150 : decode cX12_termOf 150 = .ok (.goto 8, 3) := by decide +kernel
theorem dX12_termOf_153 : decode cX12_termOf 153 = .ok (.iload 6, 2) := by decide +kernel
theorem dX12_termOf_155 : decode cX12_termOf 155 = .ok (.iload 7, 2) := by decide +kernel
theorem dX12_termOf_157 : decode cX12_termOf 157 = .ok (.idiv, 1) := by decide +kernel
theorem dX12_termOf_158 : decode cX12_termOf 158 = .ok (.iastore, 1) := by decide +kernel
theorem dX12_termOf_159 : decode cX12_termOf 159 = .ok (.iinc 4 1, 3) := by decide +kernel
theorem dX12_termOf_162 : decode cX12_termOf 162 = .ok (.goto (-157), 3) := by decide +kernel
theorem dX12_termOf_165 : decode cX12_termOf 165 = .ok (.aload_n 0, 1) := by decide +kernel
theorem dX12_termOf_166 : decode cX12_termOf 166 = .ok (.getfield 101, 3) := by decide +kernel
theorem dX12_termOf_169 : decode cX12_termOf 169 = .ok (.iconst 0, 1) := by decide +kernel
theorem dX12_termOf_170 : decode cX12_termOf 170 = .ok (.iaload, 1) := by decide +kernel
theorem dX12_termOf_171 : decode cX12_termOf 171 = .ok (.ireturn, 1) := by decide +kernel
def xX12_termOf : zX := (RX12, cX12_termOf, 8, (some .int), false, { frames := 1, cells := 0, slots := 0, locals := 90 }, 0, 0, 0, 0)
theorem rmX12_termOf : z_Rm xX12_termOf := by unfold z_Rm xX12_termOf; exact ⟨by decide, by decide⟩
theorem reX12_termOf : z_Re xX12_termOf := ⟨rfl, rfl⟩
theorem rlX12_termOf : 1 ≤ xX12_termOf.2.2.2.2.2.1.frames ∧ 21 ≤ xX12_termOf.2.2.2.2.2.1.locals := by unfold xX12_termOf; exact ⟨by decide, by decide⟩
theorem meX12_termOf : z_Me yX12_termOf xX12_termOf 2 := ⟨wd1074, wd893, by decide, by decide, by decide +kernel⟩
noncomputable def kX12_termOf_165 : zK zR := (q_aload 0 (q_getR 12 44 (q_push 0 (q_iald q_iret))))
noncomputable def kX12_termOf_159 : zK ((zL × zS) ⊕ zR) := (q_iinc 4 1 q_ag)
noncomputable def kX12_termOf_158 : zK ((zL × zS) ⊕ zR) := (q_iast kX12_termOf_159)
noncomputable def kX12_termOf_104 : zK ((zL × zS) ⊕ zR) := (q_aload 0 (q_getR 12 44 (q_iload 3 (q_push 1 (q_isub (q_iload 5 (q_push 2 (q_icmp_ne (q_iload 5 (q_push 3 (q_icmp_ne (q_iload 5 (q_push 4 (q_icmp_ne (q_iload 6 (q_iload 7 (q_idiv kX12_termOf_158))) (q_iload 6 (q_iload 7 (q_imul kX12_termOf_158)))))) (q_iload 6 (q_iload 7 (q_isub kX12_termOf_158)))))) (q_iload 6 (q_iload 7 (q_iadd kX12_termOf_158)))))))))))
noncomputable def kX12_termOf_97 : zK zR := (q_aload 0 (q_push 1 (q_putZ 12 45 (q_push 0 q_iret))))
noncomputable def kX12_termOf_58 : zK ((zL × zS) ⊕ zR) := (q_iast (q_iinc 3 1 kX12_termOf_159))
noncomputable def bX12_termOf_5 : zK ((zL × zS) ⊕ zR) := (q_iload 4 (q_iload 2 (q_icmp_ge (q_dn kX12_termOf_165) (q_aload 0 (q_getR 12 39 (q_iload 4 (q_iald (q_istore 5 (q_iload 5 (q_push 2 (q_icmp_ge (q_iinc 3 (-1) (q_aload 0 (q_getR 12 44 (q_iload 3 (q_push 1 (q_isub (q_iald (q_istore 6 (q_aload 0 (q_getR 12 44 (q_iload 3 (q_iald (q_istore 7 (q_iload 5 (q_push 5 (q_icmp_ne kX12_termOf_104 (q_iload 7 (q_if_ne kX12_termOf_104 (q_dn kX12_termOf_97))))))))))))))))))) (q_aload 0 (q_getR 12 44 (q_iload 3 (q_iload 5 (q_if_ne (q_aload 0 (q_getR 12 43 (q_aload 0 (q_getR 12 40 (q_iload 4 (q_iald (q_iald kX12_termOf_58))))))) (q_aload 0 (q_getR 12 40 (q_iload 4 (q_iald kX12_termOf_58))))))))))))))))))))
noncomputable def kX12_termOf_5 : zK zR := q_lp (bX12_termOf_5)
noncomputable def kX12_termOf_0 : zK zR := (q_push 0 (q_istore 3 (q_iload 1 (q_istore 4 kX12_termOf_5))))
set_option maxRecDepth 100000 in
theorem tX12_termOf_165 {l : Launch} {D : zD} {B sz0 : Nat} {post : Option Value → zS → Prop} : zSnd l D B xX12_termOf sz0 post 165 kX12_termOf_165 (z_Jr post) := (s_aload_n dX12_termOf_165 rfl (s_getR (f := 44) dX12_termOf_166 clX12 (by decide) rfl wd926 (s_iconst dX12_termOf_169 (by decide) (s_iald dX12_termOf_170 (s_iret dX12_termOf_171 rfl)))))
set_option maxRecDepth 100000 in
theorem tX12_termOf_159 {l : Launch} {D : zD} {B sz0 : Nat} {post : Option Value → zS → Prop} : zSnd l D B xX12_termOf sz0 post 159 kX12_termOf_159 (z_Jl l D B xX12_termOf sz0 post 5 (z_Jr post)) := (s_iinc dX12_termOf_159 (by decide) (s_goto (tgt := 5) dX12_termOf_162 (by decide) s_ag))
set_option maxRecDepth 100000 in
theorem tX12_termOf_158 {l : Launch} {D : zD} {B sz0 : Nat} {post : Option Value → zS → Prop} : zSnd l D B xX12_termOf sz0 post 158 kX12_termOf_158 (z_Jl l D B xX12_termOf sz0 post 5 (z_Jr post)) := (s_iast dX12_termOf_158 tX12_termOf_159)
set_option maxRecDepth 100000 in
theorem tX12_termOf_104 {l : Launch} {D : zD} {B sz0 : Nat} {post : Option Value → zS → Prop} : zSnd l D B xX12_termOf sz0 post 104 kX12_termOf_104 (z_Jl l D B xX12_termOf sz0 post 5 (z_Jr post)) := (s_aload_n dX12_termOf_104 rfl (s_getR (f := 44) dX12_termOf_105 clX12 (by decide) rfl wd926 (s_iload_n dX12_termOf_108 rfl (s_iconst dX12_termOf_109 (by decide) (s_isub dX12_termOf_110 (s_iload dX12_termOf_111 (s_iconst dX12_termOf_113 (by decide) (s_icmp_ne (tgt := 125) dX12_termOf_114 (by decide) (s_iload dX12_termOf_125 (s_iconst dX12_termOf_127 (by decide) (s_icmp_ne (tgt := 139) dX12_termOf_128 (by decide) (s_iload dX12_termOf_139 (s_iconst dX12_termOf_141 (by decide) (s_icmp_ne (tgt := 153) dX12_termOf_142 (by decide) (s_iload dX12_termOf_153 (s_iload dX12_termOf_155 (s_idiv dX12_termOf_157 tX12_termOf_158))) (s_iload dX12_termOf_145 (s_iload dX12_termOf_147 (s_imul dX12_termOf_149 (s_goto (tgt := 158) dX12_termOf_150 (by decide) tX12_termOf_158))))))) (s_iload dX12_termOf_131 (s_iload dX12_termOf_133 (s_isub dX12_termOf_135 (s_goto (tgt := 158) dX12_termOf_136 (by decide) tX12_termOf_158))))))) (s_iload dX12_termOf_117 (s_iload dX12_termOf_119 (s_iadd dX12_termOf_121 (s_goto (tgt := 158) dX12_termOf_122 (by decide) tX12_termOf_158))))))))))))
set_option maxRecDepth 100000 in
theorem tX12_termOf_97 {l : Launch} {D : zD} {B sz0 : Nat} {post : Option Value → zS → Prop} : zSnd l D B xX12_termOf sz0 post 97 kX12_termOf_97 (z_Jr post) := (s_aload_n dX12_termOf_97 rfl (s_iconst dX12_termOf_98 (by decide) (s_putZ (f := 45) dX12_termOf_99 clX12 (by decide) rfl rfl rfl wd1073 (s_iconst dX12_termOf_102 (by decide) (s_iret dX12_termOf_103 rfl)))))
set_option maxRecDepth 100000 in
theorem tX12_termOf_58 {l : Launch} {D : zD} {B sz0 : Nat} {post : Option Value → zS → Prop} : zSnd l D B xX12_termOf sz0 post 58 kX12_termOf_58 (z_Jl l D B xX12_termOf sz0 post 5 (z_Jr post)) := (s_iast dX12_termOf_58 (s_iinc dX12_termOf_59 (by decide) (s_goto (tgt := 159) dX12_termOf_62 (by decide) tX12_termOf_159)))
set_option maxRecDepth 100000 in
theorem tX12_termOf_5 {l : Launch} {D : zD} {B sz0 : Nat} {post : Option Value → zS → Prop} : zSnd l D B xX12_termOf sz0 post 5 kX12_termOf_5 (z_Jr post) := s_lp (body := bX12_termOf_5) (s_iload dX12_termOf_5 (s_iload_n dX12_termOf_7 rfl (s_icmp_ge (tgt := 165) dX12_termOf_8 (by decide) (s_dn tX12_termOf_165) (s_aload_n dX12_termOf_11 rfl (s_getR (f := 39) dX12_termOf_12 clX12 (by decide) rfl wd922 (s_iload dX12_termOf_15 (s_iald dX12_termOf_17 (s_istore dX12_termOf_18 (s_iload dX12_termOf_20 (s_iconst dX12_termOf_22 (by decide) (s_icmp_ge (tgt := 65) dX12_termOf_23 (by decide) (s_iinc dX12_termOf_65 (by decide) (s_aload_n dX12_termOf_68 rfl (s_getR (f := 44) dX12_termOf_69 clX12 (by decide) rfl wd926 (s_iload_n dX12_termOf_72 rfl (s_iconst dX12_termOf_73 (by decide) (s_isub dX12_termOf_74 (s_iald dX12_termOf_75 (s_istore dX12_termOf_76 (s_aload_n dX12_termOf_78 rfl (s_getR (f := 44) dX12_termOf_79 clX12 (by decide) rfl wd926 (s_iload_n dX12_termOf_82 rfl (s_iald dX12_termOf_83 (s_istore dX12_termOf_84 (s_iload dX12_termOf_86 (s_iconst dX12_termOf_88 (by decide) (s_icmp_ne (tgt := 104) dX12_termOf_89 (by decide) tX12_termOf_104 (s_iload dX12_termOf_92 (s_if_ne (tgt := 104) dX12_termOf_94 (by decide) tX12_termOf_104 (s_dn tX12_termOf_97))))))))))))))))))) (s_aload_n dX12_termOf_26 rfl (s_getR (f := 44) dX12_termOf_27 clX12 (by decide) rfl wd926 (s_iload_n dX12_termOf_30 rfl (s_iload dX12_termOf_31 (s_if_ne (tgt := 46) dX12_termOf_33 (by decide) (s_aload_n dX12_termOf_46 rfl (s_getR (f := 43) dX12_termOf_47 clX12 (by decide) rfl wd925 (s_aload_n dX12_termOf_50 rfl (s_getR (f := 40) dX12_termOf_51 clX12 (by decide) rfl wd923 (s_iload dX12_termOf_54 (s_iald dX12_termOf_56 (s_iald dX12_termOf_57 tX12_termOf_58))))))) (s_aload_n dX12_termOf_36 rfl (s_getR (f := 40) dX12_termOf_37 clX12 (by decide) rfl wd923 (s_iload dX12_termOf_40 (s_iald dX12_termOf_42 (s_goto (tgt := 58) dX12_termOf_43 (by decide) tX12_termOf_58)))))))))))))))))))))
set_option maxRecDepth 100000 in
theorem tX12_termOf_0 {l : Launch} {D : zD} {B sz0 : Nat} {post : Option Value → zS → Prop} : zSnd l D B xX12_termOf sz0 post 0 kX12_termOf_0 (z_Jr post) := (s_iconst dX12_termOf_0 (by decide) (s_istore_n dX12_termOf_1 rfl (s_iload_n dX12_termOf_2 rfl (s_istore dX12_termOf_3 tX12_termOf_5))))
noncomputable def fX12_termOf : zF := z_fn 8 kX12_termOf_0
theorem mX12_termOf {l : Launch} {D : zD} {B : Nat} : z_MF l D B yX12_termOf xX12_termOf fX12_termOf := z_mf (by decide) rfl (fun h => by cases h) rfl (fun as σ r h => ⟨z_fn_len h, kX12_termOf_0, z_fn_run h, fun _ => tX12_termOf_0⟩)
/-! ===== RowChildrenModel.in ===== -/
theorem dX12_in_0 : decode cX12_in 0 = .ok (.iload_n 0, 1) := by decide +kernel
theorem dX12_in_1 : decode cX12_in 1 = .ok (.iload_n 1, 1) := by decide +kernel
theorem dX12_in_2 : decode cX12_in 2 = .ok (.if_icmp .lt 12, 3) := by decide +kernel
theorem dX12_in_5 : decode cX12_in 5 = .ok (.iload_n 0, 1) := by decide +kernel
theorem dX12_in_6 : decode cX12_in 6 = .ok (.iload_n 2, 1) := by decide +kernel
theorem dX12_in_7 : decode cX12_in 7 = .ok (.if_icmp .gt 7, 3) := by decide +kernel
theorem dX12_in_10 : decode cX12_in 10 = .ok (.iconst 1, 1) := by decide +kernel
theorem dX12_in_11 : decode cX12_in 11 = .ok (.goto 4, 3) := by decide +kernel
theorem dX12_in_14 : decode cX12_in 14 = .ok (.iconst 0, 1) := by decide +kernel
theorem dX12_in_15 : decode cX12_in 15 = .ok (.ireturn, 1) := by decide +kernel
def xX12_in : zX := (RX12, cX12_in, 3, (some .boolean), false, { frames := 1, cells := 0, slots := 0, locals := 90 }, 0, 0, 0, 0)
theorem rmX12_in : z_Rm xX12_in := by unfold z_Rm xX12_in; exact ⟨by decide, by decide⟩
theorem reX12_in : z_Re xX12_in := ⟨rfl, rfl⟩
theorem rlX12_in : 1 ≤ xX12_in.2.2.2.2.2.1.frames ∧ 21 ≤ xX12_in.2.2.2.2.2.1.locals := by unfold xX12_in; exact ⟨by decide, by decide⟩
theorem meX12_in : z_Me yX12_in xX12_in 3 := ⟨wd1075, wd893, by decide, by decide, by decide +kernel⟩
noncomputable def kX12_in_15 : zK zR := q_zret
noncomputable def kX12_in_14 : zK zR := (q_push 0 kX12_in_15)
noncomputable def kX12_in_0 : zK zR := (q_iload 0 (q_iload 1 (q_icmp_lt kX12_in_14 (q_iload 0 (q_iload 2 (q_icmp_gt kX12_in_14 (q_push 1 kX12_in_15)))))))
set_option maxRecDepth 100000 in
theorem tX12_in_15 {l : Launch} {D : zD} {B sz0 : Nat} {post : Option Value → zS → Prop} : zSnd l D B xX12_in sz0 post 15 kX12_in_15 (z_Jr post) := (s_zret dX12_in_15 rfl)
set_option maxRecDepth 100000 in
theorem tX12_in_14 {l : Launch} {D : zD} {B sz0 : Nat} {post : Option Value → zS → Prop} : zSnd l D B xX12_in sz0 post 14 kX12_in_14 (z_Jr post) := (s_iconst dX12_in_14 (by decide) tX12_in_15)
set_option maxRecDepth 100000 in
theorem tX12_in_0 {l : Launch} {D : zD} {B sz0 : Nat} {post : Option Value → zS → Prop} : zSnd l D B xX12_in sz0 post 0 kX12_in_0 (z_Jr post) := (s_iload_n dX12_in_0 rfl (s_iload_n dX12_in_1 rfl (s_icmp_lt (tgt := 14) dX12_in_2 (by decide) tX12_in_14 (s_iload_n dX12_in_5 rfl (s_iload_n dX12_in_6 rfl (s_icmp_gt (tgt := 14) dX12_in_7 (by decide) tX12_in_14 (s_iconst dX12_in_10 (by decide) (s_goto (tgt := 15) dX12_in_11 (by decide) tX12_in_15))))))))
noncomputable def fX12_in : zF := z_fn 3 kX12_in_0
theorem mX12_in {l : Launch} {D : zD} {B : Nat} : z_MF l D B yX12_in xX12_in fX12_in := z_mf (by decide) rfl (fun h => by cases h) rfl (fun as σ r h => ⟨z_fn_len h, kX12_in_0, z_fn_run h, fun _ => tX12_in_0⟩)
/-! ===== RowChildrenModel.within ===== -/
theorem dX12_within_0 : decode cX12_within 0 = .ok (.iload_n 0, 1) := by decide +kernel
theorem dX12_within_1 : decode cX12_within 1 = .ok (.iload_n 1, 1) := by decide +kernel
theorem dX12_within_2 : decode cX12_within 2 = .ok (.if_icmp .ge 7, 3) := by decide +kernel
theorem dX12_within_5 : decode cX12_within 5 = .ok (.iload_n 1, 1) := by decide +kernel
theorem dX12_within_6 : decode cX12_within 6 = .ok (.goto 13, 3) := by decide +kernel
theorem dX12_within_9 : decode cX12_within 9 = .ok (.iload_n 0, 1) := by decide +kernel
theorem dX12_within_10 : decode cX12_within 10 = .ok (.iload_n 2, 1) := by decide +kernel
theorem dX12_within_11 : decode cX12_within 11 = .ok (.if_icmp .le 7, 3) := by decide +kernel
theorem dX12_within_14 : decode cX12_within 14 = .ok (.iload_n 2, 1) := by decide +kernel
theorem dX12_within_15 : decode cX12_within 15 = .ok (.goto 4, 3) := by decide +kernel
theorem dX12_within_18 : decode cX12_within 18 = .ok (.iload_n 0, 1) := by decide +kernel
theorem dX12_within_19 : decode cX12_within 19 = .ok (.ireturn, 1) := by decide +kernel
def xX12_within : zX := (RX12, cX12_within, 3, (some .int), false, { frames := 1, cells := 0, slots := 0, locals := 90 }, 0, 0, 0, 0)
theorem rmX12_within : z_Rm xX12_within := by unfold z_Rm xX12_within; exact ⟨by decide, by decide⟩
theorem reX12_within : z_Re xX12_within := ⟨rfl, rfl⟩
theorem rlX12_within : 1 ≤ xX12_within.2.2.2.2.2.1.frames ∧ 21 ≤ xX12_within.2.2.2.2.2.1.locals := by unfold xX12_within; exact ⟨by decide, by decide⟩
theorem meX12_within : z_Me yX12_within xX12_within 3 := ⟨wd1076, wd893, by decide, by decide, by decide +kernel⟩
noncomputable def kX12_within_19 : zK zR := q_iret
noncomputable def kX12_within_0 : zK zR := (q_iload 0 (q_iload 1 (q_icmp_ge (q_iload 0 (q_iload 2 (q_icmp_le (q_iload 0 kX12_within_19) (q_iload 2 kX12_within_19)))) (q_iload 1 kX12_within_19))))
set_option maxRecDepth 100000 in
theorem tX12_within_19 {l : Launch} {D : zD} {B sz0 : Nat} {post : Option Value → zS → Prop} : zSnd l D B xX12_within sz0 post 19 kX12_within_19 (z_Jr post) := (s_iret dX12_within_19 rfl)
set_option maxRecDepth 100000 in
theorem tX12_within_0 {l : Launch} {D : zD} {B sz0 : Nat} {post : Option Value → zS → Prop} : zSnd l D B xX12_within sz0 post 0 kX12_within_0 (z_Jr post) := (s_iload_n dX12_within_0 rfl (s_iload_n dX12_within_1 rfl (s_icmp_ge (tgt := 9) dX12_within_2 (by decide) (s_iload_n dX12_within_9 rfl (s_iload_n dX12_within_10 rfl (s_icmp_le (tgt := 18) dX12_within_11 (by decide) (s_iload_n dX12_within_18 rfl tX12_within_19) (s_iload_n dX12_within_14 rfl (s_goto (tgt := 19) dX12_within_15 (by decide) tX12_within_19))))) (s_iload_n dX12_within_5 rfl (s_goto (tgt := 19) dX12_within_6 (by decide) tX12_within_19)))))
noncomputable def fX12_within : zF := z_fn 3 kX12_within_0
theorem mX12_within {l : Launch} {D : zD} {B : Nat} : z_MF l D B yX12_within xX12_within fX12_within := z_mf (by decide) rfl (fun h => by cases h) rfl (fun as σ r h => ⟨z_fn_len h, kX12_within_0, z_fn_run h, fun _ => tX12_within_0⟩)
/-! ===== RowChildrenModel.base ===== -/
theorem dX12_base_0 : decode cX12_base 0 = .ok (.aload_n 0, 1) := by decide +kernel
theorem dX12_base_1 : decode cX12_base 1 = .ok (.getfield 43, 3) := by decide +kernel
theorem dX12_base_4 : decode cX12_base 4 = .ok (.aload_n 0, 1) := by decide +kernel
theorem dX12_base_5 : decode cX12_base 5 = .ok (.getfield 249, 3) := by decide +kernel
theorem dX12_base_8 : decode cX12_base 8 = .ok (.iaload, 1) := by decide +kernel
theorem dX12_base_9 : decode cX12_base 9 = .ok (.ireturn, 1) := by decide +kernel
def xX12_base : zX := (RX12, cX12_base, 1, (some .int), false, { frames := 1, cells := 0, slots := 0, locals := 90 }, 0, 0, 0, 0)
theorem rmX12_base : z_Rm xX12_base := by unfold z_Rm xX12_base; exact ⟨by decide, by decide⟩
theorem reX12_base : z_Re xX12_base := ⟨rfl, rfl⟩
theorem rlX12_base : 1 ≤ xX12_base.2.2.2.2.2.1.frames ∧ 21 ≤ xX12_base.2.2.2.2.2.1.locals := by unfold xX12_base; exact ⟨by decide, by decide⟩
theorem meX12_base : z_Me yX12_base xX12_base 0 := ⟨wd1077, wd893, by decide, by decide, by decide +kernel⟩
noncomputable def kX12_base_0 : zK zR := (q_aload 0 (q_getR 12 22 (q_aload 0 (q_getI 12 18 (q_iald q_iret)))))
set_option maxRecDepth 100000 in
theorem tX12_base_0 {l : Launch} {D : zD} {B sz0 : Nat} {post : Option Value → zS → Prop} : zSnd l D B xX12_base sz0 post 0 kX12_base_0 (z_Jr post) := (s_aload_n dX12_base_0 rfl (s_getR (f := 22) dX12_base_1 clX12 (by decide) rfl wd884 (s_aload_n dX12_base_4 rfl (s_getI (f := 18) dX12_base_5 clX12 (by decide) rfl wd899 (s_iald dX12_base_8 (s_iret dX12_base_9 rfl))))))
noncomputable def fX12_base : zF := z_fn 1 kX12_base_0
theorem mX12_base {l : Launch} {D : zD} {B : Nat} : z_MF l D B yX12_base xX12_base fX12_base := z_mf (by decide) rfl (fun h => by cases h) rfl (fun as σ r h => ⟨z_fn_len h, kX12_base_0, z_fn_run h, fun _ => tX12_base_0⟩)
/-! ===== RowChildrenModel.isRow ===== -/
theorem dX12_isRow_0 : decode cX12_isRow 0 = .ok (.iload_n 1, 1) := by decide +kernel
theorem dX12_isRow_1 : decode cX12_isRow 1 = .ok (.iconst 0, 1) := by decide +kernel
theorem dX12_isRow_2 : decode cX12_isRow 2 = .ok (.aload_n 0, 1) := by decide +kernel
theorem dX12_isRow_3 : decode cX12_isRow 3 = .ok (.getfield 55, 3) := by decide +kernel
theorem dX12_isRow_6 : decode cX12_isRow 6 = .ok (.aload_n 0, 1) := by decide +kernel
theorem dX12_isRow_7 : decode cX12_isRow 7 = .ok (.getfield 249, 3) := by decide +kernel
theorem dX12_isRow_10 : decode cX12_isRow 10 = .ok (.iaload, 1) := by decide +kernel
theorem dX12_isRow_11 : decode cX12_isRow 11 = .ok (.iconst 1, 1) := by decide +kernel
theorem dX12_isRow_12 : decode cX12_isRow 12 = .ok (.isub, 1) := by decide +kernel
theorem dX12_isRow_13 : decode cX12_isRow 13 = .ok (.invokestatic 323, 3) := by decide +kernel
theorem dX12_isRow_16 : decode cX12_isRow 16 = .ok (.ireturn, 1) := by decide +kernel
def xX12_isRow : zX := (RX12, cX12_isRow, 2, (some .boolean), false, { frames := 2, cells := 0, slots := 0, locals := 112 }, 0, 0, 0, 0)
theorem rmX12_isRow : z_Rm xX12_isRow := by unfold z_Rm xX12_isRow; exact ⟨by decide, by decide⟩
theorem reX12_isRow : z_Re xX12_isRow := ⟨rfl, rfl⟩
theorem rlX12_isRow : 1 ≤ xX12_isRow.2.2.2.2.2.1.frames ∧ 21 ≤ xX12_isRow.2.2.2.2.2.1.locals := by unfold xX12_isRow; exact ⟨by decide, by decide⟩
theorem meX12_isRow : z_Me yX12_isRow xX12_isRow 1 := ⟨wd1080, wd893, by decide, by decide, by decide +kernel⟩
theorem fitX12_isRow_13 : z_Fit xX12_in xX12_isRow := by unfold z_Fit; simp only [xX12_in, xX12_isRow]; exact ⟨by decide, by decide⟩
noncomputable def kX12_isRow_0 : zK zR := (q_iload 1 (q_push 0 (q_aload 0 (q_getR 12 26 (q_aload 0 (q_getI 12 18 (q_iald (q_push 1 (q_isub (q_callS fX12_in 3 q_zret))))))))))
set_option maxRecDepth 100000 in
theorem tX12_isRow_0 {l : Launch} {D : zD} {B sz0 : Nat} {post : Option Value → zS → Prop} : zSnd l D B xX12_isRow sz0 post 0 kX12_isRow_0 (z_Jr post) := (s_iload_n dX12_isRow_0 rfl (s_iconst dX12_isRow_1 (by decide) (s_aload_n dX12_isRow_2 rfl (s_getR (f := 26) dX12_isRow_3 clX12 (by decide) rfl wd887 (s_aload_n dX12_isRow_6 rfl (s_getI (f := 18) dX12_isRow_7 clX12 (by decide) rfl wd899 (s_iald dX12_isRow_10 (s_iconst dX12_isRow_11 (by decide) (s_isub dX12_isRow_12 (s_callS dX12_isRow_13 mX12_in meX12_in wd1078 rfl reX12_in rmX12_isRow (fitX12_isRow_13) wd1079 (s_zret dX12_isRow_16 rfl)))))))))))
noncomputable def fX12_isRow : zF := z_fn 2 kX12_isRow_0
theorem mX12_isRow {l : Launch} {D : zD} {B : Nat} : z_MF l D B yX12_isRow xX12_isRow fX12_isRow := z_mf (by decide) rfl (fun h => by cases h) rfl (fun as σ r h => ⟨z_fn_len h, kX12_isRow_0, z_fn_run h, fun _ => tX12_isRow_0⟩)
/-! ===== RowChildrenModel.isColour ===== -/
theorem dX12_isColour_0 : decode cX12_isColour 0 = .ok (.iload_n 1, 1) := by decide +kernel
theorem dX12_isColour_1 : decode cX12_isColour 1 = .ok (.iconst 0, 1) := by decide +kernel
theorem dX12_isColour_2 : decode cX12_isColour 2 = .ok (.aload_n 0, 1) := by decide +kernel
theorem dX12_isColour_3 : decode cX12_isColour 3 = .ok (.invokevirtual 327, 3) := by decide +kernel
theorem dX12_isColour_6 : decode cX12_isColour 6 = .ok (.iconst 1, 1) := by decide +kernel
theorem dX12_isColour_7 : decode cX12_isColour 7 = .ok (.isub, 1) := by decide +kernel
theorem dX12_isColour_8 : decode cX12_isColour 8 = .ok (.invokestatic 323, 3) := by decide +kernel
theorem dX12_isColour_11 : decode cX12_isColour 11 = .ok (.ireturn, 1) := by decide +kernel
def xX12_isColour : zX := (RX12, cX12_isColour, 2, (some .boolean), false, { frames := 2, cells := 0, slots := 0, locals := 112 }, 0, 0, 0, 0)
theorem rmX12_isColour : z_Rm xX12_isColour := by unfold z_Rm xX12_isColour; exact ⟨by decide, by decide⟩
theorem reX12_isColour : z_Re xX12_isColour := ⟨rfl, rfl⟩
theorem rlX12_isColour : 1 ≤ xX12_isColour.2.2.2.2.2.1.frames ∧ 21 ≤ xX12_isColour.2.2.2.2.2.1.locals := by unfold xX12_isColour; exact ⟨by decide, by decide⟩
theorem meX12_isColour : z_Me yX12_isColour xX12_isColour 1 := ⟨wd1084, wd893, by decide, by decide, by decide +kernel⟩
theorem fitX12_isColour_3 : z_Fit xX12_base xX12_isColour := by unfold z_Fit; simp only [xX12_base, xX12_isColour]; exact ⟨by decide, by decide⟩
theorem fitX12_isColour_8 : z_Fit xX12_in xX12_isColour := by unfold z_Fit; simp only [xX12_in, xX12_isColour]; exact ⟨by decide, by decide⟩
noncomputable def kX12_isColour_0 : zK zR := (q_iload 1 (q_push 0 (q_aload 0 (q_callV 12 fX12_base 0 (q_push 1 (q_isub (q_callS fX12_in 3 q_zret)))))))
set_option maxRecDepth 100000 in
theorem tX12_isColour_0 {l : Launch} {D : zD} {B sz0 : Nat} {post : Option Value → zS → Prop} : zSnd l D B xX12_isColour sz0 post 0 kX12_isColour_0 (z_Jr post) := (s_iload_n dX12_isColour_0 rfl (s_iconst dX12_isColour_1 (by decide) (s_aload_n dX12_isColour_2 rfl (s_callV (r := (RX12, TX12, 74)) dX12_isColour_3 mX12_base meX12_base wd1081 wd1082 rfl rfl reX12_base rmX12_isColour (fitX12_isColour_3) wd1083 (s_iconst dX12_isColour_6 (by decide) (s_isub dX12_isColour_7 (s_callS dX12_isColour_8 mX12_in meX12_in wd1078 rfl reX12_in rmX12_isColour (fitX12_isColour_8) wd1079 (s_zret dX12_isColour_11 rfl))))))))
noncomputable def fX12_isColour : zF := z_fn 2 kX12_isColour_0
theorem mX12_isColour {l : Launch} {D : zD} {B : Nat} : z_MF l D B yX12_isColour xX12_isColour fX12_isColour := z_mf (by decide) rfl (fun h => by cases h) rfl (fun as σ r h => ⟨z_fn_len h, kX12_isColour_0, z_fn_run h, fun _ => tX12_isColour_0⟩)
/-! ===== RowChildrenModel.childOf ===== -/
theorem dX12_childOf_0 : decode cX12_childOf 0 = .ok (.aload_n 0, 1) := by decide +kernel
theorem dX12_childOf_1 : decode cX12_childOf 1 = .ok (.getfield 49, 3) := by decide +kernel
theorem dX12_childOf_4 : decode cX12_childOf 4 = .ok (.bipush 16, 2) := by decide +kernel
theorem dX12_childOf_6 : decode cX12_childOf 6 = .ok (.aload_n 0, 1) := by decide +kernel
theorem dX12_childOf_7 : decode cX12_childOf 7 = .ok (.getfield 249, 3) := by decide +kernel
theorem dX12_childOf_10 : decode cX12_childOf 10 = .ok (.imul, 1) := by decide +kernel
theorem dX12_childOf_11 : decode cX12_childOf 11 = .ok (.iconst 4, 1) := by decide +kernel
theorem dX12_childOf_12 : decode cX12_childOf 12 = .ok (.iload_n 1, 1) := by decide +kernel
theorem dX12_childOf_13 : decode cX12_childOf 13 = .ok (.imul, 1) := by decide +kernel
theorem dX12_childOf_14 : decode cX12_childOf 14 = .ok (.iadd, 1) := by decide +kernel
theorem dX12_childOf_15 : decode cX12_childOf 15 = .ok (.iload_n 2, 1) := by decide +kernel
theorem dX12_childOf_16 : decode cX12_childOf 16 = .ok (.iadd, 1) := by decide +kernel
theorem dX12_childOf_17 : decode cX12_childOf 17 = .ok (.iaload, 1) := by decide +kernel
theorem dX12_childOf_18 : decode cX12_childOf 18 = .ok (.istore_n 3, 1) := by decide +kernel
theorem dX12_childOf_19 : decode cX12_childOf 19 = .ok (.iload_n 3, 1) := by decide +kernel
theorem dX12_childOf_20 : decode cX12_childOf 20 = .ok (.ifCond .lt 7, 3) := by decide +kernel
theorem dX12_childOf_23 : decode cX12_childOf 23 = .ok (.iload_n 3, 1) := by decide +kernel
theorem dX12_childOf_24 : decode cX12_childOf 24 = .ok (.goto 11, 3) := by decide +kernel
theorem dX12_childOf_27 : decode cX12_childOf 27 = .ok (.iload_n 1, 1) := by decide +kernel
theorem dX12_childOf_28 : decode cX12_childOf 28 = .ok (.iload_n 2, 1) := by decide +kernel
theorem dX12_childOf_29 : decode cX12_childOf 29 = .ok (.iadd, 1) := by decide +kernel
theorem dX12_childOf_30 : decode cX12_childOf 30 = .ok (.aload_n 0, 1) := by decide +kernel
theorem dX12_childOf_31 : decode cX12_childOf 31 = .ok (.invokevirtual 327, 3) := by decide +kernel
theorem dX12_childOf_34 : decode cX12_childOf 34 = .ok (.irem, 1) := by decide +kernel
theorem dX12_childOf_35 : decode cX12_childOf 35 = .ok (.ireturn, 1) := by decide +kernel
def xX12_childOf : zX := (RX12, cX12_childOf, 4, (some .int), false, { frames := 2, cells := 0, slots := 0, locals := 110 }, 0, 0, 0, 0)
theorem rmX12_childOf : z_Rm xX12_childOf := by unfold z_Rm xX12_childOf; exact ⟨by decide, by decide⟩
theorem reX12_childOf : z_Re xX12_childOf := ⟨rfl, rfl⟩
theorem rlX12_childOf : 1 ≤ xX12_childOf.2.2.2.2.2.1.frames ∧ 21 ≤ xX12_childOf.2.2.2.2.2.1.locals := by unfold xX12_childOf; exact ⟨by decide, by decide⟩
theorem meX12_childOf : z_Me yX12_childOf xX12_childOf 2 := ⟨wd1085, wd893, by decide, by decide, by decide +kernel⟩
theorem fitX12_childOf_31 : z_Fit xX12_base xX12_childOf := by unfold z_Fit; simp only [xX12_base, xX12_childOf]; exact ⟨by decide, by decide⟩
noncomputable def kX12_childOf_35 : zK zR := q_iret
noncomputable def kX12_childOf_0 : zK zR := (q_aload 0 (q_getR 12 24 (q_push 16 (q_aload 0 (q_getI 12 18 (q_imul (q_push 4 (q_iload 1 (q_imul (q_iadd (q_iload 2 (q_iadd (q_iald (q_istore 3 (q_iload 3 (q_if_lt (q_iload 1 (q_iload 2 (q_iadd (q_aload 0 (q_callV 12 fX12_base 0 (q_irem kX12_childOf_35)))))) (q_iload 3 kX12_childOf_35)))))))))))))))))
set_option maxRecDepth 100000 in
theorem tX12_childOf_35 {l : Launch} {D : zD} {B sz0 : Nat} {post : Option Value → zS → Prop} : zSnd l D B xX12_childOf sz0 post 35 kX12_childOf_35 (z_Jr post) := (s_iret dX12_childOf_35 rfl)
set_option maxRecDepth 100000 in
theorem tX12_childOf_0 {l : Launch} {D : zD} {B sz0 : Nat} {post : Option Value → zS → Prop} : zSnd l D B xX12_childOf sz0 post 0 kX12_childOf_0 (z_Jr post) := (s_aload_n dX12_childOf_0 rfl (s_getR (f := 24) dX12_childOf_1 clX12 (by decide) rfl wd891 (s_bipush dX12_childOf_4 (by decide) (s_aload_n dX12_childOf_6 rfl (s_getI (f := 18) dX12_childOf_7 clX12 (by decide) rfl wd899 (s_imul dX12_childOf_10 (s_iconst dX12_childOf_11 (by decide) (s_iload_n dX12_childOf_12 rfl (s_imul dX12_childOf_13 (s_iadd dX12_childOf_14 (s_iload_n dX12_childOf_15 rfl (s_iadd dX12_childOf_16 (s_iald dX12_childOf_17 (s_istore_n dX12_childOf_18 rfl (s_iload_n dX12_childOf_19 rfl (s_if_lt (tgt := 27) dX12_childOf_20 (by decide) (s_iload_n dX12_childOf_27 rfl (s_iload_n dX12_childOf_28 rfl (s_iadd dX12_childOf_29 (s_aload_n dX12_childOf_30 rfl (s_callV (r := (RX12, TX12, 74)) dX12_childOf_31 mX12_base meX12_base wd1081 wd1082 rfl rfl reX12_base rmX12_childOf (fitX12_childOf_31) wd1083 (s_irem dX12_childOf_34 tX12_childOf_35)))))) (s_iload_n dX12_childOf_23 rfl (s_goto (tgt := 35) dX12_childOf_24 (by decide) tX12_childOf_35))))))))))))))))))
noncomputable def fX12_childOf : zF := z_fn 4 kX12_childOf_0
theorem mX12_childOf {l : Launch} {D : zD} {B : Nat} : z_MF l D B yX12_childOf xX12_childOf fX12_childOf := z_mf (by decide) rfl (fun h => by cases h) rfl (fun as σ r h => ⟨z_fn_len h, kX12_childOf_0, z_fn_run h, fun _ => tX12_childOf_0⟩)
/-! ===== RowChildrenModel.seatAt ===== -/
theorem dX12_seatAt_0 : decode cX12_seatAt 0 = .ok (.aload_n 0, 1) := by decide +kernel
theorem dX12_seatAt_1 : decode cX12_seatAt 1 = .ok (.getfield 107, 3) := by decide +kernel
theorem dX12_seatAt_4 : decode cX12_seatAt 4 = .ok (.iconst 4, 1) := by decide +kernel
theorem dX12_seatAt_5 : decode cX12_seatAt 5 = .ok (.bipush 8, 2) := by decide +kernel
theorem dX12_seatAt_7 : decode cX12_seatAt 7 = .ok (.iload_n 1, 1) := by decide +kernel
theorem dX12_seatAt_8 : decode cX12_seatAt 8 = .ok (.imul, 1) := by decide +kernel
theorem dX12_seatAt_9 : decode cX12_seatAt 9 = .ok (.iadd, 1) := by decide +kernel
theorem dX12_seatAt_10 : decode cX12_seatAt 10 = .ok (.iload_n 2, 1) := by decide +kernel
theorem dX12_seatAt_11 : decode cX12_seatAt 11 = .ok (.iadd, 1) := by decide +kernel
theorem dX12_seatAt_12 : decode cX12_seatAt 12 = .ok (.iaload, 1) := by decide +kernel
theorem dX12_seatAt_13 : decode cX12_seatAt 13 = .ok (.ireturn, 1) := by decide +kernel
def xX12_seatAt : zX := (RX12, cX12_seatAt, 3, (some .int), false, { frames := 1, cells := 0, slots := 0, locals := 90 }, 0, 0, 0, 0)
theorem rmX12_seatAt : z_Rm xX12_seatAt := by unfold z_Rm xX12_seatAt; exact ⟨by decide, by decide⟩
theorem reX12_seatAt : z_Re xX12_seatAt := ⟨rfl, rfl⟩
theorem rlX12_seatAt : 1 ≤ xX12_seatAt.2.2.2.2.2.1.frames ∧ 21 ≤ xX12_seatAt.2.2.2.2.2.1.locals := by unfold xX12_seatAt; exact ⟨by decide, by decide⟩
theorem meX12_seatAt : z_Me yX12_seatAt xX12_seatAt 2 := ⟨wd1086, wd893, by decide, by decide, by decide +kernel⟩
noncomputable def kX12_seatAt_0 : zK zR := (q_aload 0 (q_getR 12 47 (q_push 4 (q_push 8 (q_iload 1 (q_imul (q_iadd (q_iload 2 (q_iadd (q_iald q_iret))))))))))
set_option maxRecDepth 100000 in
theorem tX12_seatAt_0 {l : Launch} {D : zD} {B sz0 : Nat} {post : Option Value → zS → Prop} : zSnd l D B xX12_seatAt sz0 post 0 kX12_seatAt_0 (z_Jr post) := (s_aload_n dX12_seatAt_0 rfl (s_getR (f := 47) dX12_seatAt_1 clX12 (by decide) rfl wd901 (s_iconst dX12_seatAt_4 (by decide) (s_bipush dX12_seatAt_5 (by decide) (s_iload_n dX12_seatAt_7 rfl (s_imul dX12_seatAt_8 (s_iadd dX12_seatAt_9 (s_iload_n dX12_seatAt_10 rfl (s_iadd dX12_seatAt_11 (s_iald dX12_seatAt_12 (s_iret dX12_seatAt_13 rfl)))))))))))
noncomputable def fX12_seatAt : zF := z_fn 3 kX12_seatAt_0
theorem mX12_seatAt {l : Launch} {D : zD} {B : Nat} : z_MF l D B yX12_seatAt xX12_seatAt fX12_seatAt := z_mf (by decide) rfl (fun h => by cases h) rfl (fun as σ r h => ⟨z_fn_len h, kX12_seatAt_0, z_fn_run h, fun _ => tX12_seatAt_0⟩)
/-! ===== RowChildrenModel.isSeat ===== -/
theorem dX12_isSeat_0 : decode cX12_isSeat 0 = .ok (.aload_n 0, 1) := by decide +kernel
theorem dX12_isSeat_1 : decode cX12_isSeat 1 = .ok (.iload_n 1, 1) := by decide +kernel
theorem dX12_isSeat_2 : decode cX12_isSeat 2 = .ok (.invokevirtual 330, 3) := by decide +kernel
theorem dX12_isSeat_5 : decode cX12_isSeat 5 = .ok (.ifCond .eq 23, 3) := by decide +kernel
theorem dX12_isSeat_8 : decode cX12_isSeat 8 = .ok (.iload_n 2, 1) := by decide +kernel
theorem dX12_isSeat_9 : decode cX12_isSeat 9 = .ok (.iconst 0, 1) := by decide +kernel
theorem dX12_isSeat_10 : decode cX12_isSeat 10 = .ok (.aload_n 0, 1) := by decide +kernel
theorem dX12_isSeat_11 : decode cX12_isSeat 11 = .ok (.getfield 104, 3) := by decide +kernel
theorem dX12_isSeat_14 : decode cX12_isSeat 14 = .ok (.iload_n 1, 1) := by decide +kernel
theorem dX12_isSeat_15 : decode cX12_isSeat 15 = .ok (.iaload, 1) := by decide +kernel
theorem dX12_isSeat_16 : decode cX12_isSeat 16 = .ok (.iconst 1, 1) := by decide +kernel
theorem dX12_isSeat_17 : decode cX12_isSeat 17 = .ok (.isub, 1) := by decide +kernel
theorem dX12_isSeat_18 : decode cX12_isSeat 18 = .ok (.invokestatic 323, 3) := by decide +kernel
theorem dX12_isSeat_21 : decode cX12_isSeat 21 = .ok (.ifCond .eq 7, 3) := by decide +kernel
theorem dX12_isSeat_24 : decode cX12_isSeat 24 = .ok (.iconst 1, 1) := by decide +kernel
theorem dX12_isSeat_25 : decode cX12_isSeat 25 = .ok (.goto 4, 3) := by decide +kernel
theorem dX12_isSeat_28 : decode cX12_isSeat 28 = .ok (.iconst 0, 1) := by decide +kernel
theorem dX12_isSeat_29 : decode cX12_isSeat 29 = .ok (.ireturn, 1) := by decide +kernel
def xX12_isSeat : zX := (RX12, cX12_isSeat, 3, (some .boolean), false, { frames := 3, cells := 0, slots := 0, locals := 133 }, 0, 0, 0, 0)
theorem rmX12_isSeat : z_Rm xX12_isSeat := by unfold z_Rm xX12_isSeat; exact ⟨by decide, by decide⟩
theorem reX12_isSeat : z_Re xX12_isSeat := ⟨rfl, rfl⟩
theorem rlX12_isSeat : 1 ≤ xX12_isSeat.2.2.2.2.2.1.frames ∧ 21 ≤ xX12_isSeat.2.2.2.2.2.1.locals := by unfold xX12_isSeat; exact ⟨by decide, by decide⟩
theorem meX12_isSeat : z_Me yX12_isSeat xX12_isSeat 2 := ⟨wd1090, wd893, by decide, by decide, by decide +kernel⟩
theorem fitX12_isSeat_2 : z_Fit xX12_isRow xX12_isSeat := by unfold z_Fit; simp only [xX12_isRow, xX12_isSeat]; exact ⟨by decide, by decide⟩
theorem fitX12_isSeat_18 : z_Fit xX12_in xX12_isSeat := by unfold z_Fit; simp only [xX12_in, xX12_isSeat]; exact ⟨by decide, by decide⟩
noncomputable def kX12_isSeat_29 : zK zR := q_zret
noncomputable def kX12_isSeat_28 : zK zR := (q_push 0 kX12_isSeat_29)
noncomputable def kX12_isSeat_0 : zK zR := (q_aload 0 (q_iload 1 (q_callV 12 fX12_isRow 1 (q_if_eq kX12_isSeat_28 (q_iload 2 (q_push 0 (q_aload 0 (q_getR 12 46 (q_iload 1 (q_iald (q_push 1 (q_isub (q_callS fX12_in 3 (q_if_eq kX12_isSeat_28 (q_push 1 kX12_isSeat_29)))))))))))))))
set_option maxRecDepth 100000 in
theorem tX12_isSeat_29 {l : Launch} {D : zD} {B sz0 : Nat} {post : Option Value → zS → Prop} : zSnd l D B xX12_isSeat sz0 post 29 kX12_isSeat_29 (z_Jr post) := (s_zret dX12_isSeat_29 rfl)
set_option maxRecDepth 100000 in
theorem tX12_isSeat_28 {l : Launch} {D : zD} {B sz0 : Nat} {post : Option Value → zS → Prop} : zSnd l D B xX12_isSeat sz0 post 28 kX12_isSeat_28 (z_Jr post) := (s_iconst dX12_isSeat_28 (by decide) tX12_isSeat_29)
set_option maxRecDepth 100000 in
theorem tX12_isSeat_0 {l : Launch} {D : zD} {B sz0 : Nat} {post : Option Value → zS → Prop} : zSnd l D B xX12_isSeat sz0 post 0 kX12_isSeat_0 (z_Jr post) := (s_aload_n dX12_isSeat_0 rfl (s_iload_n dX12_isSeat_1 rfl (s_callV (r := (RX12, TX12, 74)) dX12_isSeat_2 mX12_isRow meX12_isRow wd1087 wd1088 rfl rfl reX12_isRow rmX12_isSeat (fitX12_isSeat_2) wd1089 (s_if_eq (tgt := 28) dX12_isSeat_5 (by decide) tX12_isSeat_28 (s_iload_n dX12_isSeat_8 rfl (s_iconst dX12_isSeat_9 (by decide) (s_aload_n dX12_isSeat_10 rfl (s_getR (f := 46) dX12_isSeat_11 clX12 (by decide) rfl wd905 (s_iload_n dX12_isSeat_14 rfl (s_iald dX12_isSeat_15 (s_iconst dX12_isSeat_16 (by decide) (s_isub dX12_isSeat_17 (s_callS dX12_isSeat_18 mX12_in meX12_in wd1078 rfl reX12_in rmX12_isSeat (fitX12_isSeat_18) wd1079 (s_if_eq (tgt := 28) dX12_isSeat_21 (by decide) tX12_isSeat_28 (s_iconst dX12_isSeat_24 (by decide) (s_goto (tgt := 29) dX12_isSeat_25 (by decide) tX12_isSeat_29))))))))))))))))
noncomputable def fX12_isSeat : zF := z_fn 3 kX12_isSeat_0
theorem mX12_isSeat {l : Launch} {D : zD} {B : Nat} : z_MF l D B yX12_isSeat xX12_isSeat fX12_isSeat := z_mf (by decide) rfl (fun h => by cases h) rfl (fun as σ r h => ⟨z_fn_len h, kX12_isSeat_0, z_fn_run h, fun _ => tX12_isSeat_0⟩)
