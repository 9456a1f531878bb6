/-! ===== RowChildrenModel.tellOne ===== -/
theorem dX12_tellOne_0 : decode cX12_tellOne 0 = .ok (.aload_n 0, 1) := by decide +kernel
theorem dX12_tellOne_1 : decode cX12_tellOne 1 = .ok (.getfield 20, 3) := by decide +kernel
theorem dX12_tellOne_4 : decode cX12_tellOne 4 = .ok (.aload_n 0, 1) := by decide +kernel
theorem dX12_tellOne_5 : decode cX12_tellOne 5 = .ok (.getfield 222, 3) := by decide +kernel
theorem dX12_tellOne_8 : decode cX12_tellOne 8 = .ok (.iaload, 1) := by decide +kernel
theorem dX12_tellOne_9 : decode cX12_tellOne 9 = .ok (.tableswitch 160 20 27 #[47, 74, 103, 160, 160, 160, 160, 131], 47) := by decide +kernel
theorem dX12_tellOne_56 : decode cX12_tellOne 56 = .ok (.aload_n 0, 1) := by decide +kernel
theorem dX12_tellOne_57 : decode cX12_tellOne 57 = .ok (.invokevirtual 240, 3) := by decide +kernel
theorem dX12_tellOne_60 : decode cX12_tellOne 60 = .ok (.aload_n 0, 1) := by decide +kernel
theorem dX12_tellOne_61 : decode cX12_tellOne 61 = .ok (.getfield 43, 3) := by decide +kernel
theorem dX12_tellOne_64 : decode cX12_tellOne 64 = .ok (.aload_n 0, 1) := by decide +kernel
theorem dX12_tellOne_65 : decode cX12_tellOne 65 = .ok (.getfield 252, 3) := by decide +kernel
theorem dX12_tellOne_68 : decode cX12_tellOne 68 = .ok (.aload_n 0, 1) := by decide +kernel
theorem dX12_tellOne_69 : decode cX12_tellOne 69 = .ok (.iconst 2, 1) := by decide +kernel
theorem dX12_tellOne_70 : decode cX12_tellOne 70 = .ok (.iconst 4, 1) := by decide +kernel
theorem dX12_tellOne_71 : decode cX12_tellOne 71 = .ok (.invokevirtual 277, 3) := by decide +kernel
theorem dX12_tellOne_74 : decode cX12_tellOne 74 = .ok (.iastore, 1) := by decide +kernel
theorem dX12_tellOne_75 : decode cX12_tellOne 75 = .ok (.aload_n 0, 1) := by decide +kernel
theorem dX12_tellOne_76 : decode cX12_tellOne 76 = .ok (.iconst 4, 1) := by decide +kernel
theorem dX12_tellOne_77 : decode cX12_tellOne 77 = .ok (.invokevirtual 281, 3) := by decide +kernel
theorem dX12_tellOne_80 : decode cX12_tellOne 80 = .ok (.goto 142, 3) := by decide +kernel
theorem dX12_tellOne_83 : decode cX12_tellOne 83 = .ok (.aload_n 0, 1) := by decide +kernel
theorem dX12_tellOne_84 : decode cX12_tellOne 84 = .ok (.aload_n 0, 1) := by decide +kernel
theorem dX12_tellOne_85 : decode cX12_tellOne 85 = .ok (.getfield 46, 3) := by decide +kernel
theorem dX12_tellOne_88 : decode cX12_tellOne 88 = .ok (.aload_n 0, 1) := by decide +kernel
theorem dX12_tellOne_89 : decode cX12_tellOne 89 = .ok (.getfield 252, 3) := by decide +kernel
theorem dX12_tellOne_92 : decode cX12_tellOne 92 = .ok (.iaload, 1) := by decide +kernel
theorem dX12_tellOne_93 : decode cX12_tellOne 93 = .ok (.bipush 20, 2) := by decide +kernel
theorem dX12_tellOne_95 : decode cX12_tellOne 95 = .ok (.invokevirtual 284, 3) := by decide +kernel
theorem dX12_tellOne_98 : decode cX12_tellOne 98 = .ok (.aload_n 0, 1) := by decide +kernel
theorem dX12_tellOne_99 : decode cX12_tellOne 99 = .ok (.getfield 219, 3) := by decide +kernel
theorem dX12_tellOne_102 : decode cX12_tellOne 102 = .ok (.ifCond .ne 120, 3) := by decide +kernel
theorem dX12_tellOne_105 : decode cX12_tellOne 105 = .ok (.aload_n 0, 1) := by decide +kernel
theorem dX12_tellOne_106 : decode cX12_tellOne 106 = .ok (.invokevirtual 287, 3) := by decide +kernel
theorem dX12_tellOne_109 : decode cX12_tellOne 109 = .ok (.goto 113, 3) := by decide +kernel
theorem dX12_tellOne_112 : decode cX12_tellOne 112 = .ok (.aload_n 0, 1) := by decide +kernel
theorem dX12_tellOne_113 : decode cX12_tellOne 113 = .ok (.aload_n 0, 1) := by decide +kernel
theorem dX12_tellOne_114 : decode cX12_tellOne 114 = .ok (.getfield 55, 3) := by decide +kernel
theorem dX12_tellOne_117 : decode cX12_tellOne 117 = .ok (.aload_n 0, 1) := by decide +kernel
theorem dX12_tellOne_118 : decode cX12_tellOne 118 = .ok (.getfield 252, 3) := by decide +kernel
theorem dX12_tellOne_121 : decode cX12_tellOne 121 = .ok (.iaload, 1) := by decide +kernel
theorem dX12_tellOne_122 : decode cX12_tellOne 122 = .ok (.iconst 4, 1) := by decide +kernel
theorem dX12_tellOne_123 : decode cX12_tellOne 123 = .ok (.invokevirtual 284, 3) := by decide +kernel
theorem dX12_tellOne_126 : decode cX12_tellOne 126 = .ok (.aload_n 0, 1) := by decide +kernel
theorem dX12_tellOne_127 : decode cX12_tellOne 127 = .ok (.getfield 219, 3) := by decide +kernel
theorem dX12_tellOne_130 : decode cX12_tellOne 130 = .ok (.ifCond .ne 92, 3) := by decide +kernel
theorem dX12_tellOne_133 : decode cX12_tellOne 133 = .ok (.aload_n 0, 1) := by decide +kernel
theorem dX12_tellOne_134 : decode cX12_tellOne 134 = .ok (.invokevirtual 290, 3) := by decide +kernel
theorem dX12_tellOne_137 : decode cX12_tellOne 137 = .ok (.goto 85, 3) := by decide +kernel
theorem dX12_tellOne_140 : decode cX12_tellOne 140 = .ok (.aload_n 0, 1) := by decide +kernel
theorem dX12_tellOne_141 : decode cX12_tellOne 141 = .ok (.invokevirtual 240, 3) := by decide +kernel
theorem dX12_tellOne_144 : decode cX12_tellOne 144 = .ok (.aload_n 0, 1) := by decide +kernel
theorem dX12_tellOne_145 : decode cX12_tellOne 145 = .ok (.getfield 64, 3) := by decide +kernel
theorem dX12_tellOne_148 : decode cX12_tellOne 148 = .ok (.aload_n 0, 1) := by decide +kernel
theorem dX12_tellOne_149 : decode cX12_tellOne 149 = .ok (.getfield 252, 3) := by decide +kernel
theorem dX12_tellOne_152 : decode cX12_tellOne 152 = .ok (.aload_n 0, 1) := by decide +kernel
theorem dX12_tellOne_153 : decode cX12_tellOne 153 = .ok (.iconst 0, 1) := by decide +kernel
theorem dX12_tellOne_154 : decode cX12_tellOne 154 = .ok (.sipush 9999, 3) := by decide +kernel
theorem dX12_tellOne_157 : decode cX12_tellOne 157 = .ok (.invokevirtual 277, 3) := by decide +kernel
theorem dX12_tellOne_160 : decode cX12_tellOne 160 = .ok (.iastore, 1) := by decide +kernel
theorem dX12_tellOne_161 : decode cX12_tellOne 161 = .ok (.aload_n 0, 1) := by decide +kernel
theorem dX12_tellOne_162 : decode cX12_tellOne 162 = .ok (.iconst 4, 1) := by decide +kernel
theorem dX12_tellOne_163 : decode cX12_tellOne 163 = .ok (.invokevirtual 281, 3) := by decide +kernel
theorem dX12_tellOne_166 : decode cX12_tellOne 166 = .ok (.goto 56, 3) := by decide +kernel
theorem dX12_tellOne_169 : decode cX12_tellOne 169 = .ok (.aload_n 0, 1) := by decide +kernel
theorem dX12_tellOne_170 : decode cX12_tellOne 170 = .ok (.getfield 20, 3) := by decide +kernel
theorem dX12_tellOne_173 : decode cX12_tellOne 173 = .ok (.aload_n 0, 1) := by decide +kernel
theorem dX12_tellOne_174 : decode cX12_tellOne 174 = .ok (.getfield 222, 3) := by decide +kernel
theorem dX12_tellOne_177 : decode cX12_tellOne 177 = .ok (.iaload, 1) := by decide +kernel
theorem dX12_tellOne_178 : decode cX12_tellOne 178 = .ok (.bipush 23, 2) := by decide +kernel
theorem dX12_tellOne_180 : decode cX12_tellOne 180 = .ok (.isub, 1) := by decide +kernel
theorem dX12_tellOne_181 : decode cX12_tellOne 181 = .ok (.istore_n 1, 1) := by decide +kernel
theorem dX12_tellOne_182 : decode cX12_tellOne 182 = .ok (.iload_n 1, 1) := by decide +kernel
theorem dX12_tellOne_183 : decode cX12_tellOne 183 = .ok (.ifCond .lt 17, 3) := by decide +kernel
theorem dX12_tellOne_186 : decode cX12_tellOne 186 = .ok (.aload_n 0, 1) := by decide +kernel
theorem dX12_tellOne_187 : decode cX12_tellOne 187 = .ok (.getfield 20, 3) := by decide +kernel
theorem dX12_tellOne_190 : decode cX12_tellOne 190 = .ok (.aload_n 0, 1) := by decide +kernel
theorem dX12_tellOne_191 : decode cX12_tellOne 191 = .ok (.getfield 222, 3) := by decide +kernel
theorem dX12_tellOne_194 : decode cX12_tellOne 194 = .ok (.iaload, 1) := by decide +kernel
theorem dX12_tellOne_195 : decode cX12_tellOne 195 = .ok (.bipush 26, 2) := by decide +kernel
theorem dX12_tellOne_197 : decode cX12_tellOne 197 = .ok (.if_icmp .le 8, 3) := by decide +kernel
theorem dX12_tellOne_200 : decode cX12_tellOne 200 = .ok (.aload_n 0, 1) := by decide +kernel
theorem dX12_tellOne_201 : decode cX12_tellOne 201 = .ok (.iconst 1, 1) := by decide +kernel
theorem dX12_tellOne_202 : decode cX12_tellOne 202 = .ok (.invokevirtual 234, 3) := by decide +kernel
theorem dX12_tellOne_205 : decode cX12_tellOne 205 = .ok (.aload_n 0, 1) := by decide +kernel
theorem dX12_tellOne_206 : decode cX12_tellOne 206 = .ok (.getfield 219, 3) := by decide +kernel
theorem dX12_tellOne_209 : decode cX12_tellOne 209 = .ok (.ifCond .le 4, 3) := by decide +kernel
theorem dX12_tellOne_212 : decode cX12_tellOne 212 = .ok (.return_, 1) := by decide +kernel
theorem dX12_tellOne_213 : decode cX12_tellOne 213 = .ok (.aload_n 0, 1) := by decide +kernel
theorem dX12_tellOne_214 : decode cX12_tellOne 214 = .ok (.invokevirtual 240, 3) := by decide +kernel
theorem dX12_tellOne_217 : decode cX12_tellOne 217 = .ok (.aload_n 0, 1) := by decide +kernel
theorem dX12_tellOne_218 : decode cX12_tellOne 218 = .ok (.iload_n 1, 1) := by decide +kernel
theorem dX12_tellOne_219 : decode cX12_tellOne 219 = .ok (.invokevirtual 293, 3) := by decide +kernel
theorem dX12_tellOne_222 : decode cX12_tellOne 222 = .ok (.return_, 1) := by decide +kernel
def xX12_tellOne : zX := (RX12, cX12_tellOne, 2, none, false, { frames := 7, cells := 0, slots := 0, locals := 216 }, 0, 0, 0, 0)
theorem rmX12_tellOne : z_Rm xX12_tellOne := by unfold z_Rm xX12_tellOne; exact ⟨by decide, by decide⟩
theorem reX12_tellOne : z_Re xX12_tellOne := ⟨rfl, rfl⟩
theorem rlX12_tellOne : 1 ≤ xX12_tellOne.2.2.2.2.2.1.frames ∧ 21 ≤ xX12_tellOne.2.2.2.2.2.1.locals := by unfold xX12_tellOne; exact ⟨by decide, by decide⟩
theorem meX12_tellOne : z_Me yX12_tellOne xX12_tellOne 0 := ⟨wd1017, wd848, by decide, by decide, by decide +kernel⟩
theorem fitX12_tellOne_57 : z_Fit xX12_goesOn xX12_tellOne := by unfold z_Fit; simp only [xX12_goesOn, xX12_tellOne]; exact ⟨by decide, by decide⟩
theorem fitX12_tellOne_71 : z_Fit xX12_bounded xX12_tellOne := by unfold z_Fit; simp only [xX12_bounded, xX12_tellOne]; exact ⟨by decide, by decide⟩
theorem fitX12_tellOne_77 : z_Fit xX12_must xX12_tellOne := by unfold z_Fit; simp only [xX12_must, xX12_tellOne]; exact ⟨by decide, by decide⟩
theorem fitX12_tellOne_95 : z_Fit xX12_roomFor xX12_tellOne := by unfold z_Fit; simp only [xX12_roomFor, xX12_tellOne]; exact ⟨by decide, by decide⟩
theorem fitX12_tellOne_106 : z_Fit xX12_tellChild xX12_tellOne := by unfold z_Fit; simp only [xX12_tellChild, xX12_tellOne]; exact ⟨by decide, by decide⟩
theorem fitX12_tellOne_123 : z_Fit xX12_roomFor xX12_tellOne := by unfold z_Fit; simp only [xX12_roomFor, xX12_tellOne]; exact ⟨by decide, by decide⟩
theorem fitX12_tellOne_134 : z_Fit xX12_tellRow xX12_tellOne := by unfold z_Fit; simp only [xX12_tellRow, xX12_tellOne]; exact ⟨by decide, by decide⟩
theorem fitX12_tellOne_202 : z_Fit xX12_fail xX12_tellOne := by unfold z_Fit; simp only [xX12_fail, xX12_tellOne]; exact ⟨by decide, by decide⟩
theorem fitX12_tellOne_214 : z_Fit xX12_goesOn xX12_tellOne := by unfold z_Fit; simp only [xX12_goesOn, xX12_tellOne]; exact ⟨by decide, by decide⟩
theorem fitX12_tellOne_219 : z_Fit xX12_tellLaw xX12_tellOne := by unfold z_Fit; simp only [xX12_tellLaw, xX12_tellOne]; exact ⟨by decide, by decide⟩
theorem fitX12_tellOne_141 : z_Fit xX12_goesOn xX12_tellOne := by unfold z_Fit; simp only [xX12_goesOn, xX12_tellOne]; exact ⟨by decide, by decide⟩
theorem fitX12_tellOne_157 : z_Fit xX12_bounded xX12_tellOne := by unfold z_Fit; simp only [xX12_bounded, xX12_tellOne]; exact ⟨by decide, by decide⟩
theorem fitX12_tellOne_163 : z_Fit xX12_must xX12_tellOne := by unfold z_Fit; simp only [xX12_must, xX12_tellOne]; exact ⟨by decide, by decide⟩
noncomputable def kX12_tellOne_222 : zK zR := q_vret
noncomputable def kX12_tellOne_205 : zK zR := (q_aload 0 (q_getI 12 13 (q_if_le (q_aload 0 (q_callV 12 fX12_goesOn 0 (q_aload 0 (q_iload 1 (q_callV 12 fX12_tellLaw 1 kX12_tellOne_222))))) q_vret)))
noncomputable def kX12_tellOne_200 : zK zR := (q_aload 0 (q_push 1 (q_callV 12 fX12_fail 1 kX12_tellOne_205)))
noncomputable def kX12_tellOne_169 : zK zR := (q_aload 0 (q_getR 12 5 (q_aload 0 (q_getI 12 11 (q_iald (q_push 23 (q_isub (q_istore 1 (q_iload 1 (q_if_lt kX12_tellOne_200 (q_aload 0 (q_getR 12 5 (q_aload 0 (q_getI 12 11 (q_iald (q_push 26 (q_icmp_le kX12_tellOne_205 kX12_tellOne_200)))))))))))))))))
noncomputable def kX12_tellOne_0 : zK zR := (q_aload 0 (q_getR 12 5 (q_aload 0 (q_getI 12 11 (q_iald (q_sw 20 [(q_aload 0 (q_callV 12 fX12_goesOn 0 (q_aload 0 (q_getR 12 22 (q_aload 0 (q_getI 12 19 (q_aload 0 (q_push 2 (q_push 4 (q_callV 12 fX12_bounded 2 (q_iast (q_aload 0 (q_push 4 (q_callV 12 fX12_must 1 kX12_tellOne_222)))))))))))))), (q_aload 0 (q_aload 0 (q_getR 12 23 (q_aload 0 (q_getI 12 19 (q_iald (q_push 20 (q_callV 12 fX12_roomFor 2 (q_aload 0 (q_getI 12 13 (q_if_ne kX12_tellOne_222 (q_aload 0 (q_callV 12 fX12_tellChild 0 kX12_tellOne_222))))))))))))), (q_aload 0 (q_aload 0 (q_getR 12 26 (q_aload 0 (q_getI 12 19 (q_iald (q_push 4 (q_callV 12 fX12_roomFor 2 (q_aload 0 (q_getI 12 13 (q_if_ne kX12_tellOne_222 (q_aload 0 (q_callV 12 fX12_tellRow 0 kX12_tellOne_222))))))))))))), kX12_tellOne_169, kX12_tellOne_169, kX12_tellOne_169, kX12_tellOne_169, (q_aload 0 (q_callV 12 fX12_goesOn 0 (q_aload 0 (q_getR 12 29 (q_aload 0 (q_getI 12 19 (q_aload 0 (q_push 0 (q_push 9999 (q_callV 12 fX12_bounded 2 (q_iast (q_aload 0 (q_push 4 (q_callV 12 fX12_must 1 kX12_tellOne_222))))))))))))))] kX12_tellOne_169))))))
set_option maxRecDepth 100000 in
theorem tX12_tellOne_222 {l : Launch} {D : zD} {B sz0 : Nat} {post : Option Value → zS → Prop} : zSnd l D B xX12_tellOne sz0 post 222 kX12_tellOne_222 (z_Jr post) := (s_vret dX12_tellOne_222 rfl)
set_option maxRecDepth 100000 in
theorem tX12_tellOne_205 {l : Launch} {D : zD} {B sz0 : Nat} {post : Option Value → zS → Prop} : zSnd l D B xX12_tellOne sz0 post 205 kX12_tellOne_205 (z_Jr post) := (s_aload_n dX12_tellOne_205 rfl (s_getI (f := 13) dX12_tellOne_206 clX12 (by decide) rfl wd942 (s_if_le (tgt := 213) dX12_tellOne_209 (by decide) (s_aload_n dX12_tellOne_213 rfl (s_callV (r := (RX12, TX12, 74)) dX12_tellOne_214 mX12_goesOn meX12_goesOn wd957 wd958 rfl rfl reX12_goesOn rmX12_tellOne (fitX12_tellOne_214) wd959 (s_aload_n dX12_tellOne_217 rfl (s_iload_n dX12_tellOne_218 rfl (s_callV (r := (RX12, TX12, 74)) dX12_tellOne_219 mX12_tellLaw meX12_tellLaw wd1014 wd1015 rfl rfl reX12_tellLaw rmX12_tellOne (fitX12_tellOne_219) wd1016 tX12_tellOne_222))))) (s_vret dX12_tellOne_212 rfl))))
set_option maxRecDepth 100000 in
theorem tX12_tellOne_200 {l : Launch} {D : zD} {B sz0 : Nat} {post : Option Value → zS → Prop} : zSnd l D B xX12_tellOne sz0 post 200 kX12_tellOne_200 (z_Jr post) := (s_aload_n dX12_tellOne_200 rfl (s_iconst dX12_tellOne_201 (by decide) (s_callV (r := (RX12, TX12, 74)) dX12_tellOne_202 mX12_fail meX12_fail wd950 wd951 rfl rfl reX12_fail rmX12_tellOne (fitX12_tellOne_202) wd952 tX12_tellOne_205)))
set_option maxRecDepth 100000 in
theorem tX12_tellOne_169 {l : Launch} {D : zD} {B sz0 : Nat} {post : Option Value → zS → Prop} : zSnd l D B xX12_tellOne sz0 post 169 kX12_tellOne_169 (z_Jr post) := (s_aload_n dX12_tellOne_169 rfl (s_getR (f := 5) dX12_tellOne_170 clX12 (by decide) rfl wd865 (s_aload_n dX12_tellOne_173 rfl (s_getI (f := 11) dX12_tellOne_174 clX12 (by decide) rfl wd943 (s_iald dX12_tellOne_177 (s_bipush dX12_tellOne_178 (by decide) (s_isub dX12_tellOne_180 (s_istore_n dX12_tellOne_181 rfl (s_iload_n dX12_tellOne_182 rfl (s_if_lt (tgt := 200) dX12_tellOne_183 (by decide) tX12_tellOne_200 (s_aload_n dX12_tellOne_186 rfl (s_getR (f := 5) dX12_tellOne_187 clX12 (by decide) rfl wd865 (s_aload_n dX12_tellOne_190 rfl (s_getI (f := 11) dX12_tellOne_191 clX12 (by decide) rfl wd943 (s_iald dX12_tellOne_194 (s_bipush dX12_tellOne_195 (by decide) (s_icmp_le (tgt := 205) dX12_tellOne_197 (by decide) tX12_tellOne_205 tX12_tellOne_200)))))))))))))))))
set_option maxRecDepth 100000 in
theorem tX12_tellOne_0 {l : Launch} {D : zD} {B sz0 : Nat} {post : Option Value → zS → Prop} : zSnd l D B xX12_tellOne sz0 post 0 kX12_tellOne_0 (z_Jr post) := (s_aload_n dX12_tellOne_0 rfl (s_getR (f := 5) dX12_tellOne_1 clX12 (by decide) rfl wd865 (s_aload_n dX12_tellOne_4 rfl (s_getI (f := 11) dX12_tellOne_5 clX12 (by decide) rfl wd943 (s_iald dX12_tellOne_8 (s_swL (tgts := [56, 83, 112, 169, 169, 169, 169, 140]) (td := 169) dX12_tellOne_9 (by decide) (by decide) (by decide) ⟨(s_aload_n dX12_tellOne_56 rfl (s_callV (r := (RX12, TX12, 74)) dX12_tellOne_57 mX12_goesOn meX12_goesOn wd957 wd958 rfl rfl reX12_goesOn rmX12_tellOne (fitX12_tellOne_57) wd959 (s_aload_n dX12_tellOne_60 rfl (s_getR (f := 22) dX12_tellOne_61 clX12 (by decide) rfl wd839 (s_aload_n dX12_tellOne_64 rfl (s_getI (f := 19) dX12_tellOne_65 clX12 (by decide) rfl wd969 (s_aload_n dX12_tellOne_68 rfl (s_iconst dX12_tellOne_69 (by decide) (s_iconst dX12_tellOne_70 (by decide) (s_callV (r := (RX12, TX12, 74)) dX12_tellOne_71 mX12_bounded meX12_bounded wd966 wd967 rfl rfl reX12_bounded rmX12_tellOne (fitX12_tellOne_71) wd968 (s_iast dX12_tellOne_74 (s_aload_n dX12_tellOne_75 rfl (s_iconst dX12_tellOne_76 (by decide) (s_callV (r := (RX12, TX12, 74)) dX12_tellOne_77 mX12_must meX12_must wd974 wd975 rfl rfl reX12_must rmX12_tellOne (fitX12_tellOne_77) wd976 (s_goto (tgt := 222) dX12_tellOne_80 (by decide) tX12_tellOne_222))))))))))))))), ⟨(s_aload_n dX12_tellOne_83 rfl (s_aload_n dX12_tellOne_84 rfl (s_getR (f := 23) dX12_tellOne_85 clX12 (by decide) rfl wd840 (s_aload_n dX12_tellOne_88 rfl (s_getI (f := 19) dX12_tellOne_89 clX12 (by decide) rfl wd969 (s_iald dX12_tellOne_92 (s_bipush dX12_tellOne_93 (by decide) (s_callV (r := (RX12, TX12, 74)) dX12_tellOne_95 mX12_roomFor meX12_roomFor wd1005 wd1006 rfl rfl reX12_roomFor rmX12_tellOne (fitX12_tellOne_95) wd1007 (s_aload_n dX12_tellOne_98 rfl (s_getI (f := 13) dX12_tellOne_99 clX12 (by decide) rfl wd942 (s_if_ne (tgt := 222) dX12_tellOne_102 (by decide) tX12_tellOne_222 (s_aload_n dX12_tellOne_105 rfl (s_callV (r := (RX12, TX12, 74)) dX12_tellOne_106 mX12_tellChild meX12_tellChild wd1008 wd1009 rfl rfl reX12_tellChild rmX12_tellOne (fitX12_tellOne_106) wd1010 (s_goto (tgt := 222) dX12_tellOne_109 (by decide) tX12_tellOne_222)))))))))))))), ⟨(s_aload_n dX12_tellOne_112 rfl (s_aload_n dX12_tellOne_113 rfl (s_getR (f := 26) dX12_tellOne_114 clX12 (by decide) rfl wd842 (s_aload_n dX12_tellOne_117 rfl (s_getI (f := 19) dX12_tellOne_118 clX12 (by decide) rfl wd969 (s_iald dX12_tellOne_121 (s_iconst dX12_tellOne_122 (by decide) (s_callV (r := (RX12, TX12, 74)) dX12_tellOne_123 mX12_roomFor meX12_roomFor wd1005 wd1006 rfl rfl reX12_roomFor rmX12_tellOne (fitX12_tellOne_123) wd1007 (s_aload_n dX12_tellOne_126 rfl (s_getI (f := 13) dX12_tellOne_127 clX12 (by decide) rfl wd942 (s_if_ne (tgt := 222) dX12_tellOne_130 (by decide) tX12_tellOne_222 (s_aload_n dX12_tellOne_133 rfl (s_callV (r := (RX12, TX12, 74)) dX12_tellOne_134 mX12_tellRow meX12_tellRow wd1011 wd1012 rfl rfl reX12_tellRow rmX12_tellOne (fitX12_tellOne_134) wd1013 (s_goto (tgt := 222) dX12_tellOne_137 (by decide) tX12_tellOne_222)))))))))))))), ⟨tX12_tellOne_169, ⟨tX12_tellOne_169, ⟨tX12_tellOne_169, ⟨tX12_tellOne_169, ⟨(s_aload_n dX12_tellOne_140 rfl (s_callV (r := (RX12, TX12, 74)) dX12_tellOne_141 mX12_goesOn meX12_goesOn wd957 wd958 rfl rfl reX12_goesOn rmX12_tellOne (fitX12_tellOne_141) wd959 (s_aload_n dX12_tellOne_144 rfl (s_getR (f := 29) dX12_tellOne_145 clX12 (by decide) rfl wd843 (s_aload_n dX12_tellOne_148 rfl (s_getI (f := 19) dX12_tellOne_149 clX12 (by decide) rfl wd969 (s_aload_n dX12_tellOne_152 rfl (s_iconst dX12_tellOne_153 (by decide) (s_sipush dX12_tellOne_154 (by decide) (s_callV (r := (RX12, TX12, 74)) dX12_tellOne_157 mX12_bounded meX12_bounded wd966 wd967 rfl rfl reX12_bounded rmX12_tellOne (fitX12_tellOne_157) wd968 (s_iast dX12_tellOne_160 (s_aload_n dX12_tellOne_161 rfl (s_iconst dX12_tellOne_162 (by decide) (s_callV (r := (RX12, TX12, 74)) dX12_tellOne_163 mX12_must meX12_must wd974 wd975 rfl rfl reX12_must rmX12_tellOne (fitX12_tellOne_163) wd976 (s_goto (tgt := 222) dX12_tellOne_166 (by decide) tX12_tellOne_222))))))))))))))), True.intro⟩⟩⟩⟩⟩⟩⟩⟩ tX12_tellOne_169))))))
noncomputable def fX12_tellOne : zF := z_fn 2 kX12_tellOne_0
theorem mX12_tellOne {l : Launch} {D : zD} {B : Nat} : z_MF l D B yX12_tellOne xX12_tellOne fX12_tellOne := z_mf (by decide) rfl (fun h => by cases h) rfl (fun as σ r h => ⟨z_fn_len h, kX12_tellOne_0, z_fn_run h, fun _ => tX12_tellOne_0⟩)
/-! ===== RowChildrenModel.read ===== -/
theorem dX12_read_0 : decode cX12_read 0 = .ok (.aload_n 0, 1) := by decide +kernel
theorem dX12_read_1 : decode cX12_read 1 = .ok (.aload_n 0, 1) := by decide +kernel
theorem dX12_read_2 : decode cX12_read 2 = .ok (.getfield 182, 3) := by decide +kernel
theorem dX12_read_5 : decode cX12_read 5 = .ok (.putfield 188, 3) := by decide +kernel
theorem dX12_read_8 : decode cX12_read 8 = .ok (.iconst 0, 1) := by decide +kernel
theorem dX12_read_9 : decode cX12_read 9 = .ok (.istore_n 1, 1) := by decide +kernel
theorem dX12_read_10 : decode cX12_read 10 = .ok (.iload_n 1, 1) := by decide +kernel
theorem dX12_read_11 : decode cX12_read 11 = .ok (.aload_n 0, 1) := by decide +kernel
theorem dX12_read_12 : decode cX12_read 12 = .ok (.getfield 188, 3) := by decide +kernel
theorem dX12_read_15 : decode cX12_read 15 = .ok (.if_icmp .ge 21, 3) := by decide +kernel
theorem dX12_read_18 : decode cX12_read 18 = .ok (.aload_n 0, 1) := by decide +kernel
theorem dX12_read_19 : decode cX12_read 19 = .ok (.getfield 17, 3) := by decide +kernel
theorem dX12_read_22 : decode cX12_read 22 = .ok (.iload_n 1, 1) := by decide +kernel
theorem dX12_read_23 : decode cX12_read 23 = .ok (.aload_n 0, 1) := by decide +kernel
theorem dX12_read_24 : decode cX12_read 24 = .ok (.getfield 13, 3) := by decide +kernel
theorem dX12_read_27 : decode cX12_read 27 = .ok (.iload_n 1, 1) := by decide +kernel
theorem dX12_read_28 : decode cX12_read 28 = .ok (.baload, 1) := by decide +kernel
theorem dX12_read_29 : decode cX12_read 29 = .ok (.bastore, 1) := by decide +kernel
theorem dX12_read_30 : decode cX12_read 30 = .ok (.iinc 1 1, 3) := by decide +kernel
theorem dX12_read_33 : decode cX12_read 33 = .ok (.goto (-23), 3) := by decide +kernel
theorem dX12_read_36 : decode cX12_read 36 = .ok (.aload_n 0, 1) := by decide +kernel
theorem dX12_read_37 : decode cX12_read 37 = .ok (.iconst 0, 1) := by decide +kernel
theorem dX12_read_38 : decode cX12_read 38 = .ok (.putfield 182, 3) := by decide +kernel
theorem dX12_read_41 : decode cX12_read 41 = .ok (.aload_n 0, 1) := by decide +kernel
theorem dX12_read_42 : decode cX12_read 42 = .ok (.invokevirtual 243, 3) := by decide +kernel
theorem dX12_read_45 : decode cX12_read 45 = .ok (.aload_n 0, 1) := by decide +kernel
theorem dX12_read_46 : decode cX12_read 46 = .ok (.iconst 0, 1) := by decide +kernel
theorem dX12_read_47 : decode cX12_read 47 = .ok (.putfield 222, 3) := by decide +kernel
theorem dX12_read_50 : decode cX12_read 50 = .ok (.aload_n 0, 1) := by decide +kernel
theorem dX12_read_51 : decode cX12_read 51 = .ok (.iconst 0, 1) := by decide +kernel
theorem dX12_read_52 : decode cX12_read 52 = .ok (.putfield 246, 3) := by decide +kernel
theorem dX12_read_55 : decode cX12_read 55 = .ok (.aload_n 0, 1) := by decide +kernel
theorem dX12_read_56 : decode cX12_read 56 = .ok (.iconst 0, 1) := by decide +kernel
theorem dX12_read_57 : decode cX12_read 57 = .ok (.putfield 219, 3) := by decide +kernel
theorem dX12_read_60 : decode cX12_read 60 = .ok (.aload_n 0, 1) := by decide +kernel
theorem dX12_read_61 : decode cX12_read 61 = .ok (.iconst 0, 1) := by decide +kernel
theorem dX12_read_62 : decode cX12_read 62 = .ok (.putfield 228, 3) := by decide +kernel
theorem dX12_read_65 : decode cX12_read 65 = .ok (.aload_n 0, 1) := by decide +kernel
theorem dX12_read_66 : decode cX12_read 66 = .ok (.iconst 1, 1) := by decide +kernel
theorem dX12_read_67 : decode cX12_read 67 = .ok (.aload_n 0, 1) := by decide +kernel
theorem dX12_read_68 : decode cX12_read 68 = .ok (.getfield 249, 3) := by decide +kernel
theorem dX12_read_71 : decode cX12_read 71 = .ok (.isub, 1) := by decide +kernel
theorem dX12_read_72 : decode cX12_read 72 = .ok (.putfield 252, 3) := by decide +kernel
theorem dX12_read_75 : decode cX12_read 75 = .ok (.aload_n 0, 1) := by decide +kernel
theorem dX12_read_76 : decode cX12_read 76 = .ok (.iconst 0, 1) := by decide +kernel
theorem dX12_read_77 : decode cX12_read 77 = .ok (.putfield 255, 3) := by decide +kernel
theorem dX12_read_80 : decode cX12_read 80 = .ok (.aload_n 0, 1) := by decide +kernel
theorem dX12_read_81 : decode cX12_read 81 = .ok (.aload_n 0, 1) := by decide +kernel
theorem dX12_read_82 : decode cX12_read 82 = .ok (.getfield 252, 3) := by decide +kernel
theorem dX12_read_85 : decode cX12_read 85 = .ok (.invokevirtual 168, 3) := by decide +kernel
theorem dX12_read_88 : decode cX12_read 88 = .ok (.aload_n 0, 1) := by decide +kernel
theorem dX12_read_89 : decode cX12_read 89 = .ok (.sipush 130, 3) := by decide +kernel
theorem dX12_read_92 : decode cX12_read 92 = .ok (.aload_n 0, 1) := by decide +kernel
theorem dX12_read_93 : decode cX12_read 93 = .ok (.getfield 252, 3) := by decide +kernel
theorem dX12_read_96 : decode cX12_read 96 = .ok (.imul, 1) := by decide +kernel
theorem dX12_read_97 : decode cX12_read 97 = .ok (.putfield 258, 3) := by decide +kernel
theorem dX12_read_100 : decode cX12_read 100 = .ok (.aload_n 0, 1) := by decide +kernel
theorem dX12_read_101 : decode cX12_read 101 = .ok (.sipush 420, 3) := by decide +kernel
theorem dX12_read_104 : decode cX12_read 104 = .ok (.aload_n 0, 1) := by decide +kernel
theorem dX12_read_105 : decode cX12_read 105 = .ok (.getfield 252, 3) := by decide +kernel
theorem dX12_read_108 : decode cX12_read 108 = .ok (.imul, 1) := by decide +kernel
theorem dX12_read_109 : decode cX12_read 109 = .ok (.putfield 261, 3) := by decide +kernel
theorem dX12_read_112 : decode cX12_read 112 = .ok (.aload_n 0, 1) := by decide +kernel
theorem dX12_read_113 : decode cX12_read 113 = .ok (.getfield 219, 3) := by decide +kernel
theorem dX12_read_116 : decode cX12_read 116 = .ok (.ifCond .ne 18, 3) := by decide +kernel
theorem dX12_read_119 : decode cX12_read 119 = .ok (.aload_n 0, 1) := by decide +kernel
theorem dX12_read_120 : decode cX12_read 120 = .ok (.iconst 0, 1) := by decide +kernel
theorem dX12_read_121 : decode cX12_read 121 = .ok (.invokevirtual 237, 3) := by decide +kernel
theorem dX12_read_124 : decode cX12_read 124 = .ok (.ifCond .ne 10, 3) := by decide +kernel
theorem dX12_read_127 : decode cX12_read 127 = .ok (.aload_n 0, 1) := by decide +kernel
theorem dX12_read_128 : decode cX12_read 128 = .ok (.invokevirtual 264, 3) := by decide +kernel
theorem dX12_read_131 : decode cX12_read 131 = .ok (.goto (-19), 3) := by decide +kernel
theorem dX12_read_134 : decode cX12_read 134 = .ok (.aload_n 0, 1) := by decide +kernel
theorem dX12_read_135 : decode cX12_read 135 = .ok (.getfield 219, 3) := by decide +kernel
theorem dX12_read_138 : decode cX12_read 138 = .ok (.ifCond .ne 34, 3) := by decide +kernel
theorem dX12_read_141 : decode cX12_read 141 = .ok (.aload_n 0, 1) := by decide +kernel
theorem dX12_read_142 : decode cX12_read 142 = .ok (.getfield 52, 3) := by decide +kernel
theorem dX12_read_145 : decode cX12_read 145 = .ok (.aload_n 0, 1) := by decide +kernel
theorem dX12_read_146 : decode cX12_read 146 = .ok (.getfield 252, 3) := by decide +kernel
theorem dX12_read_149 : decode cX12_read 149 = .ok (.iaload, 1) := by decide +kernel
theorem dX12_read_150 : decode cX12_read 150 = .ok (.aload_n 0, 1) := by decide +kernel
theorem dX12_read_151 : decode cX12_read 151 = .ok (.getfield 43, 3) := by decide +kernel
theorem dX12_read_154 : decode cX12_read 154 = .ok (.aload_n 0, 1) := by decide +kernel
theorem dX12_read_155 : decode cX12_read 155 = .ok (.getfield 252, 3) := by decide +kernel
theorem dX12_read_158 : decode cX12_read 158 = .ok (.iaload, 1) := by decide +kernel
theorem dX12_read_159 : decode cX12_read 159 = .ok (.if_icmp .lt 13, 3) := by decide +kernel
theorem dX12_read_162 : decode cX12_read 162 = .ok (.aload_n 0, 1) := by decide +kernel
theorem dX12_read_163 : decode cX12_read 163 = .ok (.bipush 6, 2) := by decide +kernel
theorem dX12_read_165 : decode cX12_read 165 = .ok (.aload_n 0, 1) := by decide +kernel
theorem dX12_read_166 : decode cX12_read 166 = .ok (.getfield 222, 3) := by decide +kernel
theorem dX12_read_169 : decode cX12_read 169 = .ok (.invokevirtual 267, 3) := by decide +kernel
theorem dX12_read_172 : decode cX12_read 172 = .ok (.aload_n 0, 1) := by decide +kernel
theorem dX12_read_173 : decode cX12_read 173 = .ok (.aload_n 0, 1) := by decide +kernel
theorem dX12_read_174 : decode cX12_read 174 = .ok (.getfield 219, 3) := by decide +kernel
theorem dX12_read_177 : decode cX12_read 177 = .ok (.ifCond .le 10, 3) := by decide +kernel
theorem dX12_read_180 : decode cX12_read 180 = .ok (.aload_n 0, 1) := by decide +kernel
theorem dX12_read_181 : decode cX12_read 181 = .ok (.getfield 225, 3) := by decide +kernel
theorem dX12_read_184 : decode cX12_read 184 = .ok (.goto 18, 3) := by decide +kernel
theorem dX12_read_187 : decode cX12_read 187 = .ok (.aload_n 0, 1) := by decide +kernel
theorem dX12_read_188 : decode cX12_read 188 = .ok (.getfield 228, 3) := by decide +kernel
theorem dX12_read_191 : decode cX12_read 191 = .ok (.ifCond .le 10, 3) := by decide +kernel
theorem dX12_read_194 : decode cX12_read 194 = .ok (.aload_n 0, 1) := by decide +kernel
theorem dX12_read_195 : decode cX12_read 195 = .ok (.getfield 231, 3) := by decide +kernel
theorem dX12_read_198 : decode cX12_read 198 = .ok (.goto 4, 3) := by decide +kernel
theorem dX12_read_201 : decode cX12_read 201 = .ok (.iconst (-1), 1) := by decide +kernel
theorem dX12_read_202 : decode cX12_read 202 = .ok (.putfield 37, 3) := by decide +kernel
theorem dX12_read_205 : decode cX12_read 205 = .ok (.aload_n 0, 1) := by decide +kernel
theorem dX12_read_206 : decode cX12_read 206 = .ok (.getfield 219, 3) := by decide +kernel
theorem dX12_read_209 : decode cX12_read 209 = .ok (.ifCond .le 8, 3) := by decide +kernel
theorem dX12_read_212 : decode cX12_read 212 = .ok (.aload_n 0, 1) := by decide +kernel
theorem dX12_read_213 : decode cX12_read 213 = .ok (.getfield 219, 3) := by decide +kernel
theorem dX12_read_216 : decode cX12_read 216 = .ok (.ireturn, 1) := by decide +kernel
theorem dX12_read_217 : decode cX12_read 217 = .ok (.aload_n 0, 1) := by decide +kernel
theorem dX12_read_218 : decode cX12_read 218 = .ok (.getfield 228, 3) := by decide +kernel
theorem dX12_read_221 : decode cX12_read 221 = .ok (.ifCond .le 8, 3) := by decide +kernel
theorem dX12_read_224 : decode cX12_read 224 = .ok (.aload_n 0, 1) := by decide +kernel
theorem dX12_read_225 : decode cX12_read 225 = .ok (.getfield 228, 3) := by decide +kernel
theorem dX12_read_228 : decode cX12_read 228 = .ok (.ireturn, 1) := by decide +kernel
theorem dX12_read_229 : decode cX12_read 229 = .ok (.aload_n 0, 1) := by decide +kernel
theorem dX12_read_230 : decode cX12_read 230 = .ok (.aload_n 0, 1) := by decide +kernel
theorem dX12_read_231 : decode cX12_read 231 = .ok (.getfield 252, 3) := by decide +kernel
theorem dX12_read_234 : decode cX12_read 234 = .ok (.putfield 249, 3) := by decide +kernel
theorem dX12_read_237 : decode cX12_read 237 = .ok (.aload_n 0, 1) := by decide +kernel
theorem dX12_read_238 : decode cX12_read 238 = .ok (.invokevirtual 176, 3) := by decide +kernel
theorem dX12_read_241 : decode cX12_read 241 = .ok (.aload_n 0, 1) := by decide +kernel
theorem dX12_read_242 : decode cX12_read 242 = .ok (.invokevirtual 179, 3) := by decide +kernel
theorem dX12_read_245 : decode cX12_read 245 = .ok (.aload_n 0, 1) := by decide +kernel
theorem dX12_read_246 : decode cX12_read 246 = .ok (.iconst 0, 1) := by decide +kernel
theorem dX12_read_247 : decode cX12_read 247 = .ok (.putfield 271, 3) := by decide +kernel
theorem dX12_read_250 : decode cX12_read 250 = .ok (.aload_n 0, 1) := by decide +kernel
theorem dX12_read_251 : decode cX12_read 251 = .ok (.iconst 0, 1) := by decide +kernel
theorem dX12_read_252 : decode cX12_read 252 = .ok (.putfield 274, 3) := by decide +kernel
theorem dX12_read_255 : decode cX12_read 255 = .ok (.iconst 0, 1) := by decide +kernel
theorem dX12_read_256 : decode cX12_read 256 = .ok (.istore_n 1, 1) := by decide +kernel
theorem dX12_read_257 : decode cX12_read 257 = .ok (.iload_n 1, 1) := by decide +kernel
theorem dX12_read_258 : decode cX12_read 258 = .ok (.iconst 3, 1) := by decide +kernel
theorem dX12_read_259 : decode cX12_read 259 = .ok (.if_icmp .ge 16, 3) := by decide +kernel
theorem dX12_read_262 : decode cX12_read 262 = .ok (.aload_n 0, 1) := by decide +kernel
theorem dX12_read_263 : decode cX12_read 263 = .ok (.getfield 162, 3) := by decide +kernel
theorem dX12_read_266 : decode cX12_read 266 = .ok (.iload_n 1, 1) := by decide +kernel
theorem dX12_read_267 : decode cX12_read 267 = .ok (.iconst 0, 1) := by decide +kernel
theorem dX12_read_268 : decode cX12_read 268 = .ok (.bastore, 1) := by decide +kernel
theorem dX12_read_269 : decode cX12_read 269 = .ok (.iinc 1 1, 3) := by decide +kernel
theorem dX12_read_272 : decode cX12_read 272 = .ok (.goto (-15), 3) := by decide +kernel
theorem dX12_read_275 : decode cX12_read 275 = .ok (.iconst 0, 1) := by decide +kernel
theorem dX12_read_276 : decode cX12_read 276 = .ok (.ireturn, 1) := by decide +kernel
def xX12_read : zX := (RX12, cX12_read, 2, (some .int), false, { frames := 8, cells := 0, slots := 0, locals := 237 }, 0, 0, 0, 0)
theorem rmX12_read : z_Rm xX12_read := by unfold z_Rm xX12_read; exact ⟨by decide, by decide⟩
theorem reX12_read : z_Re xX12_read := ⟨rfl, rfl⟩
theorem rlX12_read : 1 ≤ xX12_read.2.2.2.2.2.1.frames ∧ 21 ≤ xX12_read.2.2.2.2.2.1.locals := by unfold xX12_read; exact ⟨by decide, by decide⟩
theorem meX12_read : z_Me yX12_read xX12_read 0 := ⟨wd1026, wd848, by decide, by decide, by decide +kernel⟩
theorem fitX12_read_42 : z_Fit xX12_cut xX12_read := by unfold z_Fit; simp only [xX12_cut, xX12_read]; exact ⟨by decide, by decide⟩
theorem fitX12_read_85 : z_Fit xX12_plain xX12_read := by unfold z_Fit; simp only [xX12_plain, xX12_read]; exact ⟨by decide, by decide⟩
theorem fitX12_read_238 : z_Fit xX12_begins xX12_read := by unfold z_Fit; simp only [xX12_begins, xX12_read]; exact ⟨by decide, by decide⟩
theorem fitX12_read_242 : z_Fit xX12_keepsRow xX12_read := by unfold z_Fit; simp only [xX12_keepsRow, xX12_read]; exact ⟨by decide, by decide⟩
theorem fitX12_read_169 : z_Fit xX12_wrong xX12_read := by unfold z_Fit; simp only [xX12_wrong, xX12_read]; exact ⟨by decide, by decide⟩
theorem fitX12_read_121 : z_Fit xX12_is xX12_read := by unfold z_Fit; simp only [xX12_is, xX12_read]; exact ⟨by decide, by decide⟩
theorem fitX12_read_128 : z_Fit xX12_tellOne xX12_read := by unfold z_Fit; simp only [xX12_tellOne, xX12_read]; exact ⟨by decide, by decide⟩
noncomputable def kX12_read_275 : zK zR := (q_push 0 q_iret)
noncomputable def bX12_read_257 : zK ((zL × zS) ⊕ zR) := (q_iload 1 (q_push 3 (q_icmp_ge (q_dn kX12_read_275) (q_aload 0 (q_getR 12 72 (q_iload 1 (q_push 0 (q_zast (q_iinc 1 1 q_ag)))))))))
noncomputable def kX12_read_257 : zK zR := q_lp (bX12_read_257)
noncomputable def kX12_read_202 : zK zR := (q_putI 12 17 (q_aload 0 (q_getI 12 13 (q_if_le (q_aload 0 (q_getI 12 15 (q_if_le (q_aload 0 (q_aload 0 (q_getI 12 19 (q_putI 12 18 (q_aload 0 (q_callV 12 fX12_begins 0 (q_aload 0 (q_callV 12 fX12_keepsRow 0 (q_aload 0 (q_push 0 (q_putI 12 52 (q_aload 0 (q_push 0 (q_putI 12 66 (q_push 0 (q_istore 1 kX12_read_257)))))))))))))))) (q_aload 0 (q_getI 12 15 q_iret))))) (q_aload 0 (q_getI 12 13 q_iret))))))
noncomputable def kX12_read_172 : zK zR := (q_aload 0 (q_aload 0 (q_getI 12 13 (q_if_le (q_aload 0 (q_getI 12 15 (q_if_le (q_push (-1) kX12_read_202) (q_aload 0 (q_getI 12 16 kX12_read_202))))) (q_aload 0 (q_getI 12 14 kX12_read_202))))))
noncomputable def kX12_read_134 : zK zR := (q_aload 0 (q_getI 12 13 (q_if_ne kX12_read_172 (q_aload 0 (q_getR 12 25 (q_aload 0 (q_getI 12 19 (q_iald (q_aload 0 (q_getR 12 22 (q_aload 0 (q_getI 12 19 (q_iald (q_icmp_lt kX12_read_172 (q_aload 0 (q_push 6 (q_aload 0 (q_getI 12 11 (q_callV 12 fX12_wrong 2 kX12_read_172)))))))))))))))))))
noncomputable def bX12_read_112 : zK ((zL × zS) ⊕ zR) := (q_aload 0 (q_getI 12 13 (q_if_ne (q_dn kX12_read_134) (q_aload 0 (q_push 0 (q_callV 12 fX12_is 1 (q_if_ne (q_dn kX12_read_134) (q_aload 0 (q_callV 12 fX12_tellOne 0 q_ag)))))))))
noncomputable def kX12_read_112 : zK zR := q_lp (bX12_read_112)
noncomputable def kX12_read_36 : zK zR := (q_aload 0 (q_push 0 (q_putI 12 2 (q_aload 0 (q_callV 12 fX12_cut 0 (q_aload 0 (q_push 0 (q_putI 12 11 (q_aload 0 (q_push 0 (q_putI 12 12 (q_aload 0 (q_push 0 (q_putI 12 13 (q_aload 0 (q_push 0 (q_putI 12 15 (q_aload 0 (q_push 1 (q_aload 0 (q_getI 12 18 (q_isub (q_putI 12 19 (q_aload 0 (q_push 0 (q_putI 12 20 (q_aload 0 (q_aload 0 (q_getI 12 19 (q_callV 12 fX12_plain 1 (q_aload 0 (q_push 130 (q_aload 0 (q_getI 12 19 (q_imul (q_putI 12 32 (q_aload 0 (q_push 420 (q_aload 0 (q_getI 12 19 (q_imul (q_putI 12 38 kX12_read_112))))))))))))))))))))))))))))))))))))))))))
noncomputable def bX12_read_10 : zK ((zL × zS) ⊕ zR) := (q_iload 1 (q_aload 0 (q_getI 12 4 (q_icmp_ge (q_dn kX12_read_36) (q_aload 0 (q_getR 12 3 (q_iload 1 (q_aload 0 (q_getR 12 1 (q_iload 1 (q_bald (q_bast (q_iinc 1 1 q_ag)))))))))))))
noncomputable def kX12_read_10 : zK zR := q_lp (bX12_read_10)
noncomputable def kX12_read_0 : zK zR := (q_aload 0 (q_aload 0 (q_getI 12 2 (q_putI 12 4 (q_push 0 (q_istore 1 kX12_read_10))))))
set_option maxRecDepth 100000 in
theorem tX12_read_275 {l : Launch} {D : zD} {B sz0 : Nat} {post : Option Value → zS → Prop} : zSnd l D B xX12_read sz0 post 275 kX12_read_275 (z_Jr post) := (s_iconst dX12_read_275 (by decide) (s_iret dX12_read_276 rfl))
set_option maxRecDepth 100000 in
theorem tX12_read_257 {l : Launch} {D : zD} {B sz0 : Nat} {post : Option Value → zS → Prop} : zSnd l D B xX12_read sz0 post 257 kX12_read_257 (z_Jr post) := s_lp (body := bX12_read_257) (s_iload_n dX12_read_257 rfl (s_iconst dX12_read_258 (by decide) (s_icmp_ge (tgt := 275) dX12_read_259 (by decide) (s_dn tX12_read_275) (s_aload_n dX12_read_262 rfl (s_getR (f := 72) dX12_read_263 clX12 (by decide) rfl wd900 (s_iload_n dX12_read_266 rfl (s_iconst dX12_read_267 (by decide) (s_zast dX12_read_268 (s_iinc dX12_read_269 (by decide) (s_goto (tgt := 257) dX12_read_272 (by decide) s_ag))))))))))
set_option maxRecDepth 100000 in
theorem tX12_read_202 {l : Launch} {D : zD} {B sz0 : Nat} {post : Option Value → zS → Prop} : zSnd l D B xX12_read sz0 post 202 kX12_read_202 (z_Jr post) := (s_putI (f := 17) dX12_read_202 clX12 (by decide) rfl rfl rfl wd870 (s_aload_n dX12_read_205 rfl (s_getI (f := 13) dX12_read_206 clX12 (by decide) rfl wd942 (s_if_le (tgt := 217) dX12_read_209 (by decide) (s_aload_n dX12_read_217 rfl (s_getI (f := 15) dX12_read_218 clX12 (by decide) rfl wd947 (s_if_le (tgt := 229) dX12_read_221 (by decide) (s_aload_n dX12_read_229 rfl (s_aload_n dX12_read_230 rfl (s_getI (f := 19) dX12_read_231 clX12 (by decide) rfl wd969 (s_putI (f := 18) dX12_read_234 clX12 (by decide) rfl rfl rfl wd854 (s_aload_n dX12_read_237 rfl (s_callV (r := (RX12, TX12, 74)) dX12_read_238 mX12_begins meX12_begins wd907 wd908 rfl rfl reX12_begins rmX12_read (fitX12_read_238) wd909 (s_aload_n dX12_read_241 rfl (s_callV (r := (RX12, TX12, 74)) dX12_read_242 mX12_keepsRow meX12_keepsRow wd910 wd911 rfl rfl reX12_keepsRow rmX12_read (fitX12_read_242) wd912 (s_aload_n dX12_read_245 rfl (s_iconst dX12_read_246 (by decide) (s_putI (f := 52) dX12_read_247 clX12 (by decide) rfl rfl rfl wd1021 (s_aload_n dX12_read_250 rfl (s_iconst dX12_read_251 (by decide) (s_putI (f := 66) dX12_read_252 clX12 (by decide) rfl rfl rfl wd1022 (s_iconst dX12_read_255 (by decide) (s_istore_n dX12_read_256 rfl tX12_read_257)))))))))))))))) (s_aload_n dX12_read_224 rfl (s_getI (f := 15) dX12_read_225 clX12 (by decide) rfl wd947 (s_iret dX12_read_228 rfl)))))) (s_aload_n dX12_read_212 rfl (s_getI (f := 13) dX12_read_213 clX12 (by decide) rfl wd942 (s_iret dX12_read_216 rfl)))))))
set_option maxRecDepth 100000 in
theorem tX12_read_172 {l : Launch} {D : zD} {B sz0 : Nat} {post : Option Value → zS → Prop} : zSnd l D B xX12_read sz0 post 172 kX12_read_172 (z_Jr post) := (s_aload_n dX12_read_172 rfl (s_aload_n dX12_read_173 rfl (s_getI (f := 13) dX12_read_174 clX12 (by decide) rfl wd942 (s_if_le (tgt := 187) dX12_read_177 (by decide) (s_aload_n dX12_read_187 rfl (s_getI (f := 15) dX12_read_188 clX12 (by decide) rfl wd947 (s_if_le (tgt := 201) dX12_read_191 (by decide) (s_iconst dX12_read_201 (by decide) tX12_read_202) (s_aload_n dX12_read_194 rfl (s_getI (f := 16) dX12_read_195 clX12 (by decide) rfl wd948 (s_goto (tgt := 202) dX12_read_198 (by decide) tX12_read_202)))))) (s_aload_n dX12_read_180 rfl (s_getI (f := 14) dX12_read_181 clX12 (by decide) rfl wd945 (s_goto (tgt := 202) dX12_read_184 (by decide) tX12_read_202)))))))
set_option maxRecDepth 100000 in
theorem tX12_read_134 {l : Launch} {D : zD} {B sz0 : Nat} {post : Option Value → zS → Prop} : zSnd l D B xX12_read sz0 post 134 kX12_read_134 (z_Jr post) := (s_aload_n dX12_read_134 rfl (s_getI (f := 13) dX12_read_135 clX12 (by decide) rfl wd942 (s_if_ne (tgt := 172) dX12_read_138 (by decide) tX12_read_172 (s_aload_n dX12_read_141 rfl (s_getR (f := 25) dX12_read_142 clX12 (by decide) rfl wd841 (s_aload_n dX12_read_145 rfl (s_getI (f := 19) dX12_read_146 clX12 (by decide) rfl wd969 (s_iald dX12_read_149 (s_aload_n dX12_read_150 rfl (s_getR (f := 22) dX12_read_151 clX12 (by decide) rfl wd839 (s_aload_n dX12_read_154 rfl (s_getI (f := 19) dX12_read_155 clX12 (by decide) rfl wd969 (s_iald dX12_read_158 (s_icmp_lt (tgt := 172) dX12_read_159 (by decide) tX12_read_172 (s_aload_n dX12_read_162 rfl (s_bipush dX12_read_163 (by decide) (s_aload_n dX12_read_165 rfl (s_getI (f := 11) dX12_read_166 clX12 (by decide) rfl wd943 (s_callV (r := (RX12, TX12, 74)) dX12_read_169 mX12_wrong meX12_wrong wd961 wd962 rfl rfl reX12_wrong rmX12_read (fitX12_read_169) wd963 tX12_read_172)))))))))))))))))))
set_option maxRecDepth 100000 in
theorem tX12_read_112 {l : Launch} {D : zD} {B sz0 : Nat} {post : Option Value → zS → Prop} : zSnd l D B xX12_read sz0 post 112 kX12_read_112 (z_Jr post) := s_lp (body := bX12_read_112) (s_aload_n dX12_read_112 rfl (s_getI (f := 13) dX12_read_113 clX12 (by decide) rfl wd942 (s_if_ne (tgt := 134) dX12_read_116 (by decide) (s_dn tX12_read_134) (s_aload_n dX12_read_119 rfl (s_iconst dX12_read_120 (by decide) (s_callV (r := (RX12, TX12, 74)) dX12_read_121 mX12_is meX12_is wd954 wd955 rfl rfl reX12_is rmX12_read (fitX12_read_121) wd956 (s_if_ne (tgt := 134) dX12_read_124 (by decide) (s_dn tX12_read_134) (s_aload_n dX12_read_127 rfl (s_callV (r := (RX12, TX12, 74)) dX12_read_128 mX12_tellOne meX12_tellOne wd1023 wd1024 rfl rfl reX12_tellOne rmX12_read (fitX12_read_128) wd1025 (s_goto (tgt := 112) dX12_read_131 (by decide) s_ag))))))))))
set_option maxRecDepth 100000 in
theorem tX12_read_36 {l : Launch} {D : zD} {B sz0 : Nat} {post : Option Value → zS → Prop} : zSnd l D B xX12_read sz0 post 36 kX12_read_36 (z_Jr post) := (s_aload_n dX12_read_36 rfl (s_iconst dX12_read_37 (by decide) (s_putI (f := 2) dX12_read_38 clX12 (by decide) rfl rfl rfl wd914 (s_aload_n dX12_read_41 rfl (s_callV (r := (RX12, TX12, 74)) dX12_read_42 mX12_cut meX12_cut wd1018 wd1019 rfl rfl reX12_cut rmX12_read (fitX12_read_42) wd1020 (s_aload_n dX12_read_45 rfl (s_iconst dX12_read_46 (by decide) (s_putI (f := 11) dX12_read_47 clX12 (by decide) rfl rfl rfl wd943 (s_aload_n dX12_read_50 rfl (s_iconst dX12_read_51 (by decide) (s_putI (f := 12) dX12_read_52 clX12 (by decide) rfl rfl rfl wd988 (s_aload_n dX12_read_55 rfl (s_iconst dX12_read_56 (by decide) (s_putI (f := 13) dX12_read_57 clX12 (by decide) rfl rfl rfl wd942 (s_aload_n dX12_read_60 rfl (s_iconst dX12_read_61 (by decide) (s_putI (f := 15) dX12_read_62 clX12 (by decide) rfl rfl rfl wd947 (s_aload_n dX12_read_65 rfl (s_iconst dX12_read_66 (by decide) (s_aload_n dX12_read_67 rfl (s_getI (f := 18) dX12_read_68 clX12 (by decide) rfl wd854 (s_isub dX12_read_71 (s_putI (f := 19) dX12_read_72 clX12 (by decide) rfl rfl rfl wd969 (s_aload_n dX12_read_75 rfl (s_iconst dX12_read_76 (by decide) (s_putI (f := 20) dX12_read_77 clX12 (by decide) rfl rfl rfl wd978 (s_aload_n dX12_read_80 rfl (s_aload_n dX12_read_81 rfl (s_getI (f := 19) dX12_read_82 clX12 (by decide) rfl wd969 (s_callV (r := (RX12, TX12, 74)) dX12_read_85 mX12_plain meX12_plain wd902 wd903 rfl rfl reX12_plain rmX12_read (fitX12_read_85) wd904 (s_aload_n dX12_read_88 rfl (s_sipush dX12_read_89 (by decide) (s_aload_n dX12_read_92 rfl (s_getI (f := 19) dX12_read_93 clX12 (by decide) rfl wd969 (s_imul dX12_read_96 (s_putI (f := 32) dX12_read_97 clX12 (by decide) rfl rfl rfl wd996 (s_aload_n dX12_read_100 rfl (s_sipush dX12_read_101 (by decide) (s_aload_n dX12_read_104 rfl (s_getI (f := 19) dX12_read_105 clX12 (by decide) rfl wd969 (s_imul dX12_read_108 (s_putI (f := 38) dX12_read_109 clX12 (by decide) rfl rfl rfl wd980 tX12_read_112))))))))))))))))))))))))))))))))))))))))))
set_option maxRecDepth 100000 in
theorem tX12_read_10 {l : Launch} {D : zD} {B sz0 : Nat} {post : Option Value → zS → Prop} : zSnd l D B xX12_read sz0 post 10 kX12_read_10 (z_Jr post) := s_lp (body := bX12_read_10) (s_iload_n dX12_read_10 rfl (s_aload_n dX12_read_11 rfl (s_getI (f := 4) dX12_read_12 clX12 (by decide) rfl wd921 (s_icmp_ge (tgt := 36) dX12_read_15 (by decide) (s_dn tX12_read_36) (s_aload_n dX12_read_18 rfl (s_getR (f := 3) dX12_read_19 clX12 (by decide) rfl wd864 (s_iload_n dX12_read_22 rfl (s_aload_n dX12_read_23 rfl (s_getR (f := 1) dX12_read_24 clX12 (by decide) rfl wd863 (s_iload_n dX12_read_27 rfl (s_bald dX12_read_28 (s_bast dX12_read_29 (s_iinc dX12_read_30 (by decide) (s_goto (tgt := 10) dX12_read_33 (by decide) s_ag))))))))))))))
set_option maxRecDepth 100000 in
theorem tX12_read_0 {l : Launch} {D : zD} {B sz0 : Nat} {post : Option Value → zS → Prop} : zSnd l D B xX12_read sz0 post 0 kX12_read_0 (z_Jr post) := (s_aload_n dX12_read_0 rfl (s_aload_n dX12_read_1 rfl (s_getI (f := 2) dX12_read_2 clX12 (by decide) rfl wd914 (s_putI (f := 4) dX12_read_5 clX12 (by decide) rfl rfl rfl wd921 (s_iconst dX12_read_8 (by decide) (s_istore_n dX12_read_9 rfl tX12_read_10))))))
noncomputable def fX12_read : zF := z_fn 2 kX12_read_0
theorem mX12_read {l : Launch} {D : zD} {B : Nat} : z_MF l D B yX12_read xX12_read fX12_read := z_mf (by decide) rfl (fun h => by cases h) rfl (fun as σ r h => ⟨z_fn_len h, kX12_read_0, z_fn_run h, fun _ => tX12_read_0⟩)
/-! ===== RowChildrenModel.place ===== -/
theorem dX12_place_0 : decode cX12_place 0 = .ok (.aload_n 0, 1) := by decide +kernel
theorem dX12_place_1 : decode cX12_place 1 = .ok (.getfield 37, 3) := by decide +kernel
theorem dX12_place_4 : decode cX12_place 4 = .ok (.ireturn, 1) := by decide +kernel
def xX12_place : zX := (RX12, cX12_place, 1, (some .int), false, { frames := 1, cells := 0, slots := 0, locals := 90 }, 0, 0, 0, 0)
theorem rmX12_place : z_Rm xX12_place := by unfold z_Rm xX12_place; exact ⟨by decide, by decide⟩
theorem reX12_place : z_Re xX12_place := ⟨rfl, rfl⟩
theorem rlX12_place : 1 ≤ xX12_place.2.2.2.2.2.1.frames ∧ 21 ≤ xX12_place.2.2.2.2.2.1.locals := by unfold xX12_place; exact ⟨by decide, by decide⟩
theorem meX12_place : z_Me yX12_place xX12_place 0 := ⟨wd1027, wd848, by decide, by decide, by decide +kernel⟩
noncomputable def kX12_place_0 : zK zR := (q_aload 0 (q_getI 12 17 q_iret))
set_option maxRecDepth 100000 in
theorem tX12_place_0 {l : Launch} {D : zD} {B sz0 : Nat} {post : Option Value → zS → Prop} : zSnd l D B xX12_place sz0 post 0 kX12_place_0 (z_Jr post) := (s_aload_n dX12_place_0 rfl (s_getI (f := 17) dX12_place_1 clX12 (by decide) rfl wd870 (s_iret dX12_place_4 rfl)))
noncomputable def fX12_place : zF := z_fn 1 kX12_place_0
theorem mX12_place {l : Launch} {D : zD} {B : Nat} : z_MF l D B yX12_place xX12_place fX12_place := z_mf (by decide) rfl (fun h => by cases h) rfl (fun as σ r h => ⟨z_fn_len h, kX12_place_0, z_fn_run h, fun _ => tX12_place_0⟩)
/-! ===== RowChildrenModel.termOf ===== -/
theorem dX12_termOf_0 : decode cX12_termOf 0 = .ok (.iconst 0, 1) := by decide +kernel
theorem dX12_termOf_1 : decode cX12_termOf 1 = .ok (.istore_n 3, 1) := by decide +kernel
theorem dX12_termOf_2 : decode cX12_termOf 2 = .ok (.iload_n 1, 1) := by decide +kernel
theorem dX12_termOf_3 : decode cX12_termOf 3 = .ok (.istore 4, 2) := by decide +kernel
theorem dX12_termOf_5 : decode cX12_termOf 5 = .ok (.iload 4, 2) := by decide +kernel
theorem dX12_termOf_7 : decode cX12_termOf 7 = .ok (.iload_n 2, 1) := by decide +kernel
theorem dX12_termOf_8 : decode cX12_termOf 8 = .ok (.if_icmp .ge 157, 3) := by decide +kernel
theorem dX12_termOf_11 : decode cX12_termOf 11 = .ok (.aload_n 0, 1) := by decide +kernel
theorem dX12_termOf_12 : decode cX12_termOf 12 = .ok (.getfield 89, 3) := by decide +kernel
theorem dX12_termOf_15 : decode cX12_termOf 15 = .ok (.iload 4, 2) := by decide +kernel
theorem dX12_termOf_17 : decode cX12_termOf 17 = .ok (.iaload, 1) := by decide +kernel
theorem dX12_termOf_18 : decode cX12_termOf 18 = .ok (.istore 5, 2) := by decide +kernel
theorem dX12_termOf_20 : decode cX12_termOf 20 = .ok (.iload 5, 2) := by decide +kernel
theorem dX12_termOf_22 : decode cX12_termOf 22 = .ok (.iconst 2, 1) := by decide +kernel
theorem dX12_termOf_23 : decode cX12_termOf 23 = .ok (.if_icmp .ge 42, 3) := by decide +kernel
theorem dX12_termOf_26 : decode cX12_termOf 26 = .ok (.aload_n 0, 1) := by decide +kernel
theorem dX12_termOf_27 : decode cX12_termOf 27 = .ok (.getfield 101, 3) := by decide +kernel
theorem dX12_termOf_30 : decode cX12_termOf 30 = .ok (.iload_n 3, 1) := by decide +kernel
theorem dX12_termOf_31 : decode cX12_termOf 31 = .ok (.iload 5, 2) := by decide +kernel
theorem dX12_termOf_33 : decode cX12_termOf 33 = .ok (.ifCond .ne 13, 3) := by decide +kernel
theorem dX12_termOf_36 : decode cX12_termOf 36 = .ok (.aload_n 0, 1) := by decide +kernel
theorem dX12_termOf_37 : decode cX12_termOf 37 = .ok (.getfield 92, 3) := by decide +kernel
theorem dX12_termOf_40 : decode cX12_termOf 40 = .ok (.iload 4, 2) := by decide +kernel
theorem dX12_termOf_42 : decode cX12_termOf 42 = .ok (.iaload, 1) := by decide +kernel
theorem dX12_termOf_43 : decode cX12_termOf 43 = .ok (.goto 15, 3) := by decide +kernel
theorem dX12_termOf_46 : decode cX12_termOf 46 = .ok (.aload_n 0, 1) := by decide +kernel
theorem dX12_termOf_47 : decode cX12_termOf 47 = .ok (.getfield 98, 3) := by decide +kernel
theorem dX12_termOf_50 : decode cX12_termOf 50 = .ok (.aload_n 0, 1) := by decide +kernel
theorem dX12_termOf_51 : decode cX12_termOf 51 = .ok (.getfield 92, 3) := by decide +kernel
theorem dX12_termOf_54 : decode cX12_termOf 54 = .ok (.iload 4, 2) := by decide +kernel
theorem dX12_termOf_56 : decode cX12_termOf 56 = .ok (.iaload, 1) := by decide +kernel
theorem dX12_termOf_57 : decode cX12_termOf 57 = .ok (.iaload, 1) := by decide +kernel
theorem dX12_termOf_58 : decode cX12_termOf 58 = .ok (.iastore, 1) := by decide +kernel
theorem dX12_termOf_59 : decode cX12_termOf 59 = .ok (.iinc 3 1, 3) := by decide +kernel
theorem dX12_termOf_62 : decode cX12_termOf 62 = .ok (.goto 97, 3) := by decide +kernel
theorem dX12_termOf_65 : decode cX12_termOf 65 = .ok (.iinc 3 (-1), 3) := by decide +kernel
theorem dX12_termOf_68 : decode cX12_termOf 68 = .ok (.aload_n 0, 1) := by decide +kernel
theorem dX12_termOf_69 : decode cX12_termOf 69 = .ok (.getfield 101, 3) := by decide +kernel
theorem dX12_termOf_72 : decode cX12_termOf 72 = .ok (.iload_n 3, 1) := by decide +kernel
theorem dX12_termOf_73 : decode cX12_termOf 73 = .ok (.iconst 1, 1) := by decide +kernel
theorem dX12_termOf_74 : decode cX12_termOf 74 = .ok (.isub, 1) := by decide +kernel
theorem dX12_termOf_75 : decode cX12_termOf 75 = .ok (.iaload, 1) := by decide +kernel
theorem dX12_termOf_76 : decode cX12_termOf 76 = .ok (.istore 6, 2) := by decide +kernel
theorem dX12_termOf_78 : decode cX12_termOf 78 = .ok (.aload_n 0, 1) := by decide +kernel
theorem dX12_termOf_79 : decode cX12_termOf 79 = .ok (.getfield 101, 3) := by decide +kernel
theorem dX12_termOf_82 : decode cX12_termOf 82 = .ok (.iload_n 3, 1) := by decide +kernel
theorem dX12_termOf_83 : decode cX12_termOf 83 = .ok (.iaload, 1) := by decide +kernel
theorem dX12_termOf_84 : decode cX12_termOf 84 = .ok (.istore 7, 2) := by decide +kernel
theorem dX12_termOf_86 : decode cX12_termOf 86 = .ok (.iload 5, 2) := by decide +kernel
theorem dX12_termOf_88 : decode cX12_termOf 88 = .ok (.iconst 5, 1) := by decide +kernel
theorem dX12_termOf_89 : decode cX12_termOf 89 = .ok (.if_icmp .ne 15, 3) := by decide +kernel
theorem dX12_termOf_92 : decode cX12_termOf 92 = .ok (.iload 7, 2) := by decide +kernel
theorem dX12_termOf_94 : decode cX12_termOf 94 = .ok (.ifCond .ne 10, 3) := by decide +kernel
theorem dX12_termOf_97 : decode cX12_termOf 97 = .ok (.aload_n 0, 1) := by decide +kernel
theorem dX12_termOf_98 : decode cX12_termOf 98 = .ok (.iconst 1, 1) := by decide +kernel
theorem dX12_termOf_99 : decode cX12_termOf 99 = .ok (.putfield 319, 3) := by decide +kernel
theorem dX12_termOf_102 : decode cX12_termOf 102 = .ok (.iconst 0, 1) := by decide +kernel
theorem dX12_termOf_103 : decode cX12_termOf 103 = .ok (.ireturn, 1) := by decide +kernel
theorem dX12_termOf_104 : decode cX12_termOf 104 = .ok (.aload_n 0, 1) := by decide +kernel
theorem dX12_termOf_105 : decode cX12_termOf 105 = .ok (.getfield 101, 3) := by decide +kernel
theorem dX12_termOf_108 : decode cX12_termOf 108 = .ok (.iload_n 3, 1) := by decide +kernel
theorem dX12_termOf_109 : decode cX12_termOf 109 = .ok (.iconst 1, 1) := by decide +kernel
theorem dX12_termOf_110 : decode cX12_termOf 110 = .ok (.isub, 1) := by decide +kernel
theorem dX12_termOf_111 : decode cX12_termOf 111 = .ok (.iload 5, 2) := by decide +kernel
theorem dX12_termOf_113 : decode cX12_termOf 113 = .ok (.iconst 2, 1) := by decide +kernel
theorem dX12_termOf_114 : decode cX12_termOf 114 = .ok (.if_icmp .ne 11, 3) := by decide +kernel
theorem dX12_termOf_117 : decode cX12_termOf 117 = .ok (.iload 6, 2) := by decide +kernel
theorem dX12_termOf_119 : decode cX12_termOf 119 = .ok (.iload 7, 2) := by decide +kernel
theorem dX12_termOf_121 : decode cX12_termOf 121 = .ok (.iadd, 1) := by decide +kernel
theorem dX12_termOf_122 : decode cX12_termOf 122 = .ok (.goto 36, 3) := by decide +kernel
theorem dX12_termOf_125 : decode cX12_termOf 125 = .ok (.iload 5, 2) := by decide +kernel
theorem dX12_termOf_127 : decode cX12_termOf 127 = .ok (.iconst 3, 1) := by decide +kernel
theorem dX12_termOf_128 : decode cX12_termOf 128 = .ok (.if_icmp .ne 11, 3) := by decide +kernel
theorem dX12_termOf_131 : decode cX12_termOf 131 = .ok (.iload 6, 2) := by decide +kernel
theorem dX12_termOf_133 : decode cX12_termOf 133 = .ok (.iload 7, 2) := by decide +kernel
theorem dX12_termOf_135 : decode cX12_termOf 135 = .ok (.isub, 1) := by decide +kernel
theorem dX12_termOf_136 : decode cX12_termOf 136 = .ok (.goto 22, 3) := by decide +kernel
theorem dX12_termOf_139 : decode cX12_termOf 139 = .ok (.iload 5, 2) := by decide +kernel
theorem dX12_termOf_141 : decode cX12_termOf 141 = .ok (.iconst 4, 1) := by decide +kernel
theorem dX12_termOf_142 : decode cX12_termOf 142 = .ok (.if_icmp .ne 11, 3) := by decide +kernel
theorem dX12_termOf_145 : decode cX12_termOf 145 = .ok (.iload 6, 2) := by decide +kernel
theorem dX12_termOf_147 : decode cX12_termOf 147 = .ok (.iload 7, 2) := by decide +kernel
theorem dX12_termOf_149 : decode cX12_termOf 149 = .ok (.imul, 1) := by decide +kernel
theorem dX12_termOf_150 : decode cX12_termOf 150 = .ok (.goto 8, 3) := by decide +kernel
theorem dX12_termOf_153 : decode cX12_termOf 153 = .ok (.iload 6, 2) := by decide +kernel
theorem dX12_termOf_155 : decode cX12_termOf 155 = .ok (.iload 7, 2) := by decide +kernel
theorem dX12_termOf_157 : decode cX12_termOf 157 = .ok (.idiv, 1) := by decide +kernel
theorem dX12_termOf_158 : decode cX12_termOf 158 = .ok (.iastore, 1) := by decide +kernel
theorem dX12_termOf_159 : decode cX12_termOf 159 = .ok (.iinc 4 1, 3) := by decide +kernel
theorem dX12_termOf_162 : decode cX12_termOf 162 = .ok (.goto (-157), 3) := by decide +kernel
theorem dX12_termOf_165 : decode cX12_termOf 165 = .ok (.aload_n 0, 1) := by decide +kernel
theorem dX12_termOf_166 : decode cX12_termOf 166 = .ok (.getfield 101, 3) := by decide +kernel
theorem dX12_termOf_169 : decode cX12_termOf 169 = .ok (.iconst 0, 1) := by decide +kernel
theorem dX12_termOf_170 : decode cX12_termOf 170 = .ok (.iaload, 1) := by decide +kernel
theorem dX12_termOf_171 : decode cX12_termOf 171 = .ok (.ireturn, 1) := by decide +kernel
def xX12_termOf : zX := (RX12, cX12_termOf, 8, (some .int), false, { frames := 1, cells := 0, slots := 0, locals := 90 }, 0, 0, 0, 0)
theorem rmX12_termOf : z_Rm xX12_termOf := by unfold z_Rm xX12_termOf; exact ⟨by decide, by decide⟩
theorem reX12_termOf : z_Re xX12_termOf := ⟨rfl, rfl⟩
theorem rlX12_termOf : 1 ≤ xX12_termOf.2.2.2.2.2.1.frames ∧ 21 ≤ xX12_termOf.2.2.2.2.2.1.locals := by unfold xX12_termOf; exact ⟨by decide, by decide⟩
theorem meX12_termOf : z_Me yX12_termOf xX12_termOf 2 := ⟨wd1029, wd848, by decide, by decide, by decide +kernel⟩
noncomputable def kX12_termOf_165 : zK zR := (q_aload 0 (q_getR 12 44 (q_push 0 (q_iald q_iret))))
noncomputable def kX12_termOf_159 : zK ((zL × zS) ⊕ zR) := (q_iinc 4 1 q_ag)
noncomputable def kX12_termOf_158 : zK ((zL × zS) ⊕ zR) := (q_iast kX12_termOf_159)
noncomputable def kX12_termOf_104 : zK ((zL × zS) ⊕ zR) := (q_aload 0 (q_getR 12 44 (q_iload 3 (q_push 1 (q_isub (q_iload 5 (q_push 2 (q_icmp_ne (q_iload 5 (q_push 3 (q_icmp_ne (q_iload 5 (q_push 4 (q_icmp_ne (q_iload 6 (q_iload 7 (q_idiv kX12_termOf_158))) (q_iload 6 (q_iload 7 (q_imul kX12_termOf_158)))))) (q_iload 6 (q_iload 7 (q_isub kX12_termOf_158)))))) (q_iload 6 (q_iload 7 (q_iadd kX12_termOf_158)))))))))))
noncomputable def kX12_termOf_97 : zK zR := (q_aload 0 (q_push 1 (q_putZ 12 45 (q_push 0 q_iret))))
noncomputable def kX12_termOf_58 : zK ((zL × zS) ⊕ zR) := (q_iast (q_iinc 3 1 kX12_termOf_159))
noncomputable def bX12_termOf_5 : zK ((zL × zS) ⊕ zR) := (q_iload 4 (q_iload 2 (q_icmp_ge (q_dn kX12_termOf_165) (q_aload 0 (q_getR 12 39 (q_iload 4 (q_iald (q_istore 5 (q_iload 5 (q_push 2 (q_icmp_ge (q_iinc 3 (-1) (q_aload 0 (q_getR 12 44 (q_iload 3 (q_push 1 (q_isub (q_iald (q_istore 6 (q_aload 0 (q_getR 12 44 (q_iload 3 (q_iald (q_istore 7 (q_iload 5 (q_push 5 (q_icmp_ne kX12_termOf_104 (q_iload 7 (q_if_ne kX12_termOf_104 (q_dn kX12_termOf_97))))))))))))))))))) (q_aload 0 (q_getR 12 44 (q_iload 3 (q_iload 5 (q_if_ne (q_aload 0 (q_getR 12 43 (q_aload 0 (q_getR 12 40 (q_iload 4 (q_iald (q_iald kX12_termOf_58))))))) (q_aload 0 (q_getR 12 40 (q_iload 4 (q_iald kX12_termOf_58))))))))))))))))))))
noncomputable def kX12_termOf_5 : zK zR := q_lp (bX12_termOf_5)
noncomputable def kX12_termOf_0 : zK zR := (q_push 0 (q_istore 3 (q_iload 1 (q_istore 4 kX12_termOf_5))))
set_option maxRecDepth 100000 in
theorem tX12_termOf_165 {l : Launch} {D : zD} {B sz0 : Nat} {post : Option Value → zS → Prop} : zSnd l D B xX12_termOf sz0 post 165 kX12_termOf_165 (z_Jr post) := (s_aload_n dX12_termOf_165 rfl (s_getR (f := 44) dX12_termOf_166 clX12 (by decide) rfl wd881 (s_iconst dX12_termOf_169 (by decide) (s_iald dX12_termOf_170 (s_iret dX12_termOf_171 rfl)))))
set_option maxRecDepth 100000 in
theorem tX12_termOf_159 {l : Launch} {D : zD} {B sz0 : Nat} {post : Option Value → zS → Prop} : zSnd l D B xX12_termOf sz0 post 159 kX12_termOf_159 (z_Jl l D B xX12_termOf sz0 post 5 (z_Jr post)) := (s_iinc dX12_termOf_159 (by decide) (s_goto (tgt := 5) dX12_termOf_162 (by decide) s_ag))
set_option maxRecDepth 100000 in
theorem tX12_termOf_158 {l : Launch} {D : zD} {B sz0 : Nat} {post : Option Value → zS → Prop} : zSnd l D B xX12_termOf sz0 post 158 kX12_termOf_158 (z_Jl l D B xX12_termOf sz0 post 5 (z_Jr post)) := (s_iast dX12_termOf_158 tX12_termOf_159)
set_option maxRecDepth 100000 in
theorem tX12_termOf_104 {l : Launch} {D : zD} {B sz0 : Nat} {post : Option Value → zS → Prop} : zSnd l D B xX12_termOf sz0 post 104 kX12_termOf_104 (z_Jl l D B xX12_termOf sz0 post 5 (z_Jr post)) := (s_aload_n dX12_termOf_104 rfl (s_getR (f := 44) dX12_termOf_105 clX12 (by decide) rfl wd881 (s_iload_n dX12_termOf_108 rfl (s_iconst dX12_termOf_109 (by decide) (s_isub dX12_termOf_110 (s_iload dX12_termOf_111 (s_iconst dX12_termOf_113 (by decide) (s_icmp_ne (tgt := 125) dX12_termOf_114 (by decide) (s_iload dX12_termOf_125 (s_iconst dX12_termOf_127 (by decide) (s_icmp_ne (tgt := 139) dX12_termOf_128 (by decide) (s_iload dX12_termOf_139 (s_iconst dX12_termOf_141 (by decide) (s_icmp_ne (tgt := 153) dX12_termOf_142 (by decide) (s_iload dX12_termOf_153 (s_iload dX12_termOf_155 (s_idiv dX12_termOf_157 tX12_termOf_158))) (s_iload dX12_termOf_145 (s_iload dX12_termOf_147 (s_imul dX12_termOf_149 (s_goto (tgt := 158) dX12_termOf_150 (by decide) tX12_termOf_158))))))) (s_iload dX12_termOf_131 (s_iload dX12_termOf_133 (s_isub dX12_termOf_135 (s_goto (tgt := 158) dX12_termOf_136 (by decide) tX12_termOf_158))))))) (s_iload dX12_termOf_117 (s_iload dX12_termOf_119 (s_iadd dX12_termOf_121 (s_goto (tgt := 158) dX12_termOf_122 (by decide) tX12_termOf_158))))))))))))
set_option maxRecDepth 100000 in
theorem tX12_termOf_97 {l : Launch} {D : zD} {B sz0 : Nat} {post : Option Value → zS → Prop} : zSnd l D B xX12_termOf sz0 post 97 kX12_termOf_97 (z_Jr post) := (s_aload_n dX12_termOf_97 rfl (s_iconst dX12_termOf_98 (by decide) (s_putZ (f := 45) dX12_termOf_99 clX12 (by decide) rfl rfl rfl wd1028 (s_iconst dX12_termOf_102 (by decide) (s_iret dX12_termOf_103 rfl)))))
set_option maxRecDepth 100000 in
theorem tX12_termOf_58 {l : Launch} {D : zD} {B sz0 : Nat} {post : Option Value → zS → Prop} : zSnd l D B xX12_termOf sz0 post 58 kX12_termOf_58 (z_Jl l D B xX12_termOf sz0 post 5 (z_Jr post)) := (s_iast dX12_termOf_58 (s_iinc dX12_termOf_59 (by decide) (s_goto (tgt := 159) dX12_termOf_62 (by decide) tX12_termOf_159)))
set_option maxRecDepth 100000 in
theorem tX12_termOf_5 {l : Launch} {D : zD} {B sz0 : Nat} {post : Option Value → zS → Prop} : zSnd l D B xX12_termOf sz0 post 5 kX12_termOf_5 (z_Jr post) := s_lp (body := bX12_termOf_5) (s_iload dX12_termOf_5 (s_iload_n dX12_termOf_7 rfl (s_icmp_ge (tgt := 165) dX12_termOf_8 (by decide) (s_dn tX12_termOf_165) (s_aload_n dX12_termOf_11 rfl (s_getR (f := 39) dX12_termOf_12 clX12 (by decide) rfl wd877 (s_iload dX12_termOf_15 (s_iald dX12_termOf_17 (s_istore dX12_termOf_18 (s_iload dX12_termOf_20 (s_iconst dX12_termOf_22 (by decide) (s_icmp_ge (tgt := 65) dX12_termOf_23 (by decide) (s_iinc dX12_termOf_65 (by decide) (s_aload_n dX12_termOf_68 rfl (s_getR (f := 44) dX12_termOf_69 clX12 (by decide) rfl wd881 (s_iload_n dX12_termOf_72 rfl (s_iconst dX12_termOf_73 (by decide) (s_isub dX12_termOf_74 (s_iald dX12_termOf_75 (s_istore dX12_termOf_76 (s_aload_n dX12_termOf_78 rfl (s_getR (f := 44) dX12_termOf_79 clX12 (by decide) rfl wd881 (s_iload_n dX12_termOf_82 rfl (s_iald dX12_termOf_83 (s_istore dX12_termOf_84 (s_iload dX12_termOf_86 (s_iconst dX12_termOf_88 (by decide) (s_icmp_ne (tgt := 104) dX12_termOf_89 (by decide) tX12_termOf_104 (s_iload dX12_termOf_92 (s_if_ne (tgt := 104) dX12_termOf_94 (by decide) tX12_termOf_104 (s_dn tX12_termOf_97))))))))))))))))))) (s_aload_n dX12_termOf_26 rfl (s_getR (f := 44) dX12_termOf_27 clX12 (by decide) rfl wd881 (s_iload_n dX12_termOf_30 rfl (s_iload dX12_termOf_31 (s_if_ne (tgt := 46) dX12_termOf_33 (by decide) (s_aload_n dX12_termOf_46 rfl (s_getR (f := 43) dX12_termOf_47 clX12 (by decide) rfl wd880 (s_aload_n dX12_termOf_50 rfl (s_getR (f := 40) dX12_termOf_51 clX12 (by decide) rfl wd878 (s_iload dX12_termOf_54 (s_iald dX12_termOf_56 (s_iald dX12_termOf_57 tX12_termOf_58))))))) (s_aload_n dX12_termOf_36 rfl (s_getR (f := 40) dX12_termOf_37 clX12 (by decide) rfl wd878 (s_iload dX12_termOf_40 (s_iald dX12_termOf_42 (s_goto (tgt := 58) dX12_termOf_43 (by decide) tX12_termOf_58)))))))))))))))))))))
set_option maxRecDepth 100000 in
theorem tX12_termOf_0 {l : Launch} {D : zD} {B sz0 : Nat} {post : Option Value → zS → Prop} : zSnd l D B xX12_termOf sz0 post 0 kX12_termOf_0 (z_Jr post) := (s_iconst dX12_termOf_0 (by decide) (s_istore_n dX12_termOf_1 rfl (s_iload_n dX12_termOf_2 rfl (s_istore dX12_termOf_3 tX12_termOf_5))))
noncomputable def fX12_termOf : zF := z_fn 8 kX12_termOf_0
theorem mX12_termOf {l : Launch} {D : zD} {B : Nat} : z_MF l D B yX12_termOf xX12_termOf fX12_termOf := z_mf (by decide) rfl (fun h => by cases h) rfl (fun as σ r h => ⟨z_fn_len h, kX12_termOf_0, z_fn_run h, fun _ => tX12_termOf_0⟩)
/-! ===== RowChildrenModel.in ===== -/
theorem dX12_in_0 : decode cX12_in 0 = .ok (.iload_n 0, 1) := by decide +kernel
theorem dX12_in_1 : decode cX12_in 1 = .ok (.iload_n 1, 1) := by decide +kernel
theorem dX12_in_2 : decode cX12_in 2 = .ok (.if_icmp .lt 12, 3) := by decide +kernel
theorem dX12_in_5 : decode cX12_in 5 = .ok (.iload_n 0, 1) := by decide +kernel
theorem dX12_in_6 : decode cX12_in 6 = .ok (.iload_n 2, 1) := by decide +kernel
theorem dX12_in_7 : decode cX12_in 7 = .ok (.if_icmp .gt 7, 3) := by decide +kernel
theorem dX12_in_10 : decode cX12_in 10 = .ok (.iconst 1, 1) := by decide +kernel
theorem dX12_in_11 : decode cX12_in 11 = .ok (.goto 4, 3) := by decide +kernel
theorem dX12_in_14 : decode cX12_in 14 = .ok (.iconst 0, 1) := by decide +kernel
theorem dX12_in_15 : decode cX12_in 15 = .ok (.ireturn, 1) := by decide +kernel
def xX12_in : zX := (RX12, cX12_in, 3, (some .boolean), false, { frames := 1, cells := 0, slots := 0, locals := 90 }, 0, 0, 0, 0)
theorem rmX12_in : z_Rm xX12_in := by unfold z_Rm xX12_in; exact ⟨by decide, by decide⟩
theorem reX12_in : z_Re xX12_in := ⟨rfl, rfl⟩
theorem rlX12_in : 1 ≤ xX12_in.2.2.2.2.2.1.frames ∧ 21 ≤ xX12_in.2.2.2.2.2.1.locals := by unfold xX12_in; exact ⟨by decide, by decide⟩
theorem meX12_in : z_Me yX12_in xX12_in 3 := ⟨wd1030, wd848, by decide, by decide, by decide +kernel⟩
noncomputable def kX12_in_15 : zK zR := q_zret
noncomputable def kX12_in_14 : zK zR := (q_push 0 kX12_in_15)
noncomputable def kX12_in_0 : zK zR := (q_iload 0 (q_iload 1 (q_icmp_lt kX12_in_14 (q_iload 0 (q_iload 2 (q_icmp_gt kX12_in_14 (q_push 1 kX12_in_15)))))))
set_option maxRecDepth 100000 in
theorem tX12_in_15 {l : Launch} {D : zD} {B sz0 : Nat} {post : Option Value → zS → Prop} : zSnd l D B xX12_in sz0 post 15 kX12_in_15 (z_Jr post) := (s_zret dX12_in_15 rfl)
set_option maxRecDepth 100000 in
theorem tX12_in_14 {l : Launch} {D : zD} {B sz0 : Nat} {post : Option Value → zS → Prop} : zSnd l D B xX12_in sz0 post 14 kX12_in_14 (z_Jr post) := (s_iconst dX12_in_14 (by decide) tX12_in_15)
set_option maxRecDepth 100000 in
theorem tX12_in_0 {l : Launch} {D : zD} {B sz0 : Nat} {post : Option Value → zS → Prop} : zSnd l D B xX12_in sz0 post 0 kX12_in_0 (z_Jr post) := (s_iload_n dX12_in_0 rfl (s_iload_n dX12_in_1 rfl (s_icmp_lt (tgt := 14) dX12_in_2 (by decide) tX12_in_14 (s_iload_n dX12_in_5 rfl (s_iload_n dX12_in_6 rfl (s_icmp_gt (tgt := 14) dX12_in_7 (by decide) tX12_in_14 (s_iconst dX12_in_10 (by decide) (s_goto (tgt := 15) dX12_in_11 (by decide) tX12_in_15))))))))
noncomputable def fX12_in : zF := z_fn 3 kX12_in_0
theorem mX12_in {l : Launch} {D : zD} {B : Nat} : z_MF l D B yX12_in xX12_in fX12_in := z_mf (by decide) rfl (fun h => by cases h) rfl (fun as σ r h => ⟨z_fn_len h, kX12_in_0, z_fn_run h, fun _ => tX12_in_0⟩)
/-! ===== RowChildrenModel.within ===== -/
theorem dX12_within_0 : decode cX12_within 0 = .ok (.iload_n 0, 1) := by decide +kernel
theorem dX12_within_1 : decode cX12_within 1 = .ok (.iload_n 1, 1) := by decide +kernel
theorem dX12_within_2 : decode cX12_within 2 = .ok (.if_icmp .ge 7, 3) := by decide +kernel
theorem dX12_within_5 : decode cX12_within 5 = .ok (.iload_n 1, 1) := by decide +kernel
theorem dX12_within_6 : decode cX12_within 6 = .ok (.goto 13, 3) := by decide +kernel
theorem dX12_within_9 : decode cX12_within 9 = .ok (.iload_n 0, 1) := by decide +kernel
theorem dX12_within_10 : decode cX12_within 10 = .ok (.iload_n 2, 1) := by decide +kernel
theorem dX12_within_11 : decode cX12_within 11 = .ok (.if_icmp .le 7, 3) := by decide +kernel
theorem dX12_within_14 : decode cX12_within 14 = .ok (.iload_n 2, 1) := by decide +kernel
theorem dX12_within_15 : decode cX12_within 15 = .ok (.goto 4, 3) := by decide +kernel
theorem dX12_within_18 : decode cX12_within 18 = .ok (.iload_n 0, 1) := by decide +kernel
theorem dX12_within_19 : decode cX12_within 19 = .ok (.ireturn, 1) := by decide +kernel
def xX12_within : zX := (RX12, cX12_within, 3, (some .int), false, { frames := 1, cells := 0, slots := 0, locals := 90 }, 0, 0, 0, 0)
theorem rmX12_within : z_Rm xX12_within := by unfold z_Rm xX12_within; exact ⟨by decide, by decide⟩
theorem reX12_within : z_Re xX12_within := ⟨rfl, rfl⟩
theorem rlX12_within : 1 ≤ xX12_within.2.2.2.2.2.1.frames ∧ 21 ≤ xX12_within.2.2.2.2.2.1.locals := by unfold xX12_within; exact ⟨by decide, by decide⟩
theorem meX12_within : z_Me yX12_within xX12_within 3 := ⟨wd1031, wd848, by decide, by decide, by decide +kernel⟩
noncomputable def kX12_within_19 : zK zR := q_iret
noncomputable def kX12_within_0 : zK zR := (q_iload 0 (q_iload 1 (q_icmp_ge (q_iload 0 (q_iload 2 (q_icmp_le (q_iload 0 kX12_within_19) (q_iload 2 kX12_within_19)))) (q_iload 1 kX12_within_19))))
set_option maxRecDepth 100000 in
theorem tX12_within_19 {l : Launch} {D : zD} {B sz0 : Nat} {post : Option Value → zS → Prop} : zSnd l D B xX12_within sz0 post 19 kX12_within_19 (z_Jr post) := (s_iret dX12_within_19 rfl)
set_option maxRecDepth 100000 in
theorem tX12_within_0 {l : Launch} {D : zD} {B sz0 : Nat} {post : Option Value → zS → Prop} : zSnd l D B xX12_within sz0 post 0 kX12_within_0 (z_Jr post) := (s_iload_n dX12_within_0 rfl (s_iload_n dX12_within_1 rfl (s_icmp_ge (tgt := 9) dX12_within_2 (by decide) (s_iload_n dX12_within_9 rfl (s_iload_n dX12_within_10 rfl (s_icmp_le (tgt := 18) dX12_within_11 (by decide) (s_iload_n dX12_within_18 rfl tX12_within_19) (s_iload_n dX12_within_14 rfl (s_goto (tgt := 19) dX12_within_15 (by decide) tX12_within_19))))) (s_iload_n dX12_within_5 rfl (s_goto (tgt := 19) dX12_within_6 (by decide) tX12_within_19)))))
noncomputable def fX12_within : zF := z_fn 3 kX12_within_0
theorem mX12_within {l : Launch} {D : zD} {B : Nat} : z_MF l D B yX12_within xX12_within fX12_within := z_mf (by decide) rfl (fun h => by cases h) rfl (fun as σ r h => ⟨z_fn_len h, kX12_within_0, z_fn_run h, fun _ => tX12_within_0⟩)
/-! ===== RowChildrenModel.base ===== -/
theorem dX12_base_0 : decode cX12_base 0 = .ok (.aload_n 0, 1) := by decide +kernel
theorem dX12_base_1 : decode cX12_base 1 = .ok (.getfield 43, 3) := by decide +kernel
theorem dX12_base_4 : decode cX12_base 4 = .ok (.aload_n 0, 1) := by decide +kernel
theorem dX12_base_5 : decode cX12_base 5 = .ok (.getfield 249, 3) := by decide +kernel
theorem dX12_base_8 : decode cX12_base 8 = .ok (.iaload, 1) := by decide +kernel
theorem dX12_base_9 : decode cX12_base 9 = .ok (.ireturn, 1) := by decide +kernel
def xX12_base : zX := (RX12, cX12_base, 1, (some .int), false, { frames := 1, cells := 0, slots := 0, locals := 90 }, 0, 0, 0, 0)
theorem rmX12_base : z_Rm xX12_base := by unfold z_Rm xX12_base; exact ⟨by decide, by decide⟩
theorem reX12_base : z_Re xX12_base := ⟨rfl, rfl⟩
theorem rlX12_base : 1 ≤ xX12_base.2.2.2.2.2.1.frames ∧ 21 ≤ xX12_base.2.2.2.2.2.1.locals := by unfold xX12_base; exact ⟨by decide, by decide⟩
theorem meX12_base : z_Me yX12_base xX12_base 0 := ⟨wd1032, wd848, by decide, by decide, by decide +kernel⟩
noncomputable def kX12_base_0 : zK zR := (q_aload 0 (q_getR 12 22 (q_aload 0 (q_getI 12 18 (q_iald q_iret)))))
set_option maxRecDepth 100000 in
theorem tX12_base_0 {l : Launch} {D : zD} {B sz0 : Nat} {post : Option Value → zS → Prop} : zSnd l D B xX12_base sz0 post 0 kX12_base_0 (z_Jr post) := (s_aload_n dX12_base_0 rfl (s_getR (f := 22) dX12_base_1 clX12 (by decide) rfl wd839 (s_aload_n dX12_base_4 rfl (s_getI (f := 18) dX12_base_5 clX12 (by decide) rfl wd854 (s_iald dX12_base_8 (s_iret dX12_base_9 rfl))))))
noncomputable def fX12_base : zF := z_fn 1 kX12_base_0
theorem mX12_base {l : Launch} {D : zD} {B : Nat} : z_MF l D B yX12_base xX12_base fX12_base := z_mf (by decide) rfl (fun h => by cases h) rfl (fun as σ r h => ⟨z_fn_len h, kX12_base_0, z_fn_run h, fun _ => tX12_base_0⟩)
/-! ===== RowChildrenModel.isRow ===== -/
theorem dX12_isRow_0 : decode cX12_isRow 0 = .ok (.iload_n 1, 1) := by decide +kernel
theorem dX12_isRow_1 : decode cX12_isRow 1 = .ok (.iconst 0, 1) := by decide +kernel
theorem dX12_isRow_2 : decode cX12_isRow 2 = .ok (.aload_n 0, 1) := by decide +kernel
theorem dX12_isRow_3 : decode cX12_isRow 3 = .ok (.getfield 55, 3) := by decide +kernel
theorem dX12_isRow_6 : decode cX12_isRow 6 = .ok (.aload_n 0, 1) := by decide +kernel
theorem dX12_isRow_7 : decode cX12_isRow 7 = .ok (.getfield 249, 3) := by decide +kernel
theorem dX12_isRow_10 : decode cX12_isRow 10 = .ok (.iaload, 1) := by decide +kernel
theorem dX12_isRow_11 : decode cX12_isRow 11 = .ok (.iconst 1, 1) := by decide +kernel
theorem dX12_isRow_12 : decode cX12_isRow 12 = .ok (.isub, 1) := by decide +kernel
theorem dX12_isRow_13 : decode cX12_isRow 13 = .ok (.invokestatic 323, 3) := by decide +kernel
theorem dX12_isRow_16 : decode cX12_isRow 16 = .ok (.ireturn, 1) := by decide +kernel
def xX12_isRow : zX := (RX12, cX12_isRow, 2, (some .boolean), false, { frames := 2, cells := 0, slots := 0, locals := 112 }, 0, 0, 0, 0)
theorem rmX12_isRow : z_Rm xX12_isRow := by unfold z_Rm xX12_isRow; exact ⟨by decide, by decide⟩
theorem reX12_isRow : z_Re xX12_isRow := ⟨rfl, rfl⟩
theorem rlX12_isRow : 1 ≤ xX12_isRow.2.2.2.2.2.1.frames ∧ 21 ≤ xX12_isRow.2.2.2.2.2.1.locals := by unfold xX12_isRow; exact ⟨by decide, by decide⟩
theorem meX12_isRow : z_Me yX12_isRow xX12_isRow 1 := ⟨wd1035, wd848, by decide, by decide, by decide +kernel⟩
theorem fitX12_isRow_13 : z_Fit xX12_in xX12_isRow := by unfold z_Fit; simp only [xX12_in, xX12_isRow]; exact ⟨by decide, by decide⟩
noncomputable def kX12_isRow_0 : zK zR := (q_iload 1 (q_push 0 (q_aload 0 (q_getR 12 26 (q_aload 0 (q_getI 12 18 (q_iald (q_push 1 (q_isub (q_callS fX12_in 3 q_zret))))))))))
set_option maxRecDepth 100000 in
theorem tX12_isRow_0 {l : Launch} {D : zD} {B sz0 : Nat} {post : Option Value → zS → Prop} : zSnd l D B xX12_isRow sz0 post 0 kX12_isRow_0 (z_Jr post) := (s_iload_n dX12_isRow_0 rfl (s_iconst dX12_isRow_1 (by decide) (s_aload_n dX12_isRow_2 rfl (s_getR (f := 26) dX12_isRow_3 clX12 (by decide) rfl wd842 (s_aload_n dX12_isRow_6 rfl (s_getI (f := 18) dX12_isRow_7 clX12 (by decide) rfl wd854 (s_iald dX12_isRow_10 (s_iconst dX12_isRow_11 (by decide) (s_isub dX12_isRow_12 (s_callS dX12_isRow_13 mX12_in meX12_in wd1033 rfl reX12_in rmX12_isRow (fitX12_isRow_13) wd1034 (s_zret dX12_isRow_16 rfl)))))))))))
noncomputable def fX12_isRow : zF := z_fn 2 kX12_isRow_0
theorem mX12_isRow {l : Launch} {D : zD} {B : Nat} : z_MF l D B yX12_isRow xX12_isRow fX12_isRow := z_mf (by decide) rfl (fun h => by cases h) rfl (fun as σ r h => ⟨z_fn_len h, kX12_isRow_0, z_fn_run h, fun _ => tX12_isRow_0⟩)
/-! ===== RowChildrenModel.isColour ===== -/
theorem dX12_isColour_0 : decode cX12_isColour 0 = .ok (.iload_n 1, 1) := by decide +kernel
theorem dX12_isColour_1 : decode cX12_isColour 1 = .ok (.iconst 0, 1) := by decide +kernel
theorem dX12_isColour_2 : decode cX12_isColour 2 = .ok (.aload_n 0, 1) := by decide +kernel
theorem dX12_isColour_3 : decode cX12_isColour 3 = .ok (.invokevirtual 327, 3) := by decide +kernel
theorem dX12_isColour_6 : decode cX12_isColour 6 = .ok (.iconst 1, 1) := by decide +kernel
theorem dX12_isColour_7 : decode cX12_isColour 7 = .ok (.isub, 1) := by decide +kernel
theorem dX12_isColour_8 : decode cX12_isColour 8 = .ok (.invokestatic 323, 3) := by decide +kernel
theorem dX12_isColour_11 : decode cX12_isColour 11 = .ok (.ireturn, 1) := by decide +kernel
def xX12_isColour : zX := (RX12, cX12_isColour, 2, (some .boolean), false, { frames := 2, cells := 0, slots := 0, locals := 112 }, 0, 0, 0, 0)
theorem rmX12_isColour : z_Rm xX12_isColour := by unfold z_Rm xX12_isColour; exact ⟨by decide, by decide⟩
theorem reX12_isColour : z_Re xX12_isColour := ⟨rfl, rfl⟩
theorem rlX12_isColour : 1 ≤ xX12_isColour.2.2.2.2.2.1.frames ∧ 21 ≤ xX12_isColour.2.2.2.2.2.1.locals := by unfold xX12_isColour; exact ⟨by decide, by decide⟩
theorem meX12_isColour : z_Me yX12_isColour xX12_isColour 1 := ⟨wd1039, wd848, by decide, by decide, by decide +kernel⟩
theorem fitX12_isColour_3 : z_Fit xX12_base xX12_isColour := by unfold z_Fit; simp only [xX12_base, xX12_isColour]; exact ⟨by decide, by decide⟩
theorem fitX12_isColour_8 : z_Fit xX12_in xX12_isColour := by unfold z_Fit; simp only [xX12_in, xX12_isColour]; exact ⟨by decide, by decide⟩
noncomputable def kX12_isColour_0 : zK zR := (q_iload 1 (q_push 0 (q_aload 0 (q_callV 12 fX12_base 0 (q_push 1 (q_isub (q_callS fX12_in 3 q_zret)))))))
set_option maxRecDepth 100000 in
theorem tX12_isColour_0 {l : Launch} {D : zD} {B sz0 : Nat} {post : Option Value → zS → Prop} : zSnd l D B xX12_isColour sz0 post 0 kX12_isColour_0 (z_Jr post) := (s_iload_n dX12_isColour_0 rfl (s_iconst dX12_isColour_1 (by decide) (s_aload_n dX12_isColour_2 rfl (s_callV (r := (RX12, TX12, 74)) dX12_isColour_3 mX12_base meX12_base wd1036 wd1037 rfl rfl reX12_base rmX12_isColour (fitX12_isColour_3) wd1038 (s_iconst dX12_isColour_6 (by decide) (s_isub dX12_isColour_7 (s_callS dX12_isColour_8 mX12_in meX12_in wd1033 rfl reX12_in rmX12_isColour (fitX12_isColour_8) wd1034 (s_zret dX12_isColour_11 rfl))))))))
noncomputable def fX12_isColour : zF := z_fn 2 kX12_isColour_0
theorem mX12_isColour {l : Launch} {D : zD} {B : Nat} : z_MF l D B yX12_isColour xX12_isColour fX12_isColour := z_mf (by decide) rfl (fun h => by cases h) rfl (fun as σ r h => ⟨z_fn_len h, kX12_isColour_0, z_fn_run h, fun _ => tX12_isColour_0⟩)
/-! ===== RowChildrenModel.childOf ===== -/
theorem dX12_childOf_0 : decode cX12_childOf 0 = .ok (.aload_n 0, 1) := by decide +kernel
theorem dX12_childOf_1 : decode cX12_childOf 1 = .ok (.getfield 49, 3) := by decide +kernel
theorem dX12_childOf_4 : decode cX12_childOf 4 = .ok (.bipush 16, 2) := by decide +kernel
theorem dX12_childOf_6 : decode cX12_childOf 6 = .ok (.aload_n 0, 1) := by decide +kernel
theorem dX12_childOf_7 : decode cX12_childOf 7 = .ok (.getfield 249, 3) := by decide +kernel
theorem dX12_childOf_10 : decode cX12_childOf 10 = .ok (.imul, 1) := by decide +kernel
theorem dX12_childOf_11 : decode cX12_childOf 11 = .ok (.iconst 4, 1) := by decide +kernel
theorem dX12_childOf_12 : decode cX12_childOf 12 = .ok (.iload_n 1, 1) := by decide +kernel
theorem dX12_childOf_13 : decode cX12_childOf 13 = .ok (.imul, 1) := by decide +kernel
theorem dX12_childOf_14 : decode cX12_childOf 14 = .ok (.iadd, 1) := by decide +kernel
theorem dX12_childOf_15 : decode cX12_childOf 15 = .ok (.iload_n 2, 1) := by decide +kernel
theorem dX12_childOf_16 : decode cX12_childOf 16 = .ok (.iadd, 1) := by decide +kernel
theorem dX12_childOf_17 : decode cX12_childOf 17 = .ok (.iaload, 1) := by decide +kernel
theorem dX12_childOf_18 : decode cX12_childOf 18 = .ok (.istore_n 3, 1) := by decide +kernel
theorem dX12_childOf_19 : decode cX12_childOf 19 = .ok (.iload_n 3, 1) := by decide +kernel
theorem dX12_childOf_20 : decode cX12_childOf 20 = .ok (.ifCond .lt 7, 3) := by decide +kernel
theorem dX12_childOf_23 : decode cX12_childOf 23 = .ok (.iload_n 3, 1) := by decide +kernel
theorem dX12_childOf_24 : decode cX12_childOf 24 = .ok (.goto 11, 3) := by decide +kernel
theorem dX12_childOf_27 : decode cX12_childOf 27 = .ok (.iload_n 1, 1) := by decide +kernel
theorem dX12_childOf_28 : decode cX12_childOf 28 = .ok (.iload_n 2, 1) := by decide +kernel
theorem dX12_childOf_29 : decode cX12_childOf 29 = .ok (.iadd, 1) := by decide +kernel
theorem dX12_childOf_30 : decode cX12_childOf 30 = .ok (.aload_n 0, 1) := by decide +kernel
theorem dX12_childOf_31 : decode cX12_childOf 31 = .ok (.invokevirtual 327, 3) := by decide +kernel
theorem dX12_childOf_34 : decode cX12_childOf 34 = .ok (.irem, 1) := by decide +kernel
theorem dX12_childOf_35 : decode cX12_childOf 35 = .ok (.ireturn, 1) := by decide +kernel
def xX12_childOf : zX := (RX12, cX12_childOf, 4, (some .int), false, { frames := 2, cells := 0, slots := 0, locals := 110 }, 0, 0, 0, 0)
theorem rmX12_childOf : z_Rm xX12_childOf := by unfold z_Rm xX12_childOf; exact ⟨by decide, by decide⟩
theorem reX12_childOf : z_Re xX12_childOf := ⟨rfl, rfl⟩
theorem rlX12_childOf : 1 ≤ xX12_childOf.2.2.2.2.2.1.frames ∧ 21 ≤ xX12_childOf.2.2.2.2.2.1.locals := by unfold xX12_childOf; exact ⟨by decide, by decide⟩
theorem meX12_childOf : z_Me yX12_childOf xX12_childOf 2 := ⟨wd1040, wd848, by decide, by decide, by decide +kernel⟩
theorem fitX12_childOf_31 : z_Fit xX12_base xX12_childOf := by unfold z_Fit; simp only [xX12_base, xX12_childOf]; exact ⟨by decide, by decide⟩
noncomputable def kX12_childOf_35 : zK zR := q_iret
noncomputable def kX12_childOf_0 : zK zR := (q_aload 0 (q_getR 12 24 (q_push 16 (q_aload 0 (q_getI 12 18 (q_imul (q_push 4 (q_iload 1 (q_imul (q_iadd (q_iload 2 (q_iadd (q_iald (q_istore 3 (q_iload 3 (q_if_lt (q_iload 1 (q_iload 2 (q_iadd (q_aload 0 (q_callV 12 fX12_base 0 (q_irem kX12_childOf_35)))))) (q_iload 3 kX12_childOf_35)))))))))))))))))
set_option maxRecDepth 100000 in
theorem tX12_childOf_35 {l : Launch} {D : zD} {B sz0 : Nat} {post : Option Value → zS → Prop} : zSnd l D B xX12_childOf sz0 post 35 kX12_childOf_35 (z_Jr post) := (s_iret dX12_childOf_35 rfl)
set_option maxRecDepth 100000 in
theorem tX12_childOf_0 {l : Launch} {D : zD} {B sz0 : Nat} {post : Option Value → zS → Prop} : zSnd l D B xX12_childOf sz0 post 0 kX12_childOf_0 (z_Jr post) := (s_aload_n dX12_childOf_0 rfl (s_getR (f := 24) dX12_childOf_1 clX12 (by decide) rfl wd846 (s_bipush dX12_childOf_4 (by decide) (s_aload_n dX12_childOf_6 rfl (s_getI (f := 18) dX12_childOf_7 clX12 (by decide) rfl wd854 (s_imul dX12_childOf_10 (s_iconst dX12_childOf_11 (by decide) (s_iload_n dX12_childOf_12 rfl (s_imul dX12_childOf_13 (s_iadd dX12_childOf_14 (s_iload_n dX12_childOf_15 rfl (s_iadd dX12_childOf_16 (s_iald dX12_childOf_17 (s_istore_n dX12_childOf_18 rfl (s_iload_n dX12_childOf_19 rfl (s_if_lt (tgt := 27) dX12_childOf_20 (by decide) (s_iload_n dX12_childOf_27 rfl (s_iload_n dX12_childOf_28 rfl (s_iadd dX12_childOf_29 (s_aload_n dX12_childOf_30 rfl (s_callV (r := (RX12, TX12, 74)) dX12_childOf_31 mX12_base meX12_base wd1036 wd1037 rfl rfl reX12_base rmX12_childOf (fitX12_childOf_31) wd1038 (s_irem dX12_childOf_34 tX12_childOf_35)))))) (s_iload_n dX12_childOf_23 rfl (s_goto (tgt := 35) dX12_childOf_24 (by decide) tX12_childOf_35))))))))))))))))))
noncomputable def fX12_childOf : zF := z_fn 4 kX12_childOf_0
theorem mX12_childOf {l : Launch} {D : zD} {B : Nat} : z_MF l D B yX12_childOf xX12_childOf fX12_childOf := z_mf (by decide) rfl (fun h => by cases h) rfl (fun as σ r h => ⟨z_fn_len h, kX12_childOf_0, z_fn_run h, fun _ => tX12_childOf_0⟩)
/-! ===== RowChildrenModel.seatAt ===== -/
theorem dX12_seatAt_0 : decode cX12_seatAt 0 = .ok (.aload_n 0, 1) := by decide +kernel
theorem dX12_seatAt_1 : decode cX12_seatAt 1 = .ok (.getfield 107, 3) := by decide +kernel
theorem dX12_seatAt_4 : decode cX12_seatAt 4 = .ok (.iconst 4, 1) := by decide +kernel
theorem dX12_seatAt_5 : decode cX12_seatAt 5 = .ok (.bipush 8, 2) := by decide +kernel
theorem dX12_seatAt_7 : decode cX12_seatAt 7 = .ok (.iload_n 1, 1) := by decide +kernel
theorem dX12_seatAt_8 : decode cX12_seatAt 8 = .ok (.imul, 1) := by decide +kernel
theorem dX12_seatAt_9 : decode cX12_seatAt 9 = .ok (.iadd, 1) := by decide +kernel
theorem dX12_seatAt_10 : decode cX12_seatAt 10 = .ok (.iload_n 2, 1) := by decide +kernel
theorem dX12_seatAt_11 : decode cX12_seatAt 11 = .ok (.iadd, 1) := by decide +kernel
theorem dX12_seatAt_12 : decode cX12_seatAt 12 = .ok (.iaload, 1) := by decide +kernel
theorem dX12_seatAt_13 : decode cX12_seatAt 13 = .ok (.ireturn, 1) := by decide +kernel
def xX12_seatAt : zX := (RX12, cX12_seatAt, 3, (some .int), false, { frames := 1, cells := 0, slots := 0, locals := 90 }, 0, 0, 0, 0)
theorem rmX12_seatAt : z_Rm xX12_seatAt := by unfold z_Rm xX12_seatAt; exact ⟨by decide, by decide⟩
theorem reX12_seatAt : z_Re xX12_seatAt := ⟨rfl, rfl⟩
theorem rlX12_seatAt : 1 ≤ xX12_seatAt.2.2.2.2.2.1.frames ∧ 21 ≤ xX12_seatAt.2.2.2.2.2.1.locals := by unfold xX12_seatAt; exact ⟨by decide, by decide⟩
theorem meX12_seatAt : z_Me yX12_seatAt xX12_seatAt 2 := ⟨wd1041, wd848, by decide, by decide, by decide +kernel⟩
noncomputable def kX12_seatAt_0 : zK zR := (q_aload 0 (q_getR 12 47 (q_push 4 (q_push 8 (q_iload 1 (q_imul (q_iadd (q_iload 2 (q_iadd (q_iald q_iret))))))))))
set_option maxRecDepth 100000 in
theorem tX12_seatAt_0 {l : Launch} {D : zD} {B sz0 : Nat} {post : Option Value → zS → Prop} : zSnd l D B xX12_seatAt sz0 post 0 kX12_seatAt_0 (z_Jr post) := (s_aload_n dX12_seatAt_0 rfl (s_getR (f := 47) dX12_seatAt_1 clX12 (by decide) rfl wd856 (s_iconst dX12_seatAt_4 (by decide) (s_bipush dX12_seatAt_5 (by decide) (s_iload_n dX12_seatAt_7 rfl (s_imul dX12_seatAt_8 (s_iadd dX12_seatAt_9 (s_iload_n dX12_seatAt_10 rfl (s_iadd dX12_seatAt_11 (s_iald dX12_seatAt_12 (s_iret dX12_seatAt_13 rfl)))))))))))
noncomputable def fX12_seatAt : zF := z_fn 3 kX12_seatAt_0
theorem mX12_seatAt {l : Launch} {D : zD} {B : Nat} : z_MF l D B yX12_seatAt xX12_seatAt fX12_seatAt := z_mf (by decide) rfl (fun h => by cases h) rfl (fun as σ r h => ⟨z_fn_len h, kX12_seatAt_0, z_fn_run h, fun _ => tX12_seatAt_0⟩)
/-! ===== RowChildrenModel.isSeat ===== -/
theorem dX12_isSeat_0 : decode cX12_isSeat 0 = .ok (.aload_n 0, 1) := by decide +kernel
theorem dX12_isSeat_1 : decode cX12_isSeat 1 = .ok (.iload_n 1, 1) := by decide +kernel
theorem dX12_isSeat_2 : decode cX12_isSeat 2 = .ok (.invokevirtual 330, 3) := by decide +kernel
theorem dX12_isSeat_5 : decode cX12_isSeat 5 = .ok (.ifCond .eq 23, 3) := by decide +kernel
theorem dX12_isSeat_8 : decode cX12_isSeat 8 = .ok (.iload_n 2, 1) := by decide +kernel
theorem dX12_isSeat_9 : decode cX12_isSeat 9 = .ok (.iconst 0, 1) := by decide +kernel
theorem dX12_isSeat_10 : decode cX12_isSeat 10 = .ok (.aload_n 0, 1) := by decide +kernel
theorem dX12_isSeat_11 : decode cX12_isSeat 11 = .ok (.getfield 104, 3) := by decide +kernel
theorem dX12_isSeat_14 : decode cX12_isSeat 14 = .ok (.iload_n 1, 1) := by decide +kernel
theorem dX12_isSeat_15 : decode cX12_isSeat 15 = .ok (.iaload, 1) := by decide +kernel
theorem dX12_isSeat_16 : decode cX12_isSeat 16 = .ok (.iconst 1, 1) := by decide +kernel
theorem dX12_isSeat_17 : decode cX12_isSeat 17 = .ok (.isub, 1) := by decide +kernel
theorem dX12_isSeat_18 : decode cX12_isSeat 18 = .ok (.invokestatic 323, 3) := by decide +kernel
theorem dX12_isSeat_21 : decode cX12_isSeat 21 = .ok (.ifCond .eq 7, 3) := by decide +kernel
theorem dX12_isSeat_24 : decode cX12_isSeat 24 = .ok (.iconst 1, 1) := by decide +kernel
theorem dX12_isSeat_25 : decode cX12_isSeat 25 = .ok (.goto 4, 3) := by decide +kernel
theorem dX12_isSeat_28 : decode cX12_isSeat 28 = .ok (.iconst 0, 1) := by decide +kernel
theorem dX12_isSeat_29 : decode cX12_isSeat 29 = .ok (.ireturn, 1) := by decide +kernel
def xX12_isSeat : zX := (RX12, cX12_isSeat, 3, (some .boolean), false, { frames := 3, cells := 0, slots := 0, locals := 133 }, 0, 0, 0, 0)
theorem rmX12_isSeat : z_Rm xX12_isSeat := by unfold z_Rm xX12_isSeat; exact ⟨by decide, by decide⟩
theorem reX12_isSeat : z_Re xX12_isSeat := ⟨rfl, rfl⟩
theorem rlX12_isSeat : 1 ≤ xX12_isSeat.2.2.2.2.2.1.frames ∧ 21 ≤ xX12_isSeat.2.2.2.2.2.1.locals := by unfold xX12_isSeat; exact ⟨by decide, by decide⟩
theorem meX12_isSeat : z_Me yX12_isSeat xX12_isSeat 2 := ⟨wd1045, wd848, by decide, by decide, by decide +kernel⟩
theorem fitX12_isSeat_2 : z_Fit xX12_isRow xX12_isSeat := by unfold z_Fit; simp only [xX12_isRow, xX12_isSeat]; exact ⟨by decide, by decide⟩
theorem fitX12_isSeat_18 : z_Fit xX12_in xX12_isSeat := by unfold z_Fit; simp only [xX12_in, xX12_isSeat]; exact ⟨by decide, by decide⟩
noncomputable def kX12_isSeat_29 : zK zR := q_zret
noncomputable def kX12_isSeat_28 : zK zR := (q_push 0 kX12_isSeat_29)
noncomputable def kX12_isSeat_0 : zK zR := (q_aload 0 (q_iload 1 (q_callV 12 fX12_isRow 1 (q_if_eq kX12_isSeat_28 (q_iload 2 (q_push 0 (q_aload 0 (q_getR 12 46 (q_iload 1 (q_iald (q_push 1 (q_isub (q_callS fX12_in 3 (q_if_eq kX12_isSeat_28 (q_push 1 kX12_isSeat_29)))))))))))))))
set_option maxRecDepth 100000 in
theorem tX12_isSeat_29 {l : Launch} {D : zD} {B sz0 : Nat} {post : Option Value → zS → Prop} : zSnd l D B xX12_isSeat sz0 post 29 kX12_isSeat_29 (z_Jr post) := (s_zret dX12_isSeat_29 rfl)
set_option maxRecDepth 100000 in
theorem tX12_isSeat_28 {l : Launch} {D : zD} {B sz0 : Nat} {post : Option Value → zS → Prop} : zSnd l D B xX12_isSeat sz0 post 28 kX12_isSeat_28 (z_Jr post) := (s_iconst dX12_isSeat_28 (by decide) tX12_isSeat_29)
set_option maxRecDepth 100000 in
theorem tX12_isSeat_0 {l : Launch} {D : zD} {B sz0 : Nat} {post : Option Value → zS → Prop} : zSnd l D B xX12_isSeat sz0 post 0 kX12_isSeat_0 (z_Jr post) := (s_aload_n dX12_isSeat_0 rfl (s_iload_n dX12_isSeat_1 rfl (s_callV (r := (RX12, TX12, 74)) dX12_isSeat_2 mX12_isRow meX12_isRow wd1042 wd1043 rfl rfl reX12_isRow rmX12_isSeat (fitX12_isSeat_2) wd1044 (s_if_eq (tgt := 28) dX12_isSeat_5 (by decide) tX12_isSeat_28 (s_iload_n dX12_isSeat_8 rfl (s_iconst dX12_isSeat_9 (by decide) (s_aload_n dX12_isSeat_10 rfl (s_getR (f := 46) dX12_isSeat_11 clX12 (by decide) rfl wd860 (s_iload_n dX12_isSeat_14 rfl (s_iald dX12_isSeat_15 (s_iconst dX12_isSeat_16 (by decide) (s_isub dX12_isSeat_17 (s_callS dX12_isSeat_18 mX12_in meX12_in wd1033 rfl reX12_in rmX12_isSeat (fitX12_isSeat_18) wd1034 (s_if_eq (tgt := 28) dX12_isSeat_21 (by decide) tX12_isSeat_28 (s_iconst dX12_isSeat_24 (by decide) (s_goto (tgt := 29) dX12_isSeat_25 (by decide) tX12_isSeat_29))))))))))))))))
noncomputable def fX12_isSeat : zF := z_fn 3 kX12_isSeat_0
theorem mX12_isSeat {l : Launch} {D : zD} {B : Nat} : z_MF l D B yX12_isSeat xX12_isSeat fX12_isSeat := z_mf (by decide) rfl (fun h => by cases h) rfl (fun as σ r h => ⟨z_fn_len h, kX12_isSeat_0, z_fn_run h, fun _ => tX12_isSeat_0⟩)
/-! ===== RowChildrenModel.copies ===== -/
theorem dX12_copies_0 : decode cX12_copies 0 = .ok (.iconst 0, 1) := by decide +kernel
theorem dX12_copies_1 : decode cX12_copies 1 = .ok (.istore_n 1, 1) := by decide +kernel
theorem dX12_copies_2 : decode cX12_copies 2 = .ok (.iload_n 1, 1) := by decide +kernel
theorem dX12_copies_3 : decode cX12_copies 3 = .ok (.bipush 38, 2) := by decide +kernel
theorem dX12_copies_5 : decode cX12_copies 5 = .ok (.if_icmp .ge 21, 3) := by decide +kernel
theorem dX12_copies_8 : decode cX12_copies 8 = .ok (.aload_n 0, 1) := by decide +kernel
theorem dX12_copies_9 : decode cX12_copies 9 = .ok (.getfield 107, 3) := by decide +kernel
theorem dX12_copies_12 : decode cX12_copies 12 = .ok (.iload_n 1, 1) := by decide +kernel
theorem dX12_copies_13 : decode cX12_copies 13 = .ok (.aload_n 0, 1) := by decide +kernel
theorem dX12_copies_14 : decode cX12_copies 14 = .ok (.getfield 104, 3) := by decide +kernel
theorem dX12_copies_17 : decode cX12_copies 17 = .ok (.iload_n 1, 1) := by decide +kernel
theorem dX12_copies_18 : decode cX12_copies 18 = .ok (.iaload, 1) := by decide +kernel
theorem dX12_copies_19 : decode cX12_copies 19 = .ok (.iastore, 1) := by decide +kernel
theorem dX12_copies_20 : decode cX12_copies 20 = .ok (.iinc 1 1, 3) := by decide +kernel
theorem dX12_copies_23 : decode cX12_copies 23 = .ok (.goto (-21), 3) := by decide +kernel
theorem dX12_copies_26 : decode cX12_copies 26 = .ok (.aload_n 0, 1) := by decide +kernel
theorem dX12_copies_27 : decode cX12_copies 27 = .ok (.aload_n 0, 1) := by decide +kernel
theorem dX12_copies_28 : decode cX12_copies 28 = .ok (.getfield 64, 3) := by decide +kernel
theorem dX12_copies_31 : decode cX12_copies 31 = .ok (.aload_n 0, 1) := by decide +kernel
theorem dX12_copies_32 : decode cX12_copies 32 = .ok (.getfield 249, 3) := by decide +kernel
theorem dX12_copies_35 : decode cX12_copies 35 = .ok (.iaload, 1) := by decide +kernel
theorem dX12_copies_36 : decode cX12_copies 36 = .ok (.putfield 333, 3) := by decide +kernel
theorem dX12_copies_39 : decode cX12_copies 39 = .ok (.return_, 1) := by decide +kernel
def xX12_copies : zX := (RX12, cX12_copies, 2, none, false, { frames := 1, cells := 0, slots := 0, locals := 90 }, 0, 0, 0, 0)
theorem rmX12_copies : z_Rm xX12_copies := by unfold z_Rm xX12_copies; exact ⟨by decide, by decide⟩
theorem reX12_copies : z_Re xX12_copies := ⟨rfl, rfl⟩
theorem rlX12_copies : 1 ≤ xX12_copies.2.2.2.2.2.1.frames ∧ 21 ≤ xX12_copies.2.2.2.2.2.1.locals := by unfold xX12_copies; exact ⟨by decide, by decide⟩
theorem meX12_copies : z_Me yX12_copies xX12_copies 0 := ⟨wd1046, wd848, by decide, by decide, by decide +kernel⟩
noncomputable def kX12_copies_26 : zK zR := (q_aload 0 (q_aload 0 (q_getR 12 29 (q_aload 0 (q_getI 12 18 (q_iald (q_putI 12 48 q_vret)))))))
noncomputable def bX12_copies_2 : zK ((zL × zS) ⊕ zR) := (q_iload 1 (q_push 38 (q_icmp_ge (q_dn kX12_copies_26) (q_aload 0 (q_getR 12 47 (q_iload 1 (q_aload 0 (q_getR 12 46 (q_iload 1 (q_iald (q_iast (q_iinc 1 1 q_ag))))))))))))
noncomputable def kX12_copies_2 : zK zR := q_lp (bX12_copies_2)
noncomputable def kX12_copies_0 : zK zR := (q_push 0 (q_istore 1 kX12_copies_2))
set_option maxRecDepth 100000 in
theorem tX12_copies_26 {l : Launch} {D : zD} {B sz0 : Nat} {post : Option Value → zS → Prop} : zSnd l D B xX12_copies sz0 post 26 kX12_copies_26 (z_Jr post) := (s_aload_n dX12_copies_26 rfl (s_aload_n dX12_copies_27 rfl (s_getR (f := 29) dX12_copies_28 clX12 (by decide) rfl wd843 (s_aload_n dX12_copies_31 rfl (s_getI (f := 18) dX12_copies_32 clX12 (by decide) rfl wd854 (s_iald dX12_copies_35 (s_putI (f := 48) dX12_copies_36 clX12 (by decide) rfl rfl rfl wd855 (s_vret dX12_copies_39 rfl))))))))
set_option maxRecDepth 100000 in
theorem tX12_copies_2 {l : Launch} {D : zD} {B sz0 : Nat} {post : Option Value → zS → Prop} : zSnd l D B xX12_copies sz0 post 2 kX12_copies_2 (z_Jr post) := s_lp (body := bX12_copies_2) (s_iload_n dX12_copies_2 rfl (s_bipush dX12_copies_3 (by decide) (s_icmp_ge (tgt := 26) dX12_copies_5 (by decide) (s_dn tX12_copies_26) (s_aload_n dX12_copies_8 rfl (s_getR (f := 47) dX12_copies_9 clX12 (by decide) rfl wd856 (s_iload_n dX12_copies_12 rfl (s_aload_n dX12_copies_13 rfl (s_getR (f := 46) dX12_copies_14 clX12 (by decide) rfl wd860 (s_iload_n dX12_copies_17 rfl (s_iald dX12_copies_18 (s_iast dX12_copies_19 (s_iinc dX12_copies_20 (by decide) (s_goto (tgt := 2) dX12_copies_23 (by decide) s_ag)))))))))))))
set_option maxRecDepth 100000 in
theorem tX12_copies_0 {l : Launch} {D : zD} {B sz0 : Nat} {post : Option Value → zS → Prop} : zSnd l D B xX12_copies sz0 post 0 kX12_copies_0 (z_Jr post) := (s_iconst dX12_copies_0 (by decide) (s_istore_n dX12_copies_1 rfl tX12_copies_2))
noncomputable def fX12_copies : zF := z_fn 2 kX12_copies_0
theorem mX12_copies {l : Launch} {D : zD} {B : Nat} : z_MF l D B yX12_copies xX12_copies fX12_copies := z_mf (by decide) rfl (fun h => by cases h) rfl (fun as σ r h => ⟨z_fn_len h, kX12_copies_0, z_fn_run h, fun _ => tX12_copies_0⟩)
/-! ===== RowChildrenModel.mixed ===== -/
theorem dX12_mixed_0 : decode cX12_mixed 0 = .ok (.iload_n 0, 1) := by decide +kernel
theorem dX12_mixed_1 : decode cX12_mixed 1 = .ok (.iload_n 1, 1) := by decide +kernel
theorem dX12_mixed_2 : decode cX12_mixed 2 = .ok (.ixor, 1) := by decide +kernel
theorem dX12_mixed_3 : decode cX12_mixed 3 = .ok (.ldc_w 336, 3) := by decide +kernel
theorem dX12_mixed_6 : decode cX12_mixed 6 = .ok (.imul, 1) := by decide +kernel
theorem dX12_mixed_7 : decode cX12_mixed 7 = .ok (.sipush 12345, 3) := by decide +kernel
theorem dX12_mixed_10 : decode cX12_mixed 10 = .ok (.iadd, 1) := by decide +kernel
theorem dX12_mixed_11 : decode cX12_mixed 11 = .ok (.istore_n 2, 1) := by decide +kernel
theorem dX12_mixed_12 : decode cX12_mixed 12 = .ok (.iload_n 2, 1) := by decide +kernel
theorem dX12_mixed_13 : decode cX12_mixed 13 = .ok (.iload_n 2, 1) := by decide +kernel
theorem dX12_mixed_14 : decode cX12_mixed 14 = .ok (.bipush 15, 2) := by decide +kernel
theorem dX12_mixed_16 : decode cX12_mixed 16 = .ok (.iushr, 1) := by decide +kernel
theorem dX12_mixed_17 : decode cX12_mixed 17 = .ok (.ixor, 1) := by decide +kernel
theorem dX12_mixed_18 : decode cX12_mixed 18 = .ok (.ireturn, 1) := by decide +kernel
def xX12_mixed : zX := (RX12, cX12_mixed, 3, (some .int), false, { frames := 1, cells := 0, slots := 0, locals := 90 }, 0, 0, 0, 0)
theorem rmX12_mixed : z_Rm xX12_mixed := by unfold z_Rm xX12_mixed; exact ⟨by decide, by decide⟩
theorem reX12_mixed : z_Re xX12_mixed := ⟨rfl, rfl⟩
theorem rlX12_mixed : 1 ≤ xX12_mixed.2.2.2.2.2.1.frames ∧ 21 ≤ xX12_mixed.2.2.2.2.2.1.locals := by unfold xX12_mixed; exact ⟨by decide, by decide⟩
theorem meX12_mixed : z_Me yX12_mixed xX12_mixed 2 := ⟨wd1048, wd848, by decide, by decide, by decide +kernel⟩
noncomputable def kX12_mixed_0 : zK zR := (q_iload 0 (q_iload 1 (q_ixor (q_push 1103515245 (q_imul (q_push 12345 (q_iadd (q_istore 2 (q_iload 2 (q_iload 2 (q_push 15 (q_iushr (q_ixor q_iret)))))))))))))
set_option maxRecDepth 100000 in
theorem tX12_mixed_0 {l : Launch} {D : zD} {B sz0 : Nat} {post : Option Value → zS → Prop} : zSnd l D B xX12_mixed sz0 post 0 kX12_mixed_0 (z_Jr post) := (s_iload_n dX12_mixed_0 rfl (s_iload_n dX12_mixed_1 rfl (s_ixor dX12_mixed_2 (s_ldcw dX12_mixed_3 wd1047 (s_imul dX12_mixed_6 (s_sipush dX12_mixed_7 (by decide) (s_iadd dX12_mixed_10 (s_istore_n dX12_mixed_11 rfl (s_iload_n dX12_mixed_12 rfl (s_iload_n dX12_mixed_13 rfl (s_bipush dX12_mixed_14 (by decide) (s_iushr dX12_mixed_16 (s_ixor dX12_mixed_17 (s_iret dX12_mixed_18 rfl))))))))))))))
noncomputable def fX12_mixed : zF := z_fn 3 kX12_mixed_0
theorem mX12_mixed {l : Launch} {D : zD} {B : Nat} : z_MF l D B yX12_mixed xX12_mixed fX12_mixed := z_mf (by decide) rfl (fun h => by cases h) rfl (fun as σ r h => ⟨z_fn_len h, kX12_mixed_0, z_fn_run h, fun _ => tX12_mixed_0⟩)
/-! ===== RowChildrenModel.lotOf ===== -/
theorem dX12_lotOf_0 : decode cX12_lotOf 0 = .ok (.aload_n 0, 1) := by decide +kernel
theorem dX12_lotOf_1 : decode cX12_lotOf 1 = .ok (.getfield 333, 3) := by decide +kernel
theorem dX12_lotOf_4 : decode cX12_lotOf 4 = .ok (.sipush 213, 3) := by decide +kernel
theorem dX12_lotOf_7 : decode cX12_lotOf 7 = .ok (.invokestatic 337, 3) := by decide +kernel
theorem dX12_lotOf_10 : decode cX12_lotOf 10 = .ok (.iload_n 1, 1) := by decide +kernel
theorem dX12_lotOf_11 : decode cX12_lotOf 11 = .ok (.invokestatic 337, 3) := by decide +kernel
theorem dX12_lotOf_14 : decode cX12_lotOf 14 = .ok (.iconst 1, 1) := by decide +kernel
theorem dX12_lotOf_15 : decode cX12_lotOf 15 = .ok (.iushr, 1) := by decide +kernel
theorem dX12_lotOf_16 : decode cX12_lotOf 16 = .ok (.bipush 100, 2) := by decide +kernel
theorem dX12_lotOf_18 : decode cX12_lotOf 18 = .ok (.irem, 1) := by decide +kernel
theorem dX12_lotOf_19 : decode cX12_lotOf 19 = .ok (.ireturn, 1) := by decide +kernel
def xX12_lotOf : zX := (RX12, cX12_lotOf, 2, (some .int), false, { frames := 2, cells := 0, slots := 0, locals := 112 }, 0, 0, 0, 0)
theorem rmX12_lotOf : z_Rm xX12_lotOf := by unfold z_Rm xX12_lotOf; exact ⟨by decide, by decide⟩
theorem reX12_lotOf : z_Re xX12_lotOf := ⟨rfl, rfl⟩
theorem rlX12_lotOf : 1 ≤ xX12_lotOf.2.2.2.2.2.1.frames ∧ 21 ≤ xX12_lotOf.2.2.2.2.2.1.locals := by unfold xX12_lotOf; exact ⟨by decide, by decide⟩
theorem meX12_lotOf : z_Me yX12_lotOf xX12_lotOf 1 := ⟨wd1051, wd848, by decide, by decide, by decide +kernel⟩
theorem fitX12_lotOf_7 : z_Fit xX12_mixed xX12_lotOf := by unfold z_Fit; simp only [xX12_mixed, xX12_lotOf]; exact ⟨by decide, by decide⟩
theorem fitX12_lotOf_11 : z_Fit xX12_mixed xX12_lotOf := by unfold z_Fit; simp only [xX12_mixed, xX12_lotOf]; exact ⟨by decide, by decide⟩
noncomputable def kX12_lotOf_0 : zK zR := (q_aload 0 (q_getI 12 48 (q_push 213 (q_callS fX12_mixed 2 (q_iload 1 (q_callS fX12_mixed 2 (q_push 1 (q_iushr (q_push 100 (q_irem q_iret))))))))))
set_option maxRecDepth 100000 in
theorem tX12_lotOf_0 {l : Launch} {D : zD} {B sz0 : Nat} {post : Option Value → zS → Prop} : zSnd l D B xX12_lotOf sz0 post 0 kX12_lotOf_0 (z_Jr post) := (s_aload_n dX12_lotOf_0 rfl (s_getI (f := 48) dX12_lotOf_1 clX12 (by decide) rfl wd855 (s_sipush dX12_lotOf_4 (by decide) (s_callS dX12_lotOf_7 mX12_mixed meX12_mixed wd1049 rfl reX12_mixed rmX12_lotOf (fitX12_lotOf_7) wd1050 (s_iload_n dX12_lotOf_10 rfl (s_callS dX12_lotOf_11 mX12_mixed meX12_mixed wd1049 rfl reX12_mixed rmX12_lotOf (fitX12_lotOf_11) wd1050 (s_iconst dX12_lotOf_14 (by decide) (s_iushr dX12_lotOf_15 (s_bipush dX12_lotOf_16 (by decide) (s_irem dX12_lotOf_18 (s_iret dX12_lotOf_19 rfl)))))))))))
noncomputable def fX12_lotOf : zF := z_fn 2 kX12_lotOf_0
theorem mX12_lotOf {l : Launch} {D : zD} {B : Nat} : z_MF l D B yX12_lotOf xX12_lotOf fX12_lotOf := z_mf (by decide) rfl (fun h => by cases h) rfl (fun as σ r h => ⟨z_fn_len h, kX12_lotOf_0, z_fn_run h, fun _ => tX12_lotOf_0⟩)
/-! ===== RowChildrenModel.laidAt ===== -/
theorem dX12_laidAt_0 : decode cX12_laidAt 0 = .ok (.aload_n 0, 1) := by decide +kernel
theorem dX12_laidAt_1 : decode cX12_laidAt 1 = .ok (.getfield 110, 3) := by decide +kernel
theorem dX12_laidAt_4 : decode cX12_laidAt 4 = .ok (.bipush 8, 2) := by decide +kernel
theorem dX12_laidAt_6 : decode cX12_laidAt 6 = .ok (.iload_n 1, 1) := by decide +kernel
theorem dX12_laidAt_7 : decode cX12_laidAt 7 = .ok (.imul, 1) := by decide +kernel
theorem dX12_laidAt_8 : decode cX12_laidAt 8 = .ok (.iload_n 2, 1) := by decide +kernel
theorem dX12_laidAt_9 : decode cX12_laidAt 9 = .ok (.iadd, 1) := by decide +kernel
theorem dX12_laidAt_10 : decode cX12_laidAt 10 = .ok (.iaload, 1) := by decide +kernel
theorem dX12_laidAt_11 : decode cX12_laidAt 11 = .ok (.ireturn, 1) := by decide +kernel
def xX12_laidAt : zX := (RX12, cX12_laidAt, 3, (some .int), false, { frames := 1, cells := 0, slots := 0, locals := 90 }, 0, 0, 0, 0)
theorem rmX12_laidAt : z_Rm xX12_laidAt := by unfold z_Rm xX12_laidAt; exact ⟨by decide, by decide⟩
theorem reX12_laidAt : z_Re xX12_laidAt := ⟨rfl, rfl⟩
theorem rlX12_laidAt : 1 ≤ xX12_laidAt.2.2.2.2.2.1.frames ∧ 21 ≤ xX12_laidAt.2.2.2.2.2.1.locals := by unfold xX12_laidAt; exact ⟨by decide, by decide⟩
theorem meX12_laidAt : z_Me yX12_laidAt xX12_laidAt 2 := ⟨wd1052, wd848, by decide, by decide, by decide +kernel⟩
noncomputable def kX12_laidAt_0 : zK zR := (q_aload 0 (q_getR 12 49 (q_push 8 (q_iload 1 (q_imul (q_iload 2 (q_iadd (q_iald q_iret))))))))
set_option maxRecDepth 100000 in
theorem tX12_laidAt_0 {l : Launch} {D : zD} {B sz0 : Nat} {post : Option Value → zS → Prop} : zSnd l D B xX12_laidAt sz0 post 0 kX12_laidAt_0 (z_Jr post) := (s_aload_n dX12_laidAt_0 rfl (s_getR (f := 49) dX12_laidAt_1 clX12 (by decide) rfl wd882 (s_bipush dX12_laidAt_4 (by decide) (s_iload_n dX12_laidAt_6 rfl (s_imul dX12_laidAt_7 (s_iload_n dX12_laidAt_8 rfl (s_iadd dX12_laidAt_9 (s_iald dX12_laidAt_10 (s_iret dX12_laidAt_11 rfl)))))))))
noncomputable def fX12_laidAt : zF := z_fn 3 kX12_laidAt_0
theorem mX12_laidAt {l : Launch} {D : zD} {B : Nat} : z_MF l D B yX12_laidAt xX12_laidAt fX12_laidAt := z_mf (by decide) rfl (fun h => by cases h) rfl (fun as σ r h => ⟨z_fn_len h, kX12_laidAt_0, z_fn_run h, fun _ => tX12_laidAt_0⟩)
/-! ===== RowChildrenModel.laysDown ===== -/
theorem dX12_laysDown_0 : decode cX12_laysDown 0 = .ok (.iconst 1, 1) := by decide +kernel
theorem dX12_laysDown_1 : decode cX12_laysDown 1 = .ok (.istore_n 1, 1) := by decide +kernel
theorem dX12_laysDown_2 : decode cX12_laysDown 2 = .ok (.iload_n 1, 1) := by decide +kernel
theorem dX12_laysDown_3 : decode cX12_laysDown 3 = .ok (.aload_n 0, 1) := by decide +kernel
theorem dX12_laysDown_4 : decode cX12_laysDown 4 = .ok (.getfield 340, 3) := by decide +kernel
theorem dX12_laysDown_7 : decode cX12_laysDown 7 = .ok (.if_icmp .ge 60, 3) := by decide +kernel
theorem dX12_laysDown_10 : decode cX12_laysDown 10 = .ok (.iconst 0, 1) := by decide +kernel
theorem dX12_laysDown_11 : decode cX12_laysDown 11 = .ok (.istore_n 2, 1) := by decide +kernel
theorem dX12_laysDown_12 : decode cX12_laysDown 12 = .ok (.iload_n 2, 1) := by decide +kernel
theorem dX12_laysDown_13 : decode cX12_laysDown 13 = .ok (.aload_n 0, 1) := by decide +kernel
theorem dX12_laysDown_14 : decode cX12_laysDown 14 = .ok (.getfield 340, 3) := by decide +kernel
theorem dX12_laysDown_17 : decode cX12_laysDown 17 = .ok (.iload_n 1, 1) := by decide +kernel
theorem dX12_laysDown_18 : decode cX12_laysDown 18 = .ok (.isub, 1) := by decide +kernel
theorem dX12_laysDown_19 : decode cX12_laysDown 19 = .ok (.if_icmp .ge 42, 3) := by decide +kernel
theorem dX12_laysDown_22 : decode cX12_laysDown 22 = .ok (.aload_n 0, 1) := by decide +kernel
theorem dX12_laysDown_23 : decode cX12_laysDown 23 = .ok (.getfield 110, 3) := by decide +kernel
theorem dX12_laysDown_26 : decode cX12_laysDown 26 = .ok (.bipush 8, 2) := by decide +kernel
theorem dX12_laysDown_28 : decode cX12_laysDown 28 = .ok (.iload_n 1, 1) := by decide +kernel
theorem dX12_laysDown_29 : decode cX12_laysDown 29 = .ok (.imul, 1) := by decide +kernel
theorem dX12_laysDown_30 : decode cX12_laysDown 30 = .ok (.iload_n 2, 1) := by decide +kernel
theorem dX12_laysDown_31 : decode cX12_laysDown 31 = .ok (.iadd, 1) := by decide +kernel
theorem dX12_laysDown_32 : decode cX12_laysDown 32 = .ok (.aload_n 0, 1) := by decide +kernel
theorem dX12_laysDown_33 : decode cX12_laysDown 33 = .ok (.aload_n 0, 1) := by decide +kernel
theorem dX12_laysDown_34 : decode cX12_laysDown 34 = .ok (.iload_n 1, 1) := by decide +kernel
theorem dX12_laysDown_35 : decode cX12_laysDown 35 = .ok (.iconst 1, 1) := by decide +kernel
theorem dX12_laysDown_36 : decode cX12_laysDown 36 = .ok (.isub, 1) := by decide +kernel
theorem dX12_laysDown_37 : decode cX12_laysDown 37 = .ok (.iload_n 2, 1) := by decide +kernel
theorem dX12_laysDown_38 : decode cX12_laysDown 38 = .ok (.invokevirtual 343, 3) := by decide +kernel
theorem dX12_laysDown_41 : decode cX12_laysDown 41 = .ok (.aload_n 0, 1) := by decide +kernel
theorem dX12_laysDown_42 : decode cX12_laysDown 42 = .ok (.iload_n 1, 1) := by decide +kernel
theorem dX12_laysDown_43 : decode cX12_laysDown 43 = .ok (.iconst 1, 1) := by decide +kernel
theorem dX12_laysDown_44 : decode cX12_laysDown 44 = .ok (.isub, 1) := by decide +kernel
theorem dX12_laysDown_45 : decode cX12_laysDown 45 = .ok (.iload_n 2, 1) := by decide +kernel
theorem dX12_laysDown_46 : decode cX12_laysDown 46 = .ok (.iconst 1, 1) := by decide +kernel
theorem dX12_laysDown_47 : decode cX12_laysDown 47 = .ok (.iadd, 1) := by decide +kernel
theorem dX12_laysDown_48 : decode cX12_laysDown 48 = .ok (.invokevirtual 343, 3) := by decide +kernel
theorem dX12_laysDown_51 : decode cX12_laysDown 51 = .ok (.invokevirtual 346, 3) := by decide +kernel
theorem dX12_laysDown_54 : decode cX12_laysDown 54 = .ok (.iastore, 1) := by decide +kernel
theorem dX12_laysDown_55 : decode cX12_laysDown 55 = .ok (.iinc 2 1, 3) := by decide +kernel
theorem dX12_laysDown_58 : decode cX12_laysDown 58 = .ok (.goto (-46), 3) := by decide +kernel
theorem dX12_laysDown_61 : decode cX12_laysDown 61 = .ok (.iinc 1 1, 3) := by decide +kernel
theorem dX12_laysDown_64 : decode cX12_laysDown 64 = .ok (.goto (-62), 3) := by decide +kernel
theorem dX12_laysDown_67 : decode cX12_laysDown 67 = .ok (.return_, 1) := by decide +kernel
def xX12_laysDown : zX := (RX12, cX12_laysDown, 3, none, false, { frames := 3, cells := 0, slots := 0, locals := 133 }, 0, 0, 0, 0)
theorem rmX12_laysDown : z_Rm xX12_laysDown := by unfold z_Rm xX12_laysDown; exact ⟨by decide, by decide⟩
theorem reX12_laysDown : z_Re xX12_laysDown := ⟨rfl, rfl⟩
theorem rlX12_laysDown : 1 ≤ xX12_laysDown.2.2.2.2.2.1.frames ∧ 21 ≤ xX12_laysDown.2.2.2.2.2.1.locals := by unfold xX12_laysDown; exact ⟨by decide, by decide⟩
theorem meX12_laysDown : z_Me yX12_laysDown xX12_laysDown 0 := ⟨wd1060, wd848, by decide, by decide, by decide +kernel⟩
theorem fitX12_laysDown_38 : z_Fit xX12_laidAt xX12_laysDown := by unfold z_Fit; simp only [xX12_laidAt, xX12_laysDown]; exact ⟨by decide, by decide⟩
theorem fitX12_laysDown_48 : z_Fit xX12_laidAt xX12_laysDown := by unfold z_Fit; simp only [xX12_laidAt, xX12_laysDown]; exact ⟨by decide, by decide⟩
theorem fitX12_laysDown_51 : z_Fit xX12_childOf xX12_laysDown := by unfold z_Fit; simp only [xX12_childOf, xX12_laysDown]; exact ⟨by decide, by decide⟩
noncomputable def kX12_laysDown_67 : zK zR := q_vret
noncomputable def kX12_laysDown_61 : zK ((zL × zS) ⊕ zR) := (q_iinc 1 1 q_ag)
noncomputable def bX12_laysDown_12 : zK ((zL × zS) ⊕ ((zL × zS) ⊕ zR)) := (q_iload 2 (q_aload 0 (q_getI 12 50 (q_iload 1 (q_isub (q_icmp_ge (q_dn kX12_laysDown_61) (q_aload 0 (q_getR 12 49 (q_push 8 (q_iload 1 (q_imul (q_iload 2 (q_iadd (q_aload 0 (q_aload 0 (q_iload 1 (q_push 1 (q_isub (q_iload 2 (q_callV 12 fX12_laidAt 2 (q_aload 0 (q_iload 1 (q_push 1 (q_isub (q_iload 2 (q_push 1 (q_iadd (q_callV 12 fX12_laidAt 2 (q_callV 12 fX12_childOf 2 (q_iast (q_iinc 2 1 q_ag)))))))))))))))))))))))))))))))
noncomputable def kX12_laysDown_12 : zK ((zL × zS) ⊕ zR) := q_lp (bX12_laysDown_12)
noncomputable def bX12_laysDown_2 : zK ((zL × zS) ⊕ zR) := (q_iload 1 (q_aload 0 (q_getI 12 50 (q_icmp_ge (q_dn kX12_laysDown_67) (q_push 0 (q_istore 2 kX12_laysDown_12))))))
noncomputable def kX12_laysDown_2 : zK zR := q_lp (bX12_laysDown_2)
noncomputable def kX12_laysDown_0 : zK zR := (q_push 1 (q_istore 1 kX12_laysDown_2))
set_option maxRecDepth 100000 in
theorem tX12_laysDown_67 {l : Launch} {D : zD} {B sz0 : Nat} {post : Option Value → zS → Prop} : zSnd l D B xX12_laysDown sz0 post 67 kX12_laysDown_67 (z_Jr post) := (s_vret dX12_laysDown_67 rfl)
set_option maxRecDepth 100000 in
theorem tX12_laysDown_61 {l : Launch} {D : zD} {B sz0 : Nat} {post : Option Value → zS → Prop} : zSnd l D B xX12_laysDown sz0 post 61 kX12_laysDown_61 (z_Jl l D B xX12_laysDown sz0 post 2 (z_Jr post)) := (s_iinc dX12_laysDown_61 (by decide) (s_goto (tgt := 2) dX12_laysDown_64 (by decide) s_ag))
set_option maxRecDepth 100000 in
theorem tX12_laysDown_12 {l : Launch} {D : zD} {B sz0 : Nat} {post : Option Value → zS → Prop} : zSnd l D B xX12_laysDown sz0 post 12 kX12_laysDown_12 (z_Jl l D B xX12_laysDown sz0 post 2 (z_Jr post)) := s_lp (body := bX12_laysDown_12) (s_iload_n dX12_laysDown_12 rfl (s_aload_n dX12_laysDown_13 rfl (s_getI (f := 50) dX12_laysDown_14 clX12 (by decide) rfl wd1053 (s_iload_n dX12_laysDown_17 rfl (s_isub dX12_laysDown_18 (s_icmp_ge (tgt := 61) dX12_laysDown_19 (by decide) (s_dn tX12_laysDown_61) (s_aload_n dX12_laysDown_22 rfl (s_getR (f := 49) dX12_laysDown_23 clX12 (by decide) rfl wd882 (s_bipush dX12_laysDown_26 (by decide) (s_iload_n dX12_laysDown_28 rfl (s_imul dX12_laysDown_29 (s_iload_n dX12_laysDown_30 rfl (s_iadd dX12_laysDown_31 (s_aload_n dX12_laysDown_32 rfl (s_aload_n dX12_laysDown_33 rfl (s_iload_n dX12_laysDown_34 rfl (s_iconst dX12_laysDown_35 (by decide) (s_isub dX12_laysDown_36 (s_iload_n dX12_laysDown_37 rfl (s_callV (r := (RX12, TX12, 74)) dX12_laysDown_38 mX12_laidAt meX12_laidAt wd1054 wd1055 rfl rfl reX12_laidAt rmX12_laysDown (fitX12_laysDown_38) wd1056 (s_aload_n dX12_laysDown_41 rfl (s_iload_n dX12_laysDown_42 rfl (s_iconst dX12_laysDown_43 (by decide) (s_isub dX12_laysDown_44 (s_iload_n dX12_laysDown_45 rfl (s_iconst dX12_laysDown_46 (by decide) (s_iadd dX12_laysDown_47 (s_callV (r := (RX12, TX12, 74)) dX12_laysDown_48 mX12_laidAt meX12_laidAt wd1054 wd1055 rfl rfl reX12_laidAt rmX12_laysDown (fitX12_laysDown_48) wd1056 (s_callV (r := (RX12, TX12, 74)) dX12_laysDown_51 mX12_childOf meX12_childOf wd1057 wd1058 rfl rfl reX12_childOf rmX12_laysDown (fitX12_laysDown_51) wd1059 (s_iast dX12_laysDown_54 (s_iinc dX12_laysDown_55 (by decide) (s_goto (tgt := 12) dX12_laysDown_58 (by decide) s_ag))))))))))))))))))))))))))))))))
set_option maxRecDepth 100000 in
theorem tX12_laysDown_2 {l : Launch} {D : zD} {B sz0 : Nat} {post : Option Value → zS → Prop} : zSnd l D B xX12_laysDown sz0 post 2 kX12_laysDown_2 (z_Jr post) := s_lp (body := bX12_laysDown_2) (s_iload_n dX12_laysDown_2 rfl (s_aload_n dX12_laysDown_3 rfl (s_getI (f := 50) dX12_laysDown_4 clX12 (by decide) rfl wd1053 (s_icmp_ge (tgt := 67) dX12_laysDown_7 (by decide) (s_dn tX12_laysDown_67) (s_iconst dX12_laysDown_10 (by decide) (s_istore_n dX12_laysDown_11 rfl tX12_laysDown_12))))))
set_option maxRecDepth 100000 in
theorem tX12_laysDown_0 {l : Launch} {D : zD} {B sz0 : Nat} {post : Option Value → zS → Prop} : zSnd l D B xX12_laysDown sz0 post 0 kX12_laysDown_0 (z_Jr post) := (s_iconst dX12_laysDown_0 (by decide) (s_istore_n dX12_laysDown_1 rfl tX12_laysDown_2))
noncomputable def fX12_laysDown : zF := z_fn 3 kX12_laysDown_0
theorem mX12_laysDown {l : Launch} {D : zD} {B : Nat} : z_MF l D B yX12_laysDown xX12_laysDown fX12_laysDown := z_mf (by decide) rfl (fun h => by cases h) rfl (fun as σ r h => ⟨z_fn_len h, kX12_laysDown_0, z_fn_run h, fun _ => tX12_laysDown_0⟩)
/-! ===== RowChildrenModel.laysRow ===== -/
theorem dX12_laysRow_0 : decode cX12_laysRow 0 = .ok (.aload_n 0, 1) := by decide +kernel
theorem dX12_laysRow_1 : decode cX12_laysRow 1 = .ok (.aload_n 0, 1) := by decide +kernel
theorem dX12_laysRow_2 : decode cX12_laysRow 2 = .ok (.getfield 107, 3) := by decide +kernel
theorem dX12_laysRow_5 : decode cX12_laysRow 5 = .ok (.iload_n 1, 1) := by decide +kernel
theorem dX12_laysRow_6 : decode cX12_laysRow 6 = .ok (.iaload, 1) := by decide +kernel
theorem dX12_laysRow_7 : decode cX12_laysRow 7 = .ok (.putfield 340, 3) := by decide +kernel
theorem dX12_laysRow_10 : decode cX12_laysRow 10 = .ok (.iconst 0, 1) := by decide +kernel
theorem dX12_laysRow_11 : decode cX12_laysRow 11 = .ok (.istore_n 2, 1) := by decide +kernel
theorem dX12_laysRow_12 : decode cX12_laysRow 12 = .ok (.iload_n 2, 1) := by decide +kernel
theorem dX12_laysRow_13 : decode cX12_laysRow 13 = .ok (.aload_n 0, 1) := by decide +kernel
theorem dX12_laysRow_14 : decode cX12_laysRow 14 = .ok (.getfield 340, 3) := by decide +kernel
theorem dX12_laysRow_17 : decode cX12_laysRow 17 = .ok (.if_icmp .ge 21, 3) := by decide +kernel
theorem dX12_laysRow_20 : decode cX12_laysRow 20 = .ok (.aload_n 0, 1) := by decide +kernel
theorem dX12_laysRow_21 : decode cX12_laysRow 21 = .ok (.getfield 110, 3) := by decide +kernel
theorem dX12_laysRow_24 : decode cX12_laysRow 24 = .ok (.iload_n 2, 1) := by decide +kernel
theorem dX12_laysRow_25 : decode cX12_laysRow 25 = .ok (.aload_n 0, 1) := by decide +kernel
theorem dX12_laysRow_26 : decode cX12_laysRow 26 = .ok (.iload_n 1, 1) := by decide +kernel
theorem dX12_laysRow_27 : decode cX12_laysRow 27 = .ok (.iload_n 2, 1) := by decide +kernel
theorem dX12_laysRow_28 : decode cX12_laysRow 28 = .ok (.invokevirtual 349, 3) := by decide +kernel
theorem dX12_laysRow_31 : decode cX12_laysRow 31 = .ok (.iastore, 1) := by decide +kernel
theorem dX12_laysRow_32 : decode cX12_laysRow 32 = .ok (.iinc 2 1, 3) := by decide +kernel
theorem dX12_laysRow_35 : decode cX12_laysRow 35 = .ok (.goto (-23), 3) := by decide +kernel
theorem dX12_laysRow_38 : decode cX12_laysRow 38 = .ok (.aload_n 0, 1) := by decide +kernel
theorem dX12_laysRow_39 : decode cX12_laysRow 39 = .ok (.invokevirtual 352, 3) := by decide +kernel
theorem dX12_laysRow_42 : decode cX12_laysRow 42 = .ok (.return_, 1) := by decide +kernel
def xX12_laysRow : zX := (RX12, cX12_laysRow, 3, none, false, { frames := 4, cells := 0, slots := 0, locals := 155 }, 0, 0, 0, 0)
theorem rmX12_laysRow : z_Rm xX12_laysRow := by unfold z_Rm xX12_laysRow; exact ⟨by decide, by decide⟩
theorem reX12_laysRow : z_Re xX12_laysRow := ⟨rfl, rfl⟩
theorem rlX12_laysRow : 1 ≤ xX12_laysRow.2.2.2.2.2.1.frames ∧ 21 ≤ xX12_laysRow.2.2.2.2.2.1.locals := by unfold xX12_laysRow; exact ⟨by decide, by decide⟩
theorem meX12_laysRow : z_Me yX12_laysRow xX12_laysRow 1 := ⟨wd1067, wd848, by decide, by decide, by decide +kernel⟩
theorem fitX12_laysRow_39 : z_Fit xX12_laysDown xX12_laysRow := by unfold z_Fit; simp only [xX12_laysDown, xX12_laysRow]; exact ⟨by decide, by decide⟩
theorem fitX12_laysRow_28 : z_Fit xX12_seatAt xX12_laysRow := by unfold z_Fit; simp only [xX12_seatAt, xX12_laysRow]; exact ⟨by decide, by decide⟩
noncomputable def kX12_laysRow_38 : zK zR := (q_aload 0 (q_callV 12 fX12_laysDown 0 q_vret))
noncomputable def bX12_laysRow_12 : zK ((zL × zS) ⊕ zR) := (q_iload 2 (q_aload 0 (q_getI 12 50 (q_icmp_ge (q_dn kX12_laysRow_38) (q_aload 0 (q_getR 12 49 (q_iload 2 (q_aload 0 (q_iload 1 (q_iload 2 (q_callV 12 fX12_seatAt 2 (q_iast (q_iinc 2 1 q_ag)))))))))))))
noncomputable def kX12_laysRow_12 : zK zR := q_lp (bX12_laysRow_12)
noncomputable def kX12_laysRow_0 : zK zR := (q_aload 0 (q_aload 0 (q_getR 12 47 (q_iload 1 (q_iald (q_putI 12 50 (q_push 0 (q_istore 2 kX12_laysRow_12))))))))
set_option maxRecDepth 100000 in
theorem tX12_laysRow_38 {l : Launch} {D : zD} {B sz0 : Nat} {post : Option Value → zS → Prop} : zSnd l D B xX12_laysRow sz0 post 38 kX12_laysRow_38 (z_Jr post) := (s_aload_n dX12_laysRow_38 rfl (s_callV (r := (RX12, TX12, 74)) dX12_laysRow_39 mX12_laysDown meX12_laysDown wd1061 wd1062 rfl rfl reX12_laysDown rmX12_laysRow (fitX12_laysRow_39) wd1063 (s_vret dX12_laysRow_42 rfl)))
set_option maxRecDepth 100000 in
theorem tX12_laysRow_12 {l : Launch} {D : zD} {B sz0 : Nat} {post : Option Value → zS → Prop} : zSnd l D B xX12_laysRow sz0 post 12 kX12_laysRow_12 (z_Jr post) := s_lp (body := bX12_laysRow_12) (s_iload_n dX12_laysRow_12 rfl (s_aload_n dX12_laysRow_13 rfl (s_getI (f := 50) dX12_laysRow_14 clX12 (by decide) rfl wd1053 (s_icmp_ge (tgt := 38) dX12_laysRow_17 (by decide) (s_dn tX12_laysRow_38) (s_aload_n dX12_laysRow_20 rfl (s_getR (f := 49) dX12_laysRow_21 clX12 (by decide) rfl wd882 (s_iload_n dX12_laysRow_24 rfl (s_aload_n dX12_laysRow_25 rfl (s_iload_n dX12_laysRow_26 rfl (s_iload_n dX12_laysRow_27 rfl (s_callV (r := (RX12, TX12, 74)) dX12_laysRow_28 mX12_seatAt meX12_seatAt wd1064 wd1065 rfl rfl reX12_seatAt rmX12_laysRow (fitX12_laysRow_28) wd1066 (s_iast dX12_laysRow_31 (s_iinc dX12_laysRow_32 (by decide) (s_goto (tgt := 12) dX12_laysRow_35 (by decide) s_ag))))))))))))))
set_option maxRecDepth 100000 in
theorem tX12_laysRow_0 {l : Launch} {D : zD} {B sz0 : Nat} {post : Option Value → zS → Prop} : zSnd l D B xX12_laysRow sz0 post 0 kX12_laysRow_0 (z_Jr post) := (s_aload_n dX12_laysRow_0 rfl (s_aload_n dX12_laysRow_1 rfl (s_getR (f := 47) dX12_laysRow_2 clX12 (by decide) rfl wd856 (s_iload_n dX12_laysRow_5 rfl (s_iald dX12_laysRow_6 (s_putI (f := 50) dX12_laysRow_7 clX12 (by decide) rfl rfl rfl wd1053 (s_iconst dX12_laysRow_10 (by decide) (s_istore_n dX12_laysRow_11 rfl tX12_laysRow_12))))))))
noncomputable def fX12_laysRow : zF := z_fn 3 kX12_laysRow_0
theorem mX12_laysRow {l : Launch} {D : zD} {B : Nat} : z_MF l D B yX12_laysRow xX12_laysRow fX12_laysRow := z_mf (by decide) rfl (fun h => by cases h) rfl (fun as σ r h => ⟨z_fn_len h, kX12_laysRow_0, z_fn_run h, fun _ => tX12_laysRow_0⟩)
/-! ===== RowChildrenModel.laysNumber ===== -/
theorem dX12_laysNumber_0 : decode cX12_laysNumber 0 = .ok (.aload_n 0, 1) := by decide +kernel
theorem dX12_laysNumber_1 : decode cX12_laysNumber 1 = .ok (.iload_n 2, 1) := by decide +kernel
theorem dX12_laysNumber_2 : decode cX12_laysNumber 2 = .ok (.putfield 340, 3) := by decide +kernel
theorem dX12_laysNumber_5 : decode cX12_laysNumber 5 = .ok (.iload_n 1, 1) := by decide +kernel
theorem dX12_laysNumber_6 : decode cX12_laysNumber 6 = .ok (.istore_n 3, 1) := by decide +kernel
theorem dX12_laysNumber_7 : decode cX12_laysNumber 7 = .ok (.iload_n 2, 1) := by decide +kernel
theorem dX12_laysNumber_8 : decode cX12_laysNumber 8 = .ok (.iconst 1, 1) := by decide +kernel
theorem dX12_laysNumber_9 : decode cX12_laysNumber 9 = .ok (.isub, 1) := by decide +kernel
theorem dX12_laysNumber_10 : decode cX12_laysNumber 10 = .ok (.istore 4, 2) := by decide +kernel
theorem dX12_laysNumber_12 : decode cX12_laysNumber 12 = .ok (.iload 4, 2) := by decide +kernel
theorem dX12_laysNumber_14 : decode cX12_laysNumber 14 = .ok (.ifCond .lt 29, 3) := by decide +kernel
theorem dX12_laysNumber_17 : decode cX12_laysNumber 17 = .ok (.aload_n 0, 1) := by decide +kernel
theorem dX12_laysNumber_18 : decode cX12_laysNumber 18 = .ok (.getfield 110, 3) := by decide +kernel
theorem dX12_laysNumber_21 : decode cX12_laysNumber 21 = .ok (.iload 4, 2) := by decide +kernel
theorem dX12_laysNumber_23 : decode cX12_laysNumber 23 = .ok (.iload_n 3, 1) := by decide +kernel
theorem dX12_laysNumber_24 : decode cX12_laysNumber 24 = .ok (.aload_n 0, 1) := by decide +kernel
theorem dX12_laysNumber_25 : decode cX12_laysNumber 25 = .ok (.invokevirtual 327, 3) := by decide +kernel
theorem dX12_laysNumber_28 : decode cX12_laysNumber 28 = .ok (.irem, 1) := by decide +kernel
theorem dX12_laysNumber_29 : decode cX12_laysNumber 29 = .ok (.iastore, 1) := by decide +kernel
theorem dX12_laysNumber_30 : decode cX12_laysNumber 30 = .ok (.iload_n 3, 1) := by decide +kernel
theorem dX12_laysNumber_31 : decode cX12_laysNumber 31 = .ok (.aload_n 0, 1) := by decide +kernel
theorem dX12_laysNumber_32 : decode cX12_laysNumber 32 = .ok (.invokevirtual 327, 3) := by decide +kernel
theorem dX12_laysNumber_35 : decode cX12_laysNumber 35 = .ok (.idiv, 1) := by decide +kernel
theorem dX12_laysNumber_36 : decode cX12_laysNumber 36 = .ok (.istore_n 3, 1) := by decide +kernel
theorem dX12_laysNumber_37 : decode cX12_laysNumber 37 = .ok (.iinc 4 (-1), 3) := by decide +kernel
theorem dX12_laysNumber_40 : decode cX12_laysNumber 40 = .ok (.goto (-28), 3) := by decide +kernel
theorem dX12_laysNumber_43 : decode cX12_laysNumber 43 = .ok (.aload_n 0, 1) := by decide +kernel
theorem dX12_laysNumber_44 : decode cX12_laysNumber 44 = .ok (.invokevirtual 352, 3) := by decide +kernel
theorem dX12_laysNumber_47 : decode cX12_laysNumber 47 = .ok (.return_, 1) := by decide +kernel
def xX12_laysNumber : zX := (RX12, cX12_laysNumber, 5, none, false, { frames := 4, cells := 0, slots := 0, locals := 155 }, 0, 0, 0, 0)
theorem rmX12_laysNumber : z_Rm xX12_laysNumber := by unfold z_Rm xX12_laysNumber; exact ⟨by decide, by decide⟩
theorem reX12_laysNumber : z_Re xX12_laysNumber := ⟨rfl, rfl⟩
theorem rlX12_laysNumber : 1 ≤ xX12_laysNumber.2.2.2.2.2.1.frames ∧ 21 ≤ xX12_laysNumber.2.2.2.2.2.1.locals := by unfold xX12_laysNumber; exact ⟨by decide, by decide⟩
theorem meX12_laysNumber : z_Me yX12_laysNumber xX12_laysNumber 2 := ⟨wd1068, wd848, by decide, by decide, by decide +kernel⟩
theorem fitX12_laysNumber_44 : z_Fit xX12_laysDown xX12_laysNumber := by unfold z_Fit; simp only [xX12_laysDown, xX12_laysNumber]; exact ⟨by decide, by decide⟩
theorem fitX12_laysNumber_25 : z_Fit xX12_base xX12_laysNumber := by unfold z_Fit; simp only [xX12_base, xX12_laysNumber]; exact ⟨by decide, by decide⟩
theorem fitX12_laysNumber_32 : z_Fit xX12_base xX12_laysNumber := by unfold z_Fit; simp only [xX12_base, xX12_laysNumber]; exact ⟨by decide, by decide⟩
noncomputable def kX12_laysNumber_43 : zK zR := (q_aload 0 (q_callV 12 fX12_laysDown 0 q_vret))
noncomputable def bX12_laysNumber_12 : zK ((zL × zS) ⊕ zR) := (q_iload 4 (q_if_lt (q_dn kX12_laysNumber_43) (q_aload 0 (q_getR 12 49 (q_iload 4 (q_iload 3 (q_aload 0 (q_callV 12 fX12_base 0 (q_irem (q_iast (q_iload 3 (q_aload 0 (q_callV 12 fX12_base 0 (q_idiv (q_istore 3 (q_iinc 4 (-1) q_ag))))))))))))))))
noncomputable def kX12_laysNumber_12 : zK zR := q_lp (bX12_laysNumber_12)
noncomputable def kX12_laysNumber_0 : zK zR := (q_aload 0 (q_iload 2 (q_putI 12 50 (q_iload 1 (q_istore 3 (q_iload 2 (q_push 1 (q_isub (q_istore 4 kX12_laysNumber_12)))))))))
set_option maxRecDepth 100000 in
theorem tX12_laysNumber_43 {l : Launch} {D : zD} {B sz0 : Nat} {post : Option Value → zS → Prop} : zSnd l D B xX12_laysNumber sz0 post 43 kX12_laysNumber_43 (z_Jr post) := (s_aload_n dX12_laysNumber_43 rfl (s_callV (r := (RX12, TX12, 74)) dX12_laysNumber_44 mX12_laysDown meX12_laysDown wd1061 wd1062 rfl rfl reX12_laysDown rmX12_laysNumber (fitX12_laysNumber_44) wd1063 (s_vret dX12_laysNumber_47 rfl)))
set_option maxRecDepth 100000 in
theorem tX12_laysNumber_12 {l : Launch} {D : zD} {B sz0 : Nat} {post : Option Value → zS → Prop} : zSnd l D B xX12_laysNumber sz0 post 12 kX12_laysNumber_12 (z_Jr post) := s_lp (body := bX12_laysNumber_12) (s_iload dX12_laysNumber_12 (s_if_lt (tgt := 43) dX12_laysNumber_14 (by decide) (s_dn tX12_laysNumber_43) (s_aload_n dX12_laysNumber_17 rfl (s_getR (f := 49) dX12_laysNumber_18 clX12 (by decide) rfl wd882 (s_iload dX12_laysNumber_21 (s_iload_n dX12_laysNumber_23 rfl (s_aload_n dX12_laysNumber_24 rfl (s_callV (r := (RX12, TX12, 74)) dX12_laysNumber_25 mX12_base meX12_base wd1036 wd1037 rfl rfl reX12_base rmX12_laysNumber (fitX12_laysNumber_25) wd1038 (s_irem dX12_laysNumber_28 (s_iast dX12_laysNumber_29 (s_iload_n dX12_laysNumber_30 rfl (s_aload_n dX12_laysNumber_31 rfl (s_callV (r := (RX12, TX12, 74)) dX12_laysNumber_32 mX12_base meX12_base wd1036 wd1037 rfl rfl reX12_base rmX12_laysNumber (fitX12_laysNumber_32) wd1038 (s_idiv dX12_laysNumber_35 (s_istore_n dX12_laysNumber_36 rfl (s_iinc dX12_laysNumber_37 (by decide) (s_goto (tgt := 12) dX12_laysNumber_40 (by decide) s_ag)))))))))))))))))
set_option maxRecDepth 100000 in
theorem tX12_laysNumber_0 {l : Launch} {D : zD} {B sz0 : Nat} {post : Option Value → zS → Prop} : zSnd l D B xX12_laysNumber sz0 post 0 kX12_laysNumber_0 (z_Jr post) := (s_aload_n dX12_laysNumber_0 rfl (s_iload_n dX12_laysNumber_1 rfl (s_putI (f := 50) dX12_laysNumber_2 clX12 (by decide) rfl rfl rfl wd1053 (s_iload_n dX12_laysNumber_5 rfl (s_istore_n dX12_laysNumber_6 rfl (s_iload_n dX12_laysNumber_7 rfl (s_iconst dX12_laysNumber_8 (by decide) (s_isub dX12_laysNumber_9 (s_istore dX12_laysNumber_10 tX12_laysNumber_12)))))))))
noncomputable def fX12_laysNumber : zF := z_fn 5 kX12_laysNumber_0
theorem mX12_laysNumber {l : Launch} {D : zD} {B : Nat} : z_MF l D B yX12_laysNumber xX12_laysNumber fX12_laysNumber := z_mf (by decide) rfl (fun h => by cases h) rfl (fun as σ r h => ⟨z_fn_len h, kX12_laysNumber_0, z_fn_run h, fun _ => tX12_laysNumber_0⟩)
/-! ===== RowChildrenModel.lastLaid ===== -/
theorem dX12_lastLaid_0 : decode cX12_lastLaid 0 = .ok (.aload_n 0, 1) := by decide +kernel
theorem dX12_lastLaid_1 : decode cX12_lastLaid 1 = .ok (.aload_n 0, 1) := by decide +kernel
theorem dX12_lastLaid_2 : decode cX12_lastLaid 2 = .ok (.getfield 340, 3) := by decide +kernel
theorem dX12_lastLaid_5 : decode cX12_lastLaid 5 = .ok (.iconst 1, 1) := by decide +kernel
theorem dX12_lastLaid_6 : decode cX12_lastLaid 6 = .ok (.isub, 1) := by decide +kernel
theorem dX12_lastLaid_7 : decode cX12_lastLaid 7 = .ok (.iconst 0, 1) := by decide +kernel
theorem dX12_lastLaid_8 : decode cX12_lastLaid 8 = .ok (.invokevirtual 343, 3) := by decide +kernel
theorem dX12_lastLaid_11 : decode cX12_lastLaid 11 = .ok (.ireturn, 1) := by decide +kernel
def xX12_lastLaid : zX := (RX12, cX12_lastLaid, 1, (some .int), false, { frames := 2, cells := 0, slots := 0, locals := 112 }, 0, 0, 0, 0)
theorem rmX12_lastLaid : z_Rm xX12_lastLaid := by unfold z_Rm xX12_lastLaid; exact ⟨by decide, by decide⟩
theorem reX12_lastLaid : z_Re xX12_lastLaid := ⟨rfl, rfl⟩
theorem rlX12_lastLaid : 1 ≤ xX12_lastLaid.2.2.2.2.2.1.frames ∧ 21 ≤ xX12_lastLaid.2.2.2.2.2.1.locals := by unfold xX12_lastLaid; exact ⟨by decide, by decide⟩
theorem meX12_lastLaid : z_Me yX12_lastLaid xX12_lastLaid 0 := ⟨wd1069, wd848, by decide, by decide, by decide +kernel⟩
theorem fitX12_lastLaid_8 : z_Fit xX12_laidAt xX12_lastLaid := by unfold z_Fit; simp only [xX12_laidAt, xX12_lastLaid]; exact ⟨by decide, by decide⟩
noncomputable def kX12_lastLaid_0 : zK zR := (q_aload 0 (q_aload 0 (q_getI 12 50 (q_push 1 (q_isub (q_push 0 (q_callV 12 fX12_laidAt 2 q_iret)))))))
set_option maxRecDepth 100000 in
theorem tX12_lastLaid_0 {l : Launch} {D : zD} {B sz0 : Nat} {post : Option Value → zS → Prop} : zSnd l D B xX12_lastLaid sz0 post 0 kX12_lastLaid_0 (z_Jr post) := (s_aload_n dX12_lastLaid_0 rfl (s_aload_n dX12_lastLaid_1 rfl (s_getI (f := 50) dX12_lastLaid_2 clX12 (by decide) rfl wd1053 (s_iconst dX12_lastLaid_5 (by decide) (s_isub dX12_lastLaid_6 (s_iconst dX12_lastLaid_7 (by decide) (s_callV (r := (RX12, TX12, 74)) dX12_lastLaid_8 mX12_laidAt meX12_laidAt wd1054 wd1055 rfl rfl reX12_laidAt rmX12_lastLaid (fitX12_lastLaid_8) wd1056 (s_iret dX12_lastLaid_11 rfl))))))))
noncomputable def fX12_lastLaid : zF := z_fn 1 kX12_lastLaid_0
theorem mX12_lastLaid {l : Launch} {D : zD} {B : Nat} : z_MF l D B yX12_lastLaid xX12_lastLaid fX12_lastLaid := z_mf (by decide) rfl (fun h => by cases h) rfl (fun as σ r h => ⟨z_fn_len h, kX12_lastLaid_0, z_fn_run h, fun _ => tX12_lastLaid_0⟩)
/-! ===== RowChildrenModel.rowsOf ===== -/
theorem dX12_rowsOf_0 : decode cX12_rowsOf 0 = .ok (.iconst 1, 1) := by decide +kernel
theorem dX12_rowsOf_1 : decode cX12_rowsOf 1 = .ok (.istore_n 2, 1) := by decide +kernel
theorem dX12_rowsOf_2 : decode cX12_rowsOf 2 = .ok (.iconst 0, 1) := by decide +kernel
theorem dX12_rowsOf_3 : decode cX12_rowsOf 3 = .ok (.istore_n 3, 1) := by decide +kernel
theorem dX12_rowsOf_4 : decode cX12_rowsOf 4 = .ok (.iload_n 3, 1) := by decide +kernel
theorem dX12_rowsOf_5 : decode cX12_rowsOf 5 = .ok (.iload_n 1, 1) := by decide +kernel
theorem dX12_rowsOf_6 : decode cX12_rowsOf 6 = .ok (.if_icmp .ge 16, 3) := by decide +kernel
theorem dX12_rowsOf_9 : decode cX12_rowsOf 9 = .ok (.iload_n 2, 1) := by decide +kernel
theorem dX12_rowsOf_10 : decode cX12_rowsOf 10 = .ok (.aload_n 0, 1) := by decide +kernel
theorem dX12_rowsOf_11 : decode cX12_rowsOf 11 = .ok (.invokevirtual 327, 3) := by decide +kernel
theorem dX12_rowsOf_14 : decode cX12_rowsOf 14 = .ok (.imul, 1) := by decide +kernel
theorem dX12_rowsOf_15 : decode cX12_rowsOf 15 = .ok (.istore_n 2, 1) := by decide +kernel
theorem dX12_rowsOf_16 : decode cX12_rowsOf 16 = .ok (.iinc 3 1, 3) := by decide +kernel
theorem dX12_rowsOf_19 : decode cX12_rowsOf 19 = .ok (.goto (-15), 3) := by decide +kernel
theorem dX12_rowsOf_22 : decode cX12_rowsOf 22 = .ok (.iload_n 2, 1) := by decide +kernel
theorem dX12_rowsOf_23 : decode cX12_rowsOf 23 = .ok (.ireturn, 1) := by decide +kernel
def xX12_rowsOf : zX := (RX12, cX12_rowsOf, 4, (some .int), false, { frames := 2, cells := 0, slots := 0, locals := 110 }, 0, 0, 0, 0)
theorem rmX12_rowsOf : z_Rm xX12_rowsOf := by unfold z_Rm xX12_rowsOf; exact ⟨by decide, by decide⟩
theorem reX12_rowsOf : z_Re xX12_rowsOf := ⟨rfl, rfl⟩
theorem rlX12_rowsOf : 1 ≤ xX12_rowsOf.2.2.2.2.2.1.frames ∧ 21 ≤ xX12_rowsOf.2.2.2.2.2.1.locals := by unfold xX12_rowsOf; exact ⟨by decide, by decide⟩
theorem meX12_rowsOf : z_Me yX12_rowsOf xX12_rowsOf 1 := ⟨wd1070, wd848, by decide, by decide, by decide +kernel⟩
theorem fitX12_rowsOf_11 : z_Fit xX12_base xX12_rowsOf := by unfold z_Fit; simp only [xX12_base, xX12_rowsOf]; exact ⟨by decide, by decide⟩
noncomputable def kX12_rowsOf_22 : zK zR := (q_iload 2 q_iret)
noncomputable def bX12_rowsOf_4 : zK ((zL × zS) ⊕ zR) := (q_iload 3 (q_iload 1 (q_icmp_ge (q_dn kX12_rowsOf_22) (q_iload 2 (q_aload 0 (q_callV 12 fX12_base 0 (q_imul (q_istore 2 (q_iinc 3 1 q_ag)))))))))
noncomputable def kX12_rowsOf_4 : zK zR := q_lp (bX12_rowsOf_4)
noncomputable def kX12_rowsOf_0 : zK zR := (q_push 1 (q_istore 2 (q_push 0 (q_istore 3 kX12_rowsOf_4))))
set_option maxRecDepth 100000 in
theorem tX12_rowsOf_22 {l : Launch} {D : zD} {B sz0 : Nat} {post : Option Value → zS → Prop} : zSnd l D B xX12_rowsOf sz0 post 22 kX12_rowsOf_22 (z_Jr post) := (s_iload_n dX12_rowsOf_22 rfl (s_iret dX12_rowsOf_23 rfl))
set_option maxRecDepth 100000 in
theorem tX12_rowsOf_4 {l : Launch} {D : zD} {B sz0 : Nat} {post : Option Value → zS → Prop} : zSnd l D B xX12_rowsOf sz0 post 4 kX12_rowsOf_4 (z_Jr post) := s_lp (body := bX12_rowsOf_4) (s_iload_n dX12_rowsOf_4 rfl (s_iload_n dX12_rowsOf_5 rfl (s_icmp_ge (tgt := 22) dX12_rowsOf_6 (by decide) (s_dn tX12_rowsOf_22) (s_iload_n dX12_rowsOf_9 rfl (s_aload_n dX12_rowsOf_10 rfl (s_callV (r := (RX12, TX12, 74)) dX12_rowsOf_11 mX12_base meX12_base wd1036 wd1037 rfl rfl reX12_base rmX12_rowsOf (fitX12_rowsOf_11) wd1038 (s_imul dX12_rowsOf_14 (s_istore_n dX12_rowsOf_15 rfl (s_iinc dX12_rowsOf_16 (by decide) (s_goto (tgt := 4) dX12_rowsOf_19 (by decide) s_ag))))))))))
set_option maxRecDepth 100000 in
theorem tX12_rowsOf_0 {l : Launch} {D : zD} {B sz0 : Nat} {post : Option Value → zS → Prop} : zSnd l D B xX12_rowsOf sz0 post 0 kX12_rowsOf_0 (z_Jr post) := (s_iconst dX12_rowsOf_0 (by decide) (s_istore_n dX12_rowsOf_1 rfl (s_iconst dX12_rowsOf_2 (by decide) (s_istore_n dX12_rowsOf_3 rfl tX12_rowsOf_4))))
noncomputable def fX12_rowsOf : zF := z_fn 4 kX12_rowsOf_0
theorem mX12_rowsOf {l : Launch} {D : zD} {B : Nat} : z_MF l D B yX12_rowsOf xX12_rowsOf fX12_rowsOf := z_mf (by decide) rfl (fun h => by cases h) rfl (fun as σ r h => ⟨z_fn_len h, kX12_rowsOf_0, z_fn_run h, fun _ => tX12_rowsOf_0⟩)
/-! ===== RowChildrenModel.numberLaid ===== -/
theorem dX12_numberLaid_0 : decode cX12_numberLaid 0 = .ok (.iconst 0, 1) := by decide +kernel
theorem dX12_numberLaid_1 : decode cX12_numberLaid 1 = .ok (.istore_n 1, 1) := by decide +kernel
theorem dX12_numberLaid_2 : decode cX12_numberLaid 2 = .ok (.iconst 0, 1) := by decide +kernel
theorem dX12_numberLaid_3 : decode cX12_numberLaid 3 = .ok (.istore_n 2, 1) := by decide +kernel
theorem dX12_numberLaid_4 : decode cX12_numberLaid 4 = .ok (.iload_n 2, 1) := by decide +kernel
theorem dX12_numberLaid_5 : decode cX12_numberLaid 5 = .ok (.aload_n 0, 1) := by decide +kernel
theorem dX12_numberLaid_6 : decode cX12_numberLaid 6 = .ok (.getfield 340, 3) := by decide +kernel
theorem dX12_numberLaid_9 : decode cX12_numberLaid 9 = .ok (.if_icmp .ge 23, 3) := by decide +kernel
theorem dX12_numberLaid_12 : decode cX12_numberLaid 12 = .ok (.iload_n 1, 1) := by decide +kernel
theorem dX12_numberLaid_13 : decode cX12_numberLaid 13 = .ok (.aload_n 0, 1) := by decide +kernel
theorem dX12_numberLaid_14 : decode cX12_numberLaid 14 = .ok (.invokevirtual 327, 3) := by decide +kernel
theorem dX12_numberLaid_17 : decode cX12_numberLaid 17 = .ok (.imul, 1) := by decide +kernel
theorem dX12_numberLaid_18 : decode cX12_numberLaid 18 = .ok (.aload_n 0, 1) := by decide +kernel
theorem dX12_numberLaid_19 : decode cX12_numberLaid 19 = .ok (.getfield 110, 3) := by decide +kernel
theorem dX12_numberLaid_22 : decode cX12_numberLaid 22 = .ok (.iload_n 2, 1) := by decide +kernel
theorem dX12_numberLaid_23 : decode cX12_numberLaid 23 = .ok (.iaload, 1) := by decide +kernel
theorem dX12_numberLaid_24 : decode cX12_numberLaid 24 = .ok (.iadd, 1) := by decide +kernel
theorem dX12_numberLaid_25 : decode cX12_numberLaid 25 = .ok (.istore_n 1, 1) := by decide +kernel
theorem dX12_numberLaid_26 : decode cX12_numberLaid 26 = .ok (.iinc 2 1, 3) := by decide +kernel
theorem dX12_numberLaid_29 : decode cX12_numberLaid 29 = .ok (.goto (-25), 3) := by decide +kernel
theorem dX12_numberLaid_32 : decode cX12_numberLaid 32 = .ok (.iload_n 1, 1) := by decide +kernel
theorem dX12_numberLaid_33 : decode cX12_numberLaid 33 = .ok (.ireturn, 1) := by decide +kernel
def xX12_numberLaid : zX := (RX12, cX12_numberLaid, 3, (some .int), false, { frames := 2, cells := 0, slots := 0, locals := 110 }, 0, 0, 0, 0)
theorem rmX12_numberLaid : z_Rm xX12_numberLaid := by unfold z_Rm xX12_numberLaid; exact ⟨by decide, by decide⟩
theorem reX12_numberLaid : z_Re xX12_numberLaid := ⟨rfl, rfl⟩
theorem rlX12_numberLaid : 1 ≤ xX12_numberLaid.2.2.2.2.2.1.frames ∧ 21 ≤ xX12_numberLaid.2.2.2.2.2.1.locals := by unfold xX12_numberLaid; exact ⟨by decide, by decide⟩
theorem meX12_numberLaid : z_Me yX12_numberLaid xX12_numberLaid 0 := ⟨wd1071, wd848, by decide, by decide, by decide +kernel⟩
theorem fitX12_numberLaid_14 : z_Fit xX12_base xX12_numberLaid := by unfold z_Fit; simp only [xX12_base, xX12_numberLaid]; exact ⟨by decide, by decide⟩
noncomputable def kX12_numberLaid_32 : zK zR := (q_iload 1 q_iret)
noncomputable def bX12_numberLaid_4 : zK ((zL × zS) ⊕ zR) := (q_iload 2 (q_aload 0 (q_getI 12 50 (q_icmp_ge (q_dn kX12_numberLaid_32) (q_iload 1 (q_aload 0 (q_callV 12 fX12_base 0 (q_imul (q_aload 0 (q_getR 12 49 (q_iload 2 (q_iald (q_iadd (q_istore 1 (q_iinc 2 1 q_ag)))))))))))))))
noncomputable def kX12_numberLaid_4 : zK zR := q_lp (bX12_numberLaid_4)
noncomputable def kX12_numberLaid_0 : zK zR := (q_push 0 (q_istore 1 (q_push 0 (q_istore 2 kX12_numberLaid_4))))
set_option maxRecDepth 100000 in
theorem tX12_numberLaid_32 {l : Launch} {D : zD} {B sz0 : Nat} {post : Option Value → zS → Prop} : zSnd l D B xX12_numberLaid sz0 post 32 kX12_numberLaid_32 (z_Jr post) := (s_iload_n dX12_numberLaid_32 rfl (s_iret dX12_numberLaid_33 rfl))
set_option maxRecDepth 100000 in
theorem tX12_numberLaid_4 {l : Launch} {D : zD} {B sz0 : Nat} {post : Option Value → zS → Prop} : zSnd l D B xX12_numberLaid sz0 post 4 kX12_numberLaid_4 (z_Jr post) := s_lp (body := bX12_numberLaid_4) (s_iload_n dX12_numberLaid_4 rfl (s_aload_n dX12_numberLaid_5 rfl (s_getI (f := 50) dX12_numberLaid_6 clX12 (by decide) rfl wd1053 (s_icmp_ge (tgt := 32) dX12_numberLaid_9 (by decide) (s_dn tX12_numberLaid_32) (s_iload_n dX12_numberLaid_12 rfl (s_aload_n dX12_numberLaid_13 rfl (s_callV (r := (RX12, TX12, 74)) dX12_numberLaid_14 mX12_base meX12_base wd1036 wd1037 rfl rfl reX12_base rmX12_numberLaid (fitX12_numberLaid_14) wd1038 (s_imul dX12_numberLaid_17 (s_aload_n dX12_numberLaid_18 rfl (s_getR (f := 49) dX12_numberLaid_19 clX12 (by decide) rfl wd882 (s_iload_n dX12_numberLaid_22 rfl (s_iald dX12_numberLaid_23 (s_iadd dX12_numberLaid_24 (s_istore_n dX12_numberLaid_25 rfl (s_iinc dX12_numberLaid_26 (by decide) (s_goto (tgt := 4) dX12_numberLaid_29 (by decide) s_ag))))))))))))))))
set_option maxRecDepth 100000 in
theorem tX12_numberLaid_0 {l : Launch} {D : zD} {B sz0 : Nat} {post : Option Value → zS → Prop} : zSnd l D B xX12_numberLaid sz0 post 0 kX12_numberLaid_0 (z_Jr post) := (s_iconst dX12_numberLaid_0 (by decide) (s_istore_n dX12_numberLaid_1 rfl (s_iconst dX12_numberLaid_2 (by decide) (s_istore_n dX12_numberLaid_3 rfl tX12_numberLaid_4))))
noncomputable def fX12_numberLaid : zF := z_fn 3 kX12_numberLaid_0
theorem mX12_numberLaid {l : Launch} {D : zD} {B : Nat} : z_MF l D B yX12_numberLaid xX12_numberLaid fX12_numberLaid := z_mf (by decide) rfl (fun h => by cases h) rfl (fun as σ r h => ⟨z_fn_len h, kX12_numberLaid_0, z_fn_run h, fun _ => tX12_numberLaid_0⟩)
/-! ===== RowChildrenModel.isInside ===== -/
theorem dX12_isInside_0 : decode cX12_isInside 0 = .ok (.iload_n 1, 1) := by decide +kernel
theorem dX12_isInside_1 : decode cX12_isInside 1 = .ok (.iconst 0, 1) := by decide +kernel
theorem dX12_isInside_2 : decode cX12_isInside 2 = .ok (.aload_n 0, 1) := by decide +kernel
theorem dX12_isInside_3 : decode cX12_isInside 3 = .ok (.getfield 340, 3) := by decide +kernel
theorem dX12_isInside_6 : decode cX12_isInside 6 = .ok (.iconst 1, 1) := by decide +kernel
theorem dX12_isInside_7 : decode cX12_isInside 7 = .ok (.isub, 1) := by decide +kernel
theorem dX12_isInside_8 : decode cX12_isInside 8 = .ok (.invokestatic 323, 3) := by decide +kernel
theorem dX12_isInside_11 : decode cX12_isInside 11 = .ok (.ifCond .eq 23, 3) := by decide +kernel
theorem dX12_isInside_14 : decode cX12_isInside 14 = .ok (.iload_n 2, 1) := by decide +kernel
theorem dX12_isInside_15 : decode cX12_isInside 15 = .ok (.iconst 0, 1) := by decide +kernel
theorem dX12_isInside_16 : decode cX12_isInside 16 = .ok (.aload_n 0, 1) := by decide +kernel
theorem dX12_isInside_17 : decode cX12_isInside 17 = .ok (.getfield 340, 3) := by decide +kernel
theorem dX12_isInside_20 : decode cX12_isInside 20 = .ok (.iconst 1, 1) := by decide +kernel
theorem dX12_isInside_21 : decode cX12_isInside 21 = .ok (.isub, 1) := by decide +kernel
theorem dX12_isInside_22 : decode cX12_isInside 22 = .ok (.iload_n 1, 1) := by decide +kernel
theorem dX12_isInside_23 : decode cX12_isInside 23 = .ok (.isub, 1) := by decide +kernel
theorem dX12_isInside_24 : decode cX12_isInside 24 = .ok (.invokestatic 323, 3) := by decide +kernel
theorem dX12_isInside_27 : decode cX12_isInside 27 = .ok (.ifCond .eq 7, 3) := by decide +kernel
theorem dX12_isInside_30 : decode cX12_isInside 30 = .ok (.iconst 1, 1) := by decide +kernel
theorem dX12_isInside_31 : decode cX12_isInside 31 = .ok (.goto 4, 3) := by decide +kernel
theorem dX12_isInside_34 : decode cX12_isInside 34 = .ok (.iconst 0, 1) := by decide +kernel
theorem dX12_isInside_35 : decode cX12_isInside 35 = .ok (.ireturn, 1) := by decide +kernel
def xX12_isInside : zX := (RX12, cX12_isInside, 3, (some .boolean), false, { frames := 2, cells := 0, slots := 0, locals := 112 }, 0, 0, 0, 0)
theorem rmX12_isInside : z_Rm xX12_isInside := by unfold z_Rm xX12_isInside; exact ⟨by decide, by decide⟩
theorem reX12_isInside : z_Re xX12_isInside := ⟨rfl, rfl⟩
theorem rlX12_isInside : 1 ≤ xX12_isInside.2.2.2.2.2.1.frames ∧ 21 ≤ xX12_isInside.2.2.2.2.2.1.locals := by unfold xX12_isInside; exact ⟨by decide, by decide⟩
theorem meX12_isInside : z_Me yX12_isInside xX12_isInside 2 := ⟨wd1072, wd848, by decide, by decide, by decide +kernel⟩
theorem fitX12_isInside_8 : z_Fit xX12_in xX12_isInside := by unfold z_Fit; simp only [xX12_in, xX12_isInside]; exact ⟨by decide, by decide⟩
theorem fitX12_isInside_24 : z_Fit xX12_in xX12_isInside := by unfold z_Fit; simp only [xX12_in, xX12_isInside]; exact ⟨by decide, by decide⟩
noncomputable def kX12_isInside_35 : zK zR := q_zret
noncomputable def kX12_isInside_34 : zK zR := (q_push 0 kX12_isInside_35)
noncomputable def kX12_isInside_0 : zK zR := (q_iload 1 (q_push 0 (q_aload 0 (q_getI 12 50 (q_push 1 (q_isub (q_callS fX12_in 3 (q_if_eq kX12_isInside_34 (q_iload 2 (q_push 0 (q_aload 0 (q_getI 12 50 (q_push 1 (q_isub (q_iload 1 (q_isub (q_callS fX12_in 3 (q_if_eq kX12_isInside_34 (q_push 1 kX12_isInside_35)))))))))))))))))))
set_option maxRecDepth 100000 in
theorem tX12_isInside_35 {l : Launch} {D : zD} {B sz0 : Nat} {post : Option Value → zS → Prop} : zSnd l D B xX12_isInside sz0 post 35 kX12_isInside_35 (z_Jr post) := (s_zret dX12_isInside_35 rfl)
set_option maxRecDepth 100000 in
theorem tX12_isInside_34 {l : Launch} {D : zD} {B sz0 : Nat} {post : Option Value → zS → Prop} : zSnd l D B xX12_isInside sz0 post 34 kX12_isInside_34 (z_Jr post) := (s_iconst dX12_isInside_34 (by decide) tX12_isInside_35)
set_option maxRecDepth 100000 in
theorem tX12_isInside_0 {l : Launch} {D : zD} {B sz0 : Nat} {post : Option Value → zS → Prop} : zSnd l D B xX12_isInside sz0 post 0 kX12_isInside_0 (z_Jr post) := (s_iload_n dX12_isInside_0 rfl (s_iconst dX12_isInside_1 (by decide) (s_aload_n dX12_isInside_2 rfl (s_getI (f := 50) dX12_isInside_3 clX12 (by decide) rfl wd1053 (s_iconst dX12_isInside_6 (by decide) (s_isub dX12_isInside_7 (s_callS dX12_isInside_8 mX12_in meX12_in wd1033 rfl reX12_in rmX12_isInside (fitX12_isInside_8) wd1034 (s_if_eq (tgt := 34) dX12_isInside_11 (by decide) tX12_isInside_34 (s_iload_n dX12_isInside_14 rfl (s_iconst dX12_isInside_15 (by decide) (s_aload_n dX12_isInside_16 rfl (s_getI (f := 50) dX12_isInside_17 clX12 (by decide) rfl wd1053 (s_iconst dX12_isInside_20 (by decide) (s_isub dX12_isInside_21 (s_iload_n dX12_isInside_22 rfl (s_isub dX12_isInside_23 (s_callS dX12_isInside_24 mX12_in meX12_in wd1033 rfl reX12_in rmX12_isInside (fitX12_isInside_24) wd1034 (s_if_eq (tgt := 34) dX12_isInside_27 (by decide) tX12_isInside_34 (s_iconst dX12_isInside_30 (by decide) (s_goto (tgt := 35) dX12_isInside_31 (by decide) tX12_isInside_35))))))))))))))))))))
noncomputable def fX12_isInside : zF := z_fn 3 kX12_isInside_0
theorem mX12_isInside {l : Launch} {D : zD} {B : Nat} : z_MF l D B yX12_isInside xX12_isInside fX12_isInside := z_mf (by decide) rfl (fun h => by cases h) rfl (fun as σ r h => ⟨z_fn_len h, kX12_isInside_0, z_fn_run h, fun _ => tX12_isInside_0⟩)
/-! ===== RowChildrenModel.manyLaid ===== -/
theorem dX12_manyLaid_0 : decode cX12_manyLaid 0 = .ok (.iconst 0, 1) := by decide +kernel
theorem dX12_manyLaid_1 : decode cX12_manyLaid 1 = .ok (.istore_n 2, 1) := by decide +kernel
theorem dX12_manyLaid_2 : decode cX12_manyLaid 2 = .ok (.iconst 0, 1) := by decide +kernel
theorem dX12_manyLaid_3 : decode cX12_manyLaid 3 = .ok (.istore_n 3, 1) := by decide +kernel
theorem dX12_manyLaid_4 : decode cX12_manyLaid 4 = .ok (.iload_n 3, 1) := by decide +kernel
theorem dX12_manyLaid_5 : decode cX12_manyLaid 5 = .ok (.aload_n 0, 1) := by decide +kernel
theorem dX12_manyLaid_6 : decode cX12_manyLaid 6 = .ok (.getfield 340, 3) := by decide +kernel
theorem dX12_manyLaid_9 : decode cX12_manyLaid 9 = .ok (.if_icmp .ge 43, 3) := by decide +kernel
theorem dX12_manyLaid_12 : decode cX12_manyLaid 12 = .ok (.iconst 0, 1) := by decide +kernel
theorem dX12_manyLaid_13 : decode cX12_manyLaid 13 = .ok (.istore 4, 2) := by decide +kernel
theorem dX12_manyLaid_15 : decode cX12_manyLaid 15 = .ok (.iload 4, 2) := by decide +kernel
theorem dX12_manyLaid_17 : decode cX12_manyLaid 17 = .ok (.aload_n 0, 1) := by decide +kernel
theorem dX12_manyLaid_18 : decode cX12_manyLaid 18 = .ok (.getfield 340, 3) := by decide +kernel
theorem dX12_manyLaid_21 : decode cX12_manyLaid 21 = .ok (.iload_n 3, 1) := by decide +kernel
theorem dX12_manyLaid_22 : decode cX12_manyLaid 22 = .ok (.isub, 1) := by decide +kernel
theorem dX12_manyLaid_23 : decode cX12_manyLaid 23 = .ok (.if_icmp .ge 23, 3) := by decide +kernel
theorem dX12_manyLaid_26 : decode cX12_manyLaid 26 = .ok (.aload_n 0, 1) := by decide +kernel
theorem dX12_manyLaid_27 : decode cX12_manyLaid 27 = .ok (.iload_n 3, 1) := by decide +kernel
theorem dX12_manyLaid_28 : decode cX12_manyLaid 28 = .ok (.iload 4, 2) := by decide +kernel
theorem dX12_manyLaid_30 : decode cX12_manyLaid 30 = .ok (.invokevirtual 343, 3) := by decide +kernel
theorem dX12_manyLaid_33 : decode cX12_manyLaid 33 = .ok (.iload_n 1, 1) := by decide +kernel
theorem dX12_manyLaid_34 : decode cX12_manyLaid 34 = .ok (.if_icmp .ne 6, 3) := by decide +kernel
theorem dX12_manyLaid_37 : decode cX12_manyLaid 37 = .ok (.iinc 2 1, 3) := by decide +kernel
theorem dX12_manyLaid_40 : decode cX12_manyLaid 40 = .ok (.iinc 4 1, 3) := by decide +kernel
theorem dX12_manyLaid_43 : decode cX12_manyLaid 43 = .ok (.goto (-28), 3) := by decide +kernel
theorem dX12_manyLaid_46 : decode cX12_manyLaid 46 = .ok (.iinc 3 1, 3) := by decide +kernel
theorem dX12_manyLaid_49 : decode cX12_manyLaid 49 = .ok (.goto (-45), 3) := by decide +kernel
theorem dX12_manyLaid_52 : decode cX12_manyLaid 52 = .ok (.iload_n 2, 1) := by decide +kernel
theorem dX12_manyLaid_53 : decode cX12_manyLaid 53 = .ok (.ireturn, 1) := by decide +kernel
def xX12_manyLaid : zX := (RX12, cX12_manyLaid, 5, (some .int), false, { frames := 2, cells := 0, slots := 0, locals := 112 }, 0, 0, 0, 0)
theorem rmX12_manyLaid : z_Rm xX12_manyLaid := by unfold z_Rm xX12_manyLaid; exact ⟨by decide, by decide⟩
theorem reX12_manyLaid : z_Re xX12_manyLaid := ⟨rfl, rfl⟩
theorem rlX12_manyLaid : 1 ≤ xX12_manyLaid.2.2.2.2.2.1.frames ∧ 21 ≤ xX12_manyLaid.2.2.2.2.2.1.locals := by unfold xX12_manyLaid; exact ⟨by decide, by decide⟩
theorem meX12_manyLaid : z_Me yX12_manyLaid xX12_manyLaid 1 := ⟨wd1073, wd848, by decide, by decide, by decide +kernel⟩
theorem fitX12_manyLaid_30 : z_Fit xX12_laidAt xX12_manyLaid := by unfold z_Fit; simp only [xX12_laidAt, xX12_manyLaid]; exact ⟨by decide, by decide⟩
noncomputable def kX12_manyLaid_52 : zK zR := (q_iload 2 q_iret)
noncomputable def kX12_manyLaid_46 : zK ((zL × zS) ⊕ zR) := (q_iinc 3 1 q_ag)
noncomputable def kX12_manyLaid_40 : zK ((zL × zS) ⊕ ((zL × zS) ⊕ zR)) := (q_iinc 4 1 q_ag)
noncomputable def bX12_manyLaid_15 : zK ((zL × zS) ⊕ ((zL × zS) ⊕ zR)) := (q_iload 4 (q_aload 0 (q_getI 12 50 (q_iload 3 (q_isub (q_icmp_ge (q_dn kX12_manyLaid_46) (q_aload 0 (q_iload 3 (q_iload 4 (q_callV 12 fX12_laidAt 2 (q_iload 1 (q_icmp_ne kX12_manyLaid_40 (q_iinc 2 1 kX12_manyLaid_40)))))))))))))
noncomputable def kX12_manyLaid_15 : zK ((zL × zS) ⊕ zR) := q_lp (bX12_manyLaid_15)
noncomputable def bX12_manyLaid_4 : zK ((zL × zS) ⊕ zR) := (q_iload 3 (q_aload 0 (q_getI 12 50 (q_icmp_ge (q_dn kX12_manyLaid_52) (q_push 0 (q_istore 4 kX12_manyLaid_15))))))
noncomputable def kX12_manyLaid_4 : zK zR := q_lp (bX12_manyLaid_4)
noncomputable def kX12_manyLaid_0 : zK zR := (q_push 0 (q_istore 2 (q_push 0 (q_istore 3 kX12_manyLaid_4))))
set_option maxRecDepth 100000 in
theorem tX12_manyLaid_52 {l : Launch} {D : zD} {B sz0 : Nat} {post : Option Value → zS → Prop} : zSnd l D B xX12_manyLaid sz0 post 52 kX12_manyLaid_52 (z_Jr post) := (s_iload_n dX12_manyLaid_52 rfl (s_iret dX12_manyLaid_53 rfl))
set_option maxRecDepth 100000 in
theorem tX12_manyLaid_46 {l : Launch} {D : zD} {B sz0 : Nat} {post : Option Value → zS → Prop} : zSnd l D B xX12_manyLaid sz0 post 46 kX12_manyLaid_46 (z_Jl l D B xX12_manyLaid sz0 post 4 (z_Jr post)) := (s_iinc dX12_manyLaid_46 (by decide) (s_goto (tgt := 4) dX12_manyLaid_49 (by decide) s_ag))
set_option maxRecDepth 100000 in
theorem tX12_manyLaid_40 {l : Launch} {D : zD} {B sz0 : Nat} {post : Option Value → zS → Prop} : zSnd l D B xX12_manyLaid sz0 post 40 kX12_manyLaid_40 (z_Jl l D B xX12_manyLaid sz0 post 15 (z_Jl l D B xX12_manyLaid sz0 post 4 (z_Jr post))) := (s_iinc dX12_manyLaid_40 (by decide) (s_goto (tgt := 15) dX12_manyLaid_43 (by decide) s_ag))
set_option maxRecDepth 100000 in
theorem tX12_manyLaid_15 {l : Launch} {D : zD} {B sz0 : Nat} {post : Option Value → zS → Prop} : zSnd l D B xX12_manyLaid sz0 post 15 kX12_manyLaid_15 (z_Jl l D B xX12_manyLaid sz0 post 4 (z_Jr post)) := s_lp (body := bX12_manyLaid_15) (s_iload dX12_manyLaid_15 (s_aload_n dX12_manyLaid_17 rfl (s_getI (f := 50) dX12_manyLaid_18 clX12 (by decide) rfl wd1053 (s_iload_n dX12_manyLaid_21 rfl (s_isub dX12_manyLaid_22 (s_icmp_ge (tgt := 46) dX12_manyLaid_23 (by decide) (s_dn tX12_manyLaid_46) (s_aload_n dX12_manyLaid_26 rfl (s_iload_n dX12_manyLaid_27 rfl (s_iload dX12_manyLaid_28 (s_callV (r := (RX12, TX12, 74)) dX12_manyLaid_30 mX12_laidAt meX12_laidAt wd1054 wd1055 rfl rfl reX12_laidAt rmX12_manyLaid (fitX12_manyLaid_30) wd1056 (s_iload_n dX12_manyLaid_33 rfl (s_icmp_ne (tgt := 40) dX12_manyLaid_34 (by decide) tX12_manyLaid_40 (s_iinc dX12_manyLaid_37 (by decide) tX12_manyLaid_40)))))))))))))
set_option maxRecDepth 100000 in
theorem tX12_manyLaid_4 {l : Launch} {D : zD} {B sz0 : Nat} {post : Option Value → zS → Prop} : zSnd l D B xX12_manyLaid sz0 post 4 kX12_manyLaid_4 (z_Jr post) := s_lp (body := bX12_manyLaid_4) (s_iload_n dX12_manyLaid_4 rfl (s_aload_n dX12_manyLaid_5 rfl (s_getI (f := 50) dX12_manyLaid_6 clX12 (by decide) rfl wd1053 (s_icmp_ge (tgt := 52) dX12_manyLaid_9 (by decide) (s_dn tX12_manyLaid_52) (s_iconst dX12_manyLaid_12 (by decide) (s_istore dX12_manyLaid_13 tX12_manyLaid_15))))))
set_option maxRecDepth 100000 in
theorem tX12_manyLaid_0 {l : Launch} {D : zD} {B sz0 : Nat} {post : Option Value → zS → Prop} : zSnd l D B xX12_manyLaid sz0 post 0 kX12_manyLaid_0 (z_Jr post) := (s_iconst dX12_manyLaid_0 (by decide) (s_istore_n dX12_manyLaid_1 rfl (s_iconst dX12_manyLaid_2 (by decide) (s_istore_n dX12_manyLaid_3 rfl tX12_manyLaid_4))))
noncomputable def fX12_manyLaid : zF := z_fn 5 kX12_manyLaid_0
theorem mX12_manyLaid {l : Launch} {D : zD} {B : Nat} : z_MF l D B yX12_manyLaid xX12_manyLaid fX12_manyLaid := z_mf (by decide) rfl (fun h => by cases h) rfl (fun as σ r h => ⟨z_fn_len h, kX12_manyLaid_0, z_fn_run h, fun _ => tX12_manyLaid_0⟩)
/-! ===== RowChildrenModel.isFair ===== -/
theorem dX12_isFair_0 : decode cX12_isFair 0 = .ok (.bipush 99, 2) := by decide +kernel
theorem dX12_isFair_2 : decode cX12_isFair 2 = .ok (.istore_n 1, 1) := by decide +kernel
theorem dX12_isFair_3 : decode cX12_isFair 3 = .ok (.iconst 0, 1) := by decide +kernel
theorem dX12_isFair_4 : decode cX12_isFair 4 = .ok (.istore_n 2, 1) := by decide +kernel
theorem dX12_isFair_5 : decode cX12_isFair 5 = .ok (.iconst 0, 1) := by decide +kernel
theorem dX12_isFair_6 : decode cX12_isFair 6 = .ok (.istore_n 3, 1) := by decide +kernel
theorem dX12_isFair_7 : decode cX12_isFair 7 = .ok (.iload_n 3, 1) := by decide +kernel
theorem dX12_isFair_8 : decode cX12_isFair 8 = .ok (.aload_n 0, 1) := by decide +kernel
theorem dX12_isFair_9 : decode cX12_isFair 9 = .ok (.invokevirtual 327, 3) := by decide +kernel
theorem dX12_isFair_12 : decode cX12_isFair 12 = .ok (.if_icmp .ge 34, 3) := by decide +kernel
theorem dX12_isFair_15 : decode cX12_isFair 15 = .ok (.aload_n 0, 1) := by decide +kernel
theorem dX12_isFair_16 : decode cX12_isFair 16 = .ok (.iload_n 3, 1) := by decide +kernel
theorem dX12_isFair_17 : decode cX12_isFair 17 = .ok (.invokevirtual 355, 3) := by decide +kernel
theorem dX12_isFair_20 : decode cX12_isFair 20 = .ok (.istore 4, 2) := by decide +kernel
theorem dX12_isFair_22 : decode cX12_isFair 22 = .ok (.iload 4, 2) := by decide +kernel
theorem dX12_isFair_24 : decode cX12_isFair 24 = .ok (.iload_n 1, 1) := by decide +kernel
theorem dX12_isFair_25 : decode cX12_isFair 25 = .ok (.if_icmp .ge 6, 3) := by decide +kernel
theorem dX12_isFair_28 : decode cX12_isFair 28 = .ok (.iload 4, 2) := by decide +kernel
theorem dX12_isFair_30 : decode cX12_isFair 30 = .ok (.istore_n 1, 1) := by decide +kernel
theorem dX12_isFair_31 : decode cX12_isFair 31 = .ok (.iload 4, 2) := by decide +kernel
theorem dX12_isFair_33 : decode cX12_isFair 33 = .ok (.iload_n 2, 1) := by decide +kernel
theorem dX12_isFair_34 : decode cX12_isFair 34 = .ok (.if_icmp .le 6, 3) := by decide +kernel
theorem dX12_isFair_37 : decode cX12_isFair 37 = .ok (.iload 4, 2) := by decide +kernel
theorem dX12_isFair_39 : decode cX12_isFair 39 = .ok (.istore_n 2, 1) := by decide +kernel
theorem dX12_isFair_40 : decode cX12_isFair 40 = .ok (.iinc 3 1, 3) := by decide +kernel
theorem dX12_isFair_43 : decode cX12_isFair 43 = .ok (.goto (-36), 3) := by decide +kernel
theorem dX12_isFair_46 : decode cX12_isFair 46 = .ok (.iload_n 2, 1) := by decide +kernel
theorem dX12_isFair_47 : decode cX12_isFair 47 = .ok (.iload_n 1, 1) := by decide +kernel
theorem dX12_isFair_48 : decode cX12_isFair 48 = .ok (.isub, 1) := by decide +kernel
theorem dX12_isFair_49 : decode cX12_isFair 49 = .ok (.iconst 1, 1) := by decide +kernel
theorem dX12_isFair_50 : decode cX12_isFair 50 = .ok (.if_icmp .gt 7, 3) := by decide +kernel
theorem dX12_isFair_53 : decode cX12_isFair 53 = .ok (.iconst 1, 1) := by decide +kernel
theorem dX12_isFair_54 : decode cX12_isFair 54 = .ok (.goto 4, 3) := by decide +kernel
theorem dX12_isFair_57 : decode cX12_isFair 57 = .ok (.iconst 0, 1) := by decide +kernel
theorem dX12_isFair_58 : decode cX12_isFair 58 = .ok (.ireturn, 1) := by decide +kernel
def xX12_isFair : zX := (RX12, cX12_isFair, 5, (some .boolean), false, { frames := 3, cells := 0, slots := 0, locals := 136 }, 0, 0, 0, 0)
theorem rmX12_isFair : z_Rm xX12_isFair := by unfold z_Rm xX12_isFair; exact ⟨by decide, by decide⟩
theorem reX12_isFair : z_Re xX12_isFair := ⟨rfl, rfl⟩
theorem rlX12_isFair : 1 ≤ xX12_isFair.2.2.2.2.2.1.frames ∧ 21 ≤ xX12_isFair.2.2.2.2.2.1.locals := by unfold xX12_isFair; exact ⟨by decide, by decide⟩
theorem meX12_isFair : z_Me yX12_isFair xX12_isFair 0 := ⟨wd1077, wd848, by decide, by decide, by decide +kernel⟩
theorem fitX12_isFair_9 : z_Fit xX12_base xX12_isFair := by unfold z_Fit; simp only [xX12_base, xX12_isFair]; exact ⟨by decide, by decide⟩
theorem fitX12_isFair_17 : z_Fit xX12_manyLaid xX12_isFair := by unfold z_Fit; simp only [xX12_manyLaid, xX12_isFair]; exact ⟨by decide, by decide⟩
noncomputable def kX12_isFair_58 : zK zR := q_zret
noncomputable def kX12_isFair_46 : zK zR := (q_iload 2 (q_iload 1 (q_isub (q_push 1 (q_icmp_gt (q_push 0 kX12_isFair_58) (q_push 1 kX12_isFair_58))))))
noncomputable def kX12_isFair_40 : zK ((zL × zS) ⊕ zR) := (q_iinc 3 1 q_ag)
noncomputable def kX12_isFair_31 : zK ((zL × zS) ⊕ zR) := (q_iload 4 (q_iload 2 (q_icmp_le kX12_isFair_40 (q_iload 4 (q_istore 2 kX12_isFair_40)))))
noncomputable def bX12_isFair_7 : zK ((zL × zS) ⊕ zR) := (q_iload 3 (q_aload 0 (q_callV 12 fX12_base 0 (q_icmp_ge (q_dn kX12_isFair_46) (q_aload 0 (q_iload 3 (q_callV 12 fX12_manyLaid 1 (q_istore 4 (q_iload 4 (q_iload 1 (q_icmp_ge kX12_isFair_31 (q_iload 4 (q_istore 1 kX12_isFair_31)))))))))))))
noncomputable def kX12_isFair_7 : zK zR := q_lp (bX12_isFair_7)
noncomputable def kX12_isFair_0 : zK zR := (q_push 99 (q_istore 1 (q_push 0 (q_istore 2 (q_push 0 (q_istore 3 kX12_isFair_7))))))
set_option maxRecDepth 100000 in
theorem tX12_isFair_58 {l : Launch} {D : zD} {B sz0 : Nat} {post : Option Value → zS → Prop} : zSnd l D B xX12_isFair sz0 post 58 kX12_isFair_58 (z_Jr post) := (s_zret dX12_isFair_58 rfl)
set_option maxRecDepth 100000 in
theorem tX12_isFair_46 {l : Launch} {D : zD} {B sz0 : Nat} {post : Option Value → zS → Prop} : zSnd l D B xX12_isFair sz0 post 46 kX12_isFair_46 (z_Jr post) := (s_iload_n dX12_isFair_46 rfl (s_iload_n dX12_isFair_47 rfl (s_isub dX12_isFair_48 (s_iconst dX12_isFair_49 (by decide) (s_icmp_gt (tgt := 57) dX12_isFair_50 (by decide) (s_iconst dX12_isFair_57 (by decide) tX12_isFair_58) (s_iconst dX12_isFair_53 (by decide) (s_goto (tgt := 58) dX12_isFair_54 (by decide) tX12_isFair_58)))))))
set_option maxRecDepth 100000 in
theorem tX12_isFair_40 {l : Launch} {D : zD} {B sz0 : Nat} {post : Option Value → zS → Prop} : zSnd l D B xX12_isFair sz0 post 40 kX12_isFair_40 (z_Jl l D B xX12_isFair sz0 post 7 (z_Jr post)) := (s_iinc dX12_isFair_40 (by decide) (s_goto (tgt := 7) dX12_isFair_43 (by decide) s_ag))
set_option maxRecDepth 100000 in
theorem tX12_isFair_31 {l : Launch} {D : zD} {B sz0 : Nat} {post : Option Value → zS → Prop} : zSnd l D B xX12_isFair sz0 post 31 kX12_isFair_31 (z_Jl l D B xX12_isFair sz0 post 7 (z_Jr post)) := (s_iload dX12_isFair_31 (s_iload_n dX12_isFair_33 rfl (s_icmp_le (tgt := 40) dX12_isFair_34 (by decide) tX12_isFair_40 (s_iload dX12_isFair_37 (s_istore_n dX12_isFair_39 rfl tX12_isFair_40)))))
set_option maxRecDepth 100000 in
theorem tX12_isFair_7 {l : Launch} {D : zD} {B sz0 : Nat} {post : Option Value → zS → Prop} : zSnd l D B xX12_isFair sz0 post 7 kX12_isFair_7 (z_Jr post) := s_lp (body := bX12_isFair_7) (s_iload_n dX12_isFair_7 rfl (s_aload_n dX12_isFair_8 rfl (s_callV (r := (RX12, TX12, 74)) dX12_isFair_9 mX12_base meX12_base wd1036 wd1037 rfl rfl reX12_base rmX12_isFair (fitX12_isFair_9) wd1038 (s_icmp_ge (tgt := 46) dX12_isFair_12 (by decide) (s_dn tX12_isFair_46) (s_aload_n dX12_isFair_15 rfl (s_iload_n dX12_isFair_16 rfl (s_callV (r := (RX12, TX12, 74)) dX12_isFair_17 mX12_manyLaid meX12_manyLaid wd1074 wd1075 rfl rfl reX12_manyLaid rmX12_isFair (fitX12_isFair_17) wd1076 (s_istore dX12_isFair_20 (s_iload dX12_isFair_22 (s_iload_n dX12_isFair_24 rfl (s_icmp_ge (tgt := 31) dX12_isFair_25 (by decide) tX12_isFair_31 (s_iload dX12_isFair_28 (s_istore_n dX12_isFair_30 rfl tX12_isFair_31)))))))))))))
set_option maxRecDepth 100000 in
theorem tX12_isFair_0 {l : Launch} {D : zD} {B sz0 : Nat} {post : Option Value → zS → Prop} : zSnd l D B xX12_isFair sz0 post 0 kX12_isFair_0 (z_Jr post) := (s_bipush dX12_isFair_0 (by decide) (s_istore_n dX12_isFair_2 rfl (s_iconst dX12_isFair_3 (by decide) (s_istore_n dX12_isFair_4 rfl (s_iconst dX12_isFair_5 (by decide) (s_istore_n dX12_isFair_6 rfl tX12_isFair_7))))))
noncomputable def fX12_isFair : zF := z_fn 5 kX12_isFair_0
theorem mX12_isFair {l : Launch} {D : zD} {B : Nat} : z_MF l D B yX12_isFair xX12_isFair fX12_isFair := z_mf (by decide) rfl (fun h => by cases h) rfl (fun as σ r h => ⟨z_fn_len h, kX12_isFair_0, z_fn_run h, fun _ => tX12_isFair_0⟩)
