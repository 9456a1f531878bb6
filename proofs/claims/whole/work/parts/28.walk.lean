/-! ===== RowChildrenModel.lastBits ===== -/
theorem dX12_lastBits_0 : decode cX12_lastBits 0 = .ok (.iconst 0, 1) := by decide +kernel
theorem dX12_lastBits_1 : decode cX12_lastBits 1 = .ok (.istore_n 1, 1) := by decide +kernel
theorem dX12_lastBits_2 : decode cX12_lastBits 2 = .ok (.iconst 0, 1) := by decide +kernel
theorem dX12_lastBits_3 : decode cX12_lastBits 3 = .ok (.istore_n 2, 1) := by decide +kernel
theorem dX12_lastBits_4 : decode cX12_lastBits 4 = .ok (.iload_n 2, 1) := by decide +kernel
theorem dX12_lastBits_5 : decode cX12_lastBits 5 = .ok (.aload_n 0, 1) := by decide +kernel
theorem dX12_lastBits_6 : decode cX12_lastBits 6 = .ok (.getfield 55, 3) := by decide +kernel
theorem dX12_lastBits_9 : decode cX12_lastBits 9 = .ok (.aload_n 0, 1) := by decide +kernel
theorem dX12_lastBits_10 : decode cX12_lastBits 10 = .ok (.getfield 249, 3) := by decide +kernel
theorem dX12_lastBits_13 : decode cX12_lastBits 13 = .ok (.iaload, 1) := by decide +kernel
theorem dX12_lastBits_14 : decode cX12_lastBits 14 = .ok (.if_icmp .ge 23, 3) := by decide +kernel
theorem dX12_lastBits_17 : decode cX12_lastBits 17 = .ok (.aload_n 0, 1) := by decide +kernel
theorem dX12_lastBits_18 : decode cX12_lastBits 18 = .ok (.iload_n 2, 1) := by decide +kernel
theorem dX12_lastBits_19 : decode cX12_lastBits 19 = .ok (.invokevirtual 380, 3) := by decide +kernel
theorem dX12_lastBits_22 : decode cX12_lastBits 22 = .ok (.iload_n 1, 1) := by decide +kernel
theorem dX12_lastBits_23 : decode cX12_lastBits 23 = .ok (.iconst 1, 1) := by decide +kernel
theorem dX12_lastBits_24 : decode cX12_lastBits 24 = .ok (.aload_n 0, 1) := by decide +kernel
theorem dX12_lastBits_25 : decode cX12_lastBits 25 = .ok (.invokevirtual 407, 3) := by decide +kernel
theorem dX12_lastBits_28 : decode cX12_lastBits 28 = .ok (.ishl, 1) := by decide +kernel
theorem dX12_lastBits_29 : decode cX12_lastBits 29 = .ok (.ior, 1) := by decide +kernel
theorem dX12_lastBits_30 : decode cX12_lastBits 30 = .ok (.istore_n 1, 1) := by decide +kernel
theorem dX12_lastBits_31 : decode cX12_lastBits 31 = .ok (.iinc 2 1, 3) := by decide +kernel
theorem dX12_lastBits_34 : decode cX12_lastBits 34 = .ok (.goto (-30), 3) := by decide +kernel
theorem dX12_lastBits_37 : decode cX12_lastBits 37 = .ok (.iload_n 1, 1) := by decide +kernel
theorem dX12_lastBits_38 : decode cX12_lastBits 38 = .ok (.ireturn, 1) := by decide +kernel
def xX12_lastBits : zX := (RX12, cX12_lastBits, 3, (some .int), false, { frames := 5, cells := 0, slots := 0, locals := 177 }, 0, 0, 0, 0)
theorem rmX12_lastBits : z_Rm xX12_lastBits := by unfold z_Rm xX12_lastBits; exact ⟨by decide, by decide⟩
theorem reX12_lastBits : z_Re xX12_lastBits := ⟨rfl, rfl⟩
theorem rlX12_lastBits : 1 ≤ xX12_lastBits.2.2.2.2.2.1.frames ∧ 21 ≤ xX12_lastBits.2.2.2.2.2.1.locals := by unfold xX12_lastBits; exact ⟨by decide, by decide⟩
theorem meX12_lastBits : z_Me yX12_lastBits xX12_lastBits 0 := ⟨wd1310, wd848, by decide, by decide, by decide +kernel⟩
theorem fitX12_lastBits_19 : z_Fit xX12_laysRow xX12_lastBits := by unfold z_Fit; simp only [xX12_laysRow, xX12_lastBits]; exact ⟨by decide, by decide⟩
theorem fitX12_lastBits_25 : z_Fit xX12_lastLaid xX12_lastBits := by unfold z_Fit; simp only [xX12_lastLaid, xX12_lastBits]; exact ⟨by decide, by decide⟩
noncomputable def kX12_lastBits_37 : zK zR := (q_iload 1 q_iret)
noncomputable def bX12_lastBits_4 : zK ((zL × zS) ⊕ zR) := (q_iload 2 (q_aload 0 (q_getR 12 26 (q_aload 0 (q_getI 12 18 (q_iald (q_icmp_ge (q_dn kX12_lastBits_37) (q_aload 0 (q_iload 2 (q_callV 12 fX12_laysRow 1 (q_iload 1 (q_push 1 (q_aload 0 (q_callV 12 fX12_lastLaid 0 (q_ishl (q_ior (q_istore 1 (q_iinc 2 1 q_ag))))))))))))))))))
noncomputable def kX12_lastBits_4 : zK zR := q_lp (bX12_lastBits_4)
noncomputable def kX12_lastBits_0 : zK zR := (q_push 0 (q_istore 1 (q_push 0 (q_istore 2 kX12_lastBits_4))))
set_option maxRecDepth 100000 in
theorem tX12_lastBits_37 {l : Launch} {D : zD} {B sz0 : Nat} {post : Option Value → zS → Prop} : zSnd l D B xX12_lastBits sz0 post 37 kX12_lastBits_37 (z_Jr post) := (s_iload_n dX12_lastBits_37 rfl (s_iret dX12_lastBits_38 rfl))
set_option maxRecDepth 100000 in
theorem tX12_lastBits_4 {l : Launch} {D : zD} {B sz0 : Nat} {post : Option Value → zS → Prop} : zSnd l D B xX12_lastBits sz0 post 4 kX12_lastBits_4 (z_Jr post) := s_lp (body := bX12_lastBits_4) (s_iload_n dX12_lastBits_4 rfl (s_aload_n dX12_lastBits_5 rfl (s_getR (f := 26) dX12_lastBits_6 clX12 (by decide) rfl wd842 (s_aload_n dX12_lastBits_9 rfl (s_getI (f := 18) dX12_lastBits_10 clX12 (by decide) rfl wd854 (s_iald dX12_lastBits_13 (s_icmp_ge (tgt := 37) dX12_lastBits_14 (by decide) (s_dn tX12_lastBits_37) (s_aload_n dX12_lastBits_17 rfl (s_iload_n dX12_lastBits_18 rfl (s_callV (r := (RX12, TX12, 74)) dX12_lastBits_19 mX12_laysRow meX12_laysRow wd1108 wd1109 rfl rfl reX12_laysRow rmX12_lastBits (fitX12_lastBits_19) wd1110 (s_iload_n dX12_lastBits_22 rfl (s_iconst dX12_lastBits_23 (by decide) (s_aload_n dX12_lastBits_24 rfl (s_callV (r := (RX12, TX12, 74)) dX12_lastBits_25 mX12_lastLaid meX12_lastLaid wd1139 wd1140 rfl rfl reX12_lastLaid rmX12_lastBits (fitX12_lastBits_25) wd1141 (s_ishl dX12_lastBits_28 (s_ior dX12_lastBits_29 (s_istore_n dX12_lastBits_30 rfl (s_iinc dX12_lastBits_31 (by decide) (s_goto (tgt := 4) dX12_lastBits_34 (by decide) s_ag)))))))))))))))))))
set_option maxRecDepth 100000 in
theorem tX12_lastBits_0 {l : Launch} {D : zD} {B sz0 : Nat} {post : Option Value → zS → Prop} : zSnd l D B xX12_lastBits sz0 post 0 kX12_lastBits_0 (z_Jr post) := (s_iconst dX12_lastBits_0 (by decide) (s_istore_n dX12_lastBits_1 rfl (s_iconst dX12_lastBits_2 (by decide) (s_istore_n dX12_lastBits_3 rfl tX12_lastBits_4))))
noncomputable def fX12_lastBits : zF := z_fn 3 kX12_lastBits_0
theorem mX12_lastBits {l : Launch} {D : zD} {B : Nat} : z_MF l D B yX12_lastBits xX12_lastBits fX12_lastBits := z_mf (by decide) rfl (fun h => by cases h) rfl (fun as σ r h => ⟨z_fn_len h, kX12_lastBits_0, z_fn_run h, fun _ => tX12_lastBits_0⟩)
/-! ===== RowChildrenModel.count ===== -/
theorem dX12_count_0 : decode cX12_count 0 = .ok (.aload_n 0, 1) := by decide +kernel
theorem dX12_count_1 : decode cX12_count 1 = .ok (.invokevirtual 401, 3) := by decide +kernel
theorem dX12_count_4 : decode cX12_count 4 = .ok (.iconst 0, 1) := by decide +kernel
theorem dX12_count_5 : decode cX12_count 5 = .ok (.istore_n 2, 1) := by decide +kernel
theorem dX12_count_6 : decode cX12_count 6 = .ok (.iload_n 1, 1) := by decide +kernel
theorem dX12_count_7 : decode cX12_count 7 = .ok (.tableswitch 297 0 13 #[69, 74, 84, 92, 100, 128, 133, 138, 143, 148, 153, 158, 203, 258], 69) := by decide +kernel
theorem dX12_count_76 : decode cX12_count 76 = .ok (.aload_n 0, 1) := by decide +kernel
theorem dX12_count_77 : decode cX12_count 77 = .ok (.invokevirtual 327, 3) := by decide +kernel
theorem dX12_count_80 : decode cX12_count 80 = .ok (.ireturn, 1) := by decide +kernel
theorem dX12_count_81 : decode cX12_count 81 = .ok (.aload_n 0, 1) := by decide +kernel
theorem dX12_count_82 : decode cX12_count 82 = .ok (.getfield 55, 3) := by decide +kernel
theorem dX12_count_85 : decode cX12_count 85 = .ok (.aload_n 0, 1) := by decide +kernel
theorem dX12_count_86 : decode cX12_count 86 = .ok (.getfield 249, 3) := by decide +kernel
theorem dX12_count_89 : decode cX12_count 89 = .ok (.iaload, 1) := by decide +kernel
theorem dX12_count_90 : decode cX12_count 90 = .ok (.ireturn, 1) := by decide +kernel
theorem dX12_count_91 : decode cX12_count 91 = .ok (.aload_n 0, 1) := by decide +kernel
theorem dX12_count_92 : decode cX12_count 92 = .ok (.getfield 107, 3) := by decide +kernel
theorem dX12_count_95 : decode cX12_count 95 = .ok (.bipush 36, 2) := by decide +kernel
theorem dX12_count_97 : decode cX12_count 97 = .ok (.iaload, 1) := by decide +kernel
theorem dX12_count_98 : decode cX12_count 98 = .ok (.ireturn, 1) := by decide +kernel
theorem dX12_count_99 : decode cX12_count 99 = .ok (.aload_n 0, 1) := by decide +kernel
theorem dX12_count_100 : decode cX12_count 100 = .ok (.getfield 107, 3) := by decide +kernel
theorem dX12_count_103 : decode cX12_count 103 = .ok (.bipush 37, 2) := by decide +kernel
theorem dX12_count_105 : decode cX12_count 105 = .ok (.iaload, 1) := by decide +kernel
theorem dX12_count_106 : decode cX12_count 106 = .ok (.ireturn, 1) := by decide +kernel
theorem dX12_count_107 : decode cX12_count 107 = .ok (.aload_n 0, 1) := by decide +kernel
theorem dX12_count_108 : decode cX12_count 108 = .ok (.getfield 107, 3) := by decide +kernel
theorem dX12_count_111 : decode cX12_count 111 = .ok (.iconst 0, 1) := by decide +kernel
theorem dX12_count_112 : decode cX12_count 112 = .ok (.iaload, 1) := by decide +kernel
theorem dX12_count_113 : decode cX12_count 113 = .ok (.aload_n 0, 1) := by decide +kernel
theorem dX12_count_114 : decode cX12_count 114 = .ok (.getfield 107, 3) := by decide +kernel
theorem dX12_count_117 : decode cX12_count 117 = .ok (.iconst 1, 1) := by decide +kernel
theorem dX12_count_118 : decode cX12_count 118 = .ok (.iaload, 1) := by decide +kernel
theorem dX12_count_119 : decode cX12_count 119 = .ok (.iadd, 1) := by decide +kernel
theorem dX12_count_120 : decode cX12_count 120 = .ok (.aload_n 0, 1) := by decide +kernel
theorem dX12_count_121 : decode cX12_count 121 = .ok (.getfield 107, 3) := by decide +kernel
theorem dX12_count_124 : decode cX12_count 124 = .ok (.iconst 2, 1) := by decide +kernel
theorem dX12_count_125 : decode cX12_count 125 = .ok (.iaload, 1) := by decide +kernel
theorem dX12_count_126 : decode cX12_count 126 = .ok (.iadd, 1) := by decide +kernel
theorem dX12_count_127 : decode cX12_count 127 = .ok (.aload_n 0, 1) := by decide +kernel
theorem dX12_count_128 : decode cX12_count 128 = .ok (.getfield 107, 3) := by decide +kernel
theorem dX12_count_131 : decode cX12_count 131 = .ok (.iconst 3, 1) := by decide +kernel
theorem dX12_count_132 : decode cX12_count 132 = .ok (.iaload, 1) := by decide +kernel
theorem dX12_count_133 : decode cX12_count 133 = .ok (.iadd, 1) := by decide +kernel
theorem dX12_count_134 : decode cX12_count 134 = .ok (.ireturn, 1) := by decide +kernel
theorem dX12_count_135 : decode cX12_count 135 = .ok (.aload_n 0, 1) := by decide +kernel
theorem dX12_count_136 : decode cX12_count 136 = .ok (.invokevirtual 533, 3) := by decide +kernel
theorem dX12_count_139 : decode cX12_count 139 = .ok (.ireturn, 1) := by decide +kernel
theorem dX12_count_140 : decode cX12_count 140 = .ok (.aload_n 0, 1) := by decide +kernel
theorem dX12_count_141 : decode cX12_count 141 = .ok (.invokevirtual 389, 3) := by decide +kernel
theorem dX12_count_144 : decode cX12_count 144 = .ok (.ireturn, 1) := by decide +kernel
theorem dX12_count_145 : decode cX12_count 145 = .ok (.aload_n 0, 1) := by decide +kernel
theorem dX12_count_146 : decode cX12_count 146 = .ok (.invokevirtual 536, 3) := by decide +kernel
theorem dX12_count_149 : decode cX12_count 149 = .ok (.ireturn, 1) := by decide +kernel
theorem dX12_count_150 : decode cX12_count 150 = .ok (.aload_n 0, 1) := by decide +kernel
theorem dX12_count_151 : decode cX12_count 151 = .ok (.getfield 182, 3) := by decide +kernel
theorem dX12_count_154 : decode cX12_count 154 = .ok (.ireturn, 1) := by decide +kernel
theorem dX12_count_155 : decode cX12_count 155 = .ok (.aload_n 0, 1) := by decide +kernel
theorem dX12_count_156 : decode cX12_count 156 = .ok (.getfield 271, 3) := by decide +kernel
theorem dX12_count_159 : decode cX12_count 159 = .ok (.ireturn, 1) := by decide +kernel
theorem dX12_count_160 : decode cX12_count 160 = .ok (.aload_n 0, 1) := by decide +kernel
theorem dX12_count_161 : decode cX12_count 161 = .ok (.getfield 274, 3) := by decide +kernel
theorem dX12_count_164 : decode cX12_count 164 = .ok (.ireturn, 1) := by decide +kernel
theorem dX12_count_165 : decode cX12_count 165 = .ok (.aload_n 0, 1) := by decide +kernel
theorem dX12_count_166 : decode cX12_count 166 = .ok (.getfield 162, 3) := by decide +kernel
theorem dX12_count_169 : decode cX12_count 169 = .ok (.iconst 0, 1) := by decide +kernel
theorem dX12_count_170 : decode cX12_count 170 = .ok (.baload, 1) := by decide +kernel
theorem dX12_count_171 : decode cX12_count 171 = .ok (.ifCond .eq 7, 3) := by decide +kernel
theorem dX12_count_174 : decode cX12_count 174 = .ok (.iconst 1, 1) := by decide +kernel
theorem dX12_count_175 : decode cX12_count 175 = .ok (.goto 4, 3) := by decide +kernel
theorem dX12_count_178 : decode cX12_count 178 = .ok (.iconst 0, 1) := by decide +kernel
theorem dX12_count_179 : decode cX12_count 179 = .ok (.aload_n 0, 1) := by decide +kernel
theorem dX12_count_180 : decode cX12_count 180 = .ok (.getfield 162, 3) := by decide +kernel
theorem dX12_count_183 : decode cX12_count 183 = .ok (.iconst 1, 1) := by decide +kernel
theorem dX12_count_184 : decode cX12_count 184 = .ok (.baload, 1) := by decide +kernel
theorem dX12_count_185 : decode cX12_count 185 = .ok (.ifCond .eq 7, 3) := by decide +kernel
theorem dX12_count_188 : decode cX12_count 188 = .ok (.iconst 1, 1) := by decide +kernel
theorem dX12_count_189 : decode cX12_count 189 = .ok (.goto 4, 3) := by decide +kernel
theorem dX12_count_192 : decode cX12_count 192 = .ok (.iconst 0, 1) := by decide +kernel
theorem dX12_count_193 : decode cX12_count 193 = .ok (.iadd, 1) := by decide +kernel
theorem dX12_count_194 : decode cX12_count 194 = .ok (.aload_n 0, 1) := by decide +kernel
theorem dX12_count_195 : decode cX12_count 195 = .ok (.getfield 162, 3) := by decide +kernel
theorem dX12_count_198 : decode cX12_count 198 = .ok (.iconst 2, 1) := by decide +kernel
theorem dX12_count_199 : decode cX12_count 199 = .ok (.baload, 1) := by decide +kernel
theorem dX12_count_200 : decode cX12_count 200 = .ok (.ifCond .eq 7, 3) := by decide +kernel
theorem dX12_count_203 : decode cX12_count 203 = .ok (.iconst 1, 1) := by decide +kernel
theorem dX12_count_204 : decode cX12_count 204 = .ok (.goto 4, 3) := by decide +kernel
theorem dX12_count_207 : decode cX12_count 207 = .ok (.iconst 0, 1) := by decide +kernel
theorem dX12_count_208 : decode cX12_count 208 = .ok (.iadd, 1) := by decide +kernel
theorem dX12_count_209 : decode cX12_count 209 = .ok (.ireturn, 1) := by decide +kernel
theorem dX12_count_210 : decode cX12_count 210 = .ok (.iconst 0, 1) := by decide +kernel
theorem dX12_count_211 : decode cX12_count 211 = .ok (.istore_n 3, 1) := by decide +kernel
theorem dX12_count_212 : decode cX12_count 212 = .ok (.iload_n 3, 1) := by decide +kernel
theorem dX12_count_213 : decode cX12_count 213 = .ok (.aload_n 0, 1) := by decide +kernel
theorem dX12_count_214 : decode cX12_count 214 = .ok (.getfield 55, 3) := by decide +kernel
theorem dX12_count_217 : decode cX12_count 217 = .ok (.aload_n 0, 1) := by decide +kernel
theorem dX12_count_218 : decode cX12_count 218 = .ok (.getfield 249, 3) := by decide +kernel
theorem dX12_count_221 : decode cX12_count 221 = .ok (.iaload, 1) := by decide +kernel
theorem dX12_count_222 : decode cX12_count 222 = .ok (.if_icmp .ge 41, 3) := by decide +kernel
theorem dX12_count_225 : decode cX12_count 225 = .ok (.iconst 0, 1) := by decide +kernel
theorem dX12_count_226 : decode cX12_count 226 = .ok (.istore 4, 2) := by decide +kernel
theorem dX12_count_228 : decode cX12_count 228 = .ok (.iload 4, 2) := by decide +kernel
theorem dX12_count_230 : decode cX12_count 230 = .ok (.aload_n 0, 1) := by decide +kernel
theorem dX12_count_231 : decode cX12_count 231 = .ok (.getfield 107, 3) := by decide +kernel
theorem dX12_count_234 : decode cX12_count 234 = .ok (.iload_n 3, 1) := by decide +kernel
theorem dX12_count_235 : decode cX12_count 235 = .ok (.iaload, 1) := by decide +kernel
theorem dX12_count_236 : decode cX12_count 236 = .ok (.if_icmp .ge 21, 3) := by decide +kernel
theorem dX12_count_239 : decode cX12_count 239 = .ok (.iload_n 2, 1) := by decide +kernel
theorem dX12_count_240 : decode cX12_count 240 = .ok (.iconst 1, 1) := by decide +kernel
theorem dX12_count_241 : decode cX12_count 241 = .ok (.aload_n 0, 1) := by decide +kernel
theorem dX12_count_242 : decode cX12_count 242 = .ok (.iload_n 3, 1) := by decide +kernel
theorem dX12_count_243 : decode cX12_count 243 = .ok (.iload 4, 2) := by decide +kernel
theorem dX12_count_245 : decode cX12_count 245 = .ok (.invokevirtual 349, 3) := by decide +kernel
theorem dX12_count_248 : decode cX12_count 248 = .ok (.ishl, 1) := by decide +kernel
theorem dX12_count_249 : decode cX12_count 249 = .ok (.ior, 1) := by decide +kernel
theorem dX12_count_250 : decode cX12_count 250 = .ok (.istore_n 2, 1) := by decide +kernel
theorem dX12_count_251 : decode cX12_count 251 = .ok (.iinc 4 1, 3) := by decide +kernel
theorem dX12_count_254 : decode cX12_count 254 = .ok (.goto (-26), 3) := by decide +kernel
theorem dX12_count_257 : decode cX12_count 257 = .ok (.iinc 3 1, 3) := by decide +kernel
theorem dX12_count_260 : decode cX12_count 260 = .ok (.goto (-48), 3) := by decide +kernel
theorem dX12_count_263 : decode cX12_count 263 = .ok (.iload_n 2, 1) := by decide +kernel
theorem dX12_count_264 : decode cX12_count 264 = .ok (.ireturn, 1) := by decide +kernel
theorem dX12_count_265 : decode cX12_count 265 = .ok (.iconst 0, 1) := by decide +kernel
theorem dX12_count_266 : decode cX12_count 266 = .ok (.istore_n 3, 1) := by decide +kernel
theorem dX12_count_267 : decode cX12_count 267 = .ok (.iload_n 3, 1) := by decide +kernel
theorem dX12_count_268 : decode cX12_count 268 = .ok (.aload_n 0, 1) := by decide +kernel
theorem dX12_count_269 : decode cX12_count 269 = .ok (.getfield 55, 3) := by decide +kernel
theorem dX12_count_272 : decode cX12_count 272 = .ok (.aload_n 0, 1) := by decide +kernel
theorem dX12_count_273 : decode cX12_count 273 = .ok (.getfield 249, 3) := by decide +kernel
theorem dX12_count_276 : decode cX12_count 276 = .ok (.iaload, 1) := by decide +kernel
theorem dX12_count_277 : decode cX12_count 277 = .ok (.if_icmp .ge 25, 3) := by decide +kernel
theorem dX12_count_280 : decode cX12_count 280 = .ok (.aload_n 0, 1) := by decide +kernel
theorem dX12_count_281 : decode cX12_count 281 = .ok (.getfield 107, 3) := by decide +kernel
theorem dX12_count_284 : decode cX12_count 284 = .ok (.iload_n 3, 1) := by decide +kernel
theorem dX12_count_285 : decode cX12_count 285 = .ok (.iaload, 1) := by decide +kernel
theorem dX12_count_286 : decode cX12_count 286 = .ok (.iconst 1, 1) := by decide +kernel
theorem dX12_count_287 : decode cX12_count 287 = .ok (.if_icmp .ne 9, 3) := by decide +kernel
theorem dX12_count_290 : decode cX12_count 290 = .ok (.iload_n 2, 1) := by decide +kernel
theorem dX12_count_291 : decode cX12_count 291 = .ok (.iconst 1, 1) := by decide +kernel
theorem dX12_count_292 : decode cX12_count 292 = .ok (.iload_n 3, 1) := by decide +kernel
theorem dX12_count_293 : decode cX12_count 293 = .ok (.ishl, 1) := by decide +kernel
theorem dX12_count_294 : decode cX12_count 294 = .ok (.ior, 1) := by decide +kernel
theorem dX12_count_295 : decode cX12_count 295 = .ok (.istore_n 2, 1) := by decide +kernel
theorem dX12_count_296 : decode cX12_count 296 = .ok (.iinc 3 1, 3) := by decide +kernel
theorem dX12_count_299 : decode cX12_count 299 = .ok (.goto (-32), 3) := by decide +kernel
theorem dX12_count_302 : decode cX12_count 302 = .ok (.iload_n 2, 1) := by decide +kernel
theorem dX12_count_303 : decode cX12_count 303 = .ok (.ireturn, 1) := by decide +kernel
theorem dX12_count_304 : decode cX12_count 304 = .ok (.iconst (-1), 1) := by decide +kernel
theorem dX12_count_305 : decode cX12_count 305 = .ok (.ireturn, 1) := by decide +kernel
def xX12_count : zX := (RX12, cX12_count, 5, (some .int), false, { frames := 6, cells := 0, slots := 0, locals := 203 }, 0, 0, 0, 0)
theorem rmX12_count : z_Rm xX12_count := by unfold z_Rm xX12_count; exact ⟨by decide, by decide⟩
theorem reX12_count : z_Re xX12_count := ⟨rfl, rfl⟩
theorem rlX12_count : 1 ≤ xX12_count.2.2.2.2.2.1.frames ∧ 21 ≤ xX12_count.2.2.2.2.2.1.locals := by unfold xX12_count; exact ⟨by decide, by decide⟩
theorem meX12_count : z_Me yX12_count xX12_count 1 := ⟨wd1317, wd848, by decide, by decide, by decide +kernel⟩
theorem fitX12_count_1 : z_Fit xX12_copies xX12_count := by unfold z_Fit; simp only [xX12_copies, xX12_count]; exact ⟨by decide, by decide⟩
theorem fitX12_count_77 : z_Fit xX12_base xX12_count := by unfold z_Fit; simp only [xX12_base, xX12_count]; exact ⟨by decide, by decide⟩
theorem fitX12_count_136 : z_Fit xX12_fairBits xX12_count := by unfold z_Fit; simp only [xX12_fairBits, xX12_count]; exact ⟨by decide, by decide⟩
theorem fitX12_count_141 : z_Fit xX12_paysAll xX12_count := by unfold z_Fit; simp only [xX12_paysAll, xX12_count]; exact ⟨by decide, by decide⟩
theorem fitX12_count_146 : z_Fit xX12_lastBits xX12_count := by unfold z_Fit; simp only [xX12_lastBits, xX12_count]; exact ⟨by decide, by decide⟩
theorem fitX12_count_245 : z_Fit xX12_seatAt xX12_count := by unfold z_Fit; simp only [xX12_seatAt, xX12_count]; exact ⟨by decide, by decide⟩
noncomputable def kX12_count_208 : zK zR := (q_iadd q_iret)
noncomputable def kX12_count_193 : zK zR := (q_iadd (q_aload 0 (q_getR 12 72 (q_push 2 (q_zald (q_if_eq (q_push 0 kX12_count_208) (q_push 1 kX12_count_208)))))))
noncomputable def kX12_count_179 : zK zR := (q_aload 0 (q_getR 12 72 (q_push 1 (q_zald (q_if_eq (q_push 0 kX12_count_193) (q_push 1 kX12_count_193))))))
noncomputable def kX12_count_263 : zK zR := (q_iload 2 q_iret)
noncomputable def kX12_count_257 : zK ((zL × zS) ⊕ zR) := (q_iinc 3 1 q_ag)
noncomputable def bX12_count_228 : zK ((zL × zS) ⊕ ((zL × zS) ⊕ zR)) := (q_iload 4 (q_aload 0 (q_getR 12 47 (q_iload 3 (q_iald (q_icmp_ge (q_dn kX12_count_257) (q_iload 2 (q_push 1 (q_aload 0 (q_iload 3 (q_iload 4 (q_callV 12 fX12_seatAt 2 (q_ishl (q_ior (q_istore 2 (q_iinc 4 1 q_ag))))))))))))))))
noncomputable def kX12_count_228 : zK ((zL × zS) ⊕ zR) := q_lp (bX12_count_228)
noncomputable def bX12_count_212 : zK ((zL × zS) ⊕ zR) := (q_iload 3 (q_aload 0 (q_getR 12 26 (q_aload 0 (q_getI 12 18 (q_iald (q_icmp_ge (q_dn kX12_count_263) (q_push 0 (q_istore 4 kX12_count_228)))))))))
noncomputable def kX12_count_212 : zK zR := q_lp (bX12_count_212)
noncomputable def kX12_count_302 : zK zR := (q_iload 2 q_iret)
noncomputable def kX12_count_296 : zK ((zL × zS) ⊕ zR) := (q_iinc 3 1 q_ag)
noncomputable def bX12_count_267 : zK ((zL × zS) ⊕ zR) := (q_iload 3 (q_aload 0 (q_getR 12 26 (q_aload 0 (q_getI 12 18 (q_iald (q_icmp_ge (q_dn kX12_count_302) (q_aload 0 (q_getR 12 47 (q_iload 3 (q_iald (q_push 1 (q_icmp_ne kX12_count_296 (q_iload 2 (q_push 1 (q_iload 3 (q_ishl (q_ior (q_istore 2 kX12_count_296)))))))))))))))))))
noncomputable def kX12_count_267 : zK zR := q_lp (bX12_count_267)
noncomputable def kX12_count_0 : zK zR := (q_aload 0 (q_callV 12 fX12_copies 0 (q_push 0 (q_istore 2 (q_iload 1 (q_sw 0 [(q_aload 0 (q_callV 12 fX12_base 0 q_iret)), (q_aload 0 (q_getR 12 26 (q_aload 0 (q_getI 12 18 (q_iald q_iret))))), (q_aload 0 (q_getR 12 47 (q_push 36 (q_iald q_iret)))), (q_aload 0 (q_getR 12 47 (q_push 37 (q_iald q_iret)))), (q_aload 0 (q_getR 12 47 (q_push 0 (q_iald (q_aload 0 (q_getR 12 47 (q_push 1 (q_iald (q_iadd (q_aload 0 (q_getR 12 47 (q_push 2 (q_iald (q_iadd (q_aload 0 (q_getR 12 47 (q_push 3 (q_iald (q_iadd q_iret))))))))))))))))))), (q_aload 0 (q_callV 12 fX12_fairBits 0 q_iret)), (q_aload 0 (q_callV 12 fX12_paysAll 0 q_iret)), (q_aload 0 (q_callV 12 fX12_lastBits 0 q_iret)), (q_aload 0 (q_getI 12 2 q_iret)), (q_aload 0 (q_getI 12 52 q_iret)), (q_aload 0 (q_getI 12 66 q_iret)), (q_aload 0 (q_getR 12 72 (q_push 0 (q_zald (q_if_eq (q_push 0 kX12_count_179) (q_push 1 kX12_count_179)))))), (q_push 0 (q_istore 3 kX12_count_212)), (q_push 0 (q_istore 3 kX12_count_267))] (q_push (-1) q_iret)))))))
set_option maxRecDepth 100000 in
theorem tX12_count_208 {l : Launch} {D : zD} {B sz0 : Nat} {post : Option Value → zS → Prop} : zSnd l D B xX12_count sz0 post 208 kX12_count_208 (z_Jr post) := (s_iadd dX12_count_208 (s_iret dX12_count_209 rfl))
set_option maxRecDepth 100000 in
theorem tX12_count_193 {l : Launch} {D : zD} {B sz0 : Nat} {post : Option Value → zS → Prop} : zSnd l D B xX12_count sz0 post 193 kX12_count_193 (z_Jr post) := (s_iadd dX12_count_193 (s_aload_n dX12_count_194 rfl (s_getR (f := 72) dX12_count_195 clX12 (by decide) rfl wd900 (s_iconst dX12_count_198 (by decide) (s_zald dX12_count_199 (s_if_eq (tgt := 207) dX12_count_200 (by decide) (s_iconst dX12_count_207 (by decide) tX12_count_208) (s_iconst dX12_count_203 (by decide) (s_goto (tgt := 208) dX12_count_204 (by decide) tX12_count_208))))))))
set_option maxRecDepth 100000 in
theorem tX12_count_179 {l : Launch} {D : zD} {B sz0 : Nat} {post : Option Value → zS → Prop} : zSnd l D B xX12_count sz0 post 179 kX12_count_179 (z_Jr post) := (s_aload_n dX12_count_179 rfl (s_getR (f := 72) dX12_count_180 clX12 (by decide) rfl wd900 (s_iconst dX12_count_183 (by decide) (s_zald dX12_count_184 (s_if_eq (tgt := 192) dX12_count_185 (by decide) (s_iconst dX12_count_192 (by decide) tX12_count_193) (s_iconst dX12_count_188 (by decide) (s_goto (tgt := 193) dX12_count_189 (by decide) tX12_count_193)))))))
set_option maxRecDepth 100000 in
theorem tX12_count_263 {l : Launch} {D : zD} {B sz0 : Nat} {post : Option Value → zS → Prop} : zSnd l D B xX12_count sz0 post 263 kX12_count_263 (z_Jr post) := (s_iload_n dX12_count_263 rfl (s_iret dX12_count_264 rfl))
set_option maxRecDepth 100000 in
theorem tX12_count_257 {l : Launch} {D : zD} {B sz0 : Nat} {post : Option Value → zS → Prop} : zSnd l D B xX12_count sz0 post 257 kX12_count_257 (z_Jl l D B xX12_count sz0 post 212 (z_Jr post)) := (s_iinc dX12_count_257 (by decide) (s_goto (tgt := 212) dX12_count_260 (by decide) s_ag))
set_option maxRecDepth 100000 in
theorem tX12_count_228 {l : Launch} {D : zD} {B sz0 : Nat} {post : Option Value → zS → Prop} : zSnd l D B xX12_count sz0 post 228 kX12_count_228 (z_Jl l D B xX12_count sz0 post 212 (z_Jr post)) := s_lp (body := bX12_count_228) (s_iload dX12_count_228 (s_aload_n dX12_count_230 rfl (s_getR (f := 47) dX12_count_231 clX12 (by decide) rfl wd856 (s_iload_n dX12_count_234 rfl (s_iald dX12_count_235 (s_icmp_ge (tgt := 257) dX12_count_236 (by decide) (s_dn tX12_count_257) (s_iload_n dX12_count_239 rfl (s_iconst dX12_count_240 (by decide) (s_aload_n dX12_count_241 rfl (s_iload_n dX12_count_242 rfl (s_iload dX12_count_243 (s_callV (r := (RX12, TX12, 74)) dX12_count_245 mX12_seatAt meX12_seatAt wd1064 wd1065 rfl rfl reX12_seatAt rmX12_count (fitX12_count_245) wd1066 (s_ishl dX12_count_248 (s_ior dX12_count_249 (s_istore_n dX12_count_250 rfl (s_iinc dX12_count_251 (by decide) (s_goto (tgt := 228) dX12_count_254 (by decide) s_ag)))))))))))))))))
set_option maxRecDepth 100000 in
theorem tX12_count_212 {l : Launch} {D : zD} {B sz0 : Nat} {post : Option Value → zS → Prop} : zSnd l D B xX12_count sz0 post 212 kX12_count_212 (z_Jr post) := s_lp (body := bX12_count_212) (s_iload_n dX12_count_212 rfl (s_aload_n dX12_count_213 rfl (s_getR (f := 26) dX12_count_214 clX12 (by decide) rfl wd842 (s_aload_n dX12_count_217 rfl (s_getI (f := 18) dX12_count_218 clX12 (by decide) rfl wd854 (s_iald dX12_count_221 (s_icmp_ge (tgt := 263) dX12_count_222 (by decide) (s_dn tX12_count_263) (s_iconst dX12_count_225 (by decide) (s_istore dX12_count_226 tX12_count_228)))))))))
set_option maxRecDepth 100000 in
theorem tX12_count_302 {l : Launch} {D : zD} {B sz0 : Nat} {post : Option Value → zS → Prop} : zSnd l D B xX12_count sz0 post 302 kX12_count_302 (z_Jr post) := (s_iload_n dX12_count_302 rfl (s_iret dX12_count_303 rfl))
set_option maxRecDepth 100000 in
theorem tX12_count_296 {l : Launch} {D : zD} {B sz0 : Nat} {post : Option Value → zS → Prop} : zSnd l D B xX12_count sz0 post 296 kX12_count_296 (z_Jl l D B xX12_count sz0 post 267 (z_Jr post)) := (s_iinc dX12_count_296 (by decide) (s_goto (tgt := 267) dX12_count_299 (by decide) s_ag))
set_option maxRecDepth 100000 in
theorem tX12_count_267 {l : Launch} {D : zD} {B sz0 : Nat} {post : Option Value → zS → Prop} : zSnd l D B xX12_count sz0 post 267 kX12_count_267 (z_Jr post) := s_lp (body := bX12_count_267) (s_iload_n dX12_count_267 rfl (s_aload_n dX12_count_268 rfl (s_getR (f := 26) dX12_count_269 clX12 (by decide) rfl wd842 (s_aload_n dX12_count_272 rfl (s_getI (f := 18) dX12_count_273 clX12 (by decide) rfl wd854 (s_iald dX12_count_276 (s_icmp_ge (tgt := 302) dX12_count_277 (by decide) (s_dn tX12_count_302) (s_aload_n dX12_count_280 rfl (s_getR (f := 47) dX12_count_281 clX12 (by decide) rfl wd856 (s_iload_n dX12_count_284 rfl (s_iald dX12_count_285 (s_iconst dX12_count_286 (by decide) (s_icmp_ne (tgt := 296) dX12_count_287 (by decide) tX12_count_296 (s_iload_n dX12_count_290 rfl (s_iconst dX12_count_291 (by decide) (s_iload_n dX12_count_292 rfl (s_ishl dX12_count_293 (s_ior dX12_count_294 (s_istore_n dX12_count_295 rfl tX12_count_296)))))))))))))))))))
set_option maxRecDepth 100000 in
theorem tX12_count_0 {l : Launch} {D : zD} {B sz0 : Nat} {post : Option Value → zS → Prop} : zSnd l D B xX12_count sz0 post 0 kX12_count_0 (z_Jr post) := (s_aload_n dX12_count_0 rfl (s_callV (r := (RX12, TX12, 74)) dX12_count_1 mX12_copies meX12_copies wd1133 wd1134 rfl rfl reX12_copies rmX12_count (fitX12_count_1) wd1135 (s_iconst dX12_count_4 (by decide) (s_istore_n dX12_count_5 rfl (s_iload_n dX12_count_6 rfl (s_swL (tgts := [76, 81, 91, 99, 107, 135, 140, 145, 150, 155, 160, 165, 210, 265]) (td := 304) dX12_count_7 (by decide) (by decide) (by decide) ⟨(s_aload_n dX12_count_76 rfl (s_callV (r := (RX12, TX12, 74)) dX12_count_77 mX12_base meX12_base wd1036 wd1037 rfl rfl reX12_base rmX12_count (fitX12_count_77) wd1038 (s_iret dX12_count_80 rfl))), ⟨(s_aload_n dX12_count_81 rfl (s_getR (f := 26) dX12_count_82 clX12 (by decide) rfl wd842 (s_aload_n dX12_count_85 rfl (s_getI (f := 18) dX12_count_86 clX12 (by decide) rfl wd854 (s_iald dX12_count_89 (s_iret dX12_count_90 rfl)))))), ⟨(s_aload_n dX12_count_91 rfl (s_getR (f := 47) dX12_count_92 clX12 (by decide) rfl wd856 (s_bipush dX12_count_95 (by decide) (s_iald dX12_count_97 (s_iret dX12_count_98 rfl))))), ⟨(s_aload_n dX12_count_99 rfl (s_getR (f := 47) dX12_count_100 clX12 (by decide) rfl wd856 (s_bipush dX12_count_103 (by decide) (s_iald dX12_count_105 (s_iret dX12_count_106 rfl))))), ⟨(s_aload_n dX12_count_107 rfl (s_getR (f := 47) dX12_count_108 clX12 (by decide) rfl wd856 (s_iconst dX12_count_111 (by decide) (s_iald dX12_count_112 (s_aload_n dX12_count_113 rfl (s_getR (f := 47) dX12_count_114 clX12 (by decide) rfl wd856 (s_iconst dX12_count_117 (by decide) (s_iald dX12_count_118 (s_iadd dX12_count_119 (s_aload_n dX12_count_120 rfl (s_getR (f := 47) dX12_count_121 clX12 (by decide) rfl wd856 (s_iconst dX12_count_124 (by decide) (s_iald dX12_count_125 (s_iadd dX12_count_126 (s_aload_n dX12_count_127 rfl (s_getR (f := 47) dX12_count_128 clX12 (by decide) rfl wd856 (s_iconst dX12_count_131 (by decide) (s_iald dX12_count_132 (s_iadd dX12_count_133 (s_iret dX12_count_134 rfl)))))))))))))))))))), ⟨(s_aload_n dX12_count_135 rfl (s_callV (r := (RX12, TX12, 74)) dX12_count_136 mX12_fairBits meX12_fairBits wd1311 wd1312 rfl rfl reX12_fairBits rmX12_count (fitX12_count_136) wd1313 (s_iret dX12_count_139 rfl))), ⟨(s_aload_n dX12_count_140 rfl (s_callV (r := (RX12, TX12, 74)) dX12_count_141 mX12_paysAll meX12_paysAll wd1118 wd1119 rfl rfl reX12_paysAll rmX12_count (fitX12_count_141) wd1120 (s_iret dX12_count_144 rfl))), ⟨(s_aload_n dX12_count_145 rfl (s_callV (r := (RX12, TX12, 74)) dX12_count_146 mX12_lastBits meX12_lastBits wd1314 wd1315 rfl rfl reX12_lastBits rmX12_count (fitX12_count_146) wd1316 (s_iret dX12_count_149 rfl))), ⟨(s_aload_n dX12_count_150 rfl (s_getI (f := 2) dX12_count_151 clX12 (by decide) rfl wd914 (s_iret dX12_count_154 rfl))), ⟨(s_aload_n dX12_count_155 rfl (s_getI (f := 52) dX12_count_156 clX12 (by decide) rfl wd1021 (s_iret dX12_count_159 rfl))), ⟨(s_aload_n dX12_count_160 rfl (s_getI (f := 66) dX12_count_161 clX12 (by decide) rfl wd1022 (s_iret dX12_count_164 rfl))), ⟨(s_aload_n dX12_count_165 rfl (s_getR (f := 72) dX12_count_166 clX12 (by decide) rfl wd900 (s_iconst dX12_count_169 (by decide) (s_zald dX12_count_170 (s_if_eq (tgt := 178) dX12_count_171 (by decide) (s_iconst dX12_count_178 (by decide) tX12_count_179) (s_iconst dX12_count_174 (by decide) (s_goto (tgt := 179) dX12_count_175 (by decide) tX12_count_179))))))), ⟨(s_iconst dX12_count_210 (by decide) (s_istore_n dX12_count_211 rfl tX12_count_212)), ⟨(s_iconst dX12_count_265 (by decide) (s_istore_n dX12_count_266 rfl tX12_count_267)), True.intro⟩⟩⟩⟩⟩⟩⟩⟩⟩⟩⟩⟩⟩⟩ (s_iconst dX12_count_304 (by decide) (s_iret dX12_count_305 rfl))))))))
noncomputable def fX12_count : zF := z_fn 5 kX12_count_0
theorem mX12_count {l : Launch} {D : zD} {B : Nat} : z_MF l D B yX12_count xX12_count fX12_count := z_mf (by decide) rfl (fun h => by cases h) rfl (fun as σ r h => ⟨z_fn_len h, kX12_count_0, z_fn_run h, fun _ => tX12_count_0⟩)
