/-! ===== RowChildrenModel.keepsRow ===== -/
theorem dX12_keepsRow_0 : decode cX12_keepsRow 0 = .ok (.iconst 0, 1) := by decide +kernel
theorem dX12_keepsRow_1 : decode cX12_keepsRow 1 = .ok (.istore_n 1, 1) := by decide +kernel
theorem dX12_keepsRow_2 : decode cX12_keepsRow 2 = .ok (.iload_n 1, 1) := by decide +kernel
theorem dX12_keepsRow_3 : decode cX12_keepsRow 3 = .ok (.bipush 38, 2) := by decide +kernel
theorem dX12_keepsRow_5 : decode cX12_keepsRow 5 = .ok (.if_icmp .ge 21, 3) := by decide +kernel
theorem dX12_keepsRow_8 : decode cX12_keepsRow 8 = .ok (.aload_n 0, 1) := by decide +kernel
theorem dX12_keepsRow_9 : decode cX12_keepsRow 9 = .ok (.getfield 104, 3) := by decide +kernel
theorem dX12_keepsRow_12 : decode cX12_keepsRow 12 = .ok (.iload_n 1, 1) := by decide +kernel
theorem dX12_keepsRow_13 : decode cX12_keepsRow 13 = .ok (.aload_n 0, 1) := by decide +kernel
theorem dX12_keepsRow_14 : decode cX12_keepsRow 14 = .ok (.getfield 107, 3) := by decide +kernel
theorem dX12_keepsRow_17 : decode cX12_keepsRow 17 = .ok (.iload_n 1, 1) := by decide +kernel
theorem dX12_keepsRow_18 : decode cX12_keepsRow 18 = .ok (.iaload, 1) := by decide +kernel
theorem dX12_keepsRow_19 : decode cX12_keepsRow 19 = .ok (.iastore, 1) := by decide +kernel
theorem dX12_keepsRow_20 : decode cX12_keepsRow 20 = .ok (.iinc 1 1, 3) := by decide +kernel
theorem dX12_keepsRow_23 : decode cX12_keepsRow 23 = .ok (.goto (-21), 3) := by decide +kernel
theorem dX12_keepsRow_26 : decode cX12_keepsRow 26 = .ok (.return_, 1) := by decide +kernel
def xX12_keepsRow : zX := (RX12, cX12_keepsRow, 2, none, false, { frames := 1, cells := 0, slots := 0, locals := 90 }, 0, 0, 0, 0)
theorem rmX12_keepsRow : z_Rm xX12_keepsRow := by unfold z_Rm xX12_keepsRow; exact ⟨by decide, by decide⟩
theorem reX12_keepsRow : z_Re xX12_keepsRow := ⟨rfl, rfl⟩
theorem rlX12_keepsRow : 1 ≤ xX12_keepsRow.2.2.2.2.2.1.frames ∧ 21 ≤ xX12_keepsRow.2.2.2.2.2.1.locals := by unfold xX12_keepsRow; exact ⟨by decide, by decide⟩
theorem meX12_keepsRow : z_Me yX12_keepsRow xX12_keepsRow 0 := ⟨wd861, wd848, by decide, by decide, by decide +kernel⟩
noncomputable def kX12_keepsRow_26 : zK zR := q_vret
noncomputable def bX12_keepsRow_2 : zK ((zL × zS) ⊕ zR) := (q_iload 1 (q_push 38 (q_icmp_ge (q_dn kX12_keepsRow_26) (q_aload 0 (q_getR 12 46 (q_iload 1 (q_aload 0 (q_getR 12 47 (q_iload 1 (q_iald (q_iast (q_iinc 1 1 q_ag))))))))))))
noncomputable def kX12_keepsRow_2 : zK zR := q_lp (bX12_keepsRow_2)
noncomputable def kX12_keepsRow_0 : zK zR := (q_push 0 (q_istore 1 kX12_keepsRow_2))
set_option maxRecDepth 100000 in
theorem tX12_keepsRow_26 {l : Launch} {D : zD} {B sz0 : Nat} {post : Option Value → zS → Prop} : zSnd l D B xX12_keepsRow sz0 post 26 kX12_keepsRow_26 (z_Jr post) := (s_vret dX12_keepsRow_26 rfl)
set_option maxRecDepth 100000 in
theorem tX12_keepsRow_2 {l : Launch} {D : zD} {B sz0 : Nat} {post : Option Value → zS → Prop} : zSnd l D B xX12_keepsRow sz0 post 2 kX12_keepsRow_2 (z_Jr post) := s_lp (body := bX12_keepsRow_2) (s_iload_n dX12_keepsRow_2 rfl (s_bipush dX12_keepsRow_3 (by decide) (s_icmp_ge (tgt := 26) dX12_keepsRow_5 (by decide) (s_dn tX12_keepsRow_26) (s_aload_n dX12_keepsRow_8 rfl (s_getR (f := 46) dX12_keepsRow_9 clX12 (by decide) rfl wd860 (s_iload_n dX12_keepsRow_12 rfl (s_aload_n dX12_keepsRow_13 rfl (s_getR (f := 47) dX12_keepsRow_14 clX12 (by decide) rfl wd856 (s_iload_n dX12_keepsRow_17 rfl (s_iald dX12_keepsRow_18 (s_iast dX12_keepsRow_19 (s_iinc dX12_keepsRow_20 (by decide) (s_goto (tgt := 2) dX12_keepsRow_23 (by decide) s_ag)))))))))))))
set_option maxRecDepth 100000 in
theorem tX12_keepsRow_0 {l : Launch} {D : zD} {B sz0 : Nat} {post : Option Value → zS → Prop} : zSnd l D B xX12_keepsRow sz0 post 0 kX12_keepsRow_0 (z_Jr post) := (s_iconst dX12_keepsRow_0 (by decide) (s_istore_n dX12_keepsRow_1 rfl tX12_keepsRow_2))
noncomputable def fX12_keepsRow : zF := z_fn 2 kX12_keepsRow_0
theorem mX12_keepsRow {l : Launch} {D : zD} {B : Nat} : z_MF l D B yX12_keepsRow xX12_keepsRow fX12_keepsRow := z_mf (by decide) rfl (fun h => by cases h) rfl (fun as σ r h => ⟨z_fn_len h, kX12_keepsRow_0, z_fn_run h, fun _ => tX12_keepsRow_0⟩)
/-! ===== RowChildrenModel.<init> ===== -/
theorem dX12_init_0 : decode cX12_init 0 = .ok (.aload_n 0, 1) := by decide +kernel
theorem dX12_init_1 : decode cX12_init 1 = .ok (.invokespecial 7, 3) := by decide +kernel
theorem dX12_init_4 : decode cX12_init 4 = .ok (.aload_n 0, 1) := by decide +kernel
theorem dX12_init_5 : decode cX12_init 5 = .ok (.sipush 2000, 3) := by decide +kernel
theorem dX12_init_8 : decode cX12_init 8 = .ok (.newarray .byte, 2) := by decide +kernel
theorem dX12_init_10 : decode cX12_init 10 = .ok (.putfield 13, 3) := by decide +kernel
theorem dX12_init_13 : decode cX12_init 13 = .ok (.aload_n 0, 1) := by decide +kernel
theorem dX12_init_14 : decode cX12_init 14 = .ok (.sipush 2000, 3) := by decide +kernel
theorem dX12_init_17 : decode cX12_init 17 = .ok (.newarray .byte, 2) := by decide +kernel
theorem dX12_init_19 : decode cX12_init 19 = .ok (.putfield 17, 3) := by decide +kernel
theorem dX12_init_22 : decode cX12_init 22 = .ok (.aload_n 0, 1) := by decide +kernel
theorem dX12_init_23 : decode cX12_init 23 = .ok (.sipush 403, 3) := by decide +kernel
theorem dX12_init_26 : decode cX12_init 26 = .ok (.newarray .int, 2) := by decide +kernel
theorem dX12_init_28 : decode cX12_init 28 = .ok (.putfield 20, 3) := by decide +kernel
theorem dX12_init_31 : decode cX12_init 31 = .ok (.aload_n 0, 1) := by decide +kernel
theorem dX12_init_32 : decode cX12_init 32 = .ok (.sipush 403, 3) := by decide +kernel
theorem dX12_init_35 : decode cX12_init 35 = .ok (.newarray .int, 2) := by decide +kernel
theorem dX12_init_37 : decode cX12_init 37 = .ok (.putfield 24, 3) := by decide +kernel
theorem dX12_init_40 : decode cX12_init 40 = .ok (.aload_n 0, 1) := by decide +kernel
theorem dX12_init_41 : decode cX12_init 41 = .ok (.sipush 403, 3) := by decide +kernel
theorem dX12_init_44 : decode cX12_init 44 = .ok (.newarray .int, 2) := by decide +kernel
theorem dX12_init_46 : decode cX12_init 46 = .ok (.putfield 27, 3) := by decide +kernel
theorem dX12_init_49 : decode cX12_init 49 = .ok (.aload_n 0, 1) := by decide +kernel
theorem dX12_init_50 : decode cX12_init 50 = .ok (.sipush 403, 3) := by decide +kernel
theorem dX12_init_53 : decode cX12_init 53 = .ok (.newarray .long, 2) := by decide +kernel
theorem dX12_init_55 : decode cX12_init 55 = .ok (.putfield 30, 3) := by decide +kernel
theorem dX12_init_58 : decode cX12_init 58 = .ok (.aload_n 0, 1) := by decide +kernel
theorem dX12_init_59 : decode cX12_init 59 = .ok (.bipush 20, 2) := by decide +kernel
theorem dX12_init_61 : decode cX12_init 61 = .ok (.newarray .long, 2) := by decide +kernel
theorem dX12_init_63 : decode cX12_init 63 = .ok (.putfield 34, 3) := by decide +kernel
theorem dX12_init_66 : decode cX12_init 66 = .ok (.aload_n 0, 1) := by decide +kernel
theorem dX12_init_67 : decode cX12_init 67 = .ok (.iconst (-1), 1) := by decide +kernel
theorem dX12_init_68 : decode cX12_init 68 = .ok (.putfield 37, 3) := by decide +kernel
theorem dX12_init_71 : decode cX12_init 71 = .ok (.aload_n 0, 1) := by decide +kernel
theorem dX12_init_72 : decode cX12_init 72 = .ok (.iconst 4, 1) := by decide +kernel
theorem dX12_init_73 : decode cX12_init 73 = .ok (.newarray .long, 2) := by decide +kernel
theorem dX12_init_75 : decode cX12_init 75 = .ok (.putfield 40, 3) := by decide +kernel
theorem dX12_init_78 : decode cX12_init 78 = .ok (.aload_n 0, 1) := by decide +kernel
theorem dX12_init_79 : decode cX12_init 79 = .ok (.iconst 2, 1) := by decide +kernel
theorem dX12_init_80 : decode cX12_init 80 = .ok (.newarray .int, 2) := by decide +kernel
theorem dX12_init_82 : decode cX12_init 82 = .ok (.putfield 43, 3) := by decide +kernel
theorem dX12_init_85 : decode cX12_init 85 = .ok (.aload_n 0, 1) := by decide +kernel
theorem dX12_init_86 : decode cX12_init 86 = .ok (.iconst 2, 1) := by decide +kernel
theorem dX12_init_87 : decode cX12_init 87 = .ok (.newarray .int, 2) := by decide +kernel
theorem dX12_init_89 : decode cX12_init 89 = .ok (.putfield 46, 3) := by decide +kernel
theorem dX12_init_92 : decode cX12_init 92 = .ok (.aload_n 0, 1) := by decide +kernel
theorem dX12_init_93 : decode cX12_init 93 = .ok (.bipush 32, 2) := by decide +kernel
theorem dX12_init_95 : decode cX12_init 95 = .ok (.newarray .int, 2) := by decide +kernel
theorem dX12_init_97 : decode cX12_init 97 = .ok (.putfield 49, 3) := by decide +kernel
theorem dX12_init_100 : decode cX12_init 100 = .ok (.aload_n 0, 1) := by decide +kernel
theorem dX12_init_101 : decode cX12_init 101 = .ok (.iconst 2, 1) := by decide +kernel
theorem dX12_init_102 : decode cX12_init 102 = .ok (.newarray .int, 2) := by decide +kernel
theorem dX12_init_104 : decode cX12_init 104 = .ok (.putfield 52, 3) := by decide +kernel
theorem dX12_init_107 : decode cX12_init 107 = .ok (.aload_n 0, 1) := by decide +kernel
theorem dX12_init_108 : decode cX12_init 108 = .ok (.iconst 2, 1) := by decide +kernel
theorem dX12_init_109 : decode cX12_init 109 = .ok (.newarray .int, 2) := by decide +kernel
theorem dX12_init_111 : decode cX12_init 111 = .ok (.putfield 55, 3) := by decide +kernel
theorem dX12_init_114 : decode cX12_init 114 = .ok (.aload_n 0, 1) := by decide +kernel
theorem dX12_init_115 : decode cX12_init 115 = .ok (.bipush 8, 2) := by decide +kernel
theorem dX12_init_117 : decode cX12_init 117 = .ok (.newarray .int, 2) := by decide +kernel
theorem dX12_init_119 : decode cX12_init 119 = .ok (.putfield 58, 3) := by decide +kernel
theorem dX12_init_122 : decode cX12_init 122 = .ok (.aload_n 0, 1) := by decide +kernel
theorem dX12_init_123 : decode cX12_init 123 = .ok (.bipush 64, 2) := by decide +kernel
theorem dX12_init_125 : decode cX12_init 125 = .ok (.newarray .int, 2) := by decide +kernel
theorem dX12_init_127 : decode cX12_init 127 = .ok (.putfield 61, 3) := by decide +kernel
theorem dX12_init_130 : decode cX12_init 130 = .ok (.aload_n 0, 1) := by decide +kernel
theorem dX12_init_131 : decode cX12_init 131 = .ok (.iconst 2, 1) := by decide +kernel
theorem dX12_init_132 : decode cX12_init 132 = .ok (.newarray .int, 2) := by decide +kernel
theorem dX12_init_134 : decode cX12_init 134 = .ok (.putfield 64, 3) := by decide +kernel
theorem dX12_init_137 : decode cX12_init 137 = .ok (.aload_n 0, 1) := by decide +kernel
theorem dX12_init_138 : decode cX12_init 138 = .ok (.bipush 8, 2) := by decide +kernel
theorem dX12_init_140 : decode cX12_init 140 = .ok (.newarray .int, 2) := by decide +kernel
theorem dX12_init_142 : decode cX12_init 142 = .ok (.putfield 67, 3) := by decide +kernel
theorem dX12_init_145 : decode cX12_init 145 = .ok (.aload_n 0, 1) := by decide +kernel
theorem dX12_init_146 : decode cX12_init 146 = .ok (.bipush 8, 2) := by decide +kernel
theorem dX12_init_148 : decode cX12_init 148 = .ok (.newarray .int, 2) := by decide +kernel
theorem dX12_init_150 : decode cX12_init 150 = .ok (.putfield 70, 3) := by decide +kernel
theorem dX12_init_153 : decode cX12_init 153 = .ok (.aload_n 0, 1) := by decide +kernel
theorem dX12_init_154 : decode cX12_init 154 = .ok (.sipush 260, 3) := by decide +kernel
theorem dX12_init_157 : decode cX12_init 157 = .ok (.newarray .boolean, 2) := by decide +kernel
theorem dX12_init_159 : decode cX12_init 159 = .ok (.putfield 73, 3) := by decide +kernel
theorem dX12_init_162 : decode cX12_init 162 = .ok (.aload_n 0, 1) := by decide +kernel
theorem dX12_init_163 : decode cX12_init 163 = .ok (.sipush 260, 3) := by decide +kernel
theorem dX12_init_166 : decode cX12_init 166 = .ok (.newarray .int, 2) := by decide +kernel
theorem dX12_init_168 : decode cX12_init 168 = .ok (.putfield 77, 3) := by decide +kernel
theorem dX12_init_171 : decode cX12_init 171 = .ok (.aload_n 0, 1) := by decide +kernel
theorem dX12_init_172 : decode cX12_init 172 = .ok (.sipush 260, 3) := by decide +kernel
theorem dX12_init_175 : decode cX12_init 175 = .ok (.newarray .int, 2) := by decide +kernel
theorem dX12_init_177 : decode cX12_init 177 = .ok (.putfield 80, 3) := by decide +kernel
theorem dX12_init_180 : decode cX12_init 180 = .ok (.aload_n 0, 1) := by decide +kernel
theorem dX12_init_181 : decode cX12_init 181 = .ok (.sipush 260, 3) := by decide +kernel
theorem dX12_init_184 : decode cX12_init 184 = .ok (.newarray .int, 2) := by decide +kernel
theorem dX12_init_186 : decode cX12_init 186 = .ok (.putfield 83, 3) := by decide +kernel
theorem dX12_init_189 : decode cX12_init 189 = .ok (.aload_n 0, 1) := by decide +kernel
theorem dX12_init_190 : decode cX12_init 190 = .ok (.sipush 260, 3) := by decide +kernel
theorem dX12_init_193 : decode cX12_init 193 = .ok (.newarray .int, 2) := by decide +kernel
theorem dX12_init_195 : decode cX12_init 195 = .ok (.putfield 86, 3) := by decide +kernel
theorem dX12_init_198 : decode cX12_init 198 = .ok (.aload_n 0, 1) := by decide +kernel
theorem dX12_init_199 : decode cX12_init 199 = .ok (.sipush 840, 3) := by decide +kernel
theorem dX12_init_202 : decode cX12_init 202 = .ok (.newarray .int, 2) := by decide +kernel
theorem dX12_init_204 : decode cX12_init 204 = .ok (.putfield 89, 3) := by decide +kernel
theorem dX12_init_207 : decode cX12_init 207 = .ok (.aload_n 0, 1) := by decide +kernel
theorem dX12_init_208 : decode cX12_init 208 = .ok (.sipush 840, 3) := by decide +kernel
theorem dX12_init_211 : decode cX12_init 211 = .ok (.newarray .int, 2) := by decide +kernel
theorem dX12_init_213 : decode cX12_init 213 = .ok (.putfield 92, 3) := by decide +kernel
theorem dX12_init_216 : decode cX12_init 216 = .ok (.aload_n 0, 1) := by decide +kernel
theorem dX12_init_217 : decode cX12_init 217 = .ok (.bipush 64, 2) := by decide +kernel
theorem dX12_init_219 : decode cX12_init 219 = .ok (.newarray .int, 2) := by decide +kernel
theorem dX12_init_221 : decode cX12_init 221 = .ok (.putfield 95, 3) := by decide +kernel
theorem dX12_init_224 : decode cX12_init 224 = .ok (.aload_n 0, 1) := by decide +kernel
theorem dX12_init_225 : decode cX12_init 225 = .ok (.bipush 9, 2) := by decide +kernel
theorem dX12_init_227 : decode cX12_init 227 = .ok (.newarray .int, 2) := by decide +kernel
theorem dX12_init_229 : decode cX12_init 229 = .ok (.putfield 98, 3) := by decide +kernel
theorem dX12_init_232 : decode cX12_init 232 = .ok (.aload_n 0, 1) := by decide +kernel
theorem dX12_init_233 : decode cX12_init 233 = .ok (.sipush 400, 3) := by decide +kernel
theorem dX12_init_236 : decode cX12_init 236 = .ok (.newarray .int, 2) := by decide +kernel
theorem dX12_init_238 : decode cX12_init 238 = .ok (.putfield 101, 3) := by decide +kernel
theorem dX12_init_241 : decode cX12_init 241 = .ok (.aload_n 0, 1) := by decide +kernel
theorem dX12_init_242 : decode cX12_init 242 = .ok (.bipush 38, 2) := by decide +kernel
theorem dX12_init_244 : decode cX12_init 244 = .ok (.newarray .int, 2) := by decide +kernel
theorem dX12_init_246 : decode cX12_init 246 = .ok (.putfield 104, 3) := by decide +kernel
theorem dX12_init_249 : decode cX12_init 249 = .ok (.aload_n 0, 1) := by decide +kernel
theorem dX12_init_250 : decode cX12_init 250 = .ok (.bipush 38, 2) := by decide +kernel
theorem dX12_init_252 : decode cX12_init 252 = .ok (.newarray .int, 2) := by decide +kernel
theorem dX12_init_254 : decode cX12_init 254 = .ok (.putfield 107, 3) := by decide +kernel
theorem dX12_init_257 : decode cX12_init 257 = .ok (.aload_n 0, 1) := by decide +kernel
theorem dX12_init_258 : decode cX12_init 258 = .ok (.bipush 64, 2) := by decide +kernel
theorem dX12_init_260 : decode cX12_init 260 = .ok (.newarray .int, 2) := by decide +kernel
theorem dX12_init_262 : decode cX12_init 262 = .ok (.putfield 110, 3) := by decide +kernel
theorem dX12_init_265 : decode cX12_init 265 = .ok (.aload_n 0, 1) := by decide +kernel
theorem dX12_init_266 : decode cX12_init 266 = .ok (.bipush 8, 2) := by decide +kernel
theorem dX12_init_268 : decode cX12_init 268 = .ok (.newarray .int, 2) := by decide +kernel
theorem dX12_init_270 : decode cX12_init 270 = .ok (.putfield 113, 3) := by decide +kernel
theorem dX12_init_273 : decode cX12_init 273 = .ok (.aload_n 0, 1) := by decide +kernel
theorem dX12_init_274 : decode cX12_init 274 = .ok (.sipush 1520, 3) := by decide +kernel
theorem dX12_init_277 : decode cX12_init 277 = .ok (.newarray .int, 2) := by decide +kernel
theorem dX12_init_279 : decode cX12_init 279 = .ok (.putfield 116, 3) := by decide +kernel
theorem dX12_init_282 : decode cX12_init 282 = .ok (.aload_n 0, 1) := by decide +kernel
theorem dX12_init_283 : decode cX12_init 283 = .ok (.bipush 32, 2) := by decide +kernel
theorem dX12_init_285 : decode cX12_init 285 = .ok (.newarray .int, 2) := by decide +kernel
theorem dX12_init_287 : decode cX12_init 287 = .ok (.putfield 119, 3) := by decide +kernel
theorem dX12_init_290 : decode cX12_init 290 = .ok (.aload_n 0, 1) := by decide +kernel
theorem dX12_init_291 : decode cX12_init 291 = .ok (.bipush 9, 2) := by decide +kernel
theorem dX12_init_293 : decode cX12_init 293 = .ok (.newarray .int, 2) := by decide +kernel
theorem dX12_init_295 : decode cX12_init 295 = .ok (.putfield 122, 3) := by decide +kernel
theorem dX12_init_298 : decode cX12_init 298 = .ok (.aload_n 0, 1) := by decide +kernel
theorem dX12_init_299 : decode cX12_init 299 = .ok (.iconst 4, 1) := by decide +kernel
theorem dX12_init_300 : decode cX12_init 300 = .ok (.newarray .int, 2) := by decide +kernel
theorem dX12_init_302 : decode cX12_init 302 = .ok (.putfield 125, 3) := by decide +kernel
theorem dX12_init_305 : decode cX12_init 305 = .ok (.aload_n 0, 1) := by decide +kernel
theorem dX12_init_306 : decode cX12_init 306 = .ok (.iconst 4, 1) := by decide +kernel
theorem dX12_init_307 : decode cX12_init 307 = .ok (.newarray .int, 2) := by decide +kernel
theorem dX12_init_309 : decode cX12_init 309 = .ok (.putfield 128, 3) := by decide +kernel
theorem dX12_init_312 : decode cX12_init 312 = .ok (.aload_n 0, 1) := by decide +kernel
theorem dX12_init_313 : decode cX12_init 313 = .ok (.bipush 16, 2) := by decide +kernel
theorem dX12_init_315 : decode cX12_init 315 = .ok (.newarray .int, 2) := by decide +kernel
theorem dX12_init_317 : decode cX12_init 317 = .ok (.putfield 131, 3) := by decide +kernel
theorem dX12_init_320 : decode cX12_init 320 = .ok (.aload_n 0, 1) := by decide +kernel
theorem dX12_init_321 : decode cX12_init 321 = .ok (.bipush 16, 2) := by decide +kernel
theorem dX12_init_323 : decode cX12_init 323 = .ok (.newarray .int, 2) := by decide +kernel
theorem dX12_init_325 : decode cX12_init 325 = .ok (.putfield 134, 3) := by decide +kernel
theorem dX12_init_328 : decode cX12_init 328 = .ok (.aload_n 0, 1) := by decide +kernel
theorem dX12_init_329 : decode cX12_init 329 = .ok (.ldc 137, 2) := by decide +kernel
theorem dX12_init_331 : decode cX12_init 331 = .ok (.newarray .int, 2) := by decide +kernel
theorem dX12_init_333 : decode cX12_init 333 = .ok (.putfield 138, 3) := by decide +kernel
theorem dX12_init_336 : decode cX12_init 336 = .ok (.aload_n 0, 1) := by decide +kernel
theorem dX12_init_337 : decode cX12_init 337 = .ok (.bipush 8, 2) := by decide +kernel
theorem dX12_init_339 : decode cX12_init 339 = .ok (.newarray .int, 2) := by decide +kernel
theorem dX12_init_341 : decode cX12_init 341 = .ok (.putfield 141, 3) := by decide +kernel
theorem dX12_init_344 : decode cX12_init 344 = .ok (.aload_n 0, 1) := by decide +kernel
theorem dX12_init_345 : decode cX12_init 345 = .ok (.ldc 137, 2) := by decide +kernel
theorem dX12_init_347 : decode cX12_init 347 = .ok (.newarray .int, 2) := by decide +kernel
theorem dX12_init_349 : decode cX12_init 349 = .ok (.putfield 144, 3) := by decide +kernel
theorem dX12_init_352 : decode cX12_init 352 = .ok (.aload_n 0, 1) := by decide +kernel
theorem dX12_init_353 : decode cX12_init 353 = .ok (.bipush 20, 2) := by decide +kernel
theorem dX12_init_355 : decode cX12_init 355 = .ok (.newarray .int, 2) := by decide +kernel
theorem dX12_init_357 : decode cX12_init 357 = .ok (.putfield 147, 3) := by decide +kernel
theorem dX12_init_360 : decode cX12_init 360 = .ok (.aload_n 0, 1) := by decide +kernel
theorem dX12_init_361 : decode cX12_init 361 = .ok (.bipush 20, 2) := by decide +kernel
theorem dX12_init_363 : decode cX12_init 363 = .ok (.newarray .int, 2) := by decide +kernel
theorem dX12_init_365 : decode cX12_init 365 = .ok (.putfield 150, 3) := by decide +kernel
theorem dX12_init_368 : decode cX12_init 368 = .ok (.aload_n 0, 1) := by decide +kernel
theorem dX12_init_369 : decode cX12_init 369 = .ok (.bipush 20, 2) := by decide +kernel
theorem dX12_init_371 : decode cX12_init 371 = .ok (.newarray .int, 2) := by decide +kernel
theorem dX12_init_373 : decode cX12_init 373 = .ok (.putfield 153, 3) := by decide +kernel
theorem dX12_init_376 : decode cX12_init 376 = .ok (.aload_n 0, 1) := by decide +kernel
theorem dX12_init_377 : decode cX12_init 377 = .ok (.bipush 20, 2) := by decide +kernel
theorem dX12_init_379 : decode cX12_init 379 = .ok (.newarray .boolean, 2) := by decide +kernel
theorem dX12_init_381 : decode cX12_init 381 = .ok (.putfield 156, 3) := by decide +kernel
theorem dX12_init_384 : decode cX12_init 384 = .ok (.aload_n 0, 1) := by decide +kernel
theorem dX12_init_385 : decode cX12_init 385 = .ok (.sipush 256, 3) := by decide +kernel
theorem dX12_init_388 : decode cX12_init 388 = .ok (.newarray .int, 2) := by decide +kernel
theorem dX12_init_390 : decode cX12_init 390 = .ok (.putfield 159, 3) := by decide +kernel
theorem dX12_init_393 : decode cX12_init 393 = .ok (.aload_n 0, 1) := by decide +kernel
theorem dX12_init_394 : decode cX12_init 394 = .ok (.iconst 3, 1) := by decide +kernel
theorem dX12_init_395 : decode cX12_init 395 = .ok (.newarray .boolean, 2) := by decide +kernel
theorem dX12_init_397 : decode cX12_init 397 = .ok (.putfield 162, 3) := by decide +kernel
theorem dX12_init_400 : decode cX12_init 400 = .ok (.aload_n 0, 1) := by decide +kernel
theorem dX12_init_401 : decode cX12_init 401 = .ok (.bipush 114, 2) := by decide +kernel
theorem dX12_init_403 : decode cX12_init 403 = .ok (.newarray .int, 2) := by decide +kernel
theorem dX12_init_405 : decode cX12_init 405 = .ok (.putfield 165, 3) := by decide +kernel
theorem dX12_init_408 : decode cX12_init 408 = .ok (.aload_n 0, 1) := by decide +kernel
theorem dX12_init_409 : decode cX12_init 409 = .ok (.iconst 0, 1) := by decide +kernel
theorem dX12_init_410 : decode cX12_init 410 = .ok (.invokevirtual 168, 3) := by decide +kernel
theorem dX12_init_413 : decode cX12_init 413 = .ok (.aload_n 0, 1) := by decide +kernel
theorem dX12_init_414 : decode cX12_init 414 = .ok (.iconst 1, 1) := by decide +kernel
theorem dX12_init_415 : decode cX12_init 415 = .ok (.invokevirtual 168, 3) := by decide +kernel
theorem dX12_init_418 : decode cX12_init 418 = .ok (.aload_n 0, 1) := by decide +kernel
theorem dX12_init_419 : decode cX12_init 419 = .ok (.getfield 34, 3) := by decide +kernel
theorem dX12_init_422 : decode cX12_init 422 = .ok (.iconst 0, 1) := by decide +kernel
theorem dX12_init_423 : decode cX12_init 423 = .ok (.bipush 99, 2) := by decide +kernel
theorem dX12_init_425 : decode cX12_init 425 = .ok (.bipush 111, 2) := by decide +kernel
theorem dX12_init_427 : decode cX12_init 427 = .ok (.bipush 108, 2) := by decide +kernel
theorem dX12_init_429 : decode cX12_init 429 = .ok (.bipush 111, 2) := by decide +kernel
theorem dX12_init_431 : decode cX12_init 431 = .ok (.bipush 117, 2) := by decide +kernel
theorem dX12_init_433 : decode cX12_init 433 = .ok (.bipush 114, 2) := by decide +kernel
theorem dX12_init_435 : decode cX12_init 435 = .ok (.bipush 115, 2) := by decide +kernel
theorem dX12_init_437 : decode cX12_init 437 = .ok (.invokestatic 172, 3) := by decide +kernel
theorem dX12_init_440 : decode cX12_init 440 = .ok (.lastore, 1) := by decide +kernel
theorem dX12_init_441 : decode cX12_init 441 = .ok (.aload_n 0, 1) := by decide +kernel
theorem dX12_init_442 : decode cX12_init 442 = .ok (.getfield 34, 3) := by decide +kernel
theorem dX12_init_445 : decode cX12_init 445 = .ok (.iconst 1, 1) := by decide +kernel
theorem dX12_init_446 : decode cX12_init 446 = .ok (.bipush 99, 2) := by decide +kernel
theorem dX12_init_448 : decode cX12_init 448 = .ok (.bipush 104, 2) := by decide +kernel
theorem dX12_init_450 : decode cX12_init 450 = .ok (.bipush 105, 2) := by decide +kernel
theorem dX12_init_452 : decode cX12_init 452 = .ok (.bipush 108, 2) := by decide +kernel
theorem dX12_init_454 : decode cX12_init 454 = .ok (.bipush 100, 2) := by decide +kernel
theorem dX12_init_456 : decode cX12_init 456 = .ok (.iconst 0, 1) := by decide +kernel
theorem dX12_init_457 : decode cX12_init 457 = .ok (.iconst 0, 1) := by decide +kernel
theorem dX12_init_458 : decode cX12_init 458 = .ok (.invokestatic 172, 3) := by decide +kernel
theorem dX12_init_461 : decode cX12_init 461 = .ok (.lastore, 1) := by decide +kernel
theorem dX12_init_462 : decode cX12_init 462 = .ok (.aload_n 0, 1) := by decide +kernel
theorem dX12_init_463 : decode cX12_init 463 = .ok (.getfield 34, 3) := by decide +kernel
theorem dX12_init_466 : decode cX12_init 466 = .ok (.iconst 2, 1) := by decide +kernel
theorem dX12_init_467 : decode cX12_init 467 = .ok (.bipush 114, 2) := by decide +kernel
theorem dX12_init_469 : decode cX12_init 469 = .ok (.bipush 111, 2) := by decide +kernel
theorem dX12_init_471 : decode cX12_init 471 = .ok (.bipush 119, 2) := by decide +kernel
theorem dX12_init_473 : decode cX12_init 473 = .ok (.iconst 0, 1) := by decide +kernel
theorem dX12_init_474 : decode cX12_init 474 = .ok (.iconst 0, 1) := by decide +kernel
theorem dX12_init_475 : decode cX12_init 475 = .ok (.iconst 0, 1) := by decide +kernel
theorem dX12_init_476 : decode cX12_init 476 = .ok (.iconst 0, 1) := by decide +kernel
theorem dX12_init_477 : decode cX12_init 477 = .ok (.invokestatic 172, 3) := by decide +kernel
theorem dX12_init_480 : decode cX12_init 480 = .ok (.lastore, 1) := by decide +kernel
theorem dX12_init_481 : decode cX12_init 481 = .ok (.aload_n 0, 1) := by decide +kernel
theorem dX12_init_482 : decode cX12_init 482 = .ok (.getfield 34, 3) := by decide +kernel
theorem dX12_init_485 : decode cX12_init 485 = .ok (.iconst 3, 1) := by decide +kernel
theorem dX12_init_486 : decode cX12_init 486 = .ok (.bipush 119, 2) := by decide +kernel
theorem dX12_init_488 : decode cX12_init 488 = .ok (.bipush 111, 2) := by decide +kernel
theorem dX12_init_490 : decode cX12_init 490 = .ok (.bipush 114, 2) := by decide +kernel
theorem dX12_init_492 : decode cX12_init 492 = .ok (.bipush 116, 2) := by decide +kernel
theorem dX12_init_494 : decode cX12_init 494 = .ok (.bipush 104, 2) := by decide +kernel
theorem dX12_init_496 : decode cX12_init 496 = .ok (.iconst 0, 1) := by decide +kernel
theorem dX12_init_497 : decode cX12_init 497 = .ok (.iconst 0, 1) := by decide +kernel
theorem dX12_init_498 : decode cX12_init 498 = .ok (.invokestatic 172, 3) := by decide +kernel
theorem dX12_init_501 : decode cX12_init 501 = .ok (.lastore, 1) := by decide +kernel
theorem dX12_init_502 : decode cX12_init 502 = .ok (.aload_n 0, 1) := by decide +kernel
theorem dX12_init_503 : decode cX12_init 503 = .ok (.getfield 34, 3) := by decide +kernel
theorem dX12_init_506 : decode cX12_init 506 = .ok (.iconst 4, 1) := by decide +kernel
theorem dX12_init_507 : decode cX12_init 507 = .ok (.bipush 99, 2) := by decide +kernel
theorem dX12_init_509 : decode cX12_init 509 = .ok (.bipush 111, 2) := by decide +kernel
theorem dX12_init_511 : decode cX12_init 511 = .ok (.bipush 115, 2) := by decide +kernel
theorem dX12_init_513 : decode cX12_init 513 = .ok (.bipush 116, 2) := by decide +kernel
theorem dX12_init_515 : decode cX12_init 515 = .ok (.bipush 115, 2) := by decide +kernel
theorem dX12_init_517 : decode cX12_init 517 = .ok (.iconst 0, 1) := by decide +kernel
theorem dX12_init_518 : decode cX12_init 518 = .ok (.iconst 0, 1) := by decide +kernel
theorem dX12_init_519 : decode cX12_init 519 = .ok (.invokestatic 172, 3) := by decide +kernel
theorem dX12_init_522 : decode cX12_init 522 = .ok (.lastore, 1) := by decide +kernel
theorem dX12_init_523 : decode cX12_init 523 = .ok (.aload_n 0, 1) := by decide +kernel
theorem dX12_init_524 : decode cX12_init 524 = .ok (.getfield 34, 3) := by decide +kernel
theorem dX12_init_527 : decode cX12_init 527 = .ok (.iconst 5, 1) := by decide +kernel
theorem dX12_init_528 : decode cX12_init 528 = .ok (.bipush 111, 2) := by decide +kernel
theorem dX12_init_530 : decode cX12_init 530 = .ok (.bipush 100, 2) := by decide +kernel
theorem dX12_init_532 : decode cX12_init 532 = .ok (.bipush 100, 2) := by decide +kernel
theorem dX12_init_534 : decode cX12_init 534 = .ok (.bipush 115, 2) := by decide +kernel
theorem dX12_init_536 : decode cX12_init 536 = .ok (.iconst 0, 1) := by decide +kernel
theorem dX12_init_537 : decode cX12_init 537 = .ok (.iconst 0, 1) := by decide +kernel
theorem dX12_init_538 : decode cX12_init 538 = .ok (.iconst 0, 1) := by decide +kernel
theorem dX12_init_539 : decode cX12_init 539 = .ok (.invokestatic 172, 3) := by decide +kernel
theorem dX12_init_542 : decode cX12_init 542 = .ok (.lastore, 1) := by decide +kernel
theorem dX12_init_543 : decode cX12_init 543 = .ok (.aload_n 0, 1) := by decide +kernel
theorem dX12_init_544 : decode cX12_init 544 = .ok (.getfield 34, 3) := by decide +kernel
theorem dX12_init_547 : decode cX12_init 547 = .ok (.bipush 6, 2) := by decide +kernel
theorem dX12_init_549 : decode cX12_init 549 = .ok (.bipush 112, 2) := by decide +kernel
theorem dX12_init_551 : decode cX12_init 551 = .ok (.bipush 97, 2) := by decide +kernel
theorem dX12_init_553 : decode cX12_init 553 = .ok (.bipush 121, 2) := by decide +kernel
theorem dX12_init_555 : decode cX12_init 555 = .ok (.bipush 115, 2) := by decide +kernel
theorem dX12_init_557 : decode cX12_init 557 = .ok (.iconst 0, 1) := by decide +kernel
theorem dX12_init_558 : decode cX12_init 558 = .ok (.iconst 0, 1) := by decide +kernel
theorem dX12_init_559 : decode cX12_init 559 = .ok (.iconst 0, 1) := by decide +kernel
theorem dX12_init_560 : decode cX12_init 560 = .ok (.invokestatic 172, 3) := by decide +kernel
theorem dX12_init_563 : decode cX12_init 563 = .ok (.lastore, 1) := by decide +kernel
theorem dX12_init_564 : decode cX12_init 564 = .ok (.aload_n 0, 1) := by decide +kernel
theorem dX12_init_565 : decode cX12_init 565 = .ok (.getfield 34, 3) := by decide +kernel
theorem dX12_init_568 : decode cX12_init 568 = .ok (.bipush 7, 2) := by decide +kernel
theorem dX12_init_570 : decode cX12_init 570 = .ok (.bipush 115, 2) := by decide +kernel
theorem dX12_init_572 : decode cX12_init 572 = .ok (.bipush 101, 2) := by decide +kernel
theorem dX12_init_574 : decode cX12_init 574 = .ok (.bipush 101, 2) := by decide +kernel
theorem dX12_init_576 : decode cX12_init 576 = .ok (.bipush 100, 2) := by decide +kernel
theorem dX12_init_578 : decode cX12_init 578 = .ok (.iconst 0, 1) := by decide +kernel
theorem dX12_init_579 : decode cX12_init 579 = .ok (.iconst 0, 1) := by decide +kernel
theorem dX12_init_580 : decode cX12_init 580 = .ok (.iconst 0, 1) := by decide +kernel
theorem dX12_init_581 : decode cX12_init 581 = .ok (.invokestatic 172, 3) := by decide +kernel
theorem dX12_init_584 : decode cX12_init 584 = .ok (.lastore, 1) := by decide +kernel
theorem dX12_init_585 : decode cX12_init 585 = .ok (.aload_n 0, 1) := by decide +kernel
theorem dX12_init_586 : decode cX12_init 586 = .ok (.getfield 34, 3) := by decide +kernel
theorem dX12_init_589 : decode cX12_init 589 = .ok (.bipush 8, 2) := by decide +kernel
theorem dX12_init_591 : decode cX12_init 591 = .ok (.bipush 105, 2) := by decide +kernel
theorem dX12_init_593 : decode cX12_init 593 = .ok (.bipush 102, 2) := by decide +kernel
theorem dX12_init_595 : decode cX12_init 595 = .ok (.iconst 0, 1) := by decide +kernel
theorem dX12_init_596 : decode cX12_init 596 = .ok (.iconst 0, 1) := by decide +kernel
theorem dX12_init_597 : decode cX12_init 597 = .ok (.iconst 0, 1) := by decide +kernel
theorem dX12_init_598 : decode cX12_init 598 = .ok (.iconst 0, 1) := by decide +kernel
theorem dX12_init_599 : decode cX12_init 599 = .ok (.iconst 0, 1) := by decide +kernel
theorem dX12_init_600 : decode cX12_init 600 = .ok (.invokestatic 172, 3) := by decide +kernel
theorem dX12_init_603 : decode cX12_init 603 = .ok (.lastore, 1) := by decide +kernel
theorem dX12_init_604 : decode cX12_init 604 = .ok (.aload_n 0, 1) := by decide +kernel
theorem dX12_init_605 : decode cX12_init 605 = .ok (.getfield 34, 3) := by decide +kernel
theorem dX12_init_608 : decode cX12_init 608 = .ok (.bipush 9, 2) := by decide +kernel
theorem dX12_init_610 : decode cX12_init 610 = .ok (.bipush 116, 2) := by decide +kernel
theorem dX12_init_612 : decode cX12_init 612 = .ok (.bipush 104, 2) := by decide +kernel
theorem dX12_init_614 : decode cX12_init 614 = .ok (.bipush 101, 2) := by decide +kernel
theorem dX12_init_616 : decode cX12_init 616 = .ok (.bipush 110, 2) := by decide +kernel
theorem dX12_init_618 : decode cX12_init 618 = .ok (.iconst 0, 1) := by decide +kernel
theorem dX12_init_619 : decode cX12_init 619 = .ok (.iconst 0, 1) := by decide +kernel
theorem dX12_init_620 : decode cX12_init 620 = .ok (.iconst 0, 1) := by decide +kernel
theorem dX12_init_621 : decode cX12_init 621 = .ok (.invokestatic 172, 3) := by decide +kernel
theorem dX12_init_624 : decode cX12_init 624 = .ok (.lastore, 1) := by decide +kernel
theorem dX12_init_625 : decode cX12_init 625 = .ok (.aload_n 0, 1) := by decide +kernel
theorem dX12_init_626 : decode cX12_init 626 = .ok (.getfield 34, 3) := by decide +kernel
theorem dX12_init_629 : decode cX12_init 629 = .ok (.bipush 10, 2) := by decide +kernel
theorem dX12_init_631 : decode cX12_init 631 = .ok (.bipush 101, 2) := by decide +kernel
theorem dX12_init_633 : decode cX12_init 633 = .ok (.bipush 108, 2) := by decide +kernel
theorem dX12_init_635 : decode cX12_init 635 = .ok (.bipush 115, 2) := by decide +kernel
theorem dX12_init_637 : decode cX12_init 637 = .ok (.bipush 101, 2) := by decide +kernel
theorem dX12_init_639 : decode cX12_init 639 = .ok (.iconst 0, 1) := by decide +kernel
theorem dX12_init_640 : decode cX12_init 640 = .ok (.iconst 0, 1) := by decide +kernel
theorem dX12_init_641 : decode cX12_init 641 = .ok (.iconst 0, 1) := by decide +kernel
theorem dX12_init_642 : decode cX12_init 642 = .ok (.invokestatic 172, 3) := by decide +kernel
theorem dX12_init_645 : decode cX12_init 645 = .ok (.lastore, 1) := by decide +kernel
theorem dX12_init_646 : decode cX12_init 646 = .ok (.aload_n 0, 1) := by decide +kernel
theorem dX12_init_647 : decode cX12_init 647 = .ok (.getfield 34, 3) := by decide +kernel
theorem dX12_init_650 : decode cX12_init 650 = .ok (.bipush 11, 2) := by decide +kernel
theorem dX12_init_652 : decode cX12_init 652 = .ok (.bipush 99, 2) := by decide +kernel
theorem dX12_init_654 : decode cX12_init 654 = .ok (.bipush 111, 2) := by decide +kernel
theorem dX12_init_656 : decode cX12_init 656 = .ok (.bipush 108, 2) := by decide +kernel
theorem dX12_init_658 : decode cX12_init 658 = .ok (.bipush 111, 2) := by decide +kernel
theorem dX12_init_660 : decode cX12_init 660 = .ok (.bipush 117, 2) := by decide +kernel
theorem dX12_init_662 : decode cX12_init 662 = .ok (.bipush 114, 2) := by decide +kernel
theorem dX12_init_664 : decode cX12_init 664 = .ok (.iconst 0, 1) := by decide +kernel
theorem dX12_init_665 : decode cX12_init 665 = .ok (.invokestatic 172, 3) := by decide +kernel
theorem dX12_init_668 : decode cX12_init 668 = .ok (.lastore, 1) := by decide +kernel
theorem dX12_init_669 : decode cX12_init 669 = .ok (.aload_n 0, 1) := by decide +kernel
theorem dX12_init_670 : decode cX12_init 670 = .ok (.getfield 34, 3) := by decide +kernel
theorem dX12_init_673 : decode cX12_init 673 = .ok (.bipush 12, 2) := by decide +kernel
theorem dX12_init_675 : decode cX12_init 675 = .ok (.bipush 115, 2) := by decide +kernel
theorem dX12_init_677 : decode cX12_init 677 = .ok (.bipush 101, 2) := by decide +kernel
theorem dX12_init_679 : decode cX12_init 679 = .ok (.bipush 97, 2) := by decide +kernel
theorem dX12_init_681 : decode cX12_init 681 = .ok (.bipush 116, 2) := by decide +kernel
theorem dX12_init_683 : decode cX12_init 683 = .ok (.iconst 0, 1) := by decide +kernel
theorem dX12_init_684 : decode cX12_init 684 = .ok (.iconst 0, 1) := by decide +kernel
theorem dX12_init_685 : decode cX12_init 685 = .ok (.iconst 0, 1) := by decide +kernel
theorem dX12_init_686 : decode cX12_init 686 = .ok (.invokestatic 172, 3) := by decide +kernel
theorem dX12_init_689 : decode cX12_init 689 = .ok (.lastore, 1) := by decide +kernel
theorem dX12_init_690 : decode cX12_init 690 = .ok (.aload_n 0, 1) := by decide +kernel
theorem dX12_init_691 : decode cX12_init 691 = .ok (.getfield 34, 3) := by decide +kernel
theorem dX12_init_694 : decode cX12_init 694 = .ok (.bipush 13, 2) := by decide +kernel
theorem dX12_init_696 : decode cX12_init 696 = .ok (.bipush 100, 2) := by decide +kernel
theorem dX12_init_698 : decode cX12_init 698 = .ok (.bipush 101, 2) := by decide +kernel
theorem dX12_init_700 : decode cX12_init 700 = .ok (.bipush 112, 2) := by decide +kernel
theorem dX12_init_702 : decode cX12_init 702 = .ok (.bipush 116, 2) := by decide +kernel
theorem dX12_init_704 : decode cX12_init 704 = .ok (.bipush 104, 2) := by decide +kernel
theorem dX12_init_706 : decode cX12_init 706 = .ok (.iconst 0, 1) := by decide +kernel
theorem dX12_init_707 : decode cX12_init 707 = .ok (.iconst 0, 1) := by decide +kernel
theorem dX12_init_708 : decode cX12_init 708 = .ok (.invokestatic 172, 3) := by decide +kernel
theorem dX12_init_711 : decode cX12_init 711 = .ok (.lastore, 1) := by decide +kernel
theorem dX12_init_712 : decode cX12_init 712 = .ok (.aload_n 0, 1) := by decide +kernel
theorem dX12_init_713 : decode cX12_init 713 = .ok (.getfield 34, 3) := by decide +kernel
theorem dX12_init_716 : decode cX12_init 716 = .ok (.bipush 14, 2) := by decide +kernel
theorem dX12_init_718 : decode cX12_init 718 = .ok (.bipush 108, 2) := by decide +kernel
theorem dX12_init_720 : decode cX12_init 720 = .ok (.bipush 111, 2) := by decide +kernel
theorem dX12_init_722 : decode cX12_init 722 = .ok (.bipush 110, 2) := by decide +kernel
theorem dX12_init_724 : decode cX12_init 724 = .ok (.bipush 103, 2) := by decide +kernel
theorem dX12_init_726 : decode cX12_init 726 = .ok (.iconst 0, 1) := by decide +kernel
theorem dX12_init_727 : decode cX12_init 727 = .ok (.iconst 0, 1) := by decide +kernel
theorem dX12_init_728 : decode cX12_init 728 = .ok (.iconst 0, 1) := by decide +kernel
theorem dX12_init_729 : decode cX12_init 729 = .ok (.invokestatic 172, 3) := by decide +kernel
theorem dX12_init_732 : decode cX12_init 732 = .ok (.lastore, 1) := by decide +kernel
theorem dX12_init_733 : decode cX12_init 733 = .ok (.aload_n 0, 1) := by decide +kernel
theorem dX12_init_734 : decode cX12_init 734 = .ok (.getfield 34, 3) := by decide +kernel
theorem dX12_init_737 : decode cX12_init 737 = .ok (.bipush 15, 2) := by decide +kernel
theorem dX12_init_739 : decode cX12_init 739 = .ok (.bipush 109, 2) := by decide +kernel
theorem dX12_init_741 : decode cX12_init 741 = .ok (.bipush 97, 2) := by decide +kernel
theorem dX12_init_743 : decode cX12_init 743 = .ok (.bipush 110, 2) := by decide +kernel
theorem dX12_init_745 : decode cX12_init 745 = .ok (.bipush 121, 2) := by decide +kernel
theorem dX12_init_747 : decode cX12_init 747 = .ok (.iconst 0, 1) := by decide +kernel
theorem dX12_init_748 : decode cX12_init 748 = .ok (.iconst 0, 1) := by decide +kernel
theorem dX12_init_749 : decode cX12_init 749 = .ok (.iconst 0, 1) := by decide +kernel
theorem dX12_init_750 : decode cX12_init 750 = .ok (.invokestatic 172, 3) := by decide +kernel
theorem dX12_init_753 : decode cX12_init 753 = .ok (.lastore, 1) := by decide +kernel
theorem dX12_init_754 : decode cX12_init 754 = .ok (.aload_n 0, 1) := by decide +kernel
theorem dX12_init_755 : decode cX12_init 755 = .ok (.getfield 34, 3) := by decide +kernel
theorem dX12_init_758 : decode cX12_init 758 = .ok (.bipush 16, 2) := by decide +kernel
theorem dX12_init_760 : decode cX12_init 760 = .ok (.bipush 116, 2) := by decide +kernel
theorem dX12_init_762 : decode cX12_init 762 = .ok (.bipush 105, 2) := by decide +kernel
theorem dX12_init_764 : decode cX12_init 764 = .ok (.bipush 109, 2) := by decide +kernel
theorem dX12_init_766 : decode cX12_init 766 = .ok (.bipush 101, 2) := by decide +kernel
theorem dX12_init_768 : decode cX12_init 768 = .ok (.iconst 0, 1) := by decide +kernel
theorem dX12_init_769 : decode cX12_init 769 = .ok (.iconst 0, 1) := by decide +kernel
theorem dX12_init_770 : decode cX12_init 770 = .ok (.iconst 0, 1) := by decide +kernel
theorem dX12_init_771 : decode cX12_init 771 = .ok (.invokestatic 172, 3) := by decide +kernel
theorem dX12_init_774 : decode cX12_init 774 = .ok (.lastore, 1) := by decide +kernel
theorem dX12_init_775 : decode cX12_init 775 = .ok (.aload_n 0, 1) := by decide +kernel
theorem dX12_init_776 : decode cX12_init 776 = .ok (.getfield 34, 3) := by decide +kernel
theorem dX12_init_779 : decode cX12_init 779 = .ok (.bipush 17, 2) := by decide +kernel
theorem dX12_init_781 : decode cX12_init 781 = .ok (.bipush 119, 2) := by decide +kernel
theorem dX12_init_783 : decode cX12_init 783 = .ok (.bipush 104, 2) := by decide +kernel
theorem dX12_init_785 : decode cX12_init 785 = .ok (.bipush 105, 2) := by decide +kernel
theorem dX12_init_787 : decode cX12_init 787 = .ok (.bipush 99, 2) := by decide +kernel
theorem dX12_init_789 : decode cX12_init 789 = .ok (.bipush 104, 2) := by decide +kernel
theorem dX12_init_791 : decode cX12_init 791 = .ok (.iconst 0, 1) := by decide +kernel
theorem dX12_init_792 : decode cX12_init 792 = .ok (.iconst 0, 1) := by decide +kernel
theorem dX12_init_793 : decode cX12_init 793 = .ok (.invokestatic 172, 3) := by decide +kernel
theorem dX12_init_796 : decode cX12_init 796 = .ok (.lastore, 1) := by decide +kernel
theorem dX12_init_797 : decode cX12_init 797 = .ok (.aload_n 0, 1) := by decide +kernel
theorem dX12_init_798 : decode cX12_init 798 = .ok (.getfield 34, 3) := by decide +kernel
theorem dX12_init_801 : decode cX12_init 801 = .ok (.bipush 18, 2) := by decide +kernel
theorem dX12_init_803 : decode cX12_init 803 = .ok (.bipush 108, 2) := by decide +kernel
theorem dX12_init_805 : decode cX12_init 805 = .ok (.bipush 101, 2) := by decide +kernel
theorem dX12_init_807 : decode cX12_init 807 = .ok (.bipush 102, 2) := by decide +kernel
theorem dX12_init_809 : decode cX12_init 809 = .ok (.bipush 116, 2) := by decide +kernel
theorem dX12_init_811 : decode cX12_init 811 = .ok (.iconst 0, 1) := by decide +kernel
theorem dX12_init_812 : decode cX12_init 812 = .ok (.iconst 0, 1) := by decide +kernel
theorem dX12_init_813 : decode cX12_init 813 = .ok (.iconst 0, 1) := by decide +kernel
theorem dX12_init_814 : decode cX12_init 814 = .ok (.invokestatic 172, 3) := by decide +kernel
theorem dX12_init_817 : decode cX12_init 817 = .ok (.lastore, 1) := by decide +kernel
theorem dX12_init_818 : decode cX12_init 818 = .ok (.aload_n 0, 1) := by decide +kernel
theorem dX12_init_819 : decode cX12_init 819 = .ok (.getfield 34, 3) := by decide +kernel
theorem dX12_init_822 : decode cX12_init 822 = .ok (.bipush 19, 2) := by decide +kernel
theorem dX12_init_824 : decode cX12_init 824 = .ok (.bipush 114, 2) := by decide +kernel
theorem dX12_init_826 : decode cX12_init 826 = .ok (.bipush 105, 2) := by decide +kernel
theorem dX12_init_828 : decode cX12_init 828 = .ok (.bipush 103, 2) := by decide +kernel
theorem dX12_init_830 : decode cX12_init 830 = .ok (.bipush 104, 2) := by decide +kernel
theorem dX12_init_832 : decode cX12_init 832 = .ok (.bipush 116, 2) := by decide +kernel
theorem dX12_init_834 : decode cX12_init 834 = .ok (.iconst 0, 1) := by decide +kernel
theorem dX12_init_835 : decode cX12_init 835 = .ok (.iconst 0, 1) := by decide +kernel
theorem dX12_init_836 : decode cX12_init 836 = .ok (.invokestatic 172, 3) := by decide +kernel
theorem dX12_init_839 : decode cX12_init 839 = .ok (.lastore, 1) := by decide +kernel
theorem dX12_init_840 : decode cX12_init 840 = .ok (.aload_n 0, 1) := by decide +kernel
theorem dX12_init_841 : decode cX12_init 841 = .ok (.invokevirtual 176, 3) := by decide +kernel
theorem dX12_init_844 : decode cX12_init 844 = .ok (.aload_n 0, 1) := by decide +kernel
theorem dX12_init_845 : decode cX12_init 845 = .ok (.invokevirtual 179, 3) := by decide +kernel
theorem dX12_init_848 : decode cX12_init 848 = .ok (.return_, 1) := by decide +kernel
def xX12_init : zX := (RX12, cX12_init, 1, none, true, { frames := 3, cells := 49, slots := 3211264, locals := 138 }, 49, 65536, 0, 0)
theorem rmX12_init : z_Rm xX12_init := by unfold z_Rm xX12_init; exact ⟨by decide, by decide⟩
theorem reX12_init : z_Re xX12_init := ⟨rfl, rfl⟩
theorem rlX12_init : 1 ≤ xX12_init.2.2.2.2.2.1.frames ∧ 21 ≤ xX12_init.2.2.2.2.2.1.locals := by unfold xX12_init; exact ⟨by decide, by decide⟩
theorem meX12_init : z_Me yX12_init xX12_init 0 := ⟨wd913, wd848, by decide, by decide, by decide +kernel⟩
theorem fitX12_init_410 : z_Fit xX12_plain xX12_init := by unfold z_Fit; simp only [xX12_plain, xX12_init]; exact ⟨by decide, by decide⟩
theorem fitX12_init_415 : z_Fit xX12_plain xX12_init := by unfold z_Fit; simp only [xX12_plain, xX12_init]; exact ⟨by decide, by decide⟩
theorem fitX12_init_437 : z_Fit xX12_letters xX12_init := by unfold z_Fit; simp only [xX12_letters, xX12_init]; exact ⟨by decide, by decide⟩
theorem fitX12_init_458 : z_Fit xX12_letters xX12_init := by unfold z_Fit; simp only [xX12_letters, xX12_init]; exact ⟨by decide, by decide⟩
theorem fitX12_init_477 : z_Fit xX12_letters xX12_init := by unfold z_Fit; simp only [xX12_letters, xX12_init]; exact ⟨by decide, by decide⟩
theorem fitX12_init_498 : z_Fit xX12_letters xX12_init := by unfold z_Fit; simp only [xX12_letters, xX12_init]; exact ⟨by decide, by decide⟩
theorem fitX12_init_519 : z_Fit xX12_letters xX12_init := by unfold z_Fit; simp only [xX12_letters, xX12_init]; exact ⟨by decide, by decide⟩
theorem fitX12_init_539 : z_Fit xX12_letters xX12_init := by unfold z_Fit; simp only [xX12_letters, xX12_init]; exact ⟨by decide, by decide⟩
theorem fitX12_init_560 : z_Fit xX12_letters xX12_init := by unfold z_Fit; simp only [xX12_letters, xX12_init]; exact ⟨by decide, by decide⟩
theorem fitX12_init_581 : z_Fit xX12_letters xX12_init := by unfold z_Fit; simp only [xX12_letters, xX12_init]; exact ⟨by decide, by decide⟩
theorem fitX12_init_600 : z_Fit xX12_letters xX12_init := by unfold z_Fit; simp only [xX12_letters, xX12_init]; exact ⟨by decide, by decide⟩
theorem fitX12_init_621 : z_Fit xX12_letters xX12_init := by unfold z_Fit; simp only [xX12_letters, xX12_init]; exact ⟨by decide, by decide⟩
theorem fitX12_init_642 : z_Fit xX12_letters xX12_init := by unfold z_Fit; simp only [xX12_letters, xX12_init]; exact ⟨by decide, by decide⟩
theorem fitX12_init_665 : z_Fit xX12_letters xX12_init := by unfold z_Fit; simp only [xX12_letters, xX12_init]; exact ⟨by decide, by decide⟩
theorem fitX12_init_686 : z_Fit xX12_letters xX12_init := by unfold z_Fit; simp only [xX12_letters, xX12_init]; exact ⟨by decide, by decide⟩
theorem fitX12_init_708 : z_Fit xX12_letters xX12_init := by unfold z_Fit; simp only [xX12_letters, xX12_init]; exact ⟨by decide, by decide⟩
theorem fitX12_init_729 : z_Fit xX12_letters xX12_init := by unfold z_Fit; simp only [xX12_letters, xX12_init]; exact ⟨by decide, by decide⟩
theorem fitX12_init_750 : z_Fit xX12_letters xX12_init := by unfold z_Fit; simp only [xX12_letters, xX12_init]; exact ⟨by decide, by decide⟩
theorem fitX12_init_771 : z_Fit xX12_letters xX12_init := by unfold z_Fit; simp only [xX12_letters, xX12_init]; exact ⟨by decide, by decide⟩
theorem fitX12_init_793 : z_Fit xX12_letters xX12_init := by unfold z_Fit; simp only [xX12_letters, xX12_init]; exact ⟨by decide, by decide⟩
theorem fitX12_init_814 : z_Fit xX12_letters xX12_init := by unfold z_Fit; simp only [xX12_letters, xX12_init]; exact ⟨by decide, by decide⟩
theorem fitX12_init_836 : z_Fit xX12_letters xX12_init := by unfold z_Fit; simp only [xX12_letters, xX12_init]; exact ⟨by decide, by decide⟩
theorem fitX12_init_841 : z_Fit xX12_begins xX12_init := by unfold z_Fit; simp only [xX12_begins, xX12_init]; exact ⟨by decide, by decide⟩
theorem fitX12_init_845 : z_Fit xX12_keepsRow xX12_init := by unfold z_Fit; simp only [xX12_keepsRow, xX12_init]; exact ⟨by decide, by decide⟩
noncomputable def kX12_init_766 (lim : Nat) : zK zR := (q_push 101 (q_push 0 (q_push 0 (q_push 0 (q_callS fX12_letters 7 (q_last (q_aload 0 (q_getR 12 9 (q_push 17 (q_push 119 (q_push 104 (q_push 105 (q_push 99 (q_push 104 (q_push 0 (q_push 0 (q_callS fX12_letters 7 (q_last (q_aload 0 (q_getR 12 9 (q_push 18 (q_push 108 (q_push 101 (q_push 102 (q_push 116 (q_push 0 (q_push 0 (q_push 0 (q_callS fX12_letters 7 (q_last (q_aload 0 (q_getR 12 9 (q_push 19 (q_push 114 (q_push 105 (q_push 103 (q_push 104 (q_push 116 (q_push 0 (q_push 0 (q_callS fX12_letters 7 (q_last (q_aload 0 (q_callV 12 fX12_begins 0 (q_aload 0 (q_callV 12 fX12_keepsRow 0 q_vret))))))))))))))))))))))))))))))))))))))))))))))
noncomputable def kX12_init_685 (lim : Nat) : zK zR := (q_push 0 (q_callS fX12_letters 7 (q_last (q_aload 0 (q_getR 12 9 (q_push 13 (q_push 100 (q_push 101 (q_push 112 (q_push 116 (q_push 104 (q_push 0 (q_push 0 (q_callS fX12_letters 7 (q_last (q_aload 0 (q_getR 12 9 (q_push 14 (q_push 108 (q_push 111 (q_push 110 (q_push 103 (q_push 0 (q_push 0 (q_push 0 (q_callS fX12_letters 7 (q_last (q_aload 0 (q_getR 12 9 (q_push 15 (q_push 109 (q_push 97 (q_push 110 (q_push 121 (q_push 0 (q_push 0 (q_push 0 (q_callS fX12_letters 7 (q_last (q_aload 0 (q_getR 12 9 (q_push 16 (q_push 116 (q_push 105 (q_push 109 (kX12_init_766 lim))))))))))))))))))))))))))))))))))))))))))))))
noncomputable def kX12_init_604 (lim : Nat) : zK zR := (q_aload 0 (q_getR 12 9 (q_push 9 (q_push 116 (q_push 104 (q_push 101 (q_push 110 (q_push 0 (q_push 0 (q_push 0 (q_callS fX12_letters 7 (q_last (q_aload 0 (q_getR 12 9 (q_push 10 (q_push 101 (q_push 108 (q_push 115 (q_push 101 (q_push 0 (q_push 0 (q_push 0 (q_callS fX12_letters 7 (q_last (q_aload 0 (q_getR 12 9 (q_push 11 (q_push 99 (q_push 111 (q_push 108 (q_push 111 (q_push 117 (q_push 114 (q_push 0 (q_callS fX12_letters 7 (q_last (q_aload 0 (q_getR 12 9 (q_push 12 (q_push 115 (q_push 101 (q_push 97 (q_push 116 (q_push 0 (q_push 0 (kX12_init_685 lim))))))))))))))))))))))))))))))))))))))))))))))
noncomputable def kX12_init_528 (lim : Nat) : zK zR := (q_push 111 (q_push 100 (q_push 100 (q_push 115 (q_push 0 (q_push 0 (q_push 0 (q_callS fX12_letters 7 (q_last (q_aload 0 (q_getR 12 9 (q_push 6 (q_push 112 (q_push 97 (q_push 121 (q_push 115 (q_push 0 (q_push 0 (q_push 0 (q_callS fX12_letters 7 (q_last (q_aload 0 (q_getR 12 9 (q_push 7 (q_push 115 (q_push 101 (q_push 101 (q_push 100 (q_push 0 (q_push 0 (q_push 0 (q_callS fX12_letters 7 (q_last (q_aload 0 (q_getR 12 9 (q_push 8 (q_push 105 (q_push 102 (q_push 0 (q_push 0 (q_push 0 (q_push 0 (q_push 0 (q_callS fX12_letters 7 (q_last (kX12_init_604 lim))))))))))))))))))))))))))))))))))))))))))))))
noncomputable def kX12_init_452 (lim : Nat) : zK zR := (q_push 108 (q_push 100 (q_push 0 (q_push 0 (q_callS fX12_letters 7 (q_last (q_aload 0 (q_getR 12 9 (q_push 2 (q_push 114 (q_push 111 (q_push 119 (q_push 0 (q_push 0 (q_push 0 (q_push 0 (q_callS fX12_letters 7 (q_last (q_aload 0 (q_getR 12 9 (q_push 3 (q_push 119 (q_push 111 (q_push 114 (q_push 116 (q_push 104 (q_push 0 (q_push 0 (q_callS fX12_letters 7 (q_last (q_aload 0 (q_getR 12 9 (q_push 4 (q_push 99 (q_push 111 (q_push 115 (q_push 116 (q_push 115 (q_push 0 (q_push 0 (q_callS fX12_letters 7 (q_last (q_aload 0 (q_getR 12 9 (q_push 5 (kX12_init_528 lim))))))))))))))))))))))))))))))))))))))))))))))
noncomputable def kX12_init_365 (lim : Nat) : zK zR := (q_putR 12 68 (q_aload 0 (q_push 20 (q_newa 0 65536 lim (q_putR 12 69 (q_aload 0 (q_push 20 (q_newa 2 65536 lim (q_putR 12 70 (q_aload 0 (q_push 256 (q_newa 0 65536 lim (q_putR 12 71 (q_aload 0 (q_push 3 (q_newa 2 65536 lim (q_putR 12 72 (q_aload 0 (q_push 114 (q_newa 0 65536 lim (q_putR 12 73 (q_aload 0 (q_push 0 (q_callV 12 fX12_plain 1 (q_aload 0 (q_push 1 (q_callV 12 fX12_plain 1 (q_aload 0 (q_getR 12 9 (q_push 0 (q_push 99 (q_push 111 (q_push 108 (q_push 111 (q_push 117 (q_push 114 (q_push 115 (q_callS fX12_letters 7 (q_last (q_aload 0 (q_getR 12 9 (q_push 1 (q_push 99 (q_push 104 (q_push 105 (kX12_init_452 lim))))))))))))))))))))))))))))))))))))))))))))))
noncomputable def kX12_init_277 (lim : Nat) : zK zR := (q_newa 0 65536 lim (q_putR 12 53 (q_aload 0 (q_push 32 (q_newa 0 65536 lim (q_putR 12 54 (q_aload 0 (q_push 9 (q_newa 0 65536 lim (q_putR 12 55 (q_aload 0 (q_push 4 (q_newa 0 65536 lim (q_putR 12 56 (q_aload 0 (q_push 4 (q_newa 0 65536 lim (q_putR 12 57 (q_aload 0 (q_push 16 (q_newa 0 65536 lim (q_putR 12 58 (q_aload 0 (q_push 16 (q_newa 0 65536 lim (q_putR 12 59 (q_aload 0 (q_push 65536 (q_newa 0 65536 lim (q_putR 12 60 (q_aload 0 (q_push 8 (q_newa 0 65536 lim (q_putR 12 61 (q_aload 0 (q_push 65536 (q_newa 0 65536 lim (q_putR 12 65 (q_aload 0 (q_push 20 (q_newa 0 65536 lim (q_putR 12 67 (q_aload 0 (q_push 20 (q_newa 0 65536 lim (kX12_init_365 lim))))))))))))))))))))))))))))))))))))))))))))))
noncomputable def kX12_init_181 (lim : Nat) : zK zR := (q_push 260 (q_newa 0 65536 lim (q_putR 12 36 (q_aload 0 (q_push 260 (q_newa 0 65536 lim (q_putR 12 37 (q_aload 0 (q_push 840 (q_newa 0 65536 lim (q_putR 12 39 (q_aload 0 (q_push 840 (q_newa 0 65536 lim (q_putR 12 40 (q_aload 0 (q_push 64 (q_newa 0 65536 lim (q_putR 12 41 (q_aload 0 (q_push 9 (q_newa 0 65536 lim (q_putR 12 43 (q_aload 0 (q_push 400 (q_newa 0 65536 lim (q_putR 12 44 (q_aload 0 (q_push 38 (q_newa 0 65536 lim (q_putR 12 46 (q_aload 0 (q_push 38 (q_newa 0 65536 lim (q_putR 12 47 (q_aload 0 (q_push 64 (q_newa 0 65536 lim (q_putR 12 49 (q_aload 0 (q_push 8 (q_newa 0 65536 lim (q_putR 12 51 (q_aload 0 (q_push 1520 (kX12_init_277 lim))))))))))))))))))))))))))))))))))))))))))))))
noncomputable def kX12_init_92 (lim : Nat) : zK zR := (q_aload 0 (q_push 32 (q_newa 0 65536 lim (q_putR 12 24 (q_aload 0 (q_push 2 (q_newa 0 65536 lim (q_putR 12 25 (q_aload 0 (q_push 2 (q_newa 0 65536 lim (q_putR 12 26 (q_aload 0 (q_push 8 (q_newa 0 65536 lim (q_putR 12 27 (q_aload 0 (q_push 64 (q_newa 0 65536 lim (q_putR 12 28 (q_aload 0 (q_push 2 (q_newa 0 65536 lim (q_putR 12 29 (q_aload 0 (q_push 8 (q_newa 0 65536 lim (q_putR 12 30 (q_aload 0 (q_push 8 (q_newa 0 65536 lim (q_putR 12 31 (q_aload 0 (q_push 260 (q_newa 2 65536 lim (q_putR 12 33 (q_aload 0 (q_push 260 (q_newa 0 65536 lim (q_putR 12 34 (q_aload 0 (q_push 260 (q_newa 0 65536 lim (q_putR 12 35 (q_aload 0 (kX12_init_181 lim))))))))))))))))))))))))))))))))))))))))))))))
noncomputable def kX12_init_0 (lim : Nat) : zK zR := (q_aload 0 (q_obj (q_aload 0 (q_push 2000 (q_newa 1 65536 lim (q_putR 12 1 (q_aload 0 (q_push 2000 (q_newa 1 65536 lim (q_putR 12 3 (q_aload 0 (q_push 403 (q_newa 0 65536 lim (q_putR 12 5 (q_aload 0 (q_push 403 (q_newa 0 65536 lim (q_putR 12 6 (q_aload 0 (q_push 403 (q_newa 0 65536 lim (q_putR 12 7 (q_aload 0 (q_push 403 (q_newa 3 65536 lim (q_putR 12 8 (q_aload 0 (q_push 20 (q_newa 3 65536 lim (q_putR 12 9 (q_aload 0 (q_push (-1) (q_putI 12 17 (q_aload 0 (q_push 4 (q_newa 3 65536 lim (q_putR 12 21 (q_aload 0 (q_push 2 (q_newa 0 65536 lim (q_putR 12 22 (q_aload 0 (q_push 2 (q_newa 0 65536 lim (q_putR 12 23 (kX12_init_92 lim))))))))))))))))))))))))))))))))))))))))))))))
set_option maxRecDepth 100000 in
theorem tX12_init_766 {l : Launch} {D : zD} {B sz0 : Nat} {post : Option Value → zS → Prop} : zSnd l D B xX12_init sz0 post 766 (kX12_init_766 (sz0 + 49)) (z_Jr post) := (s_bipush dX12_init_766 (by decide) (s_iconst dX12_init_768 (by decide) (s_iconst dX12_init_769 (by decide) (s_iconst dX12_init_770 (by decide) (s_callS dX12_init_771 mX12_letters meX12_letters wd905 rfl reX12_letters rmX12_init (fitX12_init_771) wd906 (s_last dX12_init_774 (s_aload_n dX12_init_775 rfl (s_getR (f := 9) dX12_init_776 clX12 (by decide) rfl wd869 (s_bipush dX12_init_779 (by decide) (s_bipush dX12_init_781 (by decide) (s_bipush dX12_init_783 (by decide) (s_bipush dX12_init_785 (by decide) (s_bipush dX12_init_787 (by decide) (s_bipush dX12_init_789 (by decide) (s_iconst dX12_init_791 (by decide) (s_iconst dX12_init_792 (by decide) (s_callS dX12_init_793 mX12_letters meX12_letters wd905 rfl reX12_letters rmX12_init (fitX12_init_793) wd906 (s_last dX12_init_796 (s_aload_n dX12_init_797 rfl (s_getR (f := 9) dX12_init_798 clX12 (by decide) rfl wd869 (s_bipush dX12_init_801 (by decide) (s_bipush dX12_init_803 (by decide) (s_bipush dX12_init_805 (by decide) (s_bipush dX12_init_807 (by decide) (s_bipush dX12_init_809 (by decide) (s_iconst dX12_init_811 (by decide) (s_iconst dX12_init_812 (by decide) (s_iconst dX12_init_813 (by decide) (s_callS dX12_init_814 mX12_letters meX12_letters wd905 rfl reX12_letters rmX12_init (fitX12_init_814) wd906 (s_last dX12_init_817 (s_aload_n dX12_init_818 rfl (s_getR (f := 9) dX12_init_819 clX12 (by decide) rfl wd869 (s_bipush dX12_init_822 (by decide) (s_bipush dX12_init_824 (by decide) (s_bipush dX12_init_826 (by decide) (s_bipush dX12_init_828 (by decide) (s_bipush dX12_init_830 (by decide) (s_bipush dX12_init_832 (by decide) (s_iconst dX12_init_834 (by decide) (s_iconst dX12_init_835 (by decide) (s_callS dX12_init_836 mX12_letters meX12_letters wd905 rfl reX12_letters rmX12_init (fitX12_init_836) wd906 (s_last dX12_init_839 (s_aload_n dX12_init_840 rfl (s_callV (r := (RX12, TX12, 74)) dX12_init_841 mX12_begins meX12_begins wd907 wd908 rfl rfl reX12_begins rmX12_init (fitX12_init_841) wd909 (s_aload_n dX12_init_844 rfl (s_callV (r := (RX12, TX12, 74)) dX12_init_845 mX12_keepsRow meX12_keepsRow wd910 wd911 rfl rfl reX12_keepsRow rmX12_init (fitX12_init_845) wd912 (s_vret dX12_init_848 rfl)))))))))))))))))))))))))))))))))))))))))))))))
set_option maxRecDepth 100000 in
theorem tX12_init_685 {l : Launch} {D : zD} {B sz0 : Nat} {post : Option Value → zS → Prop} : zSnd l D B xX12_init sz0 post 685 (kX12_init_685 (sz0 + 49)) (z_Jr post) := (s_iconst dX12_init_685 (by decide) (s_callS dX12_init_686 mX12_letters meX12_letters wd905 rfl reX12_letters rmX12_init (fitX12_init_686) wd906 (s_last dX12_init_689 (s_aload_n dX12_init_690 rfl (s_getR (f := 9) dX12_init_691 clX12 (by decide) rfl wd869 (s_bipush dX12_init_694 (by decide) (s_bipush dX12_init_696 (by decide) (s_bipush dX12_init_698 (by decide) (s_bipush dX12_init_700 (by decide) (s_bipush dX12_init_702 (by decide) (s_bipush dX12_init_704 (by decide) (s_iconst dX12_init_706 (by decide) (s_iconst dX12_init_707 (by decide) (s_callS dX12_init_708 mX12_letters meX12_letters wd905 rfl reX12_letters rmX12_init (fitX12_init_708) wd906 (s_last dX12_init_711 (s_aload_n dX12_init_712 rfl (s_getR (f := 9) dX12_init_713 clX12 (by decide) rfl wd869 (s_bipush dX12_init_716 (by decide) (s_bipush dX12_init_718 (by decide) (s_bipush dX12_init_720 (by decide) (s_bipush dX12_init_722 (by decide) (s_bipush dX12_init_724 (by decide) (s_iconst dX12_init_726 (by decide) (s_iconst dX12_init_727 (by decide) (s_iconst dX12_init_728 (by decide) (s_callS dX12_init_729 mX12_letters meX12_letters wd905 rfl reX12_letters rmX12_init (fitX12_init_729) wd906 (s_last dX12_init_732 (s_aload_n dX12_init_733 rfl (s_getR (f := 9) dX12_init_734 clX12 (by decide) rfl wd869 (s_bipush dX12_init_737 (by decide) (s_bipush dX12_init_739 (by decide) (s_bipush dX12_init_741 (by decide) (s_bipush dX12_init_743 (by decide) (s_bipush dX12_init_745 (by decide) (s_iconst dX12_init_747 (by decide) (s_iconst dX12_init_748 (by decide) (s_iconst dX12_init_749 (by decide) (s_callS dX12_init_750 mX12_letters meX12_letters wd905 rfl reX12_letters rmX12_init (fitX12_init_750) wd906 (s_last dX12_init_753 (s_aload_n dX12_init_754 rfl (s_getR (f := 9) dX12_init_755 clX12 (by decide) rfl wd869 (s_bipush dX12_init_758 (by decide) (s_bipush dX12_init_760 (by decide) (s_bipush dX12_init_762 (by decide) (s_bipush dX12_init_764 (by decide) tX12_init_766)))))))))))))))))))))))))))))))))))))))))))))
set_option maxRecDepth 100000 in
theorem tX12_init_604 {l : Launch} {D : zD} {B sz0 : Nat} {post : Option Value → zS → Prop} : zSnd l D B xX12_init sz0 post 604 (kX12_init_604 (sz0 + 49)) (z_Jr post) := (s_aload_n dX12_init_604 rfl (s_getR (f := 9) dX12_init_605 clX12 (by decide) rfl wd869 (s_bipush dX12_init_608 (by decide) (s_bipush dX12_init_610 (by decide) (s_bipush dX12_init_612 (by decide) (s_bipush dX12_init_614 (by decide) (s_bipush dX12_init_616 (by decide) (s_iconst dX12_init_618 (by decide) (s_iconst dX12_init_619 (by decide) (s_iconst dX12_init_620 (by decide) (s_callS dX12_init_621 mX12_letters meX12_letters wd905 rfl reX12_letters rmX12_init (fitX12_init_621) wd906 (s_last dX12_init_624 (s_aload_n dX12_init_625 rfl (s_getR (f := 9) dX12_init_626 clX12 (by decide) rfl wd869 (s_bipush dX12_init_629 (by decide) (s_bipush dX12_init_631 (by decide) (s_bipush dX12_init_633 (by decide) (s_bipush dX12_init_635 (by decide) (s_bipush dX12_init_637 (by decide) (s_iconst dX12_init_639 (by decide) (s_iconst dX12_init_640 (by decide) (s_iconst dX12_init_641 (by decide) (s_callS dX12_init_642 mX12_letters meX12_letters wd905 rfl reX12_letters rmX12_init (fitX12_init_642) wd906 (s_last dX12_init_645 (s_aload_n dX12_init_646 rfl (s_getR (f := 9) dX12_init_647 clX12 (by decide) rfl wd869 (s_bipush dX12_init_650 (by decide) (s_bipush dX12_init_652 (by decide) (s_bipush dX12_init_654 (by decide) (s_bipush dX12_init_656 (by decide) (s_bipush dX12_init_658 (by decide) (s_bipush dX12_init_660 (by decide) (s_bipush dX12_init_662 (by decide) (s_iconst dX12_init_664 (by decide) (s_callS dX12_init_665 mX12_letters meX12_letters wd905 rfl reX12_letters rmX12_init (fitX12_init_665) wd906 (s_last dX12_init_668 (s_aload_n dX12_init_669 rfl (s_getR (f := 9) dX12_init_670 clX12 (by decide) rfl wd869 (s_bipush dX12_init_673 (by decide) (s_bipush dX12_init_675 (by decide) (s_bipush dX12_init_677 (by decide) (s_bipush dX12_init_679 (by decide) (s_bipush dX12_init_681 (by decide) (s_iconst dX12_init_683 (by decide) (s_iconst dX12_init_684 (by decide) tX12_init_685)))))))))))))))))))))))))))))))))))))))))))))
set_option maxRecDepth 100000 in
theorem tX12_init_528 {l : Launch} {D : zD} {B sz0 : Nat} {post : Option Value → zS → Prop} : zSnd l D B xX12_init sz0 post 528 (kX12_init_528 (sz0 + 49)) (z_Jr post) := (s_bipush dX12_init_528 (by decide) (s_bipush dX12_init_530 (by decide) (s_bipush dX12_init_532 (by decide) (s_bipush dX12_init_534 (by decide) (s_iconst dX12_init_536 (by decide) (s_iconst dX12_init_537 (by decide) (s_iconst dX12_init_538 (by decide) (s_callS dX12_init_539 mX12_letters meX12_letters wd905 rfl reX12_letters rmX12_init (fitX12_init_539) wd906 (s_last dX12_init_542 (s_aload_n dX12_init_543 rfl (s_getR (f := 9) dX12_init_544 clX12 (by decide) rfl wd869 (s_bipush dX12_init_547 (by decide) (s_bipush dX12_init_549 (by decide) (s_bipush dX12_init_551 (by decide) (s_bipush dX12_init_553 (by decide) (s_bipush dX12_init_555 (by decide) (s_iconst dX12_init_557 (by decide) (s_iconst dX12_init_558 (by decide) (s_iconst dX12_init_559 (by decide) (s_callS dX12_init_560 mX12_letters meX12_letters wd905 rfl reX12_letters rmX12_init (fitX12_init_560) wd906 (s_last dX12_init_563 (s_aload_n dX12_init_564 rfl (s_getR (f := 9) dX12_init_565 clX12 (by decide) rfl wd869 (s_bipush dX12_init_568 (by decide) (s_bipush dX12_init_570 (by decide) (s_bipush dX12_init_572 (by decide) (s_bipush dX12_init_574 (by decide) (s_bipush dX12_init_576 (by decide) (s_iconst dX12_init_578 (by decide) (s_iconst dX12_init_579 (by decide) (s_iconst dX12_init_580 (by decide) (s_callS dX12_init_581 mX12_letters meX12_letters wd905 rfl reX12_letters rmX12_init (fitX12_init_581) wd906 (s_last dX12_init_584 (s_aload_n dX12_init_585 rfl (s_getR (f := 9) dX12_init_586 clX12 (by decide) rfl wd869 (s_bipush dX12_init_589 (by decide) (s_bipush dX12_init_591 (by decide) (s_bipush dX12_init_593 (by decide) (s_iconst dX12_init_595 (by decide) (s_iconst dX12_init_596 (by decide) (s_iconst dX12_init_597 (by decide) (s_iconst dX12_init_598 (by decide) (s_iconst dX12_init_599 (by decide) (s_callS dX12_init_600 mX12_letters meX12_letters wd905 rfl reX12_letters rmX12_init (fitX12_init_600) wd906 (s_last dX12_init_603 tX12_init_604)))))))))))))))))))))))))))))))))))))))))))))
set_option maxRecDepth 100000 in
theorem tX12_init_452 {l : Launch} {D : zD} {B sz0 : Nat} {post : Option Value → zS → Prop} : zSnd l D B xX12_init sz0 post 452 (kX12_init_452 (sz0 + 49)) (z_Jr post) := (s_bipush dX12_init_452 (by decide) (s_bipush dX12_init_454 (by decide) (s_iconst dX12_init_456 (by decide) (s_iconst dX12_init_457 (by decide) (s_callS dX12_init_458 mX12_letters meX12_letters wd905 rfl reX12_letters rmX12_init (fitX12_init_458) wd906 (s_last dX12_init_461 (s_aload_n dX12_init_462 rfl (s_getR (f := 9) dX12_init_463 clX12 (by decide) rfl wd869 (s_iconst dX12_init_466 (by decide) (s_bipush dX12_init_467 (by decide) (s_bipush dX12_init_469 (by decide) (s_bipush dX12_init_471 (by decide) (s_iconst dX12_init_473 (by decide) (s_iconst dX12_init_474 (by decide) (s_iconst dX12_init_475 (by decide) (s_iconst dX12_init_476 (by decide) (s_callS dX12_init_477 mX12_letters meX12_letters wd905 rfl reX12_letters rmX12_init (fitX12_init_477) wd906 (s_last dX12_init_480 (s_aload_n dX12_init_481 rfl (s_getR (f := 9) dX12_init_482 clX12 (by decide) rfl wd869 (s_iconst dX12_init_485 (by decide) (s_bipush dX12_init_486 (by decide) (s_bipush dX12_init_488 (by decide) (s_bipush dX12_init_490 (by decide) (s_bipush dX12_init_492 (by decide) (s_bipush dX12_init_494 (by decide) (s_iconst dX12_init_496 (by decide) (s_iconst dX12_init_497 (by decide) (s_callS dX12_init_498 mX12_letters meX12_letters wd905 rfl reX12_letters rmX12_init (fitX12_init_498) wd906 (s_last dX12_init_501 (s_aload_n dX12_init_502 rfl (s_getR (f := 9) dX12_init_503 clX12 (by decide) rfl wd869 (s_iconst dX12_init_506 (by decide) (s_bipush dX12_init_507 (by decide) (s_bipush dX12_init_509 (by decide) (s_bipush dX12_init_511 (by decide) (s_bipush dX12_init_513 (by decide) (s_bipush dX12_init_515 (by decide) (s_iconst dX12_init_517 (by decide) (s_iconst dX12_init_518 (by decide) (s_callS dX12_init_519 mX12_letters meX12_letters wd905 rfl reX12_letters rmX12_init (fitX12_init_519) wd906 (s_last dX12_init_522 (s_aload_n dX12_init_523 rfl (s_getR (f := 9) dX12_init_524 clX12 (by decide) rfl wd869 (s_iconst dX12_init_527 (by decide) tX12_init_528)))))))))))))))))))))))))))))))))))))))))))))
set_option maxRecDepth 100000 in
theorem tX12_init_365 {l : Launch} {D : zD} {B sz0 : Nat} {post : Option Value → zS → Prop} : zSnd l D B xX12_init sz0 post 365 (kX12_init_365 (sz0 + 49)) (z_Jr post) := (s_putRF (f := 68) dX12_init_365 clX12 (by decide) rfl rfl rfl rfl (Or.inr ⟨_, rfl⟩) wd896 (s_aload_n dX12_init_368 rfl (s_bipush dX12_init_369 (by decide) (s_newa (t := 0) dX12_init_371 (by decide) rfl wd3 rmX12_init rfl (by decide) rfl (s_putRF (f := 69) dX12_init_373 clX12 (by decide) rfl rfl rfl rfl (Or.inr ⟨_, rfl⟩) wd897 (s_aload_n dX12_init_376 rfl (s_bipush dX12_init_377 (by decide) (s_newa (t := 2) dX12_init_379 (by decide) rfl wd13 rmX12_init rfl (by decide) rfl (s_putRF (f := 70) dX12_init_381 clX12 (by decide) rfl rfl rfl rfl (Or.inr ⟨_, rfl⟩) wd898 (s_aload_n dX12_init_384 rfl (s_sipush dX12_init_385 (by decide) (s_newa (t := 0) dX12_init_388 (by decide) rfl wd3 rmX12_init rfl (by decide) rfl (s_putRF (f := 71) dX12_init_390 clX12 (by decide) rfl rfl rfl rfl (Or.inr ⟨_, rfl⟩) wd899 (s_aload_n dX12_init_393 rfl (s_iconst dX12_init_394 (by decide) (s_newa (t := 2) dX12_init_395 (by decide) rfl wd13 rmX12_init rfl (by decide) rfl (s_putRF (f := 72) dX12_init_397 clX12 (by decide) rfl rfl rfl rfl (Or.inr ⟨_, rfl⟩) wd900 (s_aload_n dX12_init_400 rfl (s_bipush dX12_init_401 (by decide) (s_newa (t := 0) dX12_init_403 (by decide) rfl wd3 rmX12_init rfl (by decide) rfl (s_putRF (f := 73) dX12_init_405 clX12 (by decide) rfl rfl rfl rfl (Or.inr ⟨_, rfl⟩) wd901 (s_aload_n dX12_init_408 rfl (s_iconst dX12_init_409 (by decide) (s_callV (r := (RX12, TX12, 74)) dX12_init_410 mX12_plain meX12_plain wd902 wd903 rfl rfl reX12_plain rmX12_init (fitX12_init_410) wd904 (s_aload_n dX12_init_413 rfl (s_iconst dX12_init_414 (by decide) (s_callV (r := (RX12, TX12, 74)) dX12_init_415 mX12_plain meX12_plain wd902 wd903 rfl rfl reX12_plain rmX12_init (fitX12_init_415) wd904 (s_aload_n dX12_init_418 rfl (s_getR (f := 9) dX12_init_419 clX12 (by decide) rfl wd869 (s_iconst dX12_init_422 (by decide) (s_bipush dX12_init_423 (by decide) (s_bipush dX12_init_425 (by decide) (s_bipush dX12_init_427 (by decide) (s_bipush dX12_init_429 (by decide) (s_bipush dX12_init_431 (by decide) (s_bipush dX12_init_433 (by decide) (s_bipush dX12_init_435 (by decide) (s_callS dX12_init_437 mX12_letters meX12_letters wd905 rfl reX12_letters rmX12_init (fitX12_init_437) wd906 (s_last dX12_init_440 (s_aload_n dX12_init_441 rfl (s_getR (f := 9) dX12_init_442 clX12 (by decide) rfl wd869 (s_iconst dX12_init_445 (by decide) (s_bipush dX12_init_446 (by decide) (s_bipush dX12_init_448 (by decide) (s_bipush dX12_init_450 (by decide) tX12_init_452)))))))))))))))))))))))))))))))))))))))))))))
set_option maxRecDepth 100000 in
theorem tX12_init_277 {l : Launch} {D : zD} {B sz0 : Nat} {post : Option Value → zS → Prop} : zSnd l D B xX12_init sz0 post 277 (kX12_init_277 (sz0 + 49)) (z_Jr post) := (s_newa (t := 0) dX12_init_277 (by decide) rfl wd3 rmX12_init rfl (by decide) rfl (s_putRF (f := 53) dX12_init_279 clX12 (by decide) rfl rfl rfl rfl (Or.inr ⟨_, rfl⟩) wd884 (s_aload_n dX12_init_282 rfl (s_bipush dX12_init_283 (by decide) (s_newa (t := 0) dX12_init_285 (by decide) rfl wd3 rmX12_init rfl (by decide) rfl (s_putRF (f := 54) dX12_init_287 clX12 (by decide) rfl rfl rfl rfl (Or.inr ⟨_, rfl⟩) wd885 (s_aload_n dX12_init_290 rfl (s_bipush dX12_init_291 (by decide) (s_newa (t := 0) dX12_init_293 (by decide) rfl wd3 rmX12_init rfl (by decide) rfl (s_putRF (f := 55) dX12_init_295 clX12 (by decide) rfl rfl rfl rfl (Or.inr ⟨_, rfl⟩) wd886 (s_aload_n dX12_init_298 rfl (s_iconst dX12_init_299 (by decide) (s_newa (t := 0) dX12_init_300 (by decide) rfl wd3 rmX12_init rfl (by decide) rfl (s_putRF (f := 56) dX12_init_302 clX12 (by decide) rfl rfl rfl rfl (Or.inr ⟨_, rfl⟩) wd887 (s_aload_n dX12_init_305 rfl (s_iconst dX12_init_306 (by decide) (s_newa (t := 0) dX12_init_307 (by decide) rfl wd3 rmX12_init rfl (by decide) rfl (s_putRF (f := 57) dX12_init_309 clX12 (by decide) rfl rfl rfl rfl (Or.inr ⟨_, rfl⟩) wd888 (s_aload_n dX12_init_312 rfl (s_bipush dX12_init_313 (by decide) (s_newa (t := 0) dX12_init_315 (by decide) rfl wd3 rmX12_init rfl (by decide) rfl (s_putRF (f := 58) dX12_init_317 clX12 (by decide) rfl rfl rfl rfl (Or.inr ⟨_, rfl⟩) wd889 (s_aload_n dX12_init_320 rfl (s_bipush dX12_init_321 (by decide) (s_newa (t := 0) dX12_init_323 (by decide) rfl wd3 rmX12_init rfl (by decide) rfl (s_putRF (f := 59) dX12_init_325 clX12 (by decide) rfl rfl rfl rfl (Or.inr ⟨_, rfl⟩) wd890 (s_aload_n dX12_init_328 rfl (s_ldc dX12_init_329 wd891 (s_newa (t := 0) dX12_init_331 (by decide) rfl wd3 rmX12_init rfl (by decide) rfl (s_putRF (f := 60) dX12_init_333 clX12 (by decide) rfl rfl rfl rfl (Or.inr ⟨_, rfl⟩) wd892 (s_aload_n dX12_init_336 rfl (s_bipush dX12_init_337 (by decide) (s_newa (t := 0) dX12_init_339 (by decide) rfl wd3 rmX12_init rfl (by decide) rfl (s_putRF (f := 61) dX12_init_341 clX12 (by decide) rfl rfl rfl rfl (Or.inr ⟨_, rfl⟩) wd893 (s_aload_n dX12_init_344 rfl (s_ldc dX12_init_345 wd891 (s_newa (t := 0) dX12_init_347 (by decide) rfl wd3 rmX12_init rfl (by decide) rfl (s_putRF (f := 65) dX12_init_349 clX12 (by decide) rfl rfl rfl rfl (Or.inr ⟨_, rfl⟩) wd894 (s_aload_n dX12_init_352 rfl (s_bipush dX12_init_353 (by decide) (s_newa (t := 0) dX12_init_355 (by decide) rfl wd3 rmX12_init rfl (by decide) rfl (s_putRF (f := 67) dX12_init_357 clX12 (by decide) rfl rfl rfl rfl (Or.inr ⟨_, rfl⟩) wd895 (s_aload_n dX12_init_360 rfl (s_bipush dX12_init_361 (by decide) (s_newa (t := 0) dX12_init_363 (by decide) rfl wd3 rmX12_init rfl (by decide) rfl tX12_init_365)))))))))))))))))))))))))))))))))))))))))))))
set_option maxRecDepth 100000 in
theorem tX12_init_181 {l : Launch} {D : zD} {B sz0 : Nat} {post : Option Value → zS → Prop} : zSnd l D B xX12_init sz0 post 181 (kX12_init_181 (sz0 + 49)) (z_Jr post) := (s_sipush dX12_init_181 (by decide) (s_newa (t := 0) dX12_init_184 (by decide) rfl wd3 rmX12_init rfl (by decide) rfl (s_putRF (f := 36) dX12_init_186 clX12 (by decide) rfl rfl rfl rfl (Or.inr ⟨_, rfl⟩) wd875 (s_aload_n dX12_init_189 rfl (s_sipush dX12_init_190 (by decide) (s_newa (t := 0) dX12_init_193 (by decide) rfl wd3 rmX12_init rfl (by decide) rfl (s_putRF (f := 37) dX12_init_195 clX12 (by decide) rfl rfl rfl rfl (Or.inr ⟨_, rfl⟩) wd876 (s_aload_n dX12_init_198 rfl (s_sipush dX12_init_199 (by decide) (s_newa (t := 0) dX12_init_202 (by decide) rfl wd3 rmX12_init rfl (by decide) rfl (s_putRF (f := 39) dX12_init_204 clX12 (by decide) rfl rfl rfl rfl (Or.inr ⟨_, rfl⟩) wd877 (s_aload_n dX12_init_207 rfl (s_sipush dX12_init_208 (by decide) (s_newa (t := 0) dX12_init_211 (by decide) rfl wd3 rmX12_init rfl (by decide) rfl (s_putRF (f := 40) dX12_init_213 clX12 (by decide) rfl rfl rfl rfl (Or.inr ⟨_, rfl⟩) wd878 (s_aload_n dX12_init_216 rfl (s_bipush dX12_init_217 (by decide) (s_newa (t := 0) dX12_init_219 (by decide) rfl wd3 rmX12_init rfl (by decide) rfl (s_putRF (f := 41) dX12_init_221 clX12 (by decide) rfl rfl rfl rfl (Or.inr ⟨_, rfl⟩) wd879 (s_aload_n dX12_init_224 rfl (s_bipush dX12_init_225 (by decide) (s_newa (t := 0) dX12_init_227 (by decide) rfl wd3 rmX12_init rfl (by decide) rfl (s_putRF (f := 43) dX12_init_229 clX12 (by decide) rfl rfl rfl rfl (Or.inr ⟨_, rfl⟩) wd880 (s_aload_n dX12_init_232 rfl (s_sipush dX12_init_233 (by decide) (s_newa (t := 0) dX12_init_236 (by decide) rfl wd3 rmX12_init rfl (by decide) rfl (s_putRF (f := 44) dX12_init_238 clX12 (by decide) rfl rfl rfl rfl (Or.inr ⟨_, rfl⟩) wd881 (s_aload_n dX12_init_241 rfl (s_bipush dX12_init_242 (by decide) (s_newa (t := 0) dX12_init_244 (by decide) rfl wd3 rmX12_init rfl (by decide) rfl (s_putRF (f := 46) dX12_init_246 clX12 (by decide) rfl rfl rfl rfl (Or.inr ⟨_, rfl⟩) wd860 (s_aload_n dX12_init_249 rfl (s_bipush dX12_init_250 (by decide) (s_newa (t := 0) dX12_init_252 (by decide) rfl wd3 rmX12_init rfl (by decide) rfl (s_putRF (f := 47) dX12_init_254 clX12 (by decide) rfl rfl rfl rfl (Or.inr ⟨_, rfl⟩) wd856 (s_aload_n dX12_init_257 rfl (s_bipush dX12_init_258 (by decide) (s_newa (t := 0) dX12_init_260 (by decide) rfl wd3 rmX12_init rfl (by decide) rfl (s_putRF (f := 49) dX12_init_262 clX12 (by decide) rfl rfl rfl rfl (Or.inr ⟨_, rfl⟩) wd882 (s_aload_n dX12_init_265 rfl (s_bipush dX12_init_266 (by decide) (s_newa (t := 0) dX12_init_268 (by decide) rfl wd3 rmX12_init rfl (by decide) rfl (s_putRF (f := 51) dX12_init_270 clX12 (by decide) rfl rfl rfl rfl (Or.inr ⟨_, rfl⟩) wd883 (s_aload_n dX12_init_273 rfl (s_sipush dX12_init_274 (by decide) tX12_init_277)))))))))))))))))))))))))))))))))))))))))))))
set_option maxRecDepth 100000 in
theorem tX12_init_92 {l : Launch} {D : zD} {B sz0 : Nat} {post : Option Value → zS → Prop} : zSnd l D B xX12_init sz0 post 92 (kX12_init_92 (sz0 + 49)) (z_Jr post) := (s_aload_n dX12_init_92 rfl (s_bipush dX12_init_93 (by decide) (s_newa (t := 0) dX12_init_95 (by decide) rfl wd3 rmX12_init rfl (by decide) rfl (s_putRF (f := 24) dX12_init_97 clX12 (by decide) rfl rfl rfl rfl (Or.inr ⟨_, rfl⟩) wd846 (s_aload_n dX12_init_100 rfl (s_iconst dX12_init_101 (by decide) (s_newa (t := 0) dX12_init_102 (by decide) rfl wd3 rmX12_init rfl (by decide) rfl (s_putRF (f := 25) dX12_init_104 clX12 (by decide) rfl rfl rfl rfl (Or.inr ⟨_, rfl⟩) wd841 (s_aload_n dX12_init_107 rfl (s_iconst dX12_init_108 (by decide) (s_newa (t := 0) dX12_init_109 (by decide) rfl wd3 rmX12_init rfl (by decide) rfl (s_putRF (f := 26) dX12_init_111 clX12 (by decide) rfl rfl rfl rfl (Or.inr ⟨_, rfl⟩) wd842 (s_aload_n dX12_init_114 rfl (s_bipush dX12_init_115 (by decide) (s_newa (t := 0) dX12_init_117 (by decide) rfl wd3 rmX12_init rfl (by decide) rfl (s_putRF (f := 27) dX12_init_119 clX12 (by decide) rfl rfl rfl rfl (Or.inr ⟨_, rfl⟩) wd857 (s_aload_n dX12_init_122 rfl (s_bipush dX12_init_123 (by decide) (s_newa (t := 0) dX12_init_125 (by decide) rfl wd3 rmX12_init rfl (by decide) rfl (s_putRF (f := 28) dX12_init_127 clX12 (by decide) rfl rfl rfl rfl (Or.inr ⟨_, rfl⟩) wd858 (s_aload_n dX12_init_130 rfl (s_iconst dX12_init_131 (by decide) (s_newa (t := 0) dX12_init_132 (by decide) rfl wd3 rmX12_init rfl (by decide) rfl (s_putRF (f := 29) dX12_init_134 clX12 (by decide) rfl rfl rfl rfl (Or.inr ⟨_, rfl⟩) wd843 (s_aload_n dX12_init_137 rfl (s_bipush dX12_init_138 (by decide) (s_newa (t := 0) dX12_init_140 (by decide) rfl wd3 rmX12_init rfl (by decide) rfl (s_putRF (f := 30) dX12_init_142 clX12 (by decide) rfl rfl rfl rfl (Or.inr ⟨_, rfl⟩) wd844 (s_aload_n dX12_init_145 rfl (s_bipush dX12_init_146 (by decide) (s_newa (t := 0) dX12_init_148 (by decide) rfl wd3 rmX12_init rfl (by decide) rfl (s_putRF (f := 31) dX12_init_150 clX12 (by decide) rfl rfl rfl rfl (Or.inr ⟨_, rfl⟩) wd845 (s_aload_n dX12_init_153 rfl (s_sipush dX12_init_154 (by decide) (s_newa (t := 2) dX12_init_157 (by decide) rfl wd13 rmX12_init rfl (by decide) rfl (s_putRF (f := 33) dX12_init_159 clX12 (by decide) rfl rfl rfl rfl (Or.inr ⟨_, rfl⟩) wd872 (s_aload_n dX12_init_162 rfl (s_sipush dX12_init_163 (by decide) (s_newa (t := 0) dX12_init_166 (by decide) rfl wd3 rmX12_init rfl (by decide) rfl (s_putRF (f := 34) dX12_init_168 clX12 (by decide) rfl rfl rfl rfl (Or.inr ⟨_, rfl⟩) wd873 (s_aload_n dX12_init_171 rfl (s_sipush dX12_init_172 (by decide) (s_newa (t := 0) dX12_init_175 (by decide) rfl wd3 rmX12_init rfl (by decide) rfl (s_putRF (f := 35) dX12_init_177 clX12 (by decide) rfl rfl rfl rfl (Or.inr ⟨_, rfl⟩) wd874 (s_aload_n dX12_init_180 rfl tX12_init_181)))))))))))))))))))))))))))))))))))))))))))))
set_option maxRecDepth 100000 in
theorem tX12_init_0 {l : Launch} {D : zD} {B sz0 : Nat} {post : Option Value → zS → Prop} : zSnd l D B xX12_init sz0 post 0 (kX12_init_0 (sz0 + 49)) (z_Jr post) := (s_aload_n dX12_init_0 rfl (s_obj dX12_init_1 wd862 wd1 wd2 (by decide) (s_aload_n dX12_init_4 rfl (s_sipush dX12_init_5 (by decide) (s_newa (t := 1) dX12_init_8 (by decide) rfl wd294 rmX12_init rfl (by decide) rfl (s_putRF (f := 1) dX12_init_10 clX12 (by decide) rfl rfl rfl rfl (Or.inr ⟨_, rfl⟩) wd863 (s_aload_n dX12_init_13 rfl (s_sipush dX12_init_14 (by decide) (s_newa (t := 1) dX12_init_17 (by decide) rfl wd294 rmX12_init rfl (by decide) rfl (s_putRF (f := 3) dX12_init_19 clX12 (by decide) rfl rfl rfl rfl (Or.inr ⟨_, rfl⟩) wd864 (s_aload_n dX12_init_22 rfl (s_sipush dX12_init_23 (by decide) (s_newa (t := 0) dX12_init_26 (by decide) rfl wd3 rmX12_init rfl (by decide) rfl (s_putRF (f := 5) dX12_init_28 clX12 (by decide) rfl rfl rfl rfl (Or.inr ⟨_, rfl⟩) wd865 (s_aload_n dX12_init_31 rfl (s_sipush dX12_init_32 (by decide) (s_newa (t := 0) dX12_init_35 (by decide) rfl wd3 rmX12_init rfl (by decide) rfl (s_putRF (f := 6) dX12_init_37 clX12 (by decide) rfl rfl rfl rfl (Or.inr ⟨_, rfl⟩) wd866 (s_aload_n dX12_init_40 rfl (s_sipush dX12_init_41 (by decide) (s_newa (t := 0) dX12_init_44 (by decide) rfl wd3 rmX12_init rfl (by decide) rfl (s_putRF (f := 7) dX12_init_46 clX12 (by decide) rfl rfl rfl rfl (Or.inr ⟨_, rfl⟩) wd867 (s_aload_n dX12_init_49 rfl (s_sipush dX12_init_50 (by decide) (s_newa (t := 3) dX12_init_53 (by decide) rfl wd308 rmX12_init rfl (by decide) rfl (s_putRF (f := 8) dX12_init_55 clX12 (by decide) rfl rfl rfl rfl (Or.inr ⟨_, rfl⟩) wd868 (s_aload_n dX12_init_58 rfl (s_bipush dX12_init_59 (by decide) (s_newa (t := 3) dX12_init_61 (by decide) rfl wd308 rmX12_init rfl (by decide) rfl (s_putRF (f := 9) dX12_init_63 clX12 (by decide) rfl rfl rfl rfl (Or.inr ⟨_, rfl⟩) wd869 (s_aload_n dX12_init_66 rfl (s_iconst dX12_init_67 (by decide) (s_putI (f := 17) dX12_init_68 clX12 (by decide) rfl rfl rfl wd870 (s_aload_n dX12_init_71 rfl (s_iconst dX12_init_72 (by decide) (s_newa (t := 3) dX12_init_73 (by decide) rfl wd308 rmX12_init rfl (by decide) rfl (s_putRF (f := 21) dX12_init_75 clX12 (by decide) rfl rfl rfl rfl (Or.inr ⟨_, rfl⟩) wd871 (s_aload_n dX12_init_78 rfl (s_iconst dX12_init_79 (by decide) (s_newa (t := 0) dX12_init_80 (by decide) rfl wd3 rmX12_init rfl (by decide) rfl (s_putRF (f := 22) dX12_init_82 clX12 (by decide) rfl rfl rfl rfl (Or.inr ⟨_, rfl⟩) wd839 (s_aload_n dX12_init_85 rfl (s_iconst dX12_init_86 (by decide) (s_newa (t := 0) dX12_init_87 (by decide) rfl wd3 rmX12_init rfl (by decide) rfl (s_putRF (f := 23) dX12_init_89 clX12 (by decide) rfl rfl rfl rfl (Or.inr ⟨_, rfl⟩) wd840 tX12_init_92)))))))))))))))))))))))))))))))))))))))))))))
noncomputable def fX12_init : zF := fun as σ => z_fn 1 (kX12_init_0 (z_sz σ + 49)) as σ
theorem mX12_init {l : Launch} {D : zD} {B : Nat} : z_MF l D B yX12_init xX12_init fX12_init := z_mf (by decide) rfl (fun _ => rfl) rfl (fun as σ r h => ⟨z_fn_len h, kX12_init_0 (z_sz σ + 49), z_fn_run h, fun _ => tX12_init_0⟩)
/-! ===== RowChildrenModel.lays ===== -/
theorem dX12_lays_0 : decode cX12_lays 0 = .ok (.bipush 24, 2) := by decide +kernel
theorem dX12_lays_2 : decode cX12_lays 2 = .ok (.istore_n 2, 1) := by decide +kernel
theorem dX12_lays_3 : decode cX12_lays 3 = .ok (.iload_n 2, 1) := by decide +kernel
theorem dX12_lays_4 : decode cX12_lays 4 = .ok (.ifCond .lt 32, 3) := by decide +kernel
theorem dX12_lays_7 : decode cX12_lays 7 = .ok (.aload_n 0, 1) := by decide +kernel
theorem dX12_lays_8 : decode cX12_lays 8 = .ok (.getfield 13, 3) := by decide +kernel
theorem dX12_lays_11 : decode cX12_lays 11 = .ok (.aload_n 0, 1) := by decide +kernel
theorem dX12_lays_12 : decode cX12_lays 12 = .ok (.getfield 182, 3) := by decide +kernel
theorem dX12_lays_15 : decode cX12_lays 15 = .ok (.iload_n 1, 1) := by decide +kernel
theorem dX12_lays_16 : decode cX12_lays 16 = .ok (.iload_n 2, 1) := by decide +kernel
theorem dX12_lays_17 : decode cX12_lays 17 = .ok (.ishr, 1) := by decide +kernel
theorem dX12_lays_18 : decode cX12_lays 18 = .ok (.i2b, 1) := by decide +kernel
theorem dX12_lays_19 : decode cX12_lays 19 = .ok (.bastore, 1) := by decide +kernel
theorem dX12_lays_20 : decode cX12_lays 20 = .ok (.aload_n 0, 1) := by decide +kernel
theorem dX12_lays_21 : decode cX12_lays 21 = .ok (.dup, 1) := by decide +kernel
theorem dX12_lays_22 : decode cX12_lays 22 = .ok (.getfield 182, 3) := by decide +kernel
theorem dX12_lays_25 : decode cX12_lays 25 = .ok (.iconst 1, 1) := by decide +kernel
theorem dX12_lays_26 : decode cX12_lays 26 = .ok (.iadd, 1) := by decide +kernel
theorem dX12_lays_27 : decode cX12_lays 27 = .ok (.putfield 182, 3) := by decide +kernel
theorem dX12_lays_30 : decode cX12_lays 30 = .ok (.iinc 2 (-8), 3) := by decide +kernel
theorem dX12_lays_33 : decode cX12_lays 33 = .ok (.goto (-30), 3) := by decide +kernel
theorem dX12_lays_36 : decode cX12_lays 36 = .ok (.return_, 1) := by decide +kernel
def xX12_lays : zX := (RX12, cX12_lays, 3, none, false, { frames := 1, cells := 0, slots := 0, locals := 90 }, 0, 0, 0, 0)
theorem rmX12_lays : z_Rm xX12_lays := by unfold z_Rm xX12_lays; exact ⟨by decide, by decide⟩
theorem reX12_lays : z_Re xX12_lays := ⟨rfl, rfl⟩
theorem rlX12_lays : 1 ≤ xX12_lays.2.2.2.2.2.1.frames ∧ 21 ≤ xX12_lays.2.2.2.2.2.1.locals := by unfold xX12_lays; exact ⟨by decide, by decide⟩
theorem meX12_lays : z_Me yX12_lays xX12_lays 1 := ⟨wd915, wd848, by decide, by decide, by decide +kernel⟩
noncomputable def kX12_lays_36 : zK zR := q_vret
noncomputable def bX12_lays_3 : zK ((zL × zS) ⊕ zR) := (q_iload 2 (q_if_lt (q_dn kX12_lays_36) (q_aload 0 (q_getR 12 1 (q_aload 0 (q_getI 12 2 (q_iload 1 (q_iload 2 (q_ishr (q_i2b (q_bast (q_aload 0 (q_dup (q_getI 12 2 (q_push 1 (q_iadd (q_putI 12 2 (q_iinc 2 (-8) q_ag))))))))))))))))))
noncomputable def kX12_lays_3 : zK zR := q_lp (bX12_lays_3)
noncomputable def kX12_lays_0 : zK zR := (q_push 24 (q_istore 2 kX12_lays_3))
set_option maxRecDepth 100000 in
theorem tX12_lays_36 {l : Launch} {D : zD} {B sz0 : Nat} {post : Option Value → zS → Prop} : zSnd l D B xX12_lays sz0 post 36 kX12_lays_36 (z_Jr post) := (s_vret dX12_lays_36 rfl)
set_option maxRecDepth 100000 in
theorem tX12_lays_3 {l : Launch} {D : zD} {B sz0 : Nat} {post : Option Value → zS → Prop} : zSnd l D B xX12_lays sz0 post 3 kX12_lays_3 (z_Jr post) := s_lp (body := bX12_lays_3) (s_iload_n dX12_lays_3 rfl (s_if_lt (tgt := 36) dX12_lays_4 (by decide) (s_dn tX12_lays_36) (s_aload_n dX12_lays_7 rfl (s_getR (f := 1) dX12_lays_8 clX12 (by decide) rfl wd863 (s_aload_n dX12_lays_11 rfl (s_getI (f := 2) dX12_lays_12 clX12 (by decide) rfl wd914 (s_iload_n dX12_lays_15 rfl (s_iload_n dX12_lays_16 rfl (s_ishr dX12_lays_17 (s_i2b dX12_lays_18 (s_bast dX12_lays_19 (s_aload_n dX12_lays_20 rfl (s_dup dX12_lays_21 (s_getI (f := 2) dX12_lays_22 clX12 (by decide) rfl wd914 (s_iconst dX12_lays_25 (by decide) (s_iadd dX12_lays_26 (s_putI (f := 2) dX12_lays_27 clX12 (by decide) rfl rfl rfl wd914 (s_iinc dX12_lays_30 (by decide) (s_goto (tgt := 3) dX12_lays_33 (by decide) s_ag)))))))))))))))))))
set_option maxRecDepth 100000 in
theorem tX12_lays_0 {l : Launch} {D : zD} {B sz0 : Nat} {post : Option Value → zS → Prop} : zSnd l D B xX12_lays sz0 post 0 kX12_lays_0 (z_Jr post) := (s_bipush dX12_lays_0 (by decide) (s_istore_n dX12_lays_2 rfl tX12_lays_3))
noncomputable def fX12_lays : zF := z_fn 3 kX12_lays_0
theorem mX12_lays {l : Launch} {D : zD} {B : Nat} : z_MF l D B yX12_lays xX12_lays fX12_lays := z_mf (by decide) rfl (fun h => by cases h) rfl (fun as σ r h => ⟨z_fn_len h, kX12_lays_0, z_fn_run h, fun _ => tX12_lays_0⟩)
/-! ===== RowChildrenModel.feed ===== -/
theorem dX12_feed_0 : decode cX12_feed 0 = .ok (.aload_n 0, 1) := by decide +kernel
theorem dX12_feed_1 : decode cX12_feed 1 = .ok (.getfield 182, 3) := by decide +kernel
theorem dX12_feed_4 : decode cX12_feed 4 = .ok (.bipush 20, 2) := by decide +kernel
theorem dX12_feed_6 : decode cX12_feed 6 = .ok (.iadd, 1) := by decide +kernel
theorem dX12_feed_7 : decode cX12_feed 7 = .ok (.sipush 2000, 3) := by decide +kernel
theorem dX12_feed_10 : decode cX12_feed 10 = .ok (.if_icmp .le 5, 3) := by decide +kernel
theorem dX12_feed_13 : decode cX12_feed 13 = .ok (.iconst (-1), 1) := by decide +kernel
theorem dX12_feed_14 : decode cX12_feed 14 = .ok (.ireturn, 1) := by decide +kernel
theorem dX12_feed_15 : decode cX12_feed 15 = .ok (.aload_n 0, 1) := by decide +kernel
theorem dX12_feed_16 : decode cX12_feed 16 = .ok (.iload_n 1, 1) := by decide +kernel
theorem dX12_feed_17 : decode cX12_feed 17 = .ok (.invokevirtual 185, 3) := by decide +kernel
theorem dX12_feed_20 : decode cX12_feed 20 = .ok (.aload_n 0, 1) := by decide +kernel
theorem dX12_feed_21 : decode cX12_feed 21 = .ok (.iload_n 2, 1) := by decide +kernel
theorem dX12_feed_22 : decode cX12_feed 22 = .ok (.invokevirtual 185, 3) := by decide +kernel
theorem dX12_feed_25 : decode cX12_feed 25 = .ok (.aload_n 0, 1) := by decide +kernel
theorem dX12_feed_26 : decode cX12_feed 26 = .ok (.iload_n 3, 1) := by decide +kernel
theorem dX12_feed_27 : decode cX12_feed 27 = .ok (.invokevirtual 185, 3) := by decide +kernel
theorem dX12_feed_30 : decode cX12_feed 30 = .ok (.aload_n 0, 1) := by decide +kernel
theorem dX12_feed_31 : decode cX12_feed 31 = .ok (.iload 4, 2) := by decide +kernel
theorem dX12_feed_33 : decode cX12_feed 33 = .ok (.invokevirtual 185, 3) := by decide +kernel
theorem dX12_feed_36 : decode cX12_feed 36 = .ok (.aload_n 0, 1) := by decide +kernel
theorem dX12_feed_37 : decode cX12_feed 37 = .ok (.iload 5, 2) := by decide +kernel
theorem dX12_feed_39 : decode cX12_feed 39 = .ok (.invokevirtual 185, 3) := by decide +kernel
theorem dX12_feed_42 : decode cX12_feed 42 = .ok (.aload_n 0, 1) := by decide +kernel
theorem dX12_feed_43 : decode cX12_feed 43 = .ok (.getfield 182, 3) := by decide +kernel
theorem dX12_feed_46 : decode cX12_feed 46 = .ok (.ireturn, 1) := by decide +kernel
def xX12_feed : zX := (RX12, cX12_feed, 6, (some .int), false, { frames := 2, cells := 0, slots := 0, locals := 112 }, 0, 0, 0, 0)
theorem rmX12_feed : z_Rm xX12_feed := by unfold z_Rm xX12_feed; exact ⟨by decide, by decide⟩
theorem reX12_feed : z_Re xX12_feed := ⟨rfl, rfl⟩
theorem rlX12_feed : 1 ≤ xX12_feed.2.2.2.2.2.1.frames ∧ 21 ≤ xX12_feed.2.2.2.2.2.1.locals := by unfold xX12_feed; exact ⟨by decide, by decide⟩
theorem meX12_feed : z_Me yX12_feed xX12_feed 5 := ⟨wd919, wd848, by decide, by decide, by decide +kernel⟩
theorem fitX12_feed_17 : z_Fit xX12_lays xX12_feed := by unfold z_Fit; simp only [xX12_lays, xX12_feed]; exact ⟨by decide, by decide⟩
theorem fitX12_feed_22 : z_Fit xX12_lays xX12_feed := by unfold z_Fit; simp only [xX12_lays, xX12_feed]; exact ⟨by decide, by decide⟩
theorem fitX12_feed_27 : z_Fit xX12_lays xX12_feed := by unfold z_Fit; simp only [xX12_lays, xX12_feed]; exact ⟨by decide, by decide⟩
theorem fitX12_feed_33 : z_Fit xX12_lays xX12_feed := by unfold z_Fit; simp only [xX12_lays, xX12_feed]; exact ⟨by decide, by decide⟩
theorem fitX12_feed_39 : z_Fit xX12_lays xX12_feed := by unfold z_Fit; simp only [xX12_lays, xX12_feed]; exact ⟨by decide, by decide⟩
noncomputable def kX12_feed_0 : zK zR := (q_aload 0 (q_getI 12 2 (q_push 20 (q_iadd (q_push 2000 (q_icmp_le (q_aload 0 (q_iload 1 (q_callV 12 fX12_lays 1 (q_aload 0 (q_iload 2 (q_callV 12 fX12_lays 1 (q_aload 0 (q_iload 3 (q_callV 12 fX12_lays 1 (q_aload 0 (q_iload 4 (q_callV 12 fX12_lays 1 (q_aload 0 (q_iload 5 (q_callV 12 fX12_lays 1 (q_aload 0 (q_getI 12 2 q_iret))))))))))))))))) (q_push (-1) q_iret)))))))
set_option maxRecDepth 100000 in
theorem tX12_feed_0 {l : Launch} {D : zD} {B sz0 : Nat} {post : Option Value → zS → Prop} : zSnd l D B xX12_feed sz0 post 0 kX12_feed_0 (z_Jr post) := (s_aload_n dX12_feed_0 rfl (s_getI (f := 2) dX12_feed_1 clX12 (by decide) rfl wd914 (s_bipush dX12_feed_4 (by decide) (s_iadd dX12_feed_6 (s_sipush dX12_feed_7 (by decide) (s_icmp_le (tgt := 15) dX12_feed_10 (by decide) (s_aload_n dX12_feed_15 rfl (s_iload_n dX12_feed_16 rfl (s_callV (r := (RX12, TX12, 74)) dX12_feed_17 mX12_lays meX12_lays wd916 wd917 rfl rfl reX12_lays rmX12_feed (fitX12_feed_17) wd918 (s_aload_n dX12_feed_20 rfl (s_iload_n dX12_feed_21 rfl (s_callV (r := (RX12, TX12, 74)) dX12_feed_22 mX12_lays meX12_lays wd916 wd917 rfl rfl reX12_lays rmX12_feed (fitX12_feed_22) wd918 (s_aload_n dX12_feed_25 rfl (s_iload_n dX12_feed_26 rfl (s_callV (r := (RX12, TX12, 74)) dX12_feed_27 mX12_lays meX12_lays wd916 wd917 rfl rfl reX12_lays rmX12_feed (fitX12_feed_27) wd918 (s_aload_n dX12_feed_30 rfl (s_iload dX12_feed_31 (s_callV (r := (RX12, TX12, 74)) dX12_feed_33 mX12_lays meX12_lays wd916 wd917 rfl rfl reX12_lays rmX12_feed (fitX12_feed_33) wd918 (s_aload_n dX12_feed_36 rfl (s_iload dX12_feed_37 (s_callV (r := (RX12, TX12, 74)) dX12_feed_39 mX12_lays meX12_lays wd916 wd917 rfl rfl reX12_lays rmX12_feed (fitX12_feed_39) wd918 (s_aload_n dX12_feed_42 rfl (s_getI (f := 2) dX12_feed_43 clX12 (by decide) rfl wd914 (s_iret dX12_feed_46 rfl)))))))))))))))))) (s_iconst dX12_feed_13 (by decide) (s_iret dX12_feed_14 rfl))))))))
noncomputable def fX12_feed : zF := z_fn 6 kX12_feed_0
theorem mX12_feed {l : Launch} {D : zD} {B : Nat} : z_MF l D B yX12_feed xX12_feed fX12_feed := z_mf (by decide) rfl (fun h => by cases h) rfl (fun as σ r h => ⟨z_fn_len h, kX12_feed_0, z_fn_run h, fun _ => tX12_feed_0⟩)
/-! ===== RowChildrenModel.back ===== -/
theorem dX12_back_0 : decode cX12_back 0 = .ok (.iload_n 1, 1) := by decide +kernel
theorem dX12_back_1 : decode cX12_back 1 = .ok (.ifCond .lt 11, 3) := by decide +kernel
theorem dX12_back_4 : decode cX12_back 4 = .ok (.iload_n 1, 1) := by decide +kernel
theorem dX12_back_5 : decode cX12_back 5 = .ok (.aload_n 0, 1) := by decide +kernel
theorem dX12_back_6 : decode cX12_back 6 = .ok (.getfield 182, 3) := by decide +kernel
theorem dX12_back_9 : decode cX12_back 9 = .ok (.if_icmp .le 5, 3) := by decide +kernel
theorem dX12_back_12 : decode cX12_back 12 = .ok (.iconst (-1), 1) := by decide +kernel
theorem dX12_back_13 : decode cX12_back 13 = .ok (.ireturn, 1) := by decide +kernel
theorem dX12_back_14 : decode cX12_back 14 = .ok (.aload_n 0, 1) := by decide +kernel
theorem dX12_back_15 : decode cX12_back 15 = .ok (.dup, 1) := by decide +kernel
theorem dX12_back_16 : decode cX12_back 16 = .ok (.getfield 182, 3) := by decide +kernel
theorem dX12_back_19 : decode cX12_back 19 = .ok (.iload_n 1, 1) := by decide +kernel
theorem dX12_back_20 : decode cX12_back 20 = .ok (.isub, 1) := by decide +kernel
theorem dX12_back_21 : decode cX12_back 21 = .ok (.putfield 182, 3) := by decide +kernel
theorem dX12_back_24 : decode cX12_back 24 = .ok (.aload_n 0, 1) := by decide +kernel
theorem dX12_back_25 : decode cX12_back 25 = .ok (.getfield 182, 3) := by decide +kernel
theorem dX12_back_28 : decode cX12_back 28 = .ok (.ireturn, 1) := by decide +kernel
def xX12_back : zX := (RX12, cX12_back, 2, (some .int), false, { frames := 1, cells := 0, slots := 0, locals := 90 }, 0, 0, 0, 0)
theorem rmX12_back : z_Rm xX12_back := by unfold z_Rm xX12_back; exact ⟨by decide, by decide⟩
theorem reX12_back : z_Re xX12_back := ⟨rfl, rfl⟩
theorem rlX12_back : 1 ≤ xX12_back.2.2.2.2.2.1.frames ∧ 21 ≤ xX12_back.2.2.2.2.2.1.locals := by unfold xX12_back; exact ⟨by decide, by decide⟩
theorem meX12_back : z_Me yX12_back xX12_back 1 := ⟨wd920, wd848, by decide, by decide, by decide +kernel⟩
noncomputable def kX12_back_12 : zK zR := (q_push (-1) q_iret)
noncomputable def kX12_back_0 : zK zR := (q_iload 1 (q_if_lt kX12_back_12 (q_iload 1 (q_aload 0 (q_getI 12 2 (q_icmp_le (q_aload 0 (q_dup (q_getI 12 2 (q_iload 1 (q_isub (q_putI 12 2 (q_aload 0 (q_getI 12 2 q_iret)))))))) kX12_back_12))))))
set_option maxRecDepth 100000 in
theorem tX12_back_12 {l : Launch} {D : zD} {B sz0 : Nat} {post : Option Value → zS → Prop} : zSnd l D B xX12_back sz0 post 12 kX12_back_12 (z_Jr post) := (s_iconst dX12_back_12 (by decide) (s_iret dX12_back_13 rfl))
set_option maxRecDepth 100000 in
theorem tX12_back_0 {l : Launch} {D : zD} {B sz0 : Nat} {post : Option Value → zS → Prop} : zSnd l D B xX12_back sz0 post 0 kX12_back_0 (z_Jr post) := (s_iload_n dX12_back_0 rfl (s_if_lt (tgt := 12) dX12_back_1 (by decide) tX12_back_12 (s_iload_n dX12_back_4 rfl (s_aload_n dX12_back_5 rfl (s_getI (f := 2) dX12_back_6 clX12 (by decide) rfl wd914 (s_icmp_le (tgt := 14) dX12_back_9 (by decide) (s_aload_n dX12_back_14 rfl (s_dup dX12_back_15 (s_getI (f := 2) dX12_back_16 clX12 (by decide) rfl wd914 (s_iload_n dX12_back_19 rfl (s_isub dX12_back_20 (s_putI (f := 2) dX12_back_21 clX12 (by decide) rfl rfl rfl wd914 (s_aload_n dX12_back_24 rfl (s_getI (f := 2) dX12_back_25 clX12 (by decide) rfl wd914 (s_iret dX12_back_28 rfl))))))))) tX12_back_12))))))
noncomputable def fX12_back : zF := z_fn 2 kX12_back_0
theorem mX12_back {l : Launch} {D : zD} {B : Nat} : z_MF l D B yX12_back xX12_back fX12_back := z_mf (by decide) rfl (fun h => by cases h) rfl (fun as σ r h => ⟨z_fn_len h, kX12_back_0, z_fn_run h, fun _ => tX12_back_0⟩)
/-! ===== RowChildrenModel.byteAt ===== -/
theorem dX12_byteAt_0 : decode cX12_byteAt 0 = .ok (.iload_n 1, 1) := by decide +kernel
theorem dX12_byteAt_1 : decode cX12_byteAt 1 = .ok (.aload_n 0, 1) := by decide +kernel
theorem dX12_byteAt_2 : decode cX12_byteAt 2 = .ok (.getfield 188, 3) := by decide +kernel
theorem dX12_byteAt_5 : decode cX12_byteAt 5 = .ok (.if_icmp .ge 16, 3) := by decide +kernel
theorem dX12_byteAt_8 : decode cX12_byteAt 8 = .ok (.aload_n 0, 1) := by decide +kernel
theorem dX12_byteAt_9 : decode cX12_byteAt 9 = .ok (.getfield 17, 3) := by decide +kernel
theorem dX12_byteAt_12 : decode cX12_byteAt 12 = .ok (.iload_n 1, 1) := by decide +kernel
theorem dX12_byteAt_13 : decode cX12_byteAt 13 = .ok (.baload, 1) := by decide +kernel
theorem dX12_byteAt_14 : decode cX12_byteAt 14 = .ok (.sipush 255, 3) := by decide +kernel
theorem dX12_byteAt_17 : decode cX12_byteAt 17 = .ok (.iand, 1) := by decide +kernel
theorem dX12_byteAt_18 : decode cX12_byteAt 18 = .ok (.goto 4, 3) := by decide +kernel
theorem dX12_byteAt_21 : decode cX12_byteAt 21 = .ok (.iconst 0, 1) := by decide +kernel
theorem dX12_byteAt_22 : decode cX12_byteAt 22 = .ok (.ireturn, 1) := by decide +kernel
def xX12_byteAt : zX := (RX12, cX12_byteAt, 2, (some .int), false, { frames := 1, cells := 0, slots := 0, locals := 90 }, 0, 0, 0, 0)
theorem rmX12_byteAt : z_Rm xX12_byteAt := by unfold z_Rm xX12_byteAt; exact ⟨by decide, by decide⟩
theorem reX12_byteAt : z_Re xX12_byteAt := ⟨rfl, rfl⟩
theorem rlX12_byteAt : 1 ≤ xX12_byteAt.2.2.2.2.2.1.frames ∧ 21 ≤ xX12_byteAt.2.2.2.2.2.1.locals := by unfold xX12_byteAt; exact ⟨by decide, by decide⟩
theorem meX12_byteAt : z_Me yX12_byteAt xX12_byteAt 1 := ⟨wd922, wd848, by decide, by decide, by decide +kernel⟩
noncomputable def kX12_byteAt_22 : zK zR := q_iret
noncomputable def kX12_byteAt_0 : zK zR := (q_iload 1 (q_aload 0 (q_getI 12 4 (q_icmp_ge (q_push 0 kX12_byteAt_22) (q_aload 0 (q_getR 12 3 (q_iload 1 (q_bald (q_push 255 (q_iand kX12_byteAt_22))))))))))
set_option maxRecDepth 100000 in
theorem tX12_byteAt_22 {l : Launch} {D : zD} {B sz0 : Nat} {post : Option Value → zS → Prop} : zSnd l D B xX12_byteAt sz0 post 22 kX12_byteAt_22 (z_Jr post) := (s_iret dX12_byteAt_22 rfl)
set_option maxRecDepth 100000 in
theorem tX12_byteAt_0 {l : Launch} {D : zD} {B sz0 : Nat} {post : Option Value → zS → Prop} : zSnd l D B xX12_byteAt sz0 post 0 kX12_byteAt_0 (z_Jr post) := (s_iload_n dX12_byteAt_0 rfl (s_aload_n dX12_byteAt_1 rfl (s_getI (f := 4) dX12_byteAt_2 clX12 (by decide) rfl wd921 (s_icmp_ge (tgt := 21) dX12_byteAt_5 (by decide) (s_iconst dX12_byteAt_21 (by decide) tX12_byteAt_22) (s_aload_n dX12_byteAt_8 rfl (s_getR (f := 3) dX12_byteAt_9 clX12 (by decide) rfl wd864 (s_iload_n dX12_byteAt_12 rfl (s_bald dX12_byteAt_13 (s_sipush dX12_byteAt_14 (by decide) (s_iand dX12_byteAt_17 (s_goto (tgt := 22) dX12_byteAt_18 (by decide) tX12_byteAt_22)))))))))))
noncomputable def fX12_byteAt : zF := z_fn 2 kX12_byteAt_0
theorem mX12_byteAt {l : Launch} {D : zD} {B : Nat} : z_MF l D B yX12_byteAt xX12_byteAt fX12_byteAt := z_mf (by decide) rfl (fun h => by cases h) rfl (fun as σ r h => ⟨z_fn_len h, kX12_byteAt_0, z_fn_run h, fun _ => tX12_byteAt_0⟩)
/-! ===== RowChildrenModel.isDigit ===== -/
theorem dX12_isDigit_0 : decode cX12_isDigit 0 = .ok (.iload_n 0, 1) := by decide +kernel
theorem dX12_isDigit_1 : decode cX12_isDigit 1 = .ok (.bipush 48, 2) := by decide +kernel
theorem dX12_isDigit_3 : decode cX12_isDigit 3 = .ok (.if_icmp .lt 13, 3) := by decide +kernel
theorem dX12_isDigit_6 : decode cX12_isDigit 6 = .ok (.iload_n 0, 1) := by decide +kernel
theorem dX12_isDigit_7 : decode cX12_isDigit 7 = .ok (.bipush 57, 2) := by decide +kernel
theorem dX12_isDigit_9 : decode cX12_isDigit 9 = .ok (.if_icmp .gt 7, 3) := by decide +kernel
theorem dX12_isDigit_12 : decode cX12_isDigit 12 = .ok (.iconst 1, 1) := by decide +kernel
theorem dX12_isDigit_13 : decode cX12_isDigit 13 = .ok (.goto 4, 3) := by decide +kernel
theorem dX12_isDigit_16 : decode cX12_isDigit 16 = .ok (.iconst 0, 1) := by decide +kernel
theorem dX12_isDigit_17 : decode cX12_isDigit 17 = .ok (.ireturn, 1) := by decide +kernel
def xX12_isDigit : zX := (RX12, cX12_isDigit, 1, (some .boolean), false, { frames := 1, cells := 0, slots := 0, locals := 90 }, 0, 0, 0, 0)
theorem rmX12_isDigit : z_Rm xX12_isDigit := by unfold z_Rm xX12_isDigit; exact ⟨by decide, by decide⟩
theorem reX12_isDigit : z_Re xX12_isDigit := ⟨rfl, rfl⟩
theorem rlX12_isDigit : 1 ≤ xX12_isDigit.2.2.2.2.2.1.frames ∧ 21 ≤ xX12_isDigit.2.2.2.2.2.1.locals := by unfold xX12_isDigit; exact ⟨by decide, by decide⟩
theorem meX12_isDigit : z_Me yX12_isDigit xX12_isDigit 1 := ⟨wd923, wd848, by decide, by decide, by decide +kernel⟩
noncomputable def kX12_isDigit_17 : zK zR := q_zret
noncomputable def kX12_isDigit_16 : zK zR := (q_push 0 kX12_isDigit_17)
noncomputable def kX12_isDigit_0 : zK zR := (q_iload 0 (q_push 48 (q_icmp_lt kX12_isDigit_16 (q_iload 0 (q_push 57 (q_icmp_gt kX12_isDigit_16 (q_push 1 kX12_isDigit_17)))))))
set_option maxRecDepth 100000 in
theorem tX12_isDigit_17 {l : Launch} {D : zD} {B sz0 : Nat} {post : Option Value → zS → Prop} : zSnd l D B xX12_isDigit sz0 post 17 kX12_isDigit_17 (z_Jr post) := (s_zret dX12_isDigit_17 rfl)
set_option maxRecDepth 100000 in
theorem tX12_isDigit_16 {l : Launch} {D : zD} {B sz0 : Nat} {post : Option Value → zS → Prop} : zSnd l D B xX12_isDigit sz0 post 16 kX12_isDigit_16 (z_Jr post) := (s_iconst dX12_isDigit_16 (by decide) tX12_isDigit_17)
set_option maxRecDepth 100000 in
theorem tX12_isDigit_0 {l : Launch} {D : zD} {B sz0 : Nat} {post : Option Value → zS → Prop} : zSnd l D B xX12_isDigit sz0 post 0 kX12_isDigit_0 (z_Jr post) := (s_iload_n dX12_isDigit_0 rfl (s_bipush dX12_isDigit_1 (by decide) (s_icmp_lt (tgt := 16) dX12_isDigit_3 (by decide) tX12_isDigit_16 (s_iload_n dX12_isDigit_6 rfl (s_bipush dX12_isDigit_7 (by decide) (s_icmp_gt (tgt := 16) dX12_isDigit_9 (by decide) tX12_isDigit_16 (s_iconst dX12_isDigit_12 (by decide) (s_goto (tgt := 17) dX12_isDigit_13 (by decide) tX12_isDigit_17))))))))
noncomputable def fX12_isDigit : zF := z_fn 1 kX12_isDigit_0
theorem mX12_isDigit {l : Launch} {D : zD} {B : Nat} : z_MF l D B yX12_isDigit xX12_isDigit fX12_isDigit := z_mf (by decide) rfl (fun h => by cases h) rfl (fun as σ r h => ⟨z_fn_len h, kX12_isDigit_0, z_fn_run h, fun _ => tX12_isDigit_0⟩)
/-! ===== RowChildrenModel.isLetter ===== -/
theorem dX12_isLetter_0 : decode cX12_isLetter 0 = .ok (.iload_n 0, 1) := by decide +kernel
theorem dX12_isLetter_1 : decode cX12_isLetter 1 = .ok (.bipush 97, 2) := by decide +kernel
theorem dX12_isLetter_3 : decode cX12_isLetter 3 = .ok (.if_icmp .lt 13, 3) := by decide +kernel
theorem dX12_isLetter_6 : decode cX12_isLetter 6 = .ok (.iload_n 0, 1) := by decide +kernel
theorem dX12_isLetter_7 : decode cX12_isLetter 7 = .ok (.bipush 122, 2) := by decide +kernel
theorem dX12_isLetter_9 : decode cX12_isLetter 9 = .ok (.if_icmp .gt 7, 3) := by decide +kernel
theorem dX12_isLetter_12 : decode cX12_isLetter 12 = .ok (.iconst 1, 1) := by decide +kernel
theorem dX12_isLetter_13 : decode cX12_isLetter 13 = .ok (.goto 4, 3) := by decide +kernel
theorem dX12_isLetter_16 : decode cX12_isLetter 16 = .ok (.iconst 0, 1) := by decide +kernel
theorem dX12_isLetter_17 : decode cX12_isLetter 17 = .ok (.ireturn, 1) := by decide +kernel
def xX12_isLetter : zX := (RX12, cX12_isLetter, 1, (some .boolean), false, { frames := 1, cells := 0, slots := 0, locals := 90 }, 0, 0, 0, 0)
theorem rmX12_isLetter : z_Rm xX12_isLetter := by unfold z_Rm xX12_isLetter; exact ⟨by decide, by decide⟩
theorem reX12_isLetter : z_Re xX12_isLetter := ⟨rfl, rfl⟩
theorem rlX12_isLetter : 1 ≤ xX12_isLetter.2.2.2.2.2.1.frames ∧ 21 ≤ xX12_isLetter.2.2.2.2.2.1.locals := by unfold xX12_isLetter; exact ⟨by decide, by decide⟩
theorem meX12_isLetter : z_Me yX12_isLetter xX12_isLetter 1 := ⟨wd924, wd848, by decide, by decide, by decide +kernel⟩
noncomputable def kX12_isLetter_17 : zK zR := q_zret
noncomputable def kX12_isLetter_16 : zK zR := (q_push 0 kX12_isLetter_17)
noncomputable def kX12_isLetter_0 : zK zR := (q_iload 0 (q_push 97 (q_icmp_lt kX12_isLetter_16 (q_iload 0 (q_push 122 (q_icmp_gt kX12_isLetter_16 (q_push 1 kX12_isLetter_17)))))))
set_option maxRecDepth 100000 in
theorem tX12_isLetter_17 {l : Launch} {D : zD} {B sz0 : Nat} {post : Option Value → zS → Prop} : zSnd l D B xX12_isLetter sz0 post 17 kX12_isLetter_17 (z_Jr post) := (s_zret dX12_isLetter_17 rfl)
set_option maxRecDepth 100000 in
theorem tX12_isLetter_16 {l : Launch} {D : zD} {B sz0 : Nat} {post : Option Value → zS → Prop} : zSnd l D B xX12_isLetter sz0 post 16 kX12_isLetter_16 (z_Jr post) := (s_iconst dX12_isLetter_16 (by decide) tX12_isLetter_17)
set_option maxRecDepth 100000 in
theorem tX12_isLetter_0 {l : Launch} {D : zD} {B sz0 : Nat} {post : Option Value → zS → Prop} : zSnd l D B xX12_isLetter sz0 post 0 kX12_isLetter_0 (z_Jr post) := (s_iload_n dX12_isLetter_0 rfl (s_bipush dX12_isLetter_1 (by decide) (s_icmp_lt (tgt := 16) dX12_isLetter_3 (by decide) tX12_isLetter_16 (s_iload_n dX12_isLetter_6 rfl (s_bipush dX12_isLetter_7 (by decide) (s_icmp_gt (tgt := 16) dX12_isLetter_9 (by decide) tX12_isLetter_16 (s_iconst dX12_isLetter_12 (by decide) (s_goto (tgt := 17) dX12_isLetter_13 (by decide) tX12_isLetter_17))))))))
noncomputable def fX12_isLetter : zF := z_fn 1 kX12_isLetter_0
theorem mX12_isLetter {l : Launch} {D : zD} {B : Nat} : z_MF l D B yX12_isLetter xX12_isLetter fX12_isLetter := z_mf (by decide) rfl (fun h => by cases h) rfl (fun as σ r h => ⟨z_fn_len h, kX12_isLetter_0, z_fn_run h, fun _ => tX12_isLetter_0⟩)
/-! ===== RowChildrenModel.token ===== -/
theorem dX12_token_0 : decode cX12_token 0 = .ok (.aload_n 0, 1) := by decide +kernel
theorem dX12_token_1 : decode cX12_token 1 = .ok (.getfield 20, 3) := by decide +kernel
theorem dX12_token_4 : decode cX12_token 4 = .ok (.aload_n 0, 1) := by decide +kernel
theorem dX12_token_5 : decode cX12_token 5 = .ok (.getfield 197, 3) := by decide +kernel
theorem dX12_token_8 : decode cX12_token 8 = .ok (.iload_n 1, 1) := by decide +kernel
theorem dX12_token_9 : decode cX12_token 9 = .ok (.iastore, 1) := by decide +kernel
theorem dX12_token_10 : decode cX12_token 10 = .ok (.aload_n 0, 1) := by decide +kernel
theorem dX12_token_11 : decode cX12_token 11 = .ok (.getfield 24, 3) := by decide +kernel
theorem dX12_token_14 : decode cX12_token 14 = .ok (.aload_n 0, 1) := by decide +kernel
theorem dX12_token_15 : decode cX12_token 15 = .ok (.getfield 197, 3) := by decide +kernel
theorem dX12_token_18 : decode cX12_token 18 = .ok (.iload_n 2, 1) := by decide +kernel
theorem dX12_token_19 : decode cX12_token 19 = .ok (.iastore, 1) := by decide +kernel
theorem dX12_token_20 : decode cX12_token 20 = .ok (.aload_n 0, 1) := by decide +kernel
theorem dX12_token_21 : decode cX12_token 21 = .ok (.getfield 27, 3) := by decide +kernel
theorem dX12_token_24 : decode cX12_token 24 = .ok (.aload_n 0, 1) := by decide +kernel
theorem dX12_token_25 : decode cX12_token 25 = .ok (.getfield 197, 3) := by decide +kernel
theorem dX12_token_28 : decode cX12_token 28 = .ok (.iload_n 3, 1) := by decide +kernel
theorem dX12_token_29 : decode cX12_token 29 = .ok (.iastore, 1) := by decide +kernel
theorem dX12_token_30 : decode cX12_token 30 = .ok (.aload_n 0, 1) := by decide +kernel
theorem dX12_token_31 : decode cX12_token 31 = .ok (.getfield 30, 3) := by decide +kernel
theorem dX12_token_34 : decode cX12_token 34 = .ok (.aload_n 0, 1) := by decide +kernel
theorem dX12_token_35 : decode cX12_token 35 = .ok (.getfield 197, 3) := by decide +kernel
theorem dX12_token_38 : decode cX12_token 38 = .ok (.lload 4, 2) := by decide +kernel
theorem dX12_token_40 : decode cX12_token 40 = .ok (.lastore, 1) := by decide +kernel
theorem dX12_token_41 : decode cX12_token 41 = .ok (.aload_n 0, 1) := by decide +kernel
theorem dX12_token_42 : decode cX12_token 42 = .ok (.dup, 1) := by decide +kernel
theorem dX12_token_43 : decode cX12_token 43 = .ok (.getfield 197, 3) := by decide +kernel
theorem dX12_token_46 : decode cX12_token 46 = .ok (.iconst 1, 1) := by decide +kernel
theorem dX12_token_47 : decode cX12_token 47 = .ok (.iadd, 1) := by decide +kernel
theorem dX12_token_48 : decode cX12_token 48 = .ok (.putfield 197, 3) := by decide +kernel
theorem dX12_token_51 : decode cX12_token 51 = .ok (.return_, 1) := by decide +kernel
def xX12_token : zX := (RX12, cX12_token, 6, none, false, { frames := 1, cells := 0, slots := 0, locals := 90 }, 0, 0, 0, 0)
theorem rmX12_token : z_Rm xX12_token := by unfold z_Rm xX12_token; exact ⟨by decide, by decide⟩
theorem reX12_token : z_Re xX12_token := ⟨rfl, rfl⟩
theorem rlX12_token : 1 ≤ xX12_token.2.2.2.2.2.1.frames ∧ 21 ≤ xX12_token.2.2.2.2.2.1.locals := by unfold xX12_token; exact ⟨by decide, by decide⟩
theorem meX12_token : z_Me yX12_token xX12_token 4 := ⟨wd926, wd848, by decide, by decide, by decide +kernel⟩
noncomputable def kX12_token_0 : zK zR := (q_aload 0 (q_getR 12 5 (q_aload 0 (q_getI 12 10 (q_iload 1 (q_iast (q_aload 0 (q_getR 12 6 (q_aload 0 (q_getI 12 10 (q_iload 2 (q_iast (q_aload 0 (q_getR 12 7 (q_aload 0 (q_getI 12 10 (q_iload 3 (q_iast (q_aload 0 (q_getR 12 8 (q_aload 0 (q_getI 12 10 (q_lload 4 (q_last (q_aload 0 (q_dup (q_getI 12 10 (q_push 1 (q_iadd (q_putI 12 10 q_vret))))))))))))))))))))))))))))))
set_option maxRecDepth 100000 in
theorem tX12_token_0 {l : Launch} {D : zD} {B sz0 : Nat} {post : Option Value → zS → Prop} : zSnd l D B xX12_token sz0 post 0 kX12_token_0 (z_Jr post) := (s_aload_n dX12_token_0 rfl (s_getR (f := 5) dX12_token_1 clX12 (by decide) rfl wd865 (s_aload_n dX12_token_4 rfl (s_getI (f := 10) dX12_token_5 clX12 (by decide) rfl wd925 (s_iload_n dX12_token_8 rfl (s_iast dX12_token_9 (s_aload_n dX12_token_10 rfl (s_getR (f := 6) dX12_token_11 clX12 (by decide) rfl wd866 (s_aload_n dX12_token_14 rfl (s_getI (f := 10) dX12_token_15 clX12 (by decide) rfl wd925 (s_iload_n dX12_token_18 rfl (s_iast dX12_token_19 (s_aload_n dX12_token_20 rfl (s_getR (f := 7) dX12_token_21 clX12 (by decide) rfl wd867 (s_aload_n dX12_token_24 rfl (s_getI (f := 10) dX12_token_25 clX12 (by decide) rfl wd925 (s_iload_n dX12_token_28 rfl (s_iast dX12_token_29 (s_aload_n dX12_token_30 rfl (s_getR (f := 8) dX12_token_31 clX12 (by decide) rfl wd868 (s_aload_n dX12_token_34 rfl (s_getI (f := 10) dX12_token_35 clX12 (by decide) rfl wd925 (s_lload dX12_token_38 (s_last dX12_token_40 (s_aload_n dX12_token_41 rfl (s_dup dX12_token_42 (s_getI (f := 10) dX12_token_43 clX12 (by decide) rfl wd925 (s_iconst dX12_token_46 (by decide) (s_iadd dX12_token_47 (s_putI (f := 10) dX12_token_48 clX12 (by decide) rfl rfl rfl wd925 (s_vret dX12_token_51 rfl)))))))))))))))))))))))))))))))
noncomputable def fX12_token : zF := z_fn 6 kX12_token_0
theorem mX12_token {l : Launch} {D : zD} {B : Nat} : z_MF l D B yX12_token xX12_token fX12_token := z_mf (by decide) rfl (fun h => by cases h) rfl (fun as σ r h => ⟨z_fn_len h, kX12_token_0, z_fn_run h, fun _ => tX12_token_0⟩)
/-! ===== RowChildrenModel.sign ===== -/
theorem dX12_sign_0 : decode cX12_sign 0 = .ok (.iload_n 2, 1) := by decide +kernel
theorem dX12_sign_1 : decode cX12_sign 1 = .ok (.bipush 59, 2) := by decide +kernel
theorem dX12_sign_3 : decode cX12_sign 3 = .ok (.if_icmp .ne 7, 3) := by decide +kernel
theorem dX12_sign_6 : decode cX12_sign 6 = .ok (.iconst 4, 1) := by decide +kernel
theorem dX12_sign_7 : decode cX12_sign 7 = .ok (.goto 36, 3) := by decide +kernel
theorem dX12_sign_10 : decode cX12_sign 10 = .ok (.iload_n 2, 1) := by decide +kernel
theorem dX12_sign_11 : decode cX12_sign 11 = .ok (.bipush 61, 2) := by decide +kernel
theorem dX12_sign_13 : decode cX12_sign 13 = .ok (.if_icmp .ne 7, 3) := by decide +kernel
theorem dX12_sign_16 : decode cX12_sign 16 = .ok (.iconst 5, 1) := by decide +kernel
theorem dX12_sign_17 : decode cX12_sign 17 = .ok (.goto 26, 3) := by decide +kernel
theorem dX12_sign_20 : decode cX12_sign 20 = .ok (.iload_n 2, 1) := by decide +kernel
theorem dX12_sign_21 : decode cX12_sign 21 = .ok (.bipush 40, 2) := by decide +kernel
theorem dX12_sign_23 : decode cX12_sign 23 = .ok (.if_icmp .ne 8, 3) := by decide +kernel
theorem dX12_sign_26 : decode cX12_sign 26 = .ok (.bipush 6, 2) := by decide +kernel
theorem dX12_sign_28 : decode cX12_sign 28 = .ok (.goto 15, 3) := by decide +kernel
theorem dX12_sign_31 : decode cX12_sign 31 = .ok (.iload_n 2, 1) := by decide +kernel
theorem dX12_sign_32 : decode cX12_sign 32 = .ok (.bipush 41, 2) := by decide +kernel
theorem dX12_sign_34 : decode cX12_sign 34 = .ok (.if_icmp .ne 8, 3) := by decide +kernel
theorem dX12_sign_37 : decode cX12_sign 37 = .ok (.bipush 7, 2) := by decide +kernel
theorem dX12_sign_39 : decode cX12_sign 39 = .ok (.goto 4, 3) := by decide +kernel
theorem dX12_sign_42 : decode cX12_sign 42 = .ok (.iconst 3, 1) := by decide +kernel
theorem dX12_sign_43 : decode cX12_sign 43 = .ok (.istore 4, 2) := by decide +kernel
theorem dX12_sign_45 : decode cX12_sign 45 = .ok (.iload_n 2, 1) := by decide +kernel
theorem dX12_sign_46 : decode cX12_sign 46 = .ok (.bipush 43, 2) := by decide +kernel
theorem dX12_sign_48 : decode cX12_sign 48 = .ok (.if_icmp .ne 7, 3) := by decide +kernel
theorem dX12_sign_51 : decode cX12_sign 51 = .ok (.bipush 8, 2) := by decide +kernel
theorem dX12_sign_53 : decode cX12_sign 53 = .ok (.istore 4, 2) := by decide +kernel
theorem dX12_sign_55 : decode cX12_sign 55 = .ok (.iload_n 2, 1) := by decide +kernel
theorem dX12_sign_56 : decode cX12_sign 56 = .ok (.bipush 45, 2) := by decide +kernel
theorem dX12_sign_58 : decode cX12_sign 58 = .ok (.if_icmp .ne 7, 3) := by decide +kernel
theorem dX12_sign_61 : decode cX12_sign 61 = .ok (.bipush 9, 2) := by decide +kernel
theorem dX12_sign_63 : decode cX12_sign 63 = .ok (.istore 4, 2) := by decide +kernel
theorem dX12_sign_65 : decode cX12_sign 65 = .ok (.iload_n 2, 1) := by decide +kernel
theorem dX12_sign_66 : decode cX12_sign 66 = .ok (.bipush 42, 2) := by decide +kernel
theorem dX12_sign_68 : decode cX12_sign 68 = .ok (.if_icmp .ne 7, 3) := by decide +kernel
theorem dX12_sign_71 : decode cX12_sign 71 = .ok (.bipush 10, 2) := by decide +kernel
theorem dX12_sign_73 : decode cX12_sign 73 = .ok (.istore 4, 2) := by decide +kernel
theorem dX12_sign_75 : decode cX12_sign 75 = .ok (.iload_n 2, 1) := by decide +kernel
theorem dX12_sign_76 : decode cX12_sign 76 = .ok (.bipush 47, 2) := by decide +kernel
theorem dX12_sign_78 : decode cX12_sign 78 = .ok (.if_icmp .ne 7, 3) := by decide +kernel
theorem dX12_sign_81 : decode cX12_sign 81 = .ok (.bipush 15, 2) := by decide +kernel
theorem dX12_sign_83 : decode cX12_sign 83 = .ok (.istore 4, 2) := by decide +kernel
theorem dX12_sign_85 : decode cX12_sign 85 = .ok (.iload_n 2, 1) := by decide +kernel
theorem dX12_sign_86 : decode cX12_sign 86 = .ok (.bipush 60, 2) := by decide +kernel
theorem dX12_sign_88 : decode cX12_sign 88 = .ok (.if_icmp .ne 7, 3) := by decide +kernel
theorem dX12_sign_91 : decode cX12_sign 91 = .ok (.bipush 13, 2) := by decide +kernel
theorem dX12_sign_93 : decode cX12_sign 93 = .ok (.istore 4, 2) := by decide +kernel
theorem dX12_sign_95 : decode cX12_sign 95 = .ok (.aload_n 0, 1) := by decide +kernel
theorem dX12_sign_96 : decode cX12_sign 96 = .ok (.iload 4, 2) := by decide +kernel
theorem dX12_sign_98 : decode cX12_sign 98 = .ok (.iload_n 1, 1) := by decide +kernel
theorem dX12_sign_99 : decode cX12_sign 99 = .ok (.iconst 0, 1) := by decide +kernel
theorem dX12_sign_100 : decode cX12_sign 100 = .ok (.lconst 0, 1) := by decide +kernel
theorem dX12_sign_101 : decode cX12_sign 101 = .ok (.invokevirtual 204, 3) := by decide +kernel
theorem dX12_sign_104 : decode cX12_sign 104 = .ok (.iconst 1, 1) := by decide +kernel
theorem dX12_sign_105 : decode cX12_sign 105 = .ok (.ireturn, 1) := by decide +kernel
def xX12_sign : zX := (RX12, cX12_sign, 5, (some .int), false, { frames := 2, cells := 0, slots := 0, locals := 115 }, 0, 0, 0, 0)
theorem rmX12_sign : z_Rm xX12_sign := by unfold z_Rm xX12_sign; exact ⟨by decide, by decide⟩
theorem reX12_sign : z_Re xX12_sign := ⟨rfl, rfl⟩
theorem rlX12_sign : 1 ≤ xX12_sign.2.2.2.2.2.1.frames ∧ 21 ≤ xX12_sign.2.2.2.2.2.1.locals := by unfold xX12_sign; exact ⟨by decide, by decide⟩
theorem meX12_sign : z_Me yX12_sign xX12_sign 3 := ⟨wd930, wd848, by decide, by decide, by decide +kernel⟩
theorem fitX12_sign_101 : z_Fit xX12_token xX12_sign := by unfold z_Fit; simp only [xX12_token, xX12_sign]; exact ⟨by decide, by decide⟩
noncomputable def kX12_sign_95 : zK zR := (q_aload 0 (q_iload 4 (q_iload 1 (q_push 0 (q_pushl 0 (q_callV 12 fX12_token 4 (q_push 1 q_iret)))))))
noncomputable def kX12_sign_85 : zK zR := (q_iload 2 (q_push 60 (q_icmp_ne kX12_sign_95 (q_push 13 (q_istore 4 kX12_sign_95)))))
noncomputable def kX12_sign_75 : zK zR := (q_iload 2 (q_push 47 (q_icmp_ne kX12_sign_85 (q_push 15 (q_istore 4 kX12_sign_85)))))
noncomputable def kX12_sign_65 : zK zR := (q_iload 2 (q_push 42 (q_icmp_ne kX12_sign_75 (q_push 10 (q_istore 4 kX12_sign_75)))))
noncomputable def kX12_sign_55 : zK zR := (q_iload 2 (q_push 45 (q_icmp_ne kX12_sign_65 (q_push 9 (q_istore 4 kX12_sign_65)))))
noncomputable def kX12_sign_43 : zK zR := (q_istore 4 (q_iload 2 (q_push 43 (q_icmp_ne kX12_sign_55 (q_push 8 (q_istore 4 kX12_sign_55))))))
noncomputable def kX12_sign_0 : zK zR := (q_iload 2 (q_push 59 (q_icmp_ne (q_iload 2 (q_push 61 (q_icmp_ne (q_iload 2 (q_push 40 (q_icmp_ne (q_iload 2 (q_push 41 (q_icmp_ne (q_push 3 kX12_sign_43) (q_push 7 kX12_sign_43)))) (q_push 6 kX12_sign_43)))) (q_push 5 kX12_sign_43)))) (q_push 4 kX12_sign_43))))
set_option maxRecDepth 100000 in
theorem tX12_sign_95 {l : Launch} {D : zD} {B sz0 : Nat} {post : Option Value → zS → Prop} : zSnd l D B xX12_sign sz0 post 95 kX12_sign_95 (z_Jr post) := (s_aload_n dX12_sign_95 rfl (s_iload dX12_sign_96 (s_iload_n dX12_sign_98 rfl (s_iconst dX12_sign_99 (by decide) (s_lconst dX12_sign_100 (by decide) (s_callV (r := (RX12, TX12, 74)) dX12_sign_101 mX12_token meX12_token wd927 wd928 rfl rfl reX12_token rmX12_sign (fitX12_sign_101) wd929 (s_iconst dX12_sign_104 (by decide) (s_iret dX12_sign_105 rfl))))))))
set_option maxRecDepth 100000 in
theorem tX12_sign_85 {l : Launch} {D : zD} {B sz0 : Nat} {post : Option Value → zS → Prop} : zSnd l D B xX12_sign sz0 post 85 kX12_sign_85 (z_Jr post) := (s_iload_n dX12_sign_85 rfl (s_bipush dX12_sign_86 (by decide) (s_icmp_ne (tgt := 95) dX12_sign_88 (by decide) tX12_sign_95 (s_bipush dX12_sign_91 (by decide) (s_istore dX12_sign_93 tX12_sign_95)))))
set_option maxRecDepth 100000 in
theorem tX12_sign_75 {l : Launch} {D : zD} {B sz0 : Nat} {post : Option Value → zS → Prop} : zSnd l D B xX12_sign sz0 post 75 kX12_sign_75 (z_Jr post) := (s_iload_n dX12_sign_75 rfl (s_bipush dX12_sign_76 (by decide) (s_icmp_ne (tgt := 85) dX12_sign_78 (by decide) tX12_sign_85 (s_bipush dX12_sign_81 (by decide) (s_istore dX12_sign_83 tX12_sign_85)))))
set_option maxRecDepth 100000 in
theorem tX12_sign_65 {l : Launch} {D : zD} {B sz0 : Nat} {post : Option Value → zS → Prop} : zSnd l D B xX12_sign sz0 post 65 kX12_sign_65 (z_Jr post) := (s_iload_n dX12_sign_65 rfl (s_bipush dX12_sign_66 (by decide) (s_icmp_ne (tgt := 75) dX12_sign_68 (by decide) tX12_sign_75 (s_bipush dX12_sign_71 (by decide) (s_istore dX12_sign_73 tX12_sign_75)))))
set_option maxRecDepth 100000 in
theorem tX12_sign_55 {l : Launch} {D : zD} {B sz0 : Nat} {post : Option Value → zS → Prop} : zSnd l D B xX12_sign sz0 post 55 kX12_sign_55 (z_Jr post) := (s_iload_n dX12_sign_55 rfl (s_bipush dX12_sign_56 (by decide) (s_icmp_ne (tgt := 65) dX12_sign_58 (by decide) tX12_sign_65 (s_bipush dX12_sign_61 (by decide) (s_istore dX12_sign_63 tX12_sign_65)))))
set_option maxRecDepth 100000 in
theorem tX12_sign_43 {l : Launch} {D : zD} {B sz0 : Nat} {post : Option Value → zS → Prop} : zSnd l D B xX12_sign sz0 post 43 kX12_sign_43 (z_Jr post) := (s_istore dX12_sign_43 (s_iload_n dX12_sign_45 rfl (s_bipush dX12_sign_46 (by decide) (s_icmp_ne (tgt := 55) dX12_sign_48 (by decide) tX12_sign_55 (s_bipush dX12_sign_51 (by decide) (s_istore dX12_sign_53 tX12_sign_55))))))
set_option maxRecDepth 100000 in
theorem tX12_sign_0 {l : Launch} {D : zD} {B sz0 : Nat} {post : Option Value → zS → Prop} : zSnd l D B xX12_sign sz0 post 0 kX12_sign_0 (z_Jr post) := (s_iload_n dX12_sign_0 rfl (s_bipush dX12_sign_1 (by decide) (s_icmp_ne (tgt := 10) dX12_sign_3 (by decide) (s_iload_n dX12_sign_10 rfl (s_bipush dX12_sign_11 (by decide) (s_icmp_ne (tgt := 20) dX12_sign_13 (by decide) (s_iload_n dX12_sign_20 rfl (s_bipush dX12_sign_21 (by decide) (s_icmp_ne (tgt := 31) dX12_sign_23 (by decide) (s_iload_n dX12_sign_31 rfl (s_bipush dX12_sign_32 (by decide) (s_icmp_ne (tgt := 42) dX12_sign_34 (by decide) (s_iconst dX12_sign_42 (by decide) tX12_sign_43) (s_bipush dX12_sign_37 (by decide) (s_goto (tgt := 43) dX12_sign_39 (by decide) tX12_sign_43))))) (s_bipush dX12_sign_26 (by decide) (s_goto (tgt := 43) dX12_sign_28 (by decide) tX12_sign_43))))) (s_iconst dX12_sign_16 (by decide) (s_goto (tgt := 43) dX12_sign_17 (by decide) tX12_sign_43))))) (s_iconst dX12_sign_6 (by decide) (s_goto (tgt := 43) dX12_sign_7 (by decide) tX12_sign_43)))))
noncomputable def fX12_sign : zF := z_fn 5 kX12_sign_0
theorem mX12_sign {l : Launch} {D : zD} {B : Nat} : z_MF l D B yX12_sign xX12_sign fX12_sign := z_mf (by decide) rfl (fun h => by cases h) rfl (fun as σ r h => ⟨z_fn_len h, kX12_sign_0, z_fn_run h, fun _ => tX12_sign_0⟩)
/-! ===== RowChildrenModel.cut ===== -/
theorem dX12_cut_0 : decode cX12_cut 0 = .ok (.aload_n 0, 1) := by decide +kernel
theorem dX12_cut_1 : decode cX12_cut 1 = .ok (.iconst 0, 1) := by decide +kernel
theorem dX12_cut_2 : decode cX12_cut 2 = .ok (.putfield 197, 3) := by decide +kernel
theorem dX12_cut_5 : decode cX12_cut 5 = .ok (.iconst 0, 1) := by decide +kernel
theorem dX12_cut_6 : decode cX12_cut 6 = .ok (.istore_n 1, 1) := by decide +kernel
theorem dX12_cut_7 : decode cX12_cut 7 = .ok (.aload_n 0, 1) := by decide +kernel
theorem dX12_cut_8 : decode cX12_cut 8 = .ok (.getfield 197, 3) := by decide +kernel
theorem dX12_cut_11 : decode cX12_cut 11 = .ok (.sipush 400, 3) := by decide +kernel
theorem dX12_cut_14 : decode cX12_cut 14 = .ok (.if_icmp .gt 280, 3) := by decide +kernel
theorem dX12_cut_17 : decode cX12_cut 17 = .ok (.aload_n 0, 1) := by decide +kernel
theorem dX12_cut_18 : decode cX12_cut 18 = .ok (.iload_n 1, 1) := by decide +kernel
theorem dX12_cut_19 : decode cX12_cut 19 = .ok (.invokevirtual 200, 3) := by decide +kernel
theorem dX12_cut_22 : decode cX12_cut 22 = .ok (.istore_n 2, 1) := by decide +kernel
theorem dX12_cut_23 : decode cX12_cut 23 = .ok (.iload_n 1, 1) := by decide +kernel
theorem dX12_cut_24 : decode cX12_cut 24 = .ok (.aload_n 0, 1) := by decide +kernel
theorem dX12_cut_25 : decode cX12_cut 25 = .ok (.getfield 188, 3) := by decide +kernel
theorem dX12_cut_28 : decode cX12_cut 28 = .ok (.if_icmp .lt 15, 3) := by decide +kernel
theorem dX12_cut_31 : decode cX12_cut 31 = .ok (.aload_n 0, 1) := by decide +kernel
theorem dX12_cut_32 : decode cX12_cut 32 = .ok (.iconst 0, 1) := by decide +kernel
theorem dX12_cut_33 : decode cX12_cut 33 = .ok (.aload_n 0, 1) := by decide +kernel
theorem dX12_cut_34 : decode cX12_cut 34 = .ok (.getfield 188, 3) := by decide +kernel
theorem dX12_cut_37 : decode cX12_cut 37 = .ok (.iconst 0, 1) := by decide +kernel
theorem dX12_cut_38 : decode cX12_cut 38 = .ok (.lconst 0, 1) := by decide +kernel
theorem dX12_cut_39 : decode cX12_cut 39 = .ok (.invokevirtual 204, 3) := by decide +kernel
theorem dX12_cut_42 : decode cX12_cut 42 = .ok (.return_, 1) := by decide +kernel
theorem dX12_cut_43 : decode cX12_cut 43 = .ok (.iload_n 2, 1) := by decide +kernel
theorem dX12_cut_44 : decode cX12_cut 44 = .ok (.bipush 9, 2) := by decide +kernel
theorem dX12_cut_46 : decode cX12_cut 46 = .ok (.if_icmp .eq 21, 3) := by decide +kernel
theorem dX12_cut_49 : decode cX12_cut 49 = .ok (.iload_n 2, 1) := by decide +kernel
theorem dX12_cut_50 : decode cX12_cut 50 = .ok (.bipush 10, 2) := by decide +kernel
theorem dX12_cut_52 : decode cX12_cut 52 = .ok (.if_icmp .eq 15, 3) := by decide +kernel
theorem dX12_cut_55 : decode cX12_cut 55 = .ok (.iload_n 2, 1) := by decide +kernel
theorem dX12_cut_56 : decode cX12_cut 56 = .ok (.bipush 13, 2) := by decide +kernel
theorem dX12_cut_58 : decode cX12_cut 58 = .ok (.if_icmp .eq 9, 3) := by decide +kernel
theorem dX12_cut_61 : decode cX12_cut 61 = .ok (.iload_n 2, 1) := by decide +kernel
theorem dX12_cut_62 : decode cX12_cut 62 = .ok (.bipush 32, 2) := by decide +kernel
theorem dX12_cut_64 : decode cX12_cut 64 = .ok (.if_icmp .ne 9, 3) := by decide +kernel
theorem dX12_cut_67 : decode cX12_cut 67 = .ok (.iinc 1 1, 3) := by decide +kernel
theorem dX12_cut_70 : decode cX12_cut 70 = .ok (.goto 221, 3) := by decide +kernel
theorem dX12_cut_73 : decode cX12_cut 73 = .ok (.iload_n 2, 1) := by decide +kernel
theorem dX12_cut_74 : decode cX12_cut 74 = .ok (.invokestatic 208, 3) := by decide +kernel
theorem dX12_cut_77 : decode cX12_cut 77 = .ok (.ifCond .eq 119, 3) := by decide +kernel
theorem dX12_cut_80 : decode cX12_cut 80 = .ok (.iconst 0, 1) := by decide +kernel
theorem dX12_cut_81 : decode cX12_cut 81 = .ok (.istore_n 3, 1) := by decide +kernel
theorem dX12_cut_82 : decode cX12_cut 82 = .ok (.lconst 0, 1) := by decide +kernel
theorem dX12_cut_83 : decode cX12_cut 83 = .ok (.lstore 4, 2) := by decide +kernel
theorem dX12_cut_85 : decode cX12_cut 85 = .ok (.aload_n 0, 1) := by decide +kernel
theorem dX12_cut_86 : decode cX12_cut 86 = .ok (.iload_n 1, 1) := by decide +kernel
theorem dX12_cut_87 : decode cX12_cut 87 = .ok (.iload_n 3, 1) := by decide +kernel
theorem dX12_cut_88 : decode cX12_cut 88 = .ok (.iadd, 1) := by decide +kernel
theorem dX12_cut_89 : decode cX12_cut 89 = .ok (.invokevirtual 200, 3) := by decide +kernel
theorem dX12_cut_92 : decode cX12_cut 92 = .ok (.invokestatic 208, 3) := by decide +kernel
theorem dX12_cut_95 : decode cX12_cut 95 = .ok (.ifCond .eq 29, 3) := by decide +kernel
theorem dX12_cut_98 : decode cX12_cut 98 = .ok (.iload_n 3, 1) := by decide +kernel
theorem dX12_cut_99 : decode cX12_cut 99 = .ok (.bipush 8, 2) := by decide +kernel
theorem dX12_cut_101 : decode cX12_cut 101 = .ok (.if_icmp .ge 17, 3) := by decide +kernel
theorem dX12_cut_104 : decode cX12_cut 104 = .ok (.lload 4, 2) := by decide +kernel
theorem dX12_cut_106 : decode cX12_cut 106 = .ok (.aload_n 0, 1) := by decide +kernel
theorem dX12_cut_107 : decode cX12_cut 107 = .ok (.iload_n 1, 1) := by decide +kernel
theorem dX12_cut_108 : decode cX12_cut 108 = .ok (.iload_n 3, 1) := by decide +kernel
theorem dX12_cut_109 : decode cX12_cut 109 = .ok (.iadd, 1) := by decide +kernel
theorem dX12_cut_110 : decode cX12_cut 110 = .ok (.invokevirtual 200, 3) := by decide +kernel
theorem dX12_cut_113 : decode cX12_cut 113 = .ok (.invokestatic 193, 3) := by decide +kernel
theorem dX12_cut_116 : decode cX12_cut 116 = .ok (.lstore 4, 2) := by decide +kernel
theorem dX12_cut_118 : decode cX12_cut 118 = .ok (.iinc 3 1, 3) := by decide +kernel
theorem dX12_cut_121 : decode cX12_cut 121 = .ok (.goto (-36), 3) := by decide +kernel
theorem dX12_cut_124 : decode cX12_cut 124 = .ok (.iload_n 3, 1) := by decide +kernel
theorem dX12_cut_125 : decode cX12_cut 125 = .ok (.bipush 8, 2) := by decide +kernel
theorem dX12_cut_127 : decode cX12_cut 127 = .ok (.if_icmp .le 7, 3) := by decide +kernel
theorem dX12_cut_130 : decode cX12_cut 130 = .ok (.iconst 3, 1) := by decide +kernel
theorem dX12_cut_131 : decode cX12_cut 131 = .ok (.goto 4, 3) := by decide +kernel
theorem dX12_cut_134 : decode cX12_cut 134 = .ok (.iconst 1, 1) := by decide +kernel
theorem dX12_cut_135 : decode cX12_cut 135 = .ok (.istore 6, 2) := by decide +kernel
theorem dX12_cut_137 : decode cX12_cut 137 = .ok (.iload_n 3, 1) := by decide +kernel
theorem dX12_cut_138 : decode cX12_cut 138 = .ok (.bipush 8, 2) := by decide +kernel
theorem dX12_cut_140 : decode cX12_cut 140 = .ok (.if_icmp .gt 39, 3) := by decide +kernel
theorem dX12_cut_143 : decode cX12_cut 143 = .ok (.iconst 0, 1) := by decide +kernel
theorem dX12_cut_144 : decode cX12_cut 144 = .ok (.istore 7, 2) := by decide +kernel
theorem dX12_cut_146 : decode cX12_cut 146 = .ok (.iload 7, 2) := by decide +kernel
theorem dX12_cut_148 : decode cX12_cut 148 = .ok (.bipush 20, 2) := by decide +kernel
theorem dX12_cut_150 : decode cX12_cut 150 = .ok (.if_icmp .ge 29, 3) := by decide +kernel
theorem dX12_cut_153 : decode cX12_cut 153 = .ok (.aload_n 0, 1) := by decide +kernel
theorem dX12_cut_154 : decode cX12_cut 154 = .ok (.getfield 34, 3) := by decide +kernel
theorem dX12_cut_157 : decode cX12_cut 157 = .ok (.iload 7, 2) := by decide +kernel
theorem dX12_cut_159 : decode cX12_cut 159 = .ok (.laload, 1) := by decide +kernel
theorem dX12_cut_160 : decode cX12_cut 160 = .ok (.lload 4, 2) := by decide +kernel
theorem dX12_cut_162 : decode cX12_cut 162 = .ok (.lcmp, 1) := by decide +kernel
theorem dX12_cut_163 : decode cX12_cut 163 = .ok (.ifCond .ne 10, 3) := by decide +kernel
theorem dX12_cut_166 : decode cX12_cut 166 = .ok (.bipush 20, 2) := by decide +kernel
theorem dX12_cut_168 : decode cX12_cut 168 = .ok (.iload 7, 2) := by decide +kernel
theorem dX12_cut_170 : decode cX12_cut 170 = .ok (.iadd, 1) := by decide +kernel
theorem dX12_cut_171 : decode cX12_cut 171 = .ok (.istore 6, 2) := by decide +kernel
theorem dX12_cut_173 : decode cX12_cut 173 = .ok (.iinc 7 1, 3) := by decide +kernel
theorem dX12_cut_176 : decode cX12_cut 176 = .ok (.goto (-30), 3) := by decide +kernel
theorem dX12_cut_179 : decode cX12_cut 179 = .ok (.aload_n 0, 1) := by decide +kernel
theorem dX12_cut_180 : decode cX12_cut 180 = .ok (.iload 6, 2) := by decide +kernel
theorem dX12_cut_182 : decode cX12_cut 182 = .ok (.iload_n 1, 1) := by decide +kernel
theorem dX12_cut_183 : decode cX12_cut 183 = .ok (.iconst 0, 1) := by decide +kernel
theorem dX12_cut_184 : decode cX12_cut 184 = .ok (.lload 4, 2) := by decide +kernel
theorem dX12_cut_186 : decode cX12_cut 186 = .ok (.invokevirtual 204, 3) := by decide +kernel
theorem dX12_cut_189 : decode cX12_cut 189 = .ok (.iload_n 1, 1) := by decide +kernel
theorem dX12_cut_190 : decode cX12_cut 190 = .ok (.iload_n 3, 1) := by decide +kernel
theorem dX12_cut_191 : decode cX12_cut 191 = .ok (.iadd, 1) := by decide +kernel
theorem dX12_cut_192 : decode cX12_cut 192 = .ok (.istore_n 1, 1) := by decide +kernel
theorem dX12_cut_193 : decode cX12_cut 193 = .ok (.goto 98, 3) := by decide +kernel
theorem dX12_cut_196 : decode cX12_cut 196 = .ok (.iload_n 2, 1) := by decide +kernel
theorem dX12_cut_197 : decode cX12_cut 197 = .ok (.invokestatic 212, 3) := by decide +kernel
theorem dX12_cut_200 : decode cX12_cut 200 = .ok (.ifCond .eq 75, 3) := by decide +kernel
theorem dX12_cut_203 : decode cX12_cut 203 = .ok (.iconst 0, 1) := by decide +kernel
theorem dX12_cut_204 : decode cX12_cut 204 = .ok (.istore_n 3, 1) := by decide +kernel
theorem dX12_cut_205 : decode cX12_cut 205 = .ok (.iconst 0, 1) := by decide +kernel
theorem dX12_cut_206 : decode cX12_cut 206 = .ok (.istore 4, 2) := by decide +kernel
theorem dX12_cut_208 : decode cX12_cut 208 = .ok (.aload_n 0, 1) := by decide +kernel
theorem dX12_cut_209 : decode cX12_cut 209 = .ok (.iload_n 1, 1) := by decide +kernel
theorem dX12_cut_210 : decode cX12_cut 210 = .ok (.iload_n 3, 1) := by decide +kernel
theorem dX12_cut_211 : decode cX12_cut 211 = .ok (.iadd, 1) := by decide +kernel
theorem dX12_cut_212 : decode cX12_cut 212 = .ok (.invokevirtual 200, 3) := by decide +kernel
theorem dX12_cut_215 : decode cX12_cut 215 = .ok (.invokestatic 212, 3) := by decide +kernel
theorem dX12_cut_218 : decode cX12_cut 218 = .ok (.ifCond .eq 32, 3) := by decide +kernel
theorem dX12_cut_221 : decode cX12_cut 221 = .ok (.iload_n 3, 1) := by decide +kernel
theorem dX12_cut_222 : decode cX12_cut 222 = .ok (.iconst 4, 1) := by decide +kernel
theorem dX12_cut_223 : decode cX12_cut 223 = .ok (.if_icmp .ge 21, 3) := by decide +kernel
theorem dX12_cut_226 : decode cX12_cut 226 = .ok (.bipush 10, 2) := by decide +kernel
theorem dX12_cut_228 : decode cX12_cut 228 = .ok (.iload 4, 2) := by decide +kernel
theorem dX12_cut_230 : decode cX12_cut 230 = .ok (.imul, 1) := by decide +kernel
theorem dX12_cut_231 : decode cX12_cut 231 = .ok (.aload_n 0, 1) := by decide +kernel
theorem dX12_cut_232 : decode cX12_cut 232 = .ok (.iload_n 1, 1) := by decide +kernel
theorem dX12_cut_233 : decode cX12_cut 233 = .ok (.iload_n 3, 1) := by decide +kernel
theorem dX12_cut_234 : decode cX12_cut 234 = .ok (.iadd, 1) := by decide +kernel
theorem dX12_cut_235 : decode cX12_cut 235 = .ok (.invokevirtual 200, 3) := by decide +kernel
theorem dX12_cut_238 : decode cX12_cut 238 = .ok (.iadd, 1) := by decide +kernel
theorem dX12_cut_239 : decode cX12_cut 239 = .ok (.bipush 48, 2) := by decide +kernel
theorem dX12_cut_241 : decode cX12_cut 241 = .ok (.isub, 1) := by decide +kernel
theorem dX12_cut_242 : decode cX12_cut 242 = .ok (.istore 4, 2) := by decide +kernel
theorem dX12_cut_244 : decode cX12_cut 244 = .ok (.iinc 3 1, 3) := by decide +kernel
theorem dX12_cut_247 : decode cX12_cut 247 = .ok (.goto (-39), 3) := by decide +kernel
theorem dX12_cut_250 : decode cX12_cut 250 = .ok (.aload_n 0, 1) := by decide +kernel
theorem dX12_cut_251 : decode cX12_cut 251 = .ok (.iload_n 3, 1) := by decide +kernel
theorem dX12_cut_252 : decode cX12_cut 252 = .ok (.iconst 4, 1) := by decide +kernel
theorem dX12_cut_253 : decode cX12_cut 253 = .ok (.if_icmp .le 7, 3) := by decide +kernel
theorem dX12_cut_256 : decode cX12_cut 256 = .ok (.iconst 3, 1) := by decide +kernel
theorem dX12_cut_257 : decode cX12_cut 257 = .ok (.goto 4, 3) := by decide +kernel
theorem dX12_cut_260 : decode cX12_cut 260 = .ok (.iconst 2, 1) := by decide +kernel
theorem dX12_cut_261 : decode cX12_cut 261 = .ok (.iload_n 1, 1) := by decide +kernel
theorem dX12_cut_262 : decode cX12_cut 262 = .ok (.iload 4, 2) := by decide +kernel
theorem dX12_cut_264 : decode cX12_cut 264 = .ok (.lconst 0, 1) := by decide +kernel
theorem dX12_cut_265 : decode cX12_cut 265 = .ok (.invokevirtual 204, 3) := by decide +kernel
theorem dX12_cut_268 : decode cX12_cut 268 = .ok (.iload_n 1, 1) := by decide +kernel
theorem dX12_cut_269 : decode cX12_cut 269 = .ok (.iload_n 3, 1) := by decide +kernel
theorem dX12_cut_270 : decode cX12_cut 270 = .ok (.iadd, 1) := by decide +kernel
theorem dX12_cut_271 : decode cX12_cut 271 = .ok (.istore_n 1, 1) := by decide +kernel
theorem dX12_cut_272 : decode cX12_cut 272 = .ok (.goto 19, 3) := by decide +kernel
theorem dX12_cut_275 : decode cX12_cut 275 = .ok (.iload_n 1, 1) := by decide +kernel
theorem dX12_cut_276 : decode cX12_cut 276 = .ok (.aload_n 0, 1) := by decide +kernel
theorem dX12_cut_277 : decode cX12_cut 277 = .ok (.iload_n 1, 1) := by decide +kernel
theorem dX12_cut_278 : decode cX12_cut 278 = .ok (.iload_n 2, 1) := by decide +kernel
theorem dX12_cut_279 : decode cX12_cut 279 = .ok (.aload_n 0, 1) := by decide +kernel
theorem dX12_cut_280 : decode cX12_cut 280 = .ok (.iload_n 1, 1) := by decide +kernel
theorem dX12_cut_281 : decode cX12_cut 281 = .ok (.iconst 1, 1) := by decide +kernel
theorem dX12_cut_282 : decode cX12_cut 282 = .ok (.iadd, 1) := by decide +kernel
theorem dX12_cut_283 : decode cX12_cut 283 = .ok (.invokevirtual 200, 3) := by decide +kernel
theorem dX12_cut_286 : decode cX12_cut 286 = .ok (.invokevirtual 215, 3) := by decide +kernel
theorem dX12_cut_289 : decode cX12_cut 289 = .ok (.iadd, 1) := by decide +kernel
theorem dX12_cut_290 : decode cX12_cut 290 = .ok (.istore_n 1, 1) := by decide +kernel
theorem dX12_cut_291 : decode cX12_cut 291 = .ok (.goto (-284), 3) := by decide +kernel
theorem dX12_cut_294 : decode cX12_cut 294 = .ok (.return_, 1) := by decide +kernel
def xX12_cut : zX := (RX12, cX12_cut, 8, none, false, { frames := 3, cells := 0, slots := 0, locals := 139 }, 0, 0, 0, 0)
theorem rmX12_cut : z_Rm xX12_cut := by unfold z_Rm xX12_cut; exact ⟨by decide, by decide⟩
theorem reX12_cut : z_Re xX12_cut := ⟨rfl, rfl⟩
theorem rlX12_cut : 1 ≤ xX12_cut.2.2.2.2.2.1.frames ∧ 21 ≤ xX12_cut.2.2.2.2.2.1.locals := by unfold xX12_cut; exact ⟨by decide, by decide⟩
theorem meX12_cut : z_Me yX12_cut xX12_cut 0 := ⟨wd941, wd848, by decide, by decide, by decide +kernel⟩
theorem fitX12_cut_19 : z_Fit xX12_byteAt xX12_cut := by unfold z_Fit; simp only [xX12_byteAt, xX12_cut]; exact ⟨by decide, by decide⟩
theorem fitX12_cut_74 : z_Fit xX12_isLetter xX12_cut := by unfold z_Fit; simp only [xX12_isLetter, xX12_cut]; exact ⟨by decide, by decide⟩
theorem fitX12_cut_197 : z_Fit xX12_isDigit xX12_cut := by unfold z_Fit; simp only [xX12_isDigit, xX12_cut]; exact ⟨by decide, by decide⟩
theorem fitX12_cut_283 : z_Fit xX12_byteAt xX12_cut := by unfold z_Fit; simp only [xX12_byteAt, xX12_cut]; exact ⟨by decide, by decide⟩
theorem fitX12_cut_286 : z_Fit xX12_sign xX12_cut := by unfold z_Fit; simp only [xX12_sign, xX12_cut]; exact ⟨by decide, by decide⟩
theorem fitX12_cut_212 : z_Fit xX12_byteAt xX12_cut := by unfold z_Fit; simp only [xX12_byteAt, xX12_cut]; exact ⟨by decide, by decide⟩
theorem fitX12_cut_215 : z_Fit xX12_isDigit xX12_cut := by unfold z_Fit; simp only [xX12_isDigit, xX12_cut]; exact ⟨by decide, by decide⟩
theorem fitX12_cut_265 : z_Fit xX12_token xX12_cut := by unfold z_Fit; simp only [xX12_token, xX12_cut]; exact ⟨by decide, by decide⟩
theorem fitX12_cut_235 : z_Fit xX12_byteAt xX12_cut := by unfold z_Fit; simp only [xX12_byteAt, xX12_cut]; exact ⟨by decide, by decide⟩
theorem fitX12_cut_89 : z_Fit xX12_byteAt xX12_cut := by unfold z_Fit; simp only [xX12_byteAt, xX12_cut]; exact ⟨by decide, by decide⟩
theorem fitX12_cut_92 : z_Fit xX12_isLetter xX12_cut := by unfold z_Fit; simp only [xX12_isLetter, xX12_cut]; exact ⟨by decide, by decide⟩
theorem fitX12_cut_186 : z_Fit xX12_token xX12_cut := by unfold z_Fit; simp only [xX12_token, xX12_cut]; exact ⟨by decide, by decide⟩
theorem fitX12_cut_110 : z_Fit xX12_byteAt xX12_cut := by unfold z_Fit; simp only [xX12_byteAt, xX12_cut]; exact ⟨by decide, by decide⟩
theorem fitX12_cut_113 : z_Fit xX12_appends xX12_cut := by unfold z_Fit; simp only [xX12_appends, xX12_cut]; exact ⟨by decide, by decide⟩
theorem fitX12_cut_39 : z_Fit xX12_token xX12_cut := by unfold z_Fit; simp only [xX12_token, xX12_cut]; exact ⟨by decide, by decide⟩
noncomputable def kX12_cut_294 : zK zR := q_vret
noncomputable def kX12_cut_291 : zK ((zL × zS) ⊕ zR) := q_ag
noncomputable def kX12_cut_67 : zK ((zL × zS) ⊕ zR) := (q_iinc 1 1 kX12_cut_291)
noncomputable def kX12_cut_261 : zK ((zL × zS) ⊕ zR) := (q_iload 1 (q_iload 4 (q_pushl 0 (q_callV 12 fX12_token 4 (q_iload 1 (q_iload 3 (q_iadd (q_istore 1 kX12_cut_291))))))))
noncomputable def kX12_cut_250 : zK ((zL × zS) ⊕ zR) := (q_aload 0 (q_iload 3 (q_push 4 (q_icmp_le (q_push 2 kX12_cut_261) (q_push 3 kX12_cut_261)))))
noncomputable def kX12_cut_244 : zK ((zL × zS) ⊕ ((zL × zS) ⊕ zR)) := (q_iinc 3 1 q_ag)
noncomputable def bX12_cut_208 : zK ((zL × zS) ⊕ ((zL × zS) ⊕ zR)) := (q_aload 0 (q_iload 1 (q_iload 3 (q_iadd (q_callV 12 fX12_byteAt 1 (q_callS fX12_isDigit 1 (q_if_eq (q_dn kX12_cut_250) (q_iload 3 (q_push 4 (q_icmp_ge kX12_cut_244 (q_push 10 (q_iload 4 (q_imul (q_aload 0 (q_iload 1 (q_iload 3 (q_iadd (q_callV 12 fX12_byteAt 1 (q_iadd (q_push 48 (q_isub (q_istore 4 kX12_cut_244))))))))))))))))))))))
noncomputable def kX12_cut_208 : zK ((zL × zS) ⊕ zR) := q_lp (bX12_cut_208)
noncomputable def kX12_cut_179 : zK ((zL × zS) ⊕ zR) := (q_aload 0 (q_iload 6 (q_iload 1 (q_push 0 (q_lload 4 (q_callV 12 fX12_token 4 (q_iload 1 (q_iload 3 (q_iadd (q_istore 1 kX12_cut_291))))))))))
noncomputable def kX12_cut_173 : zK ((zL × zS) ⊕ ((zL × zS) ⊕ zR)) := (q_iinc 7 1 q_ag)
noncomputable def bX12_cut_146 : zK ((zL × zS) ⊕ ((zL × zS) ⊕ zR)) := (q_iload 7 (q_push 20 (q_icmp_ge (q_dn kX12_cut_179) (q_aload 0 (q_getR 12 9 (q_iload 7 (q_lald (q_lload 4 (q_lcmp (q_if_ne kX12_cut_173 (q_push 20 (q_iload 7 (q_iadd (q_istore 6 kX12_cut_173))))))))))))))
noncomputable def kX12_cut_146 : zK ((zL × zS) ⊕ zR) := q_lp (bX12_cut_146)
noncomputable def kX12_cut_135 : zK ((zL × zS) ⊕ zR) := (q_istore 6 (q_iload 3 (q_push 8 (q_icmp_gt kX12_cut_179 (q_push 0 (q_istore 7 kX12_cut_146))))))
noncomputable def kX12_cut_124 : zK ((zL × zS) ⊕ zR) := (q_iload 3 (q_push 8 (q_icmp_le (q_push 1 kX12_cut_135) (q_push 3 kX12_cut_135))))
noncomputable def kX12_cut_118 : zK ((zL × zS) ⊕ ((zL × zS) ⊕ zR)) := (q_iinc 3 1 q_ag)
noncomputable def bX12_cut_85 : zK ((zL × zS) ⊕ ((zL × zS) ⊕ zR)) := (q_aload 0 (q_iload 1 (q_iload 3 (q_iadd (q_callV 12 fX12_byteAt 1 (q_callS fX12_isLetter 1 (q_if_eq (q_dn kX12_cut_124) (q_iload 3 (q_push 8 (q_icmp_ge kX12_cut_118 (q_lload 4 (q_aload 0 (q_iload 1 (q_iload 3 (q_iadd (q_callV 12 fX12_byteAt 1 (q_callS fX12_appends 2 (q_lstore 4 kX12_cut_118))))))))))))))))))
noncomputable def kX12_cut_85 : zK ((zL × zS) ⊕ zR) := q_lp (bX12_cut_85)
noncomputable def kX12_cut_31 : zK zR := (q_aload 0 (q_push 0 (q_aload 0 (q_getI 12 4 (q_push 0 (q_pushl 0 (q_callV 12 fX12_token 4 q_vret)))))))
noncomputable def bX12_cut_7 : zK ((zL × zS) ⊕ zR) := (q_aload 0 (q_getI 12 10 (q_push 400 (q_icmp_gt (q_dn kX12_cut_294) (q_aload 0 (q_iload 1 (q_callV 12 fX12_byteAt 1 (q_istore 2 (q_iload 1 (q_aload 0 (q_getI 12 4 (q_icmp_lt (q_iload 2 (q_push 9 (q_icmp_eq kX12_cut_67 (q_iload 2 (q_push 10 (q_icmp_eq kX12_cut_67 (q_iload 2 (q_push 13 (q_icmp_eq kX12_cut_67 (q_iload 2 (q_push 32 (q_icmp_ne (q_iload 2 (q_callS fX12_isLetter 1 (q_if_eq (q_iload 2 (q_callS fX12_isDigit 1 (q_if_eq (q_iload 1 (q_aload 0 (q_iload 1 (q_iload 2 (q_aload 0 (q_iload 1 (q_push 1 (q_iadd (q_callV 12 fX12_byteAt 1 (q_callV 12 fX12_sign 3 (q_iadd (q_istore 1 kX12_cut_291)))))))))))) (q_push 0 (q_istore 3 (q_push 0 (q_istore 4 kX12_cut_208))))))) (q_push 0 (q_istore 3 (q_pushl 0 (q_lstore 4 kX12_cut_85))))))) kX12_cut_67)))))))))))) (q_dn kX12_cut_31)))))))))))))
noncomputable def kX12_cut_7 : zK zR := q_lp (bX12_cut_7)
noncomputable def kX12_cut_0 : zK zR := (q_aload 0 (q_push 0 (q_putI 12 10 (q_push 0 (q_istore 1 kX12_cut_7)))))
set_option maxRecDepth 100000 in
theorem tX12_cut_294 {l : Launch} {D : zD} {B sz0 : Nat} {post : Option Value → zS → Prop} : zSnd l D B xX12_cut sz0 post 294 kX12_cut_294 (z_Jr post) := (s_vret dX12_cut_294 rfl)
set_option maxRecDepth 100000 in
theorem tX12_cut_291 {l : Launch} {D : zD} {B sz0 : Nat} {post : Option Value → zS → Prop} : zSnd l D B xX12_cut sz0 post 291 kX12_cut_291 (z_Jl l D B xX12_cut sz0 post 7 (z_Jr post)) := (s_goto (tgt := 7) dX12_cut_291 (by decide) s_ag)
set_option maxRecDepth 100000 in
theorem tX12_cut_67 {l : Launch} {D : zD} {B sz0 : Nat} {post : Option Value → zS → Prop} : zSnd l D B xX12_cut sz0 post 67 kX12_cut_67 (z_Jl l D B xX12_cut sz0 post 7 (z_Jr post)) := (s_iinc dX12_cut_67 (by decide) (s_goto (tgt := 291) dX12_cut_70 (by decide) tX12_cut_291))
set_option maxRecDepth 100000 in
theorem tX12_cut_261 {l : Launch} {D : zD} {B sz0 : Nat} {post : Option Value → zS → Prop} : zSnd l D B xX12_cut sz0 post 261 kX12_cut_261 (z_Jl l D B xX12_cut sz0 post 7 (z_Jr post)) := (s_iload_n dX12_cut_261 rfl (s_iload dX12_cut_262 (s_lconst dX12_cut_264 (by decide) (s_callV (r := (RX12, TX12, 74)) dX12_cut_265 mX12_token meX12_token wd927 wd928 rfl rfl reX12_token rmX12_cut (fitX12_cut_265) wd929 (s_iload_n dX12_cut_268 rfl (s_iload_n dX12_cut_269 rfl (s_iadd dX12_cut_270 (s_istore_n dX12_cut_271 rfl (s_goto (tgt := 291) dX12_cut_272 (by decide) tX12_cut_291)))))))))
set_option maxRecDepth 100000 in
theorem tX12_cut_250 {l : Launch} {D : zD} {B sz0 : Nat} {post : Option Value → zS → Prop} : zSnd l D B xX12_cut sz0 post 250 kX12_cut_250 (z_Jl l D B xX12_cut sz0 post 7 (z_Jr post)) := (s_aload_n dX12_cut_250 rfl (s_iload_n dX12_cut_251 rfl (s_iconst dX12_cut_252 (by decide) (s_icmp_le (tgt := 260) dX12_cut_253 (by decide) (s_iconst dX12_cut_260 (by decide) tX12_cut_261) (s_iconst dX12_cut_256 (by decide) (s_goto (tgt := 261) dX12_cut_257 (by decide) tX12_cut_261))))))
set_option maxRecDepth 100000 in
theorem tX12_cut_244 {l : Launch} {D : zD} {B sz0 : Nat} {post : Option Value → zS → Prop} : zSnd l D B xX12_cut sz0 post 244 kX12_cut_244 (z_Jl l D B xX12_cut sz0 post 208 (z_Jl l D B xX12_cut sz0 post 7 (z_Jr post))) := (s_iinc dX12_cut_244 (by decide) (s_goto (tgt := 208) dX12_cut_247 (by decide) s_ag))
set_option maxRecDepth 100000 in
theorem tX12_cut_208 {l : Launch} {D : zD} {B sz0 : Nat} {post : Option Value → zS → Prop} : zSnd l D B xX12_cut sz0 post 208 kX12_cut_208 (z_Jl l D B xX12_cut sz0 post 7 (z_Jr post)) := s_lp (body := bX12_cut_208) (s_aload_n dX12_cut_208 rfl (s_iload_n dX12_cut_209 rfl (s_iload_n dX12_cut_210 rfl (s_iadd dX12_cut_211 (s_callV (r := (RX12, TX12, 74)) dX12_cut_212 mX12_byteAt meX12_byteAt wd931 wd932 rfl rfl reX12_byteAt rmX12_cut (fitX12_cut_212) wd933 (s_callS dX12_cut_215 mX12_isDigit meX12_isDigit wd936 rfl reX12_isDigit rmX12_cut (fitX12_cut_215) wd937 (s_if_eq (tgt := 250) dX12_cut_218 (by decide) (s_dn tX12_cut_250) (s_iload_n dX12_cut_221 rfl (s_iconst dX12_cut_222 (by decide) (s_icmp_ge (tgt := 244) dX12_cut_223 (by decide) tX12_cut_244 (s_bipush dX12_cut_226 (by decide) (s_iload dX12_cut_228 (s_imul dX12_cut_230 (s_aload_n dX12_cut_231 rfl (s_iload_n dX12_cut_232 rfl (s_iload_n dX12_cut_233 rfl (s_iadd dX12_cut_234 (s_callV (r := (RX12, TX12, 74)) dX12_cut_235 mX12_byteAt meX12_byteAt wd931 wd932 rfl rfl reX12_byteAt rmX12_cut (fitX12_cut_235) wd933 (s_iadd dX12_cut_238 (s_bipush dX12_cut_239 (by decide) (s_isub dX12_cut_241 (s_istore dX12_cut_242 tX12_cut_244))))))))))))))))))))))
set_option maxRecDepth 100000 in
theorem tX12_cut_179 {l : Launch} {D : zD} {B sz0 : Nat} {post : Option Value → zS → Prop} : zSnd l D B xX12_cut sz0 post 179 kX12_cut_179 (z_Jl l D B xX12_cut sz0 post 7 (z_Jr post)) := (s_aload_n dX12_cut_179 rfl (s_iload dX12_cut_180 (s_iload_n dX12_cut_182 rfl (s_iconst dX12_cut_183 (by decide) (s_lload dX12_cut_184 (s_callV (r := (RX12, TX12, 74)) dX12_cut_186 mX12_token meX12_token wd927 wd928 rfl rfl reX12_token rmX12_cut (fitX12_cut_186) wd929 (s_iload_n dX12_cut_189 rfl (s_iload_n dX12_cut_190 rfl (s_iadd dX12_cut_191 (s_istore_n dX12_cut_192 rfl (s_goto (tgt := 291) dX12_cut_193 (by decide) tX12_cut_291)))))))))))
set_option maxRecDepth 100000 in
theorem tX12_cut_173 {l : Launch} {D : zD} {B sz0 : Nat} {post : Option Value → zS → Prop} : zSnd l D B xX12_cut sz0 post 173 kX12_cut_173 (z_Jl l D B xX12_cut sz0 post 146 (z_Jl l D B xX12_cut sz0 post 7 (z_Jr post))) := (s_iinc dX12_cut_173 (by decide) (s_goto (tgt := 146) dX12_cut_176 (by decide) s_ag))
set_option maxRecDepth 100000 in
theorem tX12_cut_146 {l : Launch} {D : zD} {B sz0 : Nat} {post : Option Value → zS → Prop} : zSnd l D B xX12_cut sz0 post 146 kX12_cut_146 (z_Jl l D B xX12_cut sz0 post 7 (z_Jr post)) := s_lp (body := bX12_cut_146) (s_iload dX12_cut_146 (s_bipush dX12_cut_148 (by decide) (s_icmp_ge (tgt := 179) dX12_cut_150 (by decide) (s_dn tX12_cut_179) (s_aload_n dX12_cut_153 rfl (s_getR (f := 9) dX12_cut_154 clX12 (by decide) rfl wd869 (s_iload dX12_cut_157 (s_lald dX12_cut_159 (s_lload dX12_cut_160 (s_lcmp dX12_cut_162 (s_if_ne (tgt := 173) dX12_cut_163 (by decide) tX12_cut_173 (s_bipush dX12_cut_166 (by decide) (s_iload dX12_cut_168 (s_iadd dX12_cut_170 (s_istore dX12_cut_171 tX12_cut_173))))))))))))))
set_option maxRecDepth 100000 in
theorem tX12_cut_135 {l : Launch} {D : zD} {B sz0 : Nat} {post : Option Value → zS → Prop} : zSnd l D B xX12_cut sz0 post 135 kX12_cut_135 (z_Jl l D B xX12_cut sz0 post 7 (z_Jr post)) := (s_istore dX12_cut_135 (s_iload_n dX12_cut_137 rfl (s_bipush dX12_cut_138 (by decide) (s_icmp_gt (tgt := 179) dX12_cut_140 (by decide) tX12_cut_179 (s_iconst dX12_cut_143 (by decide) (s_istore dX12_cut_144 tX12_cut_146))))))
set_option maxRecDepth 100000 in
theorem tX12_cut_124 {l : Launch} {D : zD} {B sz0 : Nat} {post : Option Value → zS → Prop} : zSnd l D B xX12_cut sz0 post 124 kX12_cut_124 (z_Jl l D B xX12_cut sz0 post 7 (z_Jr post)) := (s_iload_n dX12_cut_124 rfl (s_bipush dX12_cut_125 (by decide) (s_icmp_le (tgt := 134) dX12_cut_127 (by decide) (s_iconst dX12_cut_134 (by decide) tX12_cut_135) (s_iconst dX12_cut_130 (by decide) (s_goto (tgt := 135) dX12_cut_131 (by decide) tX12_cut_135)))))
set_option maxRecDepth 100000 in
theorem tX12_cut_118 {l : Launch} {D : zD} {B sz0 : Nat} {post : Option Value → zS → Prop} : zSnd l D B xX12_cut sz0 post 118 kX12_cut_118 (z_Jl l D B xX12_cut sz0 post 85 (z_Jl l D B xX12_cut sz0 post 7 (z_Jr post))) := (s_iinc dX12_cut_118 (by decide) (s_goto (tgt := 85) dX12_cut_121 (by decide) s_ag))
set_option maxRecDepth 100000 in
theorem tX12_cut_85 {l : Launch} {D : zD} {B sz0 : Nat} {post : Option Value → zS → Prop} : zSnd l D B xX12_cut sz0 post 85 kX12_cut_85 (z_Jl l D B xX12_cut sz0 post 7 (z_Jr post)) := s_lp (body := bX12_cut_85) (s_aload_n dX12_cut_85 rfl (s_iload_n dX12_cut_86 rfl (s_iload_n dX12_cut_87 rfl (s_iadd dX12_cut_88 (s_callV (r := (RX12, TX12, 74)) dX12_cut_89 mX12_byteAt meX12_byteAt wd931 wd932 rfl rfl reX12_byteAt rmX12_cut (fitX12_cut_89) wd933 (s_callS dX12_cut_92 mX12_isLetter meX12_isLetter wd934 rfl reX12_isLetter rmX12_cut (fitX12_cut_92) wd935 (s_if_eq (tgt := 124) dX12_cut_95 (by decide) (s_dn tX12_cut_124) (s_iload_n dX12_cut_98 rfl (s_bipush dX12_cut_99 (by decide) (s_icmp_ge (tgt := 118) dX12_cut_101 (by decide) tX12_cut_118 (s_lload dX12_cut_104 (s_aload_n dX12_cut_106 rfl (s_iload_n dX12_cut_107 rfl (s_iload_n dX12_cut_108 rfl (s_iadd dX12_cut_109 (s_callV (r := (RX12, TX12, 74)) dX12_cut_110 mX12_byteAt meX12_byteAt wd931 wd932 rfl rfl reX12_byteAt rmX12_cut (fitX12_cut_110) wd933 (s_callS dX12_cut_113 mX12_appends meX12_appends wd851 rfl reX12_appends rmX12_cut (fitX12_cut_113) wd852 (s_lstore dX12_cut_116 tX12_cut_118))))))))))))))))))
set_option maxRecDepth 100000 in
theorem tX12_cut_31 {l : Launch} {D : zD} {B sz0 : Nat} {post : Option Value → zS → Prop} : zSnd l D B xX12_cut sz0 post 31 kX12_cut_31 (z_Jr post) := (s_aload_n dX12_cut_31 rfl (s_iconst dX12_cut_32 (by decide) (s_aload_n dX12_cut_33 rfl (s_getI (f := 4) dX12_cut_34 clX12 (by decide) rfl wd921 (s_iconst dX12_cut_37 (by decide) (s_lconst dX12_cut_38 (by decide) (s_callV (r := (RX12, TX12, 74)) dX12_cut_39 mX12_token meX12_token wd927 wd928 rfl rfl reX12_token rmX12_cut (fitX12_cut_39) wd929 (s_vret dX12_cut_42 rfl))))))))
set_option maxRecDepth 100000 in
theorem tX12_cut_7 {l : Launch} {D : zD} {B sz0 : Nat} {post : Option Value → zS → Prop} : zSnd l D B xX12_cut sz0 post 7 kX12_cut_7 (z_Jr post) := s_lp (body := bX12_cut_7) (s_aload_n dX12_cut_7 rfl (s_getI (f := 10) dX12_cut_8 clX12 (by decide) rfl wd925 (s_sipush dX12_cut_11 (by decide) (s_icmp_gt (tgt := 294) dX12_cut_14 (by decide) (s_dn tX12_cut_294) (s_aload_n dX12_cut_17 rfl (s_iload_n dX12_cut_18 rfl (s_callV (r := (RX12, TX12, 74)) dX12_cut_19 mX12_byteAt meX12_byteAt wd931 wd932 rfl rfl reX12_byteAt rmX12_cut (fitX12_cut_19) wd933 (s_istore_n dX12_cut_22 rfl (s_iload_n dX12_cut_23 rfl (s_aload_n dX12_cut_24 rfl (s_getI (f := 4) dX12_cut_25 clX12 (by decide) rfl wd921 (s_icmp_lt (tgt := 43) dX12_cut_28 (by decide) (s_iload_n dX12_cut_43 rfl (s_bipush dX12_cut_44 (by decide) (s_icmp_eq (tgt := 67) dX12_cut_46 (by decide) tX12_cut_67 (s_iload_n dX12_cut_49 rfl (s_bipush dX12_cut_50 (by decide) (s_icmp_eq (tgt := 67) dX12_cut_52 (by decide) tX12_cut_67 (s_iload_n dX12_cut_55 rfl (s_bipush dX12_cut_56 (by decide) (s_icmp_eq (tgt := 67) dX12_cut_58 (by decide) tX12_cut_67 (s_iload_n dX12_cut_61 rfl (s_bipush dX12_cut_62 (by decide) (s_icmp_ne (tgt := 73) dX12_cut_64 (by decide) (s_iload_n dX12_cut_73 rfl (s_callS dX12_cut_74 mX12_isLetter meX12_isLetter wd934 rfl reX12_isLetter rmX12_cut (fitX12_cut_74) wd935 (s_if_eq (tgt := 196) dX12_cut_77 (by decide) (s_iload_n dX12_cut_196 rfl (s_callS dX12_cut_197 mX12_isDigit meX12_isDigit wd936 rfl reX12_isDigit rmX12_cut (fitX12_cut_197) wd937 (s_if_eq (tgt := 275) dX12_cut_200 (by decide) (s_iload_n dX12_cut_275 rfl (s_aload_n dX12_cut_276 rfl (s_iload_n dX12_cut_277 rfl (s_iload_n dX12_cut_278 rfl (s_aload_n dX12_cut_279 rfl (s_iload_n dX12_cut_280 rfl (s_iconst dX12_cut_281 (by decide) (s_iadd dX12_cut_282 (s_callV (r := (RX12, TX12, 74)) dX12_cut_283 mX12_byteAt meX12_byteAt wd931 wd932 rfl rfl reX12_byteAt rmX12_cut (fitX12_cut_283) wd933 (s_callV (r := (RX12, TX12, 74)) dX12_cut_286 mX12_sign meX12_sign wd938 wd939 rfl rfl reX12_sign rmX12_cut (fitX12_cut_286) wd940 (s_iadd dX12_cut_289 (s_istore_n dX12_cut_290 rfl tX12_cut_291)))))))))))) (s_iconst dX12_cut_203 (by decide) (s_istore_n dX12_cut_204 rfl (s_iconst dX12_cut_205 (by decide) (s_istore dX12_cut_206 tX12_cut_208))))))) (s_iconst dX12_cut_80 (by decide) (s_istore_n dX12_cut_81 rfl (s_lconst dX12_cut_82 (by decide) (s_lstore dX12_cut_83 tX12_cut_85))))))) tX12_cut_67)))))))))))) (s_dn tX12_cut_31)))))))))))))
set_option maxRecDepth 100000 in
theorem tX12_cut_0 {l : Launch} {D : zD} {B sz0 : Nat} {post : Option Value → zS → Prop} : zSnd l D B xX12_cut sz0 post 0 kX12_cut_0 (z_Jr post) := (s_aload_n dX12_cut_0 rfl (s_iconst dX12_cut_1 (by decide) (s_putI (f := 10) dX12_cut_2 clX12 (by decide) rfl rfl rfl wd925 (s_iconst dX12_cut_5 (by decide) (s_istore_n dX12_cut_6 rfl tX12_cut_7)))))
noncomputable def fX12_cut : zF := z_fn 8 kX12_cut_0
theorem mX12_cut {l : Launch} {D : zD} {B : Nat} : z_MF l D B yX12_cut xX12_cut fX12_cut := z_mf (by decide) rfl (fun h => by cases h) rfl (fun as σ r h => ⟨z_fn_len h, kX12_cut_0, z_fn_run h, fun _ => tX12_cut_0⟩)
