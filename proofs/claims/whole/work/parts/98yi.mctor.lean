/-! the constructor of the reference -/
def nL0 : Nat → Option zT := lzN oLF 200 (.inr 12)
def nR0 : Nat → Nat → Option Nat := rzN oRF 200
def nL1 : Nat → Option zT := lzN nL0 201 (.inl (1, 2000))
def nR1 : Nat → Nat → Option Nat := rzU (rzN nR0 201) 200 1 201
def nL2 : Nat → Option zT := lzN nL1 202 (.inl (1, 2000))
def nR2 : Nat → Nat → Option Nat := rzU (rzN nR1 202) 200 3 202
def nL3 : Nat → Option zT := lzN nL2 203 (.inl (0, 403))
def nR3 : Nat → Nat → Option Nat := rzU (rzN nR2 203) 200 5 203
def nL4 : Nat → Option zT := lzN nL3 204 (.inl (0, 403))
def nR4 : Nat → Nat → Option Nat := rzU (rzN nR3 204) 200 6 204
def nL5 : Nat → Option zT := lzN nL4 205 (.inl (0, 403))
def nR5 : Nat → Nat → Option Nat := rzU (rzN nR4 205) 200 7 205
def nL6 : Nat → Option zT := lzN nL5 206 (.inl (3, 403))
def nR6 : Nat → Nat → Option Nat := rzU (rzN nR5 206) 200 8 206
def nL7 : Nat → Option zT := lzN nL6 207 (.inl (3, 20))
def nR7 : Nat → Nat → Option Nat := rzU (rzN nR6 207) 200 9 207
def nL8 : Nat → Option zT := lzN nL7 208 (.inl (3, 4))
def nR8 : Nat → Nat → Option Nat := rzU (rzN nR7 208) 200 21 208
def nL9 : Nat → Option zT := lzN nL8 209 (.inl (0, 2))
def nR9 : Nat → Nat → Option Nat := rzU (rzN nR8 209) 200 22 209
def nL10 : Nat → Option zT := lzN nL9 210 (.inl (0, 2))
def nR10 : Nat → Nat → Option Nat := rzU (rzN nR9 210) 200 23 210
def nL11 : Nat → Option zT := lzN nL10 211 (.inl (0, 32))
def nR11 : Nat → Nat → Option Nat := rzU (rzN nR10 211) 200 24 211
def nL12 : Nat → Option zT := lzN nL11 212 (.inl (0, 2))
def nR12 : Nat → Nat → Option Nat := rzU (rzN nR11 212) 200 25 212
def nL13 : Nat → Option zT := lzN nL12 213 (.inl (0, 2))
def nR13 : Nat → Nat → Option Nat := rzU (rzN nR12 213) 200 26 213
def nL14 : Nat → Option zT := lzN nL13 214 (.inl (0, 8))
def nR14 : Nat → Nat → Option Nat := rzU (rzN nR13 214) 200 27 214
def nL15 : Nat → Option zT := lzN nL14 215 (.inl (0, 64))
def nR15 : Nat → Nat → Option Nat := rzU (rzN nR14 215) 200 28 215
def nL16 : Nat → Option zT := lzN nL15 216 (.inl (0, 2))
def nR16 : Nat → Nat → Option Nat := rzU (rzN nR15 216) 200 29 216
def nL17 : Nat → Option zT := lzN nL16 217 (.inl (0, 8))
def nR17 : Nat → Nat → Option Nat := rzU (rzN nR16 217) 200 30 217
def nL18 : Nat → Option zT := lzN nL17 218 (.inl (0, 8))
def nR18 : Nat → Nat → Option Nat := rzU (rzN nR17 218) 200 31 218
def nL19 : Nat → Option zT := lzN nL18 219 (.inl (2, 260))
def nR19 : Nat → Nat → Option Nat := rzU (rzN nR18 219) 200 33 219
def nL20 : Nat → Option zT := lzN nL19 220 (.inl (0, 260))
def nR20 : Nat → Nat → Option Nat := rzU (rzN nR19 220) 200 34 220
def nL21 : Nat → Option zT := lzN nL20 221 (.inl (0, 260))
def nR21 : Nat → Nat → Option Nat := rzU (rzN nR20 221) 200 35 221
def nL22 : Nat → Option zT := lzN nL21 222 (.inl (0, 260))
def nR22 : Nat → Nat → Option Nat := rzU (rzN nR21 222) 200 36 222
def nL23 : Nat → Option zT := lzN nL22 223 (.inl (0, 260))
def nR23 : Nat → Nat → Option Nat := rzU (rzN nR22 223) 200 37 223
def nL24 : Nat → Option zT := lzN nL23 224 (.inl (0, 840))
def nR24 : Nat → Nat → Option Nat := rzU (rzN nR23 224) 200 39 224
def nL25 : Nat → Option zT := lzN nL24 225 (.inl (0, 840))
def nR25 : Nat → Nat → Option Nat := rzU (rzN nR24 225) 200 40 225
def nL26 : Nat → Option zT := lzN nL25 226 (.inl (0, 64))
def nR26 : Nat → Nat → Option Nat := rzU (rzN nR25 226) 200 41 226
def nL27 : Nat → Option zT := lzN nL26 227 (.inl (0, 9))
def nR27 : Nat → Nat → Option Nat := rzU (rzN nR26 227) 200 43 227
def nL28 : Nat → Option zT := lzN nL27 228 (.inl (0, 400))
def nR28 : Nat → Nat → Option Nat := rzU (rzN nR27 228) 200 44 228
def nL29 : Nat → Option zT := lzN nL28 229 (.inl (0, 38))
def nR29 : Nat → Nat → Option Nat := rzU (rzN nR28 229) 200 46 229
def nL30 : Nat → Option zT := lzN nL29 230 (.inl (0, 38))
def nR30 : Nat → Nat → Option Nat := rzU (rzN nR29 230) 200 47 230
def nL31 : Nat → Option zT := lzN nL30 231 (.inl (0, 64))
def nR31 : Nat → Nat → Option Nat := rzU (rzN nR30 231) 200 49 231
def nL32 : Nat → Option zT := lzN nL31 232 (.inl (0, 8))
def nR32 : Nat → Nat → Option Nat := rzU (rzN nR31 232) 200 51 232
def nL33 : Nat → Option zT := lzN nL32 233 (.inl (0, 1520))
def nR33 : Nat → Nat → Option Nat := rzU (rzN nR32 233) 200 53 233
def nL34 : Nat → Option zT := lzN nL33 234 (.inl (0, 32))
def nR34 : Nat → Nat → Option Nat := rzU (rzN nR33 234) 200 54 234
def nL35 : Nat → Option zT := lzN nL34 235 (.inl (0, 9))
def nR35 : Nat → Nat → Option Nat := rzU (rzN nR34 235) 200 55 235
def nL36 : Nat → Option zT := lzN nL35 236 (.inl (0, 4))
def nR36 : Nat → Nat → Option Nat := rzU (rzN nR35 236) 200 56 236
def nL37 : Nat → Option zT := lzN nL36 237 (.inl (0, 4))
def nR37 : Nat → Nat → Option Nat := rzU (rzN nR36 237) 200 57 237
def nL38 : Nat → Option zT := lzN nL37 238 (.inl (0, 16))
def nR38 : Nat → Nat → Option Nat := rzU (rzN nR37 238) 200 58 238
def nL39 : Nat → Option zT := lzN nL38 239 (.inl (0, 16))
def nR39 : Nat → Nat → Option Nat := rzU (rzN nR38 239) 200 59 239
def nL40 : Nat → Option zT := lzN nL39 240 (.inl (0, 65536))
def nR40 : Nat → Nat → Option Nat := rzU (rzN nR39 240) 200 60 240
def nL41 : Nat → Option zT := lzN nL40 241 (.inl (0, 8))
def nR41 : Nat → Nat → Option Nat := rzU (rzN nR40 241) 200 61 241
def nL42 : Nat → Option zT := lzN nL41 242 (.inl (0, 65536))
def nR42 : Nat → Nat → Option Nat := rzU (rzN nR41 242) 200 65 242
def nL43 : Nat → Option zT := lzN nL42 243 (.inl (0, 20))
def nR43 : Nat → Nat → Option Nat := rzU (rzN nR42 243) 200 67 243
def nL44 : Nat → Option zT := lzN nL43 244 (.inl (0, 20))
def nR44 : Nat → Nat → Option Nat := rzU (rzN nR43 244) 200 68 244
def nL45 : Nat → Option zT := lzN nL44 245 (.inl (0, 20))
def nR45 : Nat → Nat → Option Nat := rzU (rzN nR44 245) 200 69 245
def nL46 : Nat → Option zT := lzN nL45 246 (.inl (2, 20))
def nR46 : Nat → Nat → Option Nat := rzU (rzN nR45 246) 200 70 246
def nL47 : Nat → Option zT := lzN nL46 247 (.inl (0, 256))
def nR47 : Nat → Nat → Option Nat := rzU (rzN nR46 247) 200 71 247
def nL48 : Nat → Option zT := lzN nL47 248 (.inl (2, 3))
def nR48 : Nat → Nat → Option Nat := rzU (rzN nR47 248) 200 72 248
def nL49 : Nat → Option zT := lzN nL48 249 (.inl (0, 114))
def nR49 : Nat → Nat → Option Nat := rzU (rzN nR48 249) 200 73 249
noncomputable def k12T : zK zR := (q_aload 0 (q_push 0 (q_callV 12 fX12_plain 1 (q_aload 0 (q_push 1 (q_callV 12 fX12_plain 1 (q_aload 0 (q_getR 12 9 (q_push 0 (q_push 99 (q_push 111 (q_push 108 (q_push 111 (q_push 117 (q_push 114 (q_push 115 (q_callS fX12_letters 7 (q_last (q_aload 0 (q_getR 12 9 (q_push 1 (q_push 99 (q_push 104 (q_push 105 (q_push 108 (q_push 100 (q_push 0 (q_push 0 (q_callS fX12_letters 7 (q_last (q_aload 0 (q_getR 12 9 (q_push 2 (q_push 114 (q_push 111 (q_push 119 (q_push 0 (q_push 0 (q_push 0 (q_push 0 (q_callS fX12_letters 7 (q_last (q_aload 0 (q_getR 12 9 (q_push 3 (q_push 119 (q_push 111 (q_push 114 (q_push 116 (q_push 104 (q_push 0 (q_push 0 (q_callS fX12_letters 7 (q_last (q_aload 0 (q_getR 12 9 (q_push 4 (q_push 99 (q_push 111 (q_push 115 (q_push 116 (q_push 115 (q_push 0 (q_push 0 (q_callS fX12_letters 7 (q_last (q_aload 0 (q_getR 12 9 (q_push 5 (q_push 111 (q_push 100 (q_push 100 (q_push 115 (q_push 0 (q_push 0 (q_push 0 (q_callS fX12_letters 7 (q_last (q_aload 0 (q_getR 12 9 (q_push 6 (q_push 112 (q_push 97 (q_push 121 (q_push 115 (q_push 0 (q_push 0 (q_push 0 (q_callS fX12_letters 7 (q_last (q_aload 0 (q_getR 12 9 (q_push 7 (q_push 115 (q_push 101 (q_push 101 (q_push 100 (q_push 0 (q_push 0 (q_push 0 (q_callS fX12_letters 7 (q_last (q_aload 0 (q_getR 12 9 (q_push 8 (q_push 105 (q_push 102 (q_push 0 (q_push 0 (q_push 0 (q_push 0 (q_push 0 (q_callS fX12_letters 7 (q_last (q_aload 0 (q_getR 12 9 (q_push 9 (q_push 116 (q_push 104 (q_push 101 (q_push 110 (q_push 0 (q_push 0 (q_push 0 (q_callS fX12_letters 7 (q_last (q_aload 0 (q_getR 12 9 (q_push 10 (q_push 101 (q_push 108 (q_push 115 (q_push 101 (q_push 0 (q_push 0 (q_push 0 (q_callS fX12_letters 7 (q_last (q_aload 0 (q_getR 12 9 (q_push 11 (q_push 99 (q_push 111 (q_push 108 (q_push 111 (q_push 117 (q_push 114 (q_push 0 (q_callS fX12_letters 7 (q_last (q_aload 0 (q_getR 12 9 (q_push 12 (q_push 115 (q_push 101 (q_push 97 (q_push 116 (q_push 0 (q_push 0 (q_push 0 (q_callS fX12_letters 7 (q_last (q_aload 0 (q_getR 12 9 (q_push 13 (q_push 100 (q_push 101 (q_push 112 (q_push 116 (q_push 104 (q_push 0 (q_push 0 (q_callS fX12_letters 7 (q_last (q_aload 0 (q_getR 12 9 (q_push 14 (q_push 108 (q_push 111 (q_push 110 (q_push 103 (q_push 0 (q_push 0 (q_push 0 (q_callS fX12_letters 7 (q_last (q_aload 0 (q_getR 12 9 (q_push 15 (q_push 109 (q_push 97 (q_push 110 (q_push 121 (q_push 0 (q_push 0 (q_push 0 (q_callS fX12_letters 7 (q_last (q_aload 0 (q_getR 12 9 (q_push 16 (q_push 116 (q_push 105 (q_push 109 (q_push 101 (q_push 0 (q_push 0 (q_push 0 (q_callS fX12_letters 7 (q_last (q_aload 0 (q_getR 12 9 (q_push 17 (q_push 119 (q_push 104 (q_push 105 (q_push 99 (q_push 104 (q_push 0 (q_push 0 (q_callS fX12_letters 7 (q_last (q_aload 0 (q_getR 12 9 (q_push 18 (q_push 108 (q_push 101 (q_push 102 (q_push 116 (q_push 0 (q_push 0 (q_push 0 (q_callS fX12_letters 7 (q_last (q_aload 0 (q_getR 12 9 (q_push 19 (q_push 114 (q_push 105 (q_push 103 (q_push 104 (q_push 116 (q_push 0 (q_push 0 (q_callS fX12_letters 7 (q_last (q_aload 0 (q_callV 12 fX12_begins 0 (q_aload 0 (q_callV 12 fX12_keepsRow 0 q_vret))))))))))))))))))))))))))))))))))))))))))))))))))))))))))))))))))))))))))))))))))))))))))))))))))))))))))))))))))))))))))))))))))))))))))))))))))))))))))))))))))))))))))))))))))))))))))))))))))))))))))))))))))))))))))))))))))))))))))))))))))))))))))
theorem c12A {I : Nat → Nat → Int32} {L : Nat → Nat → Int64} {B : Nat} {sA : Nat → Nat} (f0 : frI I (B + 201)) (g0 : frL L (B + 201)) : fX12_init [.ref (B + 200)] (I, L, zz B 201 nL0 nR0 sA) = k12T [some (Value.ref ((B + 200)))] [] (z_up I (B + 200) 17 nM1, L, zz B 250 nL49 nR49 sA) := by
  have f1 : frI (z_up I (B + 200) 17 nM1) (B + 201) := fun a k ha => by rw [show z_up I (B + 200) 17 nM1 a k = I a k from if_neg (fun z => by omega)]; exact f0 a k ha
  show kX12_init_0 (B + 201 + 49) [some (Value.ref ((B + 200)))] [] (I, L, zz B 201 nL0 nR0 sA) = _
  unfold kX12_init_0 kX12_init_92 kX12_init_181 kX12_init_277 kX12_init_365 kX12_init_452 kX12_init_528 kX12_init_604 kX12_init_685 kX12_init_766
  refine (c_arr (n := 201) (m := 2000) (a := 200) (ci := 12) (l := nL0) (r := nR0) (sA := sA) f0 g0 (by omega) (by omega) (by decide) (by decide) (by decide) (by decide +kernel)).trans ?_
  refine (c_arr (n := 202) (m := 2000) (a := 200) (ci := 12) (l := nL1) (r := nR1) (sA := sA) f0 g0 (by omega) (by omega) (by decide) (by decide) (by decide) (by decide +kernel)).trans ?_
  refine (c_arr (n := 203) (m := 403) (a := 200) (ci := 12) (l := nL2) (r := nR2) (sA := sA) f0 g0 (by omega) (by omega) (by decide) (by decide) (by decide) (by decide +kernel)).trans ?_
  refine (c_arr (n := 204) (m := 403) (a := 200) (ci := 12) (l := nL3) (r := nR3) (sA := sA) f0 g0 (by omega) (by omega) (by decide) (by decide) (by decide) (by decide +kernel)).trans ?_
  refine (c_arr (n := 205) (m := 403) (a := 200) (ci := 12) (l := nL4) (r := nR4) (sA := sA) f0 g0 (by omega) (by omega) (by decide) (by decide) (by decide) (by decide +kernel)).trans ?_
  refine (c_arr (n := 206) (m := 403) (a := 200) (ci := 12) (l := nL5) (r := nR5) (sA := sA) f0 g0 (by omega) (by omega) (by decide) (by decide) (by decide) (by decide +kernel)).trans ?_
  refine (c_arr (n := 207) (m := 20) (a := 200) (ci := 12) (l := nL6) (r := nR6) (sA := sA) f0 g0 (by omega) (by omega) (by decide) (by decide) (by decide) (by decide +kernel)).trans ?_
  refine (c_pI (n := 208) (a := 200) (ci := 12) (v := nM1) (l := nL7) (r := nR7) (sA := sA) (by decide +kernel)).trans ?_
  refine (c_arr (n := 208) (m := 4) (a := 200) (ci := 12) (l := nL7) (r := nR7) (sA := sA) f1 g0 (by omega) (by omega) (by decide) (by decide) (by decide) (by decide +kernel)).trans ?_
  refine (c_arr (n := 209) (m := 2) (a := 200) (ci := 12) (l := nL8) (r := nR8) (sA := sA) f1 g0 (by omega) (by omega) (by decide) (by decide) (by decide) (by decide +kernel)).trans ?_
  refine (c_arr (n := 210) (m := 2) (a := 200) (ci := 12) (l := nL9) (r := nR9) (sA := sA) f1 g0 (by omega) (by omega) (by decide) (by decide) (by decide) (by decide +kernel)).trans ?_
  refine (c_arr (n := 211) (m := 32) (a := 200) (ci := 12) (l := nL10) (r := nR10) (sA := sA) f1 g0 (by omega) (by omega) (by decide) (by decide) (by decide) (by decide +kernel)).trans ?_
  refine (c_arr (n := 212) (m := 2) (a := 200) (ci := 12) (l := nL11) (r := nR11) (sA := sA) f1 g0 (by omega) (by omega) (by decide) (by decide) (by decide) (by decide +kernel)).trans ?_
  refine (c_arr (n := 213) (m := 2) (a := 200) (ci := 12) (l := nL12) (r := nR12) (sA := sA) f1 g0 (by omega) (by omega) (by decide) (by decide) (by decide) (by decide +kernel)).trans ?_
  refine (c_arr (n := 214) (m := 8) (a := 200) (ci := 12) (l := nL13) (r := nR13) (sA := sA) f1 g0 (by omega) (by omega) (by decide) (by decide) (by decide) (by decide +kernel)).trans ?_
  refine (c_arr (n := 215) (m := 64) (a := 200) (ci := 12) (l := nL14) (r := nR14) (sA := sA) f1 g0 (by omega) (by omega) (by decide) (by decide) (by decide) (by decide +kernel)).trans ?_
  refine (c_arr (n := 216) (m := 2) (a := 200) (ci := 12) (l := nL15) (r := nR15) (sA := sA) f1 g0 (by omega) (by omega) (by decide) (by decide) (by decide) (by decide +kernel)).trans ?_
  refine (c_arr (n := 217) (m := 8) (a := 200) (ci := 12) (l := nL16) (r := nR16) (sA := sA) f1 g0 (by omega) (by omega) (by decide) (by decide) (by decide) (by decide +kernel)).trans ?_
  refine (c_arr (n := 218) (m := 8) (a := 200) (ci := 12) (l := nL17) (r := nR17) (sA := sA) f1 g0 (by omega) (by omega) (by decide) (by decide) (by decide) (by decide +kernel)).trans ?_
  refine (c_arr (n := 219) (m := 260) (a := 200) (ci := 12) (l := nL18) (r := nR18) (sA := sA) f1 g0 (by omega) (by omega) (by decide) (by decide) (by decide) (by decide +kernel)).trans ?_
  refine (c_arr (n := 220) (m := 260) (a := 200) (ci := 12) (l := nL19) (r := nR19) (sA := sA) f1 g0 (by omega) (by omega) (by decide) (by decide) (by decide) (by decide +kernel)).trans ?_
  refine (c_arr (n := 221) (m := 260) (a := 200) (ci := 12) (l := nL20) (r := nR20) (sA := sA) f1 g0 (by omega) (by omega) (by decide) (by decide) (by decide) (by decide +kernel)).trans ?_
  refine (c_arr (n := 222) (m := 260) (a := 200) (ci := 12) (l := nL21) (r := nR21) (sA := sA) f1 g0 (by omega) (by omega) (by decide) (by decide) (by decide) (by decide +kernel)).trans ?_
  refine (c_arr (n := 223) (m := 260) (a := 200) (ci := 12) (l := nL22) (r := nR22) (sA := sA) f1 g0 (by omega) (by omega) (by decide) (by decide) (by decide) (by decide +kernel)).trans ?_
  refine (c_arr (n := 224) (m := 840) (a := 200) (ci := 12) (l := nL23) (r := nR23) (sA := sA) f1 g0 (by omega) (by omega) (by decide) (by decide) (by decide) (by decide +kernel)).trans ?_
  refine (c_arr (n := 225) (m := 840) (a := 200) (ci := 12) (l := nL24) (r := nR24) (sA := sA) f1 g0 (by omega) (by omega) (by decide) (by decide) (by decide) (by decide +kernel)).trans ?_
  refine (c_arr (n := 226) (m := 64) (a := 200) (ci := 12) (l := nL25) (r := nR25) (sA := sA) f1 g0 (by omega) (by omega) (by decide) (by decide) (by decide) (by decide +kernel)).trans ?_
  refine (c_arr (n := 227) (m := 9) (a := 200) (ci := 12) (l := nL26) (r := nR26) (sA := sA) f1 g0 (by omega) (by omega) (by decide) (by decide) (by decide) (by decide +kernel)).trans ?_
  refine (c_arr (n := 228) (m := 400) (a := 200) (ci := 12) (l := nL27) (r := nR27) (sA := sA) f1 g0 (by omega) (by omega) (by decide) (by decide) (by decide) (by decide +kernel)).trans ?_
  refine (c_arr (n := 229) (m := 38) (a := 200) (ci := 12) (l := nL28) (r := nR28) (sA := sA) f1 g0 (by omega) (by omega) (by decide) (by decide) (by decide) (by decide +kernel)).trans ?_
  refine (c_arr (n := 230) (m := 38) (a := 200) (ci := 12) (l := nL29) (r := nR29) (sA := sA) f1 g0 (by omega) (by omega) (by decide) (by decide) (by decide) (by decide +kernel)).trans ?_
  refine (c_arr (n := 231) (m := 64) (a := 200) (ci := 12) (l := nL30) (r := nR30) (sA := sA) f1 g0 (by omega) (by omega) (by decide) (by decide) (by decide) (by decide +kernel)).trans ?_
  refine (c_arr (n := 232) (m := 8) (a := 200) (ci := 12) (l := nL31) (r := nR31) (sA := sA) f1 g0 (by omega) (by omega) (by decide) (by decide) (by decide) (by decide +kernel)).trans ?_
  refine (c_arr (n := 233) (m := 1520) (a := 200) (ci := 12) (l := nL32) (r := nR32) (sA := sA) f1 g0 (by omega) (by omega) (by decide) (by decide) (by decide) (by decide +kernel)).trans ?_
  refine (c_arr (n := 234) (m := 32) (a := 200) (ci := 12) (l := nL33) (r := nR33) (sA := sA) f1 g0 (by omega) (by omega) (by decide) (by decide) (by decide) (by decide +kernel)).trans ?_
  refine (c_arr (n := 235) (m := 9) (a := 200) (ci := 12) (l := nL34) (r := nR34) (sA := sA) f1 g0 (by omega) (by omega) (by decide) (by decide) (by decide) (by decide +kernel)).trans ?_
  refine (c_arr (n := 236) (m := 4) (a := 200) (ci := 12) (l := nL35) (r := nR35) (sA := sA) f1 g0 (by omega) (by omega) (by decide) (by decide) (by decide) (by decide +kernel)).trans ?_
  refine (c_arr (n := 237) (m := 4) (a := 200) (ci := 12) (l := nL36) (r := nR36) (sA := sA) f1 g0 (by omega) (by omega) (by decide) (by decide) (by decide) (by decide +kernel)).trans ?_
  refine (c_arr (n := 238) (m := 16) (a := 200) (ci := 12) (l := nL37) (r := nR37) (sA := sA) f1 g0 (by omega) (by omega) (by decide) (by decide) (by decide) (by decide +kernel)).trans ?_
  refine (c_arr (n := 239) (m := 16) (a := 200) (ci := 12) (l := nL38) (r := nR38) (sA := sA) f1 g0 (by omega) (by omega) (by decide) (by decide) (by decide) (by decide +kernel)).trans ?_
  refine (c_arr (n := 240) (m := 65536) (a := 200) (ci := 12) (l := nL39) (r := nR39) (sA := sA) f1 g0 (by omega) (by omega) (by decide) (by decide) (by decide) (by decide +kernel)).trans ?_
  refine (c_arr (n := 241) (m := 8) (a := 200) (ci := 12) (l := nL40) (r := nR40) (sA := sA) f1 g0 (by omega) (by omega) (by decide) (by decide) (by decide) (by decide +kernel)).trans ?_
  refine (c_arr (n := 242) (m := 65536) (a := 200) (ci := 12) (l := nL41) (r := nR41) (sA := sA) f1 g0 (by omega) (by omega) (by decide) (by decide) (by decide) (by decide +kernel)).trans ?_
  refine (c_arr (n := 243) (m := 20) (a := 200) (ci := 12) (l := nL42) (r := nR42) (sA := sA) f1 g0 (by omega) (by omega) (by decide) (by decide) (by decide) (by decide +kernel)).trans ?_
  refine (c_arr (n := 244) (m := 20) (a := 200) (ci := 12) (l := nL43) (r := nR43) (sA := sA) f1 g0 (by omega) (by omega) (by decide) (by decide) (by decide) (by decide +kernel)).trans ?_
  refine (c_arr (n := 245) (m := 20) (a := 200) (ci := 12) (l := nL44) (r := nR44) (sA := sA) f1 g0 (by omega) (by omega) (by decide) (by decide) (by decide) (by decide +kernel)).trans ?_
  refine (c_arr (n := 246) (m := 20) (a := 200) (ci := 12) (l := nL45) (r := nR45) (sA := sA) f1 g0 (by omega) (by omega) (by decide) (by decide) (by decide) (by decide +kernel)).trans ?_
  refine (c_arr (n := 247) (m := 256) (a := 200) (ci := 12) (l := nL46) (r := nR46) (sA := sA) f1 g0 (by omega) (by omega) (by decide) (by decide) (by decide) (by decide +kernel)).trans ?_
  refine (c_arr (n := 248) (m := 3) (a := 200) (ci := 12) (l := nL47) (r := nR47) (sA := sA) f1 g0 (by omega) (by omega) (by decide) (by decide) (by decide) (by decide +kernel)).trans ?_
  refine (c_arr (n := 249) (m := 114) (a := 200) (ci := 12) (l := nL48) (r := nR48) (sA := sA) f1 g0 (by omega) (by omega) (by decide) (by decide) (by decide) (by decide +kernel)).trans ?_
  rfl
def apV (x c : Nat) : Nat := if c = 0 then x else x * 27 + (c - 96)
def okL (c : Nat) : Prop := c = 0 ∨ (97 ≤ c ∧ c < 256)
theorem r_ap {I : Nat → Nat → Int32} {L : Nat → Nat → Int64} {Z : zZ} {c x : Nat} (h : okL c) : fX12_appends [.long (Int64.ofNat x), .int (nI c)] (I, L, Z) = some (some (.long (Int64.ofNat (apV x c))), (I, L, Z)) := by
  unfold apV
  by_cases g : c = 0
  · rw [if_pos g, g]
    show kX12_appends_0 [some (Value.long (Int64.ofNat x)), none, some (Value.int (nI (0)))] [] (I, L, Z) = _
    simp (disch := omega) only [kX12_appends_21, kX12_appends_0, e_push, e_pushl, e_iload, e_lload, e_aload, e_istore, e_astore, e_lstore, e_iinc, e_iadd, e_isub, e_imul, e_iand, e_ior, e_ixor, e_ishl, e_ishr, e_iushr, e_idiv, e_irem, e_ladd, e_lsub, e_lmul, e_lcmp, e_mmax, e_mmin, e_i2l, e_l2i, e_i2b, e_i2c, e_dup, e_dup2, e_pop, e_icmp_eq, e_icmp_ne, e_icmp_lt, e_icmp_ge, e_icmp_gt, e_icmp_le, e_if_eq, e_if_ne, e_if_lt, e_if_ge, e_if_gt, e_if_le, e_getI, e_getR, e_putI, e_putZ, e_putR, e_iald, e_bald, e_zald, e_lald, e_aald, e_alen, e_iast, e_bast, e_zast, e_last, e_aast, e_iret, e_zret, e_lret, e_vret, e_obj, e_callV, e_callS, e_callT, e_acpy, e_ldcS, e_dn, e_ag, z_pop, List.getElem?_cons_zero, List.getElem?_cons_succ, List.set_cons_zero, List.set_cons_succ, List.length_cons, List.length_nil, z_nol, Option.map_some, Option.toList_some, Option.toList_none, List.cons_append, List.nil_append, n_lit, n_m1, n_m2, n_m1lt, n_m1le, n_rem, n_div, n_out, n_cl, n_eq, n_le, n_lt, n_add, n_mul, n_sub, n_nle, n_yle, n_nlt, n_ylt, n_neN, z_lay, z_sz, z_str, z_stI, z_stL, z_stR, eq_self, ↓reduceIte, true_and, and_true, and_self, false_and, and_false, or_self, false_or, or_false, true_or, or_true, not_true_eq_false, not_false_eq_true, Nat.reduceLeDiff, Nat.reduceLT, Nat.reduceAdd, Nat.reduceEqDiff, Nat.reduceMul, Nat.reduceSub, Value.category, Nat.zero_le, beq_self_eq_true]
  · rw [if_neg g]
    rcases h with h | h
    · exact absurd h g
    · exact r_appends h.1 h.2
theorem r_letters {I : Nat → Nat → Int32} {L : Nat → Nat → Int64} {Z : zZ} {c0 c1 c2 c3 c4 c5 c6 : Nat} (h0 : okL c0) (h1 : okL c1) (h2 : okL c2) (h3 : okL c3) (h4 : okL c4) (h5 : okL c5) (h6 : okL c6) : fX12_letters [.int (nI c0), .int (nI c1), .int (nI c2), .int (nI c3), .int (nI c4), .int (nI c5), .int (nI c6)] (I, L, Z) = some (some (.long (Int64.ofNat (apV (apV (apV (apV (apV (apV (apV 0 c0) c1) c2) c3) c4) c5) c6))), (I, L, Z)) := by
  have e0 : (0 : Int64) = Int64.ofNat 0 := rfl
  show kX12_letters_0 [some (Value.int (nI (c0))), some (Value.int (nI (c1))), some (Value.int (nI (c2))), some (Value.int (nI (c3))), some (Value.int (nI (c4))), some (Value.int (nI (c5))), some (Value.int (nI (c6)))] [] (I, L, Z) = _
  simp (disch := omega) only [kX12_letters_0, e0, r_ap h0, r_ap h1, r_ap h2, r_ap h3, r_ap h4, r_ap h5, r_ap h6, e_push, e_pushl, e_iload, e_lload, e_aload, e_istore, e_astore, e_lstore, e_iinc, e_iadd, e_isub, e_imul, e_iand, e_ior, e_ixor, e_ishl, e_ishr, e_iushr, e_idiv, e_irem, e_ladd, e_lsub, e_lmul, e_lcmp, e_mmax, e_mmin, e_i2l, e_l2i, e_i2b, e_i2c, e_dup, e_dup2, e_pop, e_icmp_eq, e_icmp_ne, e_icmp_lt, e_icmp_ge, e_icmp_gt, e_icmp_le, e_if_eq, e_if_ne, e_if_lt, e_if_ge, e_if_gt, e_if_le, e_getI, e_getR, e_putI, e_putZ, e_putR, e_iald, e_bald, e_zald, e_lald, e_aald, e_alen, e_iast, e_bast, e_zast, e_last, e_aast, e_iret, e_zret, e_lret, e_vret, e_obj, e_callV, e_callS, e_callT, e_acpy, e_ldcS, e_dn, e_ag, z_pop, List.getElem?_cons_zero, List.getElem?_cons_succ, List.set_cons_zero, List.set_cons_succ, List.length_cons, List.length_nil, z_nol, Option.map_some, Option.toList_some, Option.toList_none, List.cons_append, List.nil_append, n_lit, n_m1, n_m2, n_m1lt, n_m1le, n_rem, n_div, n_out, n_cl, n_eq, n_le, n_lt, n_add, n_mul, n_sub, n_nle, n_yle, n_nlt, n_ylt, n_neN, z_lay, z_sz, z_str, z_stI, z_stL, z_stR, eq_self, ↓reduceIte, true_and, and_true, and_self, false_and, and_false, or_self, false_or, or_false, true_or, or_true, not_true_eq_false, not_false_eq_true, Nat.reduceLeDiff, Nat.reduceLT, Nat.reduceAdd, Nat.reduceEqDiff, Nat.reduceMul, Nat.reduceSub, Value.category, Nat.zero_le, beq_self_eq_true]
theorem c_key {I : Nat → Nat → Int32} {L : Nat → Nat → Int64} {Z : zZ} {M i c0 c1 c2 c3 c4 c5 c6 v : Nat} {k : zK zR} (h : isMod Z M) (hi : i < 20) (h0 : okL c0) (h1 : okL c1) (h2 : okL c2) (h3 : okL c3) (h4 : okL c4) (h5 : okL c5) (h6 : okL c6) (hv : apV (apV (apV (apV (apV (apV (apV 0 c0) c1) c2) c3) c4) c5) c6 = v) : q_aload 0 (q_getR 12 9 (q_push (nI i) (q_push (nI c0) (q_push (nI c1) (q_push (nI c2) (q_push (nI c3) (q_push (nI c4) (q_push (nI c5) (q_push (nI c6) (q_callS fX12_letters 7 (q_last k))))))))))) [some (Value.ref (M))] [] (I, L, Z) = k [some (Value.ref (M))] [] (I, z_up L (M + 7) i (Int64.ofNat v), Z) := by
  have e := r_letters (I := I) (L := L) (Z := Z) h0 h1 h2 h3 h4 h5 h6
  rw [hv] at e
  have p : ¬ nI i < 0 := nI_pos (by omega)
  simp (disch := omega) only [h.1, mr_keys h, ml_keys h, e, p, e_push, e_pushl, e_iload, e_lload, e_aload, e_istore, e_astore, e_lstore, e_iinc, e_iadd, e_isub, e_imul, e_iand, e_ior, e_ixor, e_ishl, e_ishr, e_iushr, e_idiv, e_irem, e_ladd, e_lsub, e_lmul, e_lcmp, e_mmax, e_mmin, e_i2l, e_l2i, e_i2b, e_i2c, e_dup, e_dup2, e_pop, e_icmp_eq, e_icmp_ne, e_icmp_lt, e_icmp_ge, e_icmp_gt, e_icmp_le, e_if_eq, e_if_ne, e_if_lt, e_if_ge, e_if_gt, e_if_le, e_getI, e_getR, e_putI, e_putZ, e_putR, e_iald, e_bald, e_zald, e_lald, e_aald, e_alen, e_iast, e_bast, e_zast, e_last, e_aast, e_iret, e_zret, e_lret, e_vret, e_obj, e_callV, e_callS, e_callT, e_acpy, e_ldcS, e_dn, e_ag, z_pop, List.getElem?_cons_zero, List.getElem?_cons_succ, List.set_cons_zero, List.set_cons_succ, List.length_cons, List.length_nil, z_nol, Option.map_some, Option.toList_some, Option.toList_none, List.cons_append, List.nil_append, n_lit, n_m1, n_m2, n_m1lt, n_m1le, n_rem, n_div, n_out, n_cl, n_eq, n_le, n_lt, n_add, n_mul, n_sub, n_nle, n_yle, n_nlt, n_ylt, n_neN, z_lay, z_sz, z_str, z_stI, z_stL, z_stR, eq_self, ↓reduceIte, true_and, and_true, and_self, false_and, and_false, or_self, false_or, or_false, true_or, or_true, not_true_eq_false, not_false_eq_true, Nat.reduceLeDiff, Nat.reduceLT, Nat.reduceAdd, Nat.reduceEqDiff, Nat.reduceMul, Nat.reduceSub, Value.category, Nat.zero_le, beq_self_eq_true]
theorem lq_at {L : Nat → Nat → Int64} {a i : Nat} {v : Int64} : z_up L a i v a i = v := if_pos ⟨rfl, rfl⟩
theorem lq_ne {L : Nat → Nat → Int64} {a i j : Nat} {v : Int64} (h : j ≠ i) : z_up L a i v a j = L a j := if_neg (fun z => h z.2)
def kyL (L : Nat → Nat → Int64) (M : Nat) : Nat → Nat → Int64 := (z_up (z_up (z_up (z_up (z_up (z_up (z_up (z_up (z_up (z_up (z_up (z_up (z_up (z_up (z_up (z_up (z_up (z_up (z_up (z_up L (M + 7) 0 (Int64.ofNat 1384183423)) (M + 7) 1 (Int64.ofNat 1758676)) (M + 7) 2 (Int64.ofNat 13550)) (M + 7) 3 (Int64.ofNat 12532058)) (M + 7) 4 (Int64.ofNat 1903978)) (M + 7) 5 (Int64.ofNat 298288)) (M + 7) 6 (Int64.ofNat 316351)) (M + 7) 7 (Int64.ofNat 377761)) (M + 7) 8 (Int64.ofNat 249)) (M + 7) 9 (Int64.ofNat 399641)) (M + 7) 10 (Int64.ofNat 107681)) (M + 7) 11 (Int64.ofNat 51266052)) (M + 7) 12 (Int64.ofNat 377669)) (M + 7) 13 (Int64.ofNat 2236391)) (M + 7) 14 (Int64.ofNat 247516)) (M + 7) 15 (Int64.ofNat 257011)) (M + 7) 16 (Int64.ofNat 400577)) (M + 7) 17 (Int64.ofNat 12387257)) (M + 7) 18 (Int64.ofNat 240023)) (M + 7) 19 (Int64.ofNat 9748424))
theorem kyL_at {L : Nat → Nat → Int64} {M k v : Nat} (h : keyV[k]? = some v) : kyL L M (M + 7) k = Int64.ofNat v := by
  unfold kyL
  have hk : k < 20 := (List.getElem?_eq_some_iff.mp h).1
  match k, hk, h with
  | 0, _, h => cases h; simp (disch := decide) only [lq_at, lq_ne]
  | 1, _, h => cases h; simp (disch := decide) only [lq_at, lq_ne]
  | 2, _, h => cases h; simp (disch := decide) only [lq_at, lq_ne]
  | 3, _, h => cases h; simp (disch := decide) only [lq_at, lq_ne]
  | 4, _, h => cases h; simp (disch := decide) only [lq_at, lq_ne]
  | 5, _, h => cases h; simp (disch := decide) only [lq_at, lq_ne]
  | 6, _, h => cases h; simp (disch := decide) only [lq_at, lq_ne]
  | 7, _, h => cases h; simp (disch := decide) only [lq_at, lq_ne]
  | 8, _, h => cases h; simp (disch := decide) only [lq_at, lq_ne]
  | 9, _, h => cases h; simp (disch := decide) only [lq_at, lq_ne]
  | 10, _, h => cases h; simp (disch := decide) only [lq_at, lq_ne]
  | 11, _, h => cases h; simp (disch := decide) only [lq_at, lq_ne]
  | 12, _, h => cases h; simp (disch := decide) only [lq_at, lq_ne]
  | 13, _, h => cases h; simp (disch := decide) only [lq_at, lq_ne]
  | 14, _, h => cases h; simp (disch := decide) only [lq_at, lq_ne]
  | 15, _, h => cases h; simp (disch := decide) only [lq_at, lq_ne]
  | 16, _, h => cases h; simp (disch := decide) only [lq_at, lq_ne]
  | 17, _, h => cases h; simp (disch := decide) only [lq_at, lq_ne]
  | 18, _, h => cases h; simp (disch := decide) only [lq_at, lq_ne]
  | 19, _, h => cases h; simp (disch := decide) only [lq_at, lq_ne]
theorem c12K {I : Nat → Nat → Int32} {L : Nat → Nat → Int64} {Z : zZ} {M : Nat} {Y : Option zR} (h : isMod Z M) : (∀ L', L' = kyL L M → q_aload 0 (q_callV 12 fX12_begins 0 (q_aload 0 (q_callV 12 fX12_keepsRow 0 q_vret))) [some (Value.ref (M))] [] (I, L', Z) = Y) → (q_aload 0 (q_getR 12 9 (q_push 0 (q_push 99 (q_push 111 (q_push 108 (q_push 111 (q_push 117 (q_push 114 (q_push 115 (q_callS fX12_letters 7 (q_last (q_aload 0 (q_getR 12 9 (q_push 1 (q_push 99 (q_push 104 (q_push 105 (q_push 108 (q_push 100 (q_push 0 (q_push 0 (q_callS fX12_letters 7 (q_last (q_aload 0 (q_getR 12 9 (q_push 2 (q_push 114 (q_push 111 (q_push 119 (q_push 0 (q_push 0 (q_push 0 (q_push 0 (q_callS fX12_letters 7 (q_last (q_aload 0 (q_getR 12 9 (q_push 3 (q_push 119 (q_push 111 (q_push 114 (q_push 116 (q_push 104 (q_push 0 (q_push 0 (q_callS fX12_letters 7 (q_last (q_aload 0 (q_getR 12 9 (q_push 4 (q_push 99 (q_push 111 (q_push 115 (q_push 116 (q_push 115 (q_push 0 (q_push 0 (q_callS fX12_letters 7 (q_last (q_aload 0 (q_getR 12 9 (q_push 5 (q_push 111 (q_push 100 (q_push 100 (q_push 115 (q_push 0 (q_push 0 (q_push 0 (q_callS fX12_letters 7 (q_last (q_aload 0 (q_getR 12 9 (q_push 6 (q_push 112 (q_push 97 (q_push 121 (q_push 115 (q_push 0 (q_push 0 (q_push 0 (q_callS fX12_letters 7 (q_last (q_aload 0 (q_getR 12 9 (q_push 7 (q_push 115 (q_push 101 (q_push 101 (q_push 100 (q_push 0 (q_push 0 (q_push 0 (q_callS fX12_letters 7 (q_last (q_aload 0 (q_getR 12 9 (q_push 8 (q_push 105 (q_push 102 (q_push 0 (q_push 0 (q_push 0 (q_push 0 (q_push 0 (q_callS fX12_letters 7 (q_last (q_aload 0 (q_getR 12 9 (q_push 9 (q_push 116 (q_push 104 (q_push 101 (q_push 110 (q_push 0 (q_push 0 (q_push 0 (q_callS fX12_letters 7 (q_last (q_aload 0 (q_getR 12 9 (q_push 10 (q_push 101 (q_push 108 (q_push 115 (q_push 101 (q_push 0 (q_push 0 (q_push 0 (q_callS fX12_letters 7 (q_last (q_aload 0 (q_getR 12 9 (q_push 11 (q_push 99 (q_push 111 (q_push 108 (q_push 111 (q_push 117 (q_push 114 (q_push 0 (q_callS fX12_letters 7 (q_last (q_aload 0 (q_getR 12 9 (q_push 12 (q_push 115 (q_push 101 (q_push 97 (q_push 116 (q_push 0 (q_push 0 (q_push 0 (q_callS fX12_letters 7 (q_last (q_aload 0 (q_getR 12 9 (q_push 13 (q_push 100 (q_push 101 (q_push 112 (q_push 116 (q_push 104 (q_push 0 (q_push 0 (q_callS fX12_letters 7 (q_last (q_aload 0 (q_getR 12 9 (q_push 14 (q_push 108 (q_push 111 (q_push 110 (q_push 103 (q_push 0 (q_push 0 (q_push 0 (q_callS fX12_letters 7 (q_last (q_aload 0 (q_getR 12 9 (q_push 15 (q_push 109 (q_push 97 (q_push 110 (q_push 121 (q_push 0 (q_push 0 (q_push 0 (q_callS fX12_letters 7 (q_last (q_aload 0 (q_getR 12 9 (q_push 16 (q_push 116 (q_push 105 (q_push 109 (q_push 101 (q_push 0 (q_push 0 (q_push 0 (q_callS fX12_letters 7 (q_last (q_aload 0 (q_getR 12 9 (q_push 17 (q_push 119 (q_push 104 (q_push 105 (q_push 99 (q_push 104 (q_push 0 (q_push 0 (q_callS fX12_letters 7 (q_last (q_aload 0 (q_getR 12 9 (q_push 18 (q_push 108 (q_push 101 (q_push 102 (q_push 116 (q_push 0 (q_push 0 (q_push 0 (q_callS fX12_letters 7 (q_last (q_aload 0 (q_getR 12 9 (q_push 19 (q_push 114 (q_push 105 (q_push 103 (q_push 104 (q_push 116 (q_push 0 (q_push 0 (q_callS fX12_letters 7 (q_last (q_aload 0 (q_callV 12 fX12_begins 0 (q_aload 0 (q_callV 12 fX12_keepsRow 0 q_vret)))))))))))))))))))))))))))))))))))))))))))))))))))))))))))))))))))))))))))))))))))))))))))))))))))))))))))))))))))))))))))))))))))))))))))))))))))))))))))))))))))))))))))))))))))))))))))))))))))))))))))))))))))))))))))))))))))))))))))))))))))) [some (Value.ref (M))] [] (I, L, Z) = Y := by
  intro hY
  refine (c_key (i := 0) (c0 := 99) (c1 := 111) (c2 := 108) (c3 := 111) (c4 := 117) (c5 := 114) (c6 := 115) (v := 1384183423) h (by decide) (by unfold okL; decide) (by unfold okL; decide) (by unfold okL; decide) (by unfold okL; decide) (by unfold okL; decide) (by unfold okL; decide) (by unfold okL; decide) (by decide)).trans ?_
  refine (c_key (i := 1) (c0 := 99) (c1 := 104) (c2 := 105) (c3 := 108) (c4 := 100) (c5 := 0) (c6 := 0) (v := 1758676) h (by decide) (by unfold okL; decide) (by unfold okL; decide) (by unfold okL; decide) (by unfold okL; decide) (by unfold okL; decide) (by unfold okL; decide) (by unfold okL; decide) (by decide)).trans ?_
  refine (c_key (i := 2) (c0 := 114) (c1 := 111) (c2 := 119) (c3 := 0) (c4 := 0) (c5 := 0) (c6 := 0) (v := 13550) h (by decide) (by unfold okL; decide) (by unfold okL; decide) (by unfold okL; decide) (by unfold okL; decide) (by unfold okL; decide) (by unfold okL; decide) (by unfold okL; decide) (by decide)).trans ?_
  refine (c_key (i := 3) (c0 := 119) (c1 := 111) (c2 := 114) (c3 := 116) (c4 := 104) (c5 := 0) (c6 := 0) (v := 12532058) h (by decide) (by unfold okL; decide) (by unfold okL; decide) (by unfold okL; decide) (by unfold okL; decide) (by unfold okL; decide) (by unfold okL; decide) (by unfold okL; decide) (by decide)).trans ?_
  refine (c_key (i := 4) (c0 := 99) (c1 := 111) (c2 := 115) (c3 := 116) (c4 := 115) (c5 := 0) (c6 := 0) (v := 1903978) h (by decide) (by unfold okL; decide) (by unfold okL; decide) (by unfold okL; decide) (by unfold okL; decide) (by unfold okL; decide) (by unfold okL; decide) (by unfold okL; decide) (by decide)).trans ?_
  refine (c_key (i := 5) (c0 := 111) (c1 := 100) (c2 := 100) (c3 := 115) (c4 := 0) (c5 := 0) (c6 := 0) (v := 298288) h (by decide) (by unfold okL; decide) (by unfold okL; decide) (by unfold okL; decide) (by unfold okL; decide) (by unfold okL; decide) (by unfold okL; decide) (by unfold okL; decide) (by decide)).trans ?_
  refine (c_key (i := 6) (c0 := 112) (c1 := 97) (c2 := 121) (c3 := 115) (c4 := 0) (c5 := 0) (c6 := 0) (v := 316351) h (by decide) (by unfold okL; decide) (by unfold okL; decide) (by unfold okL; decide) (by unfold okL; decide) (by unfold okL; decide) (by unfold okL; decide) (by unfold okL; decide) (by decide)).trans ?_
  refine (c_key (i := 7) (c0 := 115) (c1 := 101) (c2 := 101) (c3 := 100) (c4 := 0) (c5 := 0) (c6 := 0) (v := 377761) h (by decide) (by unfold okL; decide) (by unfold okL; decide) (by unfold okL; decide) (by unfold okL; decide) (by unfold okL; decide) (by unfold okL; decide) (by unfold okL; decide) (by decide)).trans ?_
  refine (c_key (i := 8) (c0 := 105) (c1 := 102) (c2 := 0) (c3 := 0) (c4 := 0) (c5 := 0) (c6 := 0) (v := 249) h (by decide) (by unfold okL; decide) (by unfold okL; decide) (by unfold okL; decide) (by unfold okL; decide) (by unfold okL; decide) (by unfold okL; decide) (by unfold okL; decide) (by decide)).trans ?_
  refine (c_key (i := 9) (c0 := 116) (c1 := 104) (c2 := 101) (c3 := 110) (c4 := 0) (c5 := 0) (c6 := 0) (v := 399641) h (by decide) (by unfold okL; decide) (by unfold okL; decide) (by unfold okL; decide) (by unfold okL; decide) (by unfold okL; decide) (by unfold okL; decide) (by unfold okL; decide) (by decide)).trans ?_
  refine (c_key (i := 10) (c0 := 101) (c1 := 108) (c2 := 115) (c3 := 101) (c4 := 0) (c5 := 0) (c6 := 0) (v := 107681) h (by decide) (by unfold okL; decide) (by unfold okL; decide) (by unfold okL; decide) (by unfold okL; decide) (by unfold okL; decide) (by unfold okL; decide) (by unfold okL; decide) (by decide)).trans ?_
  refine (c_key (i := 11) (c0 := 99) (c1 := 111) (c2 := 108) (c3 := 111) (c4 := 117) (c5 := 114) (c6 := 0) (v := 51266052) h (by decide) (by unfold okL; decide) (by unfold okL; decide) (by unfold okL; decide) (by unfold okL; decide) (by unfold okL; decide) (by unfold okL; decide) (by unfold okL; decide) (by decide)).trans ?_
  refine (c_key (i := 12) (c0 := 115) (c1 := 101) (c2 := 97) (c3 := 116) (c4 := 0) (c5 := 0) (c6 := 0) (v := 377669) h (by decide) (by unfold okL; decide) (by unfold okL; decide) (by unfold okL; decide) (by unfold okL; decide) (by unfold okL; decide) (by unfold okL; decide) (by unfold okL; decide) (by decide)).trans ?_
  refine (c_key (i := 13) (c0 := 100) (c1 := 101) (c2 := 112) (c3 := 116) (c4 := 104) (c5 := 0) (c6 := 0) (v := 2236391) h (by decide) (by unfold okL; decide) (by unfold okL; decide) (by unfold okL; decide) (by unfold okL; decide) (by unfold okL; decide) (by unfold okL; decide) (by unfold okL; decide) (by decide)).trans ?_
  refine (c_key (i := 14) (c0 := 108) (c1 := 111) (c2 := 110) (c3 := 103) (c4 := 0) (c5 := 0) (c6 := 0) (v := 247516) h (by decide) (by unfold okL; decide) (by unfold okL; decide) (by unfold okL; decide) (by unfold okL; decide) (by unfold okL; decide) (by unfold okL; decide) (by unfold okL; decide) (by decide)).trans ?_
  refine (c_key (i := 15) (c0 := 109) (c1 := 97) (c2 := 110) (c3 := 121) (c4 := 0) (c5 := 0) (c6 := 0) (v := 257011) h (by decide) (by unfold okL; decide) (by unfold okL; decide) (by unfold okL; decide) (by unfold okL; decide) (by unfold okL; decide) (by unfold okL; decide) (by unfold okL; decide) (by decide)).trans ?_
  refine (c_key (i := 16) (c0 := 116) (c1 := 105) (c2 := 109) (c3 := 101) (c4 := 0) (c5 := 0) (c6 := 0) (v := 400577) h (by decide) (by unfold okL; decide) (by unfold okL; decide) (by unfold okL; decide) (by unfold okL; decide) (by unfold okL; decide) (by unfold okL; decide) (by unfold okL; decide) (by decide)).trans ?_
  refine (c_key (i := 17) (c0 := 119) (c1 := 104) (c2 := 105) (c3 := 99) (c4 := 104) (c5 := 0) (c6 := 0) (v := 12387257) h (by decide) (by unfold okL; decide) (by unfold okL; decide) (by unfold okL; decide) (by unfold okL; decide) (by unfold okL; decide) (by unfold okL; decide) (by unfold okL; decide) (by decide)).trans ?_
  refine (c_key (i := 18) (c0 := 108) (c1 := 101) (c2 := 102) (c3 := 116) (c4 := 0) (c5 := 0) (c6 := 0) (v := 240023) h (by decide) (by unfold okL; decide) (by unfold okL; decide) (by unfold okL; decide) (by unfold okL; decide) (by unfold okL; decide) (by unfold okL; decide) (by unfold okL; decide) (by decide)).trans ?_
  refine (c_key (i := 19) (c0 := 114) (c1 := 105) (c2 := 103) (c3 := 104) (c4 := 116) (c5 := 0) (c6 := 0) (v := 9748424) h (by decide) (by unfold okL; decide) (by unfold okL; decide) (by unfold okL; decide) (by unfold okL; decide) (by unfold okL; decide) (by unfold okL; decide) (by unfold okL; decide) (by decide)).trans ?_
  exact hY _ rfl
