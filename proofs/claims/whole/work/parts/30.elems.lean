/-! the bytes of the String constants, among what the Statement gives -/
def z_tm (i : Nat) : Term := if i = 0 then Term.string "RowChildren$Tokens" 74 else Term.string "RowChildren$Tokens" 63
def z_flt : List Cond := flatC (Jvm.Cond.and given_1 narrow_1)
def z_elc (i j : Nat) : Cond := Cond.eq (.elem (.field (z_tm i) "java/lang/String" "value" "[B") (.int (Int32.ofNat j))) (.int ((z_byt.getD i []).getD j 0))
theorem z_el0_0 : z_elc 0 0 ∈ z_flt := List.mem_of_getElem? (i := 13) (by decide +kernel)
theorem z_el0_1 : z_elc 0 1 ∈ z_flt := List.mem_of_getElem? (i := 14) (by decide +kernel)
theorem z_el0_2 : z_elc 0 2 ∈ z_flt := List.mem_of_getElem? (i := 15) (by decide +kernel)
theorem z_el0_3 : z_elc 0 3 ∈ z_flt := List.mem_of_getElem? (i := 16) (by decide +kernel)
theorem z_el0_4 : z_elc 0 4 ∈ z_flt := List.mem_of_getElem? (i := 17) (by decide +kernel)
theorem z_el0_5 : z_elc 0 5 ∈ z_flt := List.mem_of_getElem? (i := 18) (by decide +kernel)
theorem z_el0_6 : z_elc 0 6 ∈ z_flt := List.mem_of_getElem? (i := 19) (by decide +kernel)
theorem z_el0_7 : z_elc 0 7 ∈ z_flt := List.mem_of_getElem? (i := 20) (by decide +kernel)
theorem z_el0_8 : z_elc 0 8 ∈ z_flt := List.mem_of_getElem? (i := 21) (by decide +kernel)
theorem z_el0_9 : z_elc 0 9 ∈ z_flt := List.mem_of_getElem? (i := 22) (by decide +kernel)
theorem z_el0_10 : z_elc 0 10 ∈ z_flt := List.mem_of_getElem? (i := 23) (by decide +kernel)
theorem z_el0_11 : z_elc 0 11 ∈ z_flt := List.mem_of_getElem? (i := 24) (by decide +kernel)
theorem z_el0_12 : z_elc 0 12 ∈ z_flt := List.mem_of_getElem? (i := 25) (by decide +kernel)
theorem z_el0_13 : z_elc 0 13 ∈ z_flt := List.mem_of_getElem? (i := 26) (by decide +kernel)
theorem z_el0_14 : z_elc 0 14 ∈ z_flt := List.mem_of_getElem? (i := 27) (by decide +kernel)
theorem z_el0_15 : z_elc 0 15 ∈ z_flt := List.mem_of_getElem? (i := 28) (by decide +kernel)
theorem z_el0_16 : z_elc 0 16 ∈ z_flt := List.mem_of_getElem? (i := 29) (by decide +kernel)
theorem z_el0_17 : z_elc 0 17 ∈ z_flt := List.mem_of_getElem? (i := 30) (by decide +kernel)
theorem z_el0_18 : z_elc 0 18 ∈ z_flt := List.mem_of_getElem? (i := 31) (by decide +kernel)
theorem z_el0_19 : z_elc 0 19 ∈ z_flt := List.mem_of_getElem? (i := 32) (by decide +kernel)
theorem z_el0_20 : z_elc 0 20 ∈ z_flt := List.mem_of_getElem? (i := 33) (by decide +kernel)
theorem z_el0_21 : z_elc 0 21 ∈ z_flt := List.mem_of_getElem? (i := 34) (by decide +kernel)
theorem z_el0_22 : z_elc 0 22 ∈ z_flt := List.mem_of_getElem? (i := 35) (by decide +kernel)
theorem z_el0_23 : z_elc 0 23 ∈ z_flt := List.mem_of_getElem? (i := 36) (by decide +kernel)
theorem z_el0_24 : z_elc 0 24 ∈ z_flt := List.mem_of_getElem? (i := 37) (by decide +kernel)
theorem z_el0_25 : z_elc 0 25 ∈ z_flt := List.mem_of_getElem? (i := 38) (by decide +kernel)
theorem z_el0_26 : z_elc 0 26 ∈ z_flt := List.mem_of_getElem? (i := 39) (by decide +kernel)
theorem z_el0_27 : z_elc 0 27 ∈ z_flt := List.mem_of_getElem? (i := 40) (by decide +kernel)
theorem z_el0_28 : z_elc 0 28 ∈ z_flt := List.mem_of_getElem? (i := 41) (by decide +kernel)
theorem z_el0_29 : z_elc 0 29 ∈ z_flt := List.mem_of_getElem? (i := 42) (by decide +kernel)
theorem z_el0_30 : z_elc 0 30 ∈ z_flt := List.mem_of_getElem? (i := 43) (by decide +kernel)
theorem z_el0_31 : z_elc 0 31 ∈ z_flt := List.mem_of_getElem? (i := 44) (by decide +kernel)
theorem z_el0_32 : z_elc 0 32 ∈ z_flt := List.mem_of_getElem? (i := 45) (by decide +kernel)
theorem z_el0_33 : z_elc 0 33 ∈ z_flt := List.mem_of_getElem? (i := 46) (by decide +kernel)
theorem z_el0_34 : z_elc 0 34 ∈ z_flt := List.mem_of_getElem? (i := 47) (by decide +kernel)
theorem z_el0_35 : z_elc 0 35 ∈ z_flt := List.mem_of_getElem? (i := 48) (by decide +kernel)
theorem z_el0_36 : z_elc 0 36 ∈ z_flt := List.mem_of_getElem? (i := 49) (by decide +kernel)
theorem z_el0_37 : z_elc 0 37 ∈ z_flt := List.mem_of_getElem? (i := 50) (by decide +kernel)
theorem z_el0_38 : z_elc 0 38 ∈ z_flt := List.mem_of_getElem? (i := 51) (by decide +kernel)
theorem z_el0_39 : z_elc 0 39 ∈ z_flt := List.mem_of_getElem? (i := 52) (by decide +kernel)
theorem z_el0_40 : z_elc 0 40 ∈ z_flt := List.mem_of_getElem? (i := 53) (by decide +kernel)
theorem z_el0_41 : z_elc 0 41 ∈ z_flt := List.mem_of_getElem? (i := 54) (by decide +kernel)
theorem z_el0_42 : z_elc 0 42 ∈ z_flt := List.mem_of_getElem? (i := 55) (by decide +kernel)
theorem z_el0_43 : z_elc 0 43 ∈ z_flt := List.mem_of_getElem? (i := 56) (by decide +kernel)
theorem z_el0_44 : z_elc 0 44 ∈ z_flt := List.mem_of_getElem? (i := 57) (by decide +kernel)
theorem z_el0_45 : z_elc 0 45 ∈ z_flt := List.mem_of_getElem? (i := 58) (by decide +kernel)
theorem z_el0_46 : z_elc 0 46 ∈ z_flt := List.mem_of_getElem? (i := 59) (by decide +kernel)
theorem z_el0_47 : z_elc 0 47 ∈ z_flt := List.mem_of_getElem? (i := 60) (by decide +kernel)
theorem z_el0_48 : z_elc 0 48 ∈ z_flt := List.mem_of_getElem? (i := 61) (by decide +kernel)
theorem z_el0_49 : z_elc 0 49 ∈ z_flt := List.mem_of_getElem? (i := 62) (by decide +kernel)
theorem z_el0_50 : z_elc 0 50 ∈ z_flt := List.mem_of_getElem? (i := 63) (by decide +kernel)
theorem z_el0_51 : z_elc 0 51 ∈ z_flt := List.mem_of_getElem? (i := 64) (by decide +kernel)
theorem z_el0_52 : z_elc 0 52 ∈ z_flt := List.mem_of_getElem? (i := 65) (by decide +kernel)
theorem z_el0_53 : z_elc 0 53 ∈ z_flt := List.mem_of_getElem? (i := 66) (by decide +kernel)
theorem z_el0_54 : z_elc 0 54 ∈ z_flt := List.mem_of_getElem? (i := 67) (by decide +kernel)
theorem z_el0_55 : z_elc 0 55 ∈ z_flt := List.mem_of_getElem? (i := 68) (by decide +kernel)
theorem z_el0_56 : z_elc 0 56 ∈ z_flt := List.mem_of_getElem? (i := 69) (by decide +kernel)
theorem z_el0_57 : z_elc 0 57 ∈ z_flt := List.mem_of_getElem? (i := 70) (by decide +kernel)
theorem z_el0_58 : z_elc 0 58 ∈ z_flt := List.mem_of_getElem? (i := 71) (by decide +kernel)
theorem z_el0_59 : z_elc 0 59 ∈ z_flt := List.mem_of_getElem? (i := 72) (by decide +kernel)
theorem z_el0_60 : z_elc 0 60 ∈ z_flt := List.mem_of_getElem? (i := 73) (by decide +kernel)
theorem z_el0_61 : z_elc 0 61 ∈ z_flt := List.mem_of_getElem? (i := 74) (by decide +kernel)
theorem z_el0_62 : z_elc 0 62 ∈ z_flt := List.mem_of_getElem? (i := 75) (by decide +kernel)
theorem z_el0_63 : z_elc 0 63 ∈ z_flt := List.mem_of_getElem? (i := 76) (by decide +kernel)
theorem z_el0_64 : z_elc 0 64 ∈ z_flt := List.mem_of_getElem? (i := 77) (by decide +kernel)
theorem z_el0_65 : z_elc 0 65 ∈ z_flt := List.mem_of_getElem? (i := 78) (by decide +kernel)
theorem z_el0_66 : z_elc 0 66 ∈ z_flt := List.mem_of_getElem? (i := 79) (by decide +kernel)
theorem z_el0_67 : z_elc 0 67 ∈ z_flt := List.mem_of_getElem? (i := 80) (by decide +kernel)
theorem z_el0_68 : z_elc 0 68 ∈ z_flt := List.mem_of_getElem? (i := 81) (by decide +kernel)
theorem z_el0_69 : z_elc 0 69 ∈ z_flt := List.mem_of_getElem? (i := 82) (by decide +kernel)
theorem z_el0_70 : z_elc 0 70 ∈ z_flt := List.mem_of_getElem? (i := 83) (by decide +kernel)
theorem z_el0_71 : z_elc 0 71 ∈ z_flt := List.mem_of_getElem? (i := 84) (by decide +kernel)
theorem z_el0_72 : z_elc 0 72 ∈ z_flt := List.mem_of_getElem? (i := 85) (by decide +kernel)
theorem z_el0_73 : z_elc 0 73 ∈ z_flt := List.mem_of_getElem? (i := 86) (by decide +kernel)
theorem z_el0_74 : z_elc 0 74 ∈ z_flt := List.mem_of_getElem? (i := 87) (by decide +kernel)
theorem z_el0_75 : z_elc 0 75 ∈ z_flt := List.mem_of_getElem? (i := 88) (by decide +kernel)
theorem z_el0_76 : z_elc 0 76 ∈ z_flt := List.mem_of_getElem? (i := 89) (by decide +kernel)
theorem z_el0_77 : z_elc 0 77 ∈ z_flt := List.mem_of_getElem? (i := 90) (by decide +kernel)
theorem z_el0_78 : z_elc 0 78 ∈ z_flt := List.mem_of_getElem? (i := 91) (by decide +kernel)
theorem z_el0_79 : z_elc 0 79 ∈ z_flt := List.mem_of_getElem? (i := 92) (by decide +kernel)
theorem z_el0_80 : z_elc 0 80 ∈ z_flt := List.mem_of_getElem? (i := 93) (by decide +kernel)
theorem z_el0_81 : z_elc 0 81 ∈ z_flt := List.mem_of_getElem? (i := 94) (by decide +kernel)
theorem z_el0_82 : z_elc 0 82 ∈ z_flt := List.mem_of_getElem? (i := 95) (by decide +kernel)
theorem z_el0_83 : z_elc 0 83 ∈ z_flt := List.mem_of_getElem? (i := 96) (by decide +kernel)
theorem z_el0_84 : z_elc 0 84 ∈ z_flt := List.mem_of_getElem? (i := 97) (by decide +kernel)
theorem z_el0_85 : z_elc 0 85 ∈ z_flt := List.mem_of_getElem? (i := 98) (by decide +kernel)
theorem z_el0_86 : z_elc 0 86 ∈ z_flt := List.mem_of_getElem? (i := 99) (by decide +kernel)
theorem z_el0_87 : z_elc 0 87 ∈ z_flt := List.mem_of_getElem? (i := 100) (by decide +kernel)
theorem z_el0_88 : z_elc 0 88 ∈ z_flt := List.mem_of_getElem? (i := 101) (by decide +kernel)
theorem z_el0_89 : z_elc 0 89 ∈ z_flt := List.mem_of_getElem? (i := 102) (by decide +kernel)
theorem z_el0_90 : z_elc 0 90 ∈ z_flt := List.mem_of_getElem? (i := 103) (by decide +kernel)
theorem z_el0_91 : z_elc 0 91 ∈ z_flt := List.mem_of_getElem? (i := 104) (by decide +kernel)
theorem z_el0_92 : z_elc 0 92 ∈ z_flt := List.mem_of_getElem? (i := 105) (by decide +kernel)
theorem z_el0_93 : z_elc 0 93 ∈ z_flt := List.mem_of_getElem? (i := 106) (by decide +kernel)
theorem z_el0_94 : z_elc 0 94 ∈ z_flt := List.mem_of_getElem? (i := 107) (by decide +kernel)
theorem z_el0_95 : z_elc 0 95 ∈ z_flt := List.mem_of_getElem? (i := 108) (by decide +kernel)
theorem z_el0_96 : z_elc 0 96 ∈ z_flt := List.mem_of_getElem? (i := 109) (by decide +kernel)
theorem z_el0_97 : z_elc 0 97 ∈ z_flt := List.mem_of_getElem? (i := 110) (by decide +kernel)
theorem z_el0_98 : z_elc 0 98 ∈ z_flt := List.mem_of_getElem? (i := 111) (by decide +kernel)
theorem z_el0_99 : z_elc 0 99 ∈ z_flt := List.mem_of_getElem? (i := 112) (by decide +kernel)
theorem z_el0_100 : z_elc 0 100 ∈ z_flt := List.mem_of_getElem? (i := 113) (by decide +kernel)
theorem z_el0_101 : z_elc 0 101 ∈ z_flt := List.mem_of_getElem? (i := 114) (by decide +kernel)
theorem z_el0_102 : z_elc 0 102 ∈ z_flt := List.mem_of_getElem? (i := 115) (by decide +kernel)
theorem z_el0_103 : z_elc 0 103 ∈ z_flt := List.mem_of_getElem? (i := 116) (by decide +kernel)
theorem z_el0_104 : z_elc 0 104 ∈ z_flt := List.mem_of_getElem? (i := 117) (by decide +kernel)
theorem z_el0_105 : z_elc 0 105 ∈ z_flt := List.mem_of_getElem? (i := 118) (by decide +kernel)
theorem z_el0_106 : z_elc 0 106 ∈ z_flt := List.mem_of_getElem? (i := 119) (by decide +kernel)
theorem z_el0_107 : z_elc 0 107 ∈ z_flt := List.mem_of_getElem? (i := 120) (by decide +kernel)
theorem z_el0_108 : z_elc 0 108 ∈ z_flt := List.mem_of_getElem? (i := 121) (by decide +kernel)
theorem z_el0_109 : z_elc 0 109 ∈ z_flt := List.mem_of_getElem? (i := 122) (by decide +kernel)
theorem z_el0_110 : z_elc 0 110 ∈ z_flt := List.mem_of_getElem? (i := 123) (by decide +kernel)
theorem z_el0_111 : z_elc 0 111 ∈ z_flt := List.mem_of_getElem? (i := 124) (by decide +kernel)
theorem z_el0_112 : z_elc 0 112 ∈ z_flt := List.mem_of_getElem? (i := 125) (by decide +kernel)
theorem z_el0_113 : z_elc 0 113 ∈ z_flt := List.mem_of_getElem? (i := 126) (by decide +kernel)
theorem z_el0_114 : z_elc 0 114 ∈ z_flt := List.mem_of_getElem? (i := 127) (by decide +kernel)
theorem z_el0_115 : z_elc 0 115 ∈ z_flt := List.mem_of_getElem? (i := 128) (by decide +kernel)
theorem z_el0_116 : z_elc 0 116 ∈ z_flt := List.mem_of_getElem? (i := 129) (by decide +kernel)
theorem z_el0_117 : z_elc 0 117 ∈ z_flt := List.mem_of_getElem? (i := 130) (by decide +kernel)
theorem z_el0_118 : z_elc 0 118 ∈ z_flt := List.mem_of_getElem? (i := 131) (by decide +kernel)
theorem z_el0_119 : z_elc 0 119 ∈ z_flt := List.mem_of_getElem? (i := 132) (by decide +kernel)
theorem z_el0_120 : z_elc 0 120 ∈ z_flt := List.mem_of_getElem? (i := 133) (by decide +kernel)
theorem z_el0_121 : z_elc 0 121 ∈ z_flt := List.mem_of_getElem? (i := 134) (by decide +kernel)
theorem z_el0_122 : z_elc 0 122 ∈ z_flt := List.mem_of_getElem? (i := 135) (by decide +kernel)
theorem z_el0_123 : z_elc 0 123 ∈ z_flt := List.mem_of_getElem? (i := 136) (by decide +kernel)
theorem z_el0_124 : z_elc 0 124 ∈ z_flt := List.mem_of_getElem? (i := 137) (by decide +kernel)
theorem z_el0_125 : z_elc 0 125 ∈ z_flt := List.mem_of_getElem? (i := 138) (by decide +kernel)
theorem z_el0_126 : z_elc 0 126 ∈ z_flt := List.mem_of_getElem? (i := 139) (by decide +kernel)
theorem z_el0_127 : z_elc 0 127 ∈ z_flt := List.mem_of_getElem? (i := 140) (by decide +kernel)
theorem z_el0_128 : z_elc 0 128 ∈ z_flt := List.mem_of_getElem? (i := 141) (by decide +kernel)
theorem z_el0_129 : z_elc 0 129 ∈ z_flt := List.mem_of_getElem? (i := 142) (by decide +kernel)
theorem z_el0_130 : z_elc 0 130 ∈ z_flt := List.mem_of_getElem? (i := 143) (by decide +kernel)
theorem z_el0_131 : z_elc 0 131 ∈ z_flt := List.mem_of_getElem? (i := 144) (by decide +kernel)
theorem z_el0_132 : z_elc 0 132 ∈ z_flt := List.mem_of_getElem? (i := 145) (by decide +kernel)
theorem z_el0_133 : z_elc 0 133 ∈ z_flt := List.mem_of_getElem? (i := 146) (by decide +kernel)
theorem z_el0_134 : z_elc 0 134 ∈ z_flt := List.mem_of_getElem? (i := 147) (by decide +kernel)
theorem z_el0_135 : z_elc 0 135 ∈ z_flt := List.mem_of_getElem? (i := 148) (by decide +kernel)
theorem z_el0_136 : z_elc 0 136 ∈ z_flt := List.mem_of_getElem? (i := 149) (by decide +kernel)
theorem z_el0_137 : z_elc 0 137 ∈ z_flt := List.mem_of_getElem? (i := 150) (by decide +kernel)
theorem z_el0_138 : z_elc 0 138 ∈ z_flt := List.mem_of_getElem? (i := 151) (by decide +kernel)
theorem z_el0_139 : z_elc 0 139 ∈ z_flt := List.mem_of_getElem? (i := 152) (by decide +kernel)
theorem z_el0_140 : z_elc 0 140 ∈ z_flt := List.mem_of_getElem? (i := 153) (by decide +kernel)
theorem z_el0_141 : z_elc 0 141 ∈ z_flt := List.mem_of_getElem? (i := 154) (by decide +kernel)
theorem z_el0_142 : z_elc 0 142 ∈ z_flt := List.mem_of_getElem? (i := 155) (by decide +kernel)
theorem z_el0_143 : z_elc 0 143 ∈ z_flt := List.mem_of_getElem? (i := 156) (by decide +kernel)
theorem z_el0_144 : z_elc 0 144 ∈ z_flt := List.mem_of_getElem? (i := 157) (by decide +kernel)
theorem z_el0_145 : z_elc 0 145 ∈ z_flt := List.mem_of_getElem? (i := 158) (by decide +kernel)
theorem z_el0_146 : z_elc 0 146 ∈ z_flt := List.mem_of_getElem? (i := 159) (by decide +kernel)
theorem z_el0_147 : z_elc 0 147 ∈ z_flt := List.mem_of_getElem? (i := 160) (by decide +kernel)
theorem z_el0_148 : z_elc 0 148 ∈ z_flt := List.mem_of_getElem? (i := 161) (by decide +kernel)
theorem z_el0_149 : z_elc 0 149 ∈ z_flt := List.mem_of_getElem? (i := 162) (by decide +kernel)
theorem z_el0_150 : z_elc 0 150 ∈ z_flt := List.mem_of_getElem? (i := 163) (by decide +kernel)
theorem z_el0_151 : z_elc 0 151 ∈ z_flt := List.mem_of_getElem? (i := 164) (by decide +kernel)
theorem z_el0_152 : z_elc 0 152 ∈ z_flt := List.mem_of_getElem? (i := 165) (by decide +kernel)
theorem z_el0_153 : z_elc 0 153 ∈ z_flt := List.mem_of_getElem? (i := 166) (by decide +kernel)
theorem z_el0_154 : z_elc 0 154 ∈ z_flt := List.mem_of_getElem? (i := 167) (by decide +kernel)
theorem z_el0_155 : z_elc 0 155 ∈ z_flt := List.mem_of_getElem? (i := 168) (by decide +kernel)
theorem z_el0_156 : z_elc 0 156 ∈ z_flt := List.mem_of_getElem? (i := 169) (by decide +kernel)
theorem z_el0_157 : z_elc 0 157 ∈ z_flt := List.mem_of_getElem? (i := 170) (by decide +kernel)
theorem z_el0_158 : z_elc 0 158 ∈ z_flt := List.mem_of_getElem? (i := 171) (by decide +kernel)
theorem z_el0_159 : z_elc 0 159 ∈ z_flt := List.mem_of_getElem? (i := 172) (by decide +kernel)
theorem z_el1_0 : z_elc 1 0 ∈ z_flt := List.mem_of_getElem? (i := 177) (by decide +kernel)
theorem z_el1_1 : z_elc 1 1 ∈ z_flt := List.mem_of_getElem? (i := 178) (by decide +kernel)
theorem z_el1_2 : z_elc 1 2 ∈ z_flt := List.mem_of_getElem? (i := 179) (by decide +kernel)
theorem z_el1_3 : z_elc 1 3 ∈ z_flt := List.mem_of_getElem? (i := 180) (by decide +kernel)
theorem z_el1_4 : z_elc 1 4 ∈ z_flt := List.mem_of_getElem? (i := 181) (by decide +kernel)
theorem z_el1_5 : z_elc 1 5 ∈ z_flt := List.mem_of_getElem? (i := 182) (by decide +kernel)
theorem z_el1_6 : z_elc 1 6 ∈ z_flt := List.mem_of_getElem? (i := 183) (by decide +kernel)
theorem z_el1_7 : z_elc 1 7 ∈ z_flt := List.mem_of_getElem? (i := 184) (by decide +kernel)
theorem z_el1_8 : z_elc 1 8 ∈ z_flt := List.mem_of_getElem? (i := 185) (by decide +kernel)
set_option maxRecDepth 100000 in
theorem z_elA0 : ∀ j, j < 160 → z_elc 0 j ∈ z_flt := fun j hj => match j, hj with
  | 0, _ => z_el0_0
  | 1, _ => z_el0_1
  | 2, _ => z_el0_2
  | 3, _ => z_el0_3
  | 4, _ => z_el0_4
  | 5, _ => z_el0_5
  | 6, _ => z_el0_6
  | 7, _ => z_el0_7
  | 8, _ => z_el0_8
  | 9, _ => z_el0_9
  | 10, _ => z_el0_10
  | 11, _ => z_el0_11
  | 12, _ => z_el0_12
  | 13, _ => z_el0_13
  | 14, _ => z_el0_14
  | 15, _ => z_el0_15
  | 16, _ => z_el0_16
  | 17, _ => z_el0_17
  | 18, _ => z_el0_18
  | 19, _ => z_el0_19
  | 20, _ => z_el0_20
  | 21, _ => z_el0_21
  | 22, _ => z_el0_22
  | 23, _ => z_el0_23
  | 24, _ => z_el0_24
  | 25, _ => z_el0_25
  | 26, _ => z_el0_26
  | 27, _ => z_el0_27
  | 28, _ => z_el0_28
  | 29, _ => z_el0_29
  | 30, _ => z_el0_30
  | 31, _ => z_el0_31
  | 32, _ => z_el0_32
  | 33, _ => z_el0_33
  | 34, _ => z_el0_34
  | 35, _ => z_el0_35
  | 36, _ => z_el0_36
  | 37, _ => z_el0_37
  | 38, _ => z_el0_38
  | 39, _ => z_el0_39
  | 40, _ => z_el0_40
  | 41, _ => z_el0_41
  | 42, _ => z_el0_42
  | 43, _ => z_el0_43
  | 44, _ => z_el0_44
  | 45, _ => z_el0_45
  | 46, _ => z_el0_46
  | 47, _ => z_el0_47
  | 48, _ => z_el0_48
  | 49, _ => z_el0_49
  | 50, _ => z_el0_50
  | 51, _ => z_el0_51
  | 52, _ => z_el0_52
  | 53, _ => z_el0_53
  | 54, _ => z_el0_54
  | 55, _ => z_el0_55
  | 56, _ => z_el0_56
  | 57, _ => z_el0_57
  | 58, _ => z_el0_58
  | 59, _ => z_el0_59
  | 60, _ => z_el0_60
  | 61, _ => z_el0_61
  | 62, _ => z_el0_62
  | 63, _ => z_el0_63
  | 64, _ => z_el0_64
  | 65, _ => z_el0_65
  | 66, _ => z_el0_66
  | 67, _ => z_el0_67
  | 68, _ => z_el0_68
  | 69, _ => z_el0_69
  | 70, _ => z_el0_70
  | 71, _ => z_el0_71
  | 72, _ => z_el0_72
  | 73, _ => z_el0_73
  | 74, _ => z_el0_74
  | 75, _ => z_el0_75
  | 76, _ => z_el0_76
  | 77, _ => z_el0_77
  | 78, _ => z_el0_78
  | 79, _ => z_el0_79
  | 80, _ => z_el0_80
  | 81, _ => z_el0_81
  | 82, _ => z_el0_82
  | 83, _ => z_el0_83
  | 84, _ => z_el0_84
  | 85, _ => z_el0_85
  | 86, _ => z_el0_86
  | 87, _ => z_el0_87
  | 88, _ => z_el0_88
  | 89, _ => z_el0_89
  | 90, _ => z_el0_90
  | 91, _ => z_el0_91
  | 92, _ => z_el0_92
  | 93, _ => z_el0_93
  | 94, _ => z_el0_94
  | 95, _ => z_el0_95
  | 96, _ => z_el0_96
  | 97, _ => z_el0_97
  | 98, _ => z_el0_98
  | 99, _ => z_el0_99
  | 100, _ => z_el0_100
  | 101, _ => z_el0_101
  | 102, _ => z_el0_102
  | 103, _ => z_el0_103
  | 104, _ => z_el0_104
  | 105, _ => z_el0_105
  | 106, _ => z_el0_106
  | 107, _ => z_el0_107
  | 108, _ => z_el0_108
  | 109, _ => z_el0_109
  | 110, _ => z_el0_110
  | 111, _ => z_el0_111
  | 112, _ => z_el0_112
  | 113, _ => z_el0_113
  | 114, _ => z_el0_114
  | 115, _ => z_el0_115
  | 116, _ => z_el0_116
  | 117, _ => z_el0_117
  | 118, _ => z_el0_118
  | 119, _ => z_el0_119
  | 120, _ => z_el0_120
  | 121, _ => z_el0_121
  | 122, _ => z_el0_122
  | 123, _ => z_el0_123
  | 124, _ => z_el0_124
  | 125, _ => z_el0_125
  | 126, _ => z_el0_126
  | 127, _ => z_el0_127
  | 128, _ => z_el0_128
  | 129, _ => z_el0_129
  | 130, _ => z_el0_130
  | 131, _ => z_el0_131
  | 132, _ => z_el0_132
  | 133, _ => z_el0_133
  | 134, _ => z_el0_134
  | 135, _ => z_el0_135
  | 136, _ => z_el0_136
  | 137, _ => z_el0_137
  | 138, _ => z_el0_138
  | 139, _ => z_el0_139
  | 140, _ => z_el0_140
  | 141, _ => z_el0_141
  | 142, _ => z_el0_142
  | 143, _ => z_el0_143
  | 144, _ => z_el0_144
  | 145, _ => z_el0_145
  | 146, _ => z_el0_146
  | 147, _ => z_el0_147
  | 148, _ => z_el0_148
  | 149, _ => z_el0_149
  | 150, _ => z_el0_150
  | 151, _ => z_el0_151
  | 152, _ => z_el0_152
  | 153, _ => z_el0_153
  | 154, _ => z_el0_154
  | 155, _ => z_el0_155
  | 156, _ => z_el0_156
  | 157, _ => z_el0_157
  | 158, _ => z_el0_158
  | 159, _ => z_el0_159
  | j + 160, h => absurd h (by omega)
set_option maxRecDepth 100000 in
theorem z_elA1 : ∀ j, j < 9 → z_elc 1 j ∈ z_flt := fun j hj => match j, hj with
  | 0, _ => z_el1_0
  | 1, _ => z_el1_1
  | 2, _ => z_el1_2
  | 3, _ => z_el1_3
  | 4, _ => z_el1_4
  | 5, _ => z_el1_5
  | 6, _ => z_el1_6
  | 7, _ => z_el1_7
  | 8, _ => z_el1_8
  | j + 9, h => absurd h (by omega)
