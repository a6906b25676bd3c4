/-! printed by wip/whole/gen2.py: shapes; rows of the flat machine -/
def shL : List (Nat × Nat) := [(11, 12), (9, 6), (61, 600), (10, 4), (8, 3), (4, 4), (60, 21), (64, 21), (60, 24), (60, 24), (60, 24), (60, 24), (60, 24), (60, 24), (60, 24), (60, 24), (60, 24), (60, 24), (60, 24), (60, 24), (60, 24), (60, 24), (60, 24), (60, 24), (60, 24), (60, 24), (60, 24), (60, 24), (60, 24), (64, 21), (60, 24), (60, 24), (60, 24), (60, 24), (60, 24), (60, 24), (60, 24), (60, 24), (60, 24), (60, 24), (60, 24), (60, 24), (60, 24), (60, 24), (60, 24), (60, 24), (60, 24), (60, 24), (60, 24), (60, 24), (60, 24), (60, 8), (60, 5), (75, 6), (5, 9), (60, 8), (60, 8), (60, 8), (60, 8), (60, 150), (60, 150), (0, 4), (60, 10), (60, 10), (60, 10), (5, 9), (60, 8), (60, 8), (60, 8), (60, 8), (60, 150), (60, 150), (5, 9), (60, 8), (60, 8), (60, 8), (60, 8), (60, 150), (60, 150), (5, 9), (60, 8), (60, 8), (60, 8), (60, 8), (60, 150), (60, 150), (5, 9), (60, 8), (60, 8), (60, 8), (60, 8), (60, 150), (60, 150), (5, 9), (60, 8), (60, 8), (60, 8), (60, 8), (60, 150), (60, 150), (5, 9), (60, 8), (60, 8), (60, 8), (60, 8), (60, 150), (60, 150), (8, 3), (4, 4), (60, 21), (64, 21), (60, 24), (60, 24), (60, 24), (60, 24), (60, 24), (60, 24), (60, 24), (60, 24), (60, 24), (60, 24), (60, 24), (60, 24), (60, 24), (60, 24), (60, 24), (60, 24), (60, 24), (60, 24), (60, 24), (60, 24), (60, 24), (64, 21), (60, 24), (60, 24), (60, 24), (60, 24), (60, 24), (60, 24), (60, 24), (60, 24), (60, 24), (60, 24), (60, 24), (60, 24), (60, 24), (60, 24), (60, 24), (60, 24), (60, 24), (60, 24), (60, 24), (60, 24), (60, 24), (60, 8), (60, 5), (5, 9), (60, 8), (60, 8), (60, 8), (60, 8), (60, 150), (60, 150), (0, 4), (60, 10), (60, 10), (60, 10), (74, 3), (4, 4), (60, 21), (64, 21), (60, 24), (60, 24), (60, 24), (60, 24), (60, 24), (60, 24), (60, 24), (60, 24), (60, 24), (60, 24), (60, 24), (60, 24), (60, 24), (60, 24), (60, 24), (60, 24), (60, 24), (60, 24), (60, 24), (60, 24), (60, 24), (64, 21), (60, 24), (60, 24), (60, 24), (60, 24), (60, 24), (60, 24), (60, 24), (60, 24), (60, 24), (60, 24), (60, 24), (60, 24), (60, 24), (60, 24), (60, 24), (60, 24), (60, 24), (60, 24), (60, 24), (60, 24), (60, 24), (4, 4), (60, 21), (64, 21), (60, 24), (60, 24), (60, 24), (60, 24), (60, 24), (60, 24), (60, 24), (60, 24), (60, 24), (60, 24), (60, 24), (60, 24), (60, 24), (60, 24), (60, 24), (60, 24), (60, 24), (60, 24), (60, 24), (60, 24), (60, 24), (64, 21), (60, 24), (60, 24), (60, 24), (60, 24), (60, 24), (60, 24), (60, 24), (60, 24), (60, 24), (60, 24), (60, 24), (60, 24), (60, 24), (60, 24), (60, 24), (60, 24), (60, 24), (60, 24), (60, 24), (60, 24), (60, 24), (4, 4), (60, 21), (64, 21), (60, 24), (60, 24), (60, 24), (60, 24), (60, 24), (60, 24), (60, 24), (60, 24), (60, 24), (60, 24), (60, 24), (60, 24), (60, 24), (60, 24), (60, 24), (60, 24), (60, 24), (60, 24), (60, 24), (60, 24), (60, 24), (64, 21), (60, 24), (60, 24), (60, 24), (60, 24), (60, 24), (60, 24), (60, 24), (60, 24), (60, 24), (60, 24), (60, 24), (60, 24), (60, 24), (60, 24), (60, 24), (60, 24), (60, 24), (60, 24), (60, 24), (60, 24), (60, 24), (6, 16), (7, 14), (60, 91), (60, 91), (2, 12), (60, 8), (60, 25), (60, 104), (62, 6), (75, 6), (1, 3), (60, 9100), (62, 9100), (1, 3), (60, 9100), (62, 9100), (60, 252), (62, 252), (62, 252), (65, 24), (62, 6), (62, 6), (62, 6), (62, 6), (62, 6), (62, 6), (62, 6), (62, 6), (62, 6), (62, 6), (62, 6), (62, 6), (62, 6), (62, 6), (62, 6), (62, 6), (62, 6), (62, 6), (62, 6), (62, 6), (62, 6), (62, 6), (62, 6), (62, 6), (65, 24), (62, 182), (62, 182), (62, 182), (62, 182), (62, 182), (62, 182), (62, 182), (62, 182), (62, 182), (62, 182), (62, 182), (62, 182), (62, 182), (62, 182), (62, 182), (62, 182), (62, 182), (62, 182), (62, 182), (62, 182), (62, 182), (62, 182), (62, 182), (62, 182), (60, 24), (62, 6), (65, 24), (62, 6), (62, 6), (62, 6), (62, 6), (62, 6), (62, 6), (62, 6), (62, 6), (62, 6), (62, 6), (62, 6), (62, 6), (62, 6), (62, 6), (62, 6), (62, 6), (62, 6), (62, 6), (62, 6), (62, 6), (62, 6), (62, 6), (62, 6), (62, 6), (65, 24), (62, 4), (62, 4), (62, 4), (62, 4), (62, 4), (62, 4), (62, 4), (62, 4), (62, 4), (62, 4), (62, 4), (62, 4), (62, 4), (62, 4), (62, 4), (62, 4), (62, 4), (62, 4), (62, 4), (62, 4), (62, 4), (62, 4), (62, 4), (62, 4), (62, 24), (3, 5), (2, 12), (60, 8), (60, 25), (12, 65), (60, 2), (60, 600), (60, 12), (60, 12), (60, 24), (60, 24), (60, 24), (60, 24), (60, 150), (60, 150), (60, 32), (60, 150), (60, 1050), (60, 1050), (60, 224), (60, 7), (60, 30), (60, 30), (60, 16900), (60, 16900), (62, 16900), (62, 16900), (62, 6), (62, 24), (60, 8), (60, 980), (60, 3090), (62, 1)]
def shp (a : Nat) : Nat × Nat := (shL[a]?).getD (99, 0)
theorem shp_0 : shp 0 = (11, 12) := rfl
theorem shp_1 : shp 1 = (9, 6) := rfl
theorem shp_2 : shp 2 = (61, 600) := rfl
theorem shp_3 : shp 3 = (10, 4) := rfl
theorem shp_4 : shp 4 = (8, 3) := rfl
theorem shp_5 : shp 5 = (4, 4) := rfl
theorem shp_6 : shp 6 = (60, 21) := rfl
theorem shp_7 : shp 7 = (64, 21) := rfl
theorem shp_8 : shp 8 = (60, 24) := rfl
theorem shp_9 : shp 9 = (60, 24) := rfl
theorem shp_10 : shp 10 = (60, 24) := rfl
theorem shp_11 : shp 11 = (60, 24) := rfl
theorem shp_12 : shp 12 = (60, 24) := rfl
theorem shp_13 : shp 13 = (60, 24) := rfl
theorem shp_14 : shp 14 = (60, 24) := rfl
theorem shp_15 : shp 15 = (60, 24) := rfl
theorem shp_16 : shp 16 = (60, 24) := rfl
theorem shp_17 : shp 17 = (60, 24) := rfl
theorem shp_18 : shp 18 = (60, 24) := rfl
theorem shp_19 : shp 19 = (60, 24) := rfl
theorem shp_20 : shp 20 = (60, 24) := rfl
theorem shp_21 : shp 21 = (60, 24) := rfl
theorem shp_22 : shp 22 = (60, 24) := rfl
theorem shp_23 : shp 23 = (60, 24) := rfl
theorem shp_24 : shp 24 = (60, 24) := rfl
theorem shp_25 : shp 25 = (60, 24) := rfl
theorem shp_26 : shp 26 = (60, 24) := rfl
theorem shp_27 : shp 27 = (60, 24) := rfl
theorem shp_28 : shp 28 = (60, 24) := rfl
theorem shp_29 : shp 29 = (64, 21) := rfl
theorem shp_30 : shp 30 = (60, 24) := rfl
theorem shp_31 : shp 31 = (60, 24) := rfl
theorem shp_32 : shp 32 = (60, 24) := rfl
theorem shp_33 : shp 33 = (60, 24) := rfl
theorem shp_34 : shp 34 = (60, 24) := rfl
theorem shp_35 : shp 35 = (60, 24) := rfl
theorem shp_36 : shp 36 = (60, 24) := rfl
theorem shp_37 : shp 37 = (60, 24) := rfl
theorem shp_38 : shp 38 = (60, 24) := rfl
theorem shp_39 : shp 39 = (60, 24) := rfl
theorem shp_40 : shp 40 = (60, 24) := rfl
theorem shp_41 : shp 41 = (60, 24) := rfl
theorem shp_42 : shp 42 = (60, 24) := rfl
theorem shp_43 : shp 43 = (60, 24) := rfl
theorem shp_44 : shp 44 = (60, 24) := rfl
theorem shp_45 : shp 45 = (60, 24) := rfl
theorem shp_46 : shp 46 = (60, 24) := rfl
theorem shp_47 : shp 47 = (60, 24) := rfl
theorem shp_48 : shp 48 = (60, 24) := rfl
theorem shp_49 : shp 49 = (60, 24) := rfl
theorem shp_50 : shp 50 = (60, 24) := rfl
theorem shp_51 : shp 51 = (60, 8) := rfl
theorem shp_52 : shp 52 = (60, 5) := rfl
theorem shp_53 : shp 53 = (75, 6) := rfl
theorem shp_54 : shp 54 = (5, 9) := rfl
theorem shp_55 : shp 55 = (60, 8) := rfl
theorem shp_56 : shp 56 = (60, 8) := rfl
theorem shp_57 : shp 57 = (60, 8) := rfl
theorem shp_58 : shp 58 = (60, 8) := rfl
theorem shp_59 : shp 59 = (60, 150) := rfl
theorem shp_60 : shp 60 = (60, 150) := rfl
theorem shp_61 : shp 61 = (0, 4) := rfl
theorem shp_62 : shp 62 = (60, 10) := rfl
theorem shp_63 : shp 63 = (60, 10) := rfl
theorem shp_64 : shp 64 = (60, 10) := rfl
theorem shp_65 : shp 65 = (5, 9) := rfl
theorem shp_66 : shp 66 = (60, 8) := rfl
theorem shp_67 : shp 67 = (60, 8) := rfl
theorem shp_68 : shp 68 = (60, 8) := rfl
theorem shp_69 : shp 69 = (60, 8) := rfl
theorem shp_70 : shp 70 = (60, 150) := rfl
theorem shp_71 : shp 71 = (60, 150) := rfl
theorem shp_72 : shp 72 = (5, 9) := rfl
theorem shp_73 : shp 73 = (60, 8) := rfl
theorem shp_74 : shp 74 = (60, 8) := rfl
theorem shp_75 : shp 75 = (60, 8) := rfl
theorem shp_76 : shp 76 = (60, 8) := rfl
theorem shp_77 : shp 77 = (60, 150) := rfl
theorem shp_78 : shp 78 = (60, 150) := rfl
theorem shp_79 : shp 79 = (5, 9) := rfl
theorem shp_80 : shp 80 = (60, 8) := rfl
theorem shp_81 : shp 81 = (60, 8) := rfl
theorem shp_82 : shp 82 = (60, 8) := rfl
theorem shp_83 : shp 83 = (60, 8) := rfl
theorem shp_84 : shp 84 = (60, 150) := rfl
theorem shp_85 : shp 85 = (60, 150) := rfl
theorem shp_86 : shp 86 = (5, 9) := rfl
theorem shp_87 : shp 87 = (60, 8) := rfl
theorem shp_88 : shp 88 = (60, 8) := rfl
theorem shp_89 : shp 89 = (60, 8) := rfl
theorem shp_90 : shp 90 = (60, 8) := rfl
theorem shp_91 : shp 91 = (60, 150) := rfl
theorem shp_92 : shp 92 = (60, 150) := rfl
theorem shp_93 : shp 93 = (5, 9) := rfl
theorem shp_94 : shp 94 = (60, 8) := rfl
theorem shp_95 : shp 95 = (60, 8) := rfl
theorem shp_96 : shp 96 = (60, 8) := rfl
theorem shp_97 : shp 97 = (60, 8) := rfl
theorem shp_98 : shp 98 = (60, 150) := rfl
theorem shp_99 : shp 99 = (60, 150) := rfl
theorem shp_100 : shp 100 = (5, 9) := rfl
theorem shp_101 : shp 101 = (60, 8) := rfl
theorem shp_102 : shp 102 = (60, 8) := rfl
theorem shp_103 : shp 103 = (60, 8) := rfl
theorem shp_104 : shp 104 = (60, 8) := rfl
theorem shp_105 : shp 105 = (60, 150) := rfl
theorem shp_106 : shp 106 = (60, 150) := rfl
theorem shp_107 : shp 107 = (8, 3) := rfl
theorem shp_108 : shp 108 = (4, 4) := rfl
theorem shp_109 : shp 109 = (60, 21) := rfl
theorem shp_110 : shp 110 = (64, 21) := rfl
theorem shp_111 : shp 111 = (60, 24) := rfl
theorem shp_112 : shp 112 = (60, 24) := rfl
theorem shp_113 : shp 113 = (60, 24) := rfl
theorem shp_114 : shp 114 = (60, 24) := rfl
theorem shp_115 : shp 115 = (60, 24) := rfl
theorem shp_116 : shp 116 = (60, 24) := rfl
theorem shp_117 : shp 117 = (60, 24) := rfl
theorem shp_118 : shp 118 = (60, 24) := rfl
theorem shp_119 : shp 119 = (60, 24) := rfl
theorem shp_120 : shp 120 = (60, 24) := rfl
theorem shp_121 : shp 121 = (60, 24) := rfl
theorem shp_122 : shp 122 = (60, 24) := rfl
theorem shp_123 : shp 123 = (60, 24) := rfl
theorem shp_124 : shp 124 = (60, 24) := rfl
theorem shp_125 : shp 125 = (60, 24) := rfl
theorem shp_126 : shp 126 = (60, 24) := rfl
theorem shp_127 : shp 127 = (60, 24) := rfl
theorem shp_128 : shp 128 = (60, 24) := rfl
theorem shp_129 : shp 129 = (60, 24) := rfl
theorem shp_130 : shp 130 = (60, 24) := rfl
theorem shp_131 : shp 131 = (60, 24) := rfl
theorem shp_132 : shp 132 = (64, 21) := rfl
theorem shp_133 : shp 133 = (60, 24) := rfl
theorem shp_134 : shp 134 = (60, 24) := rfl
theorem shp_135 : shp 135 = (60, 24) := rfl
theorem shp_136 : shp 136 = (60, 24) := rfl
theorem shp_137 : shp 137 = (60, 24) := rfl
theorem shp_138 : shp 138 = (60, 24) := rfl
theorem shp_139 : shp 139 = (60, 24) := rfl
theorem shp_140 : shp 140 = (60, 24) := rfl
theorem shp_141 : shp 141 = (60, 24) := rfl
theorem shp_142 : shp 142 = (60, 24) := rfl
theorem shp_143 : shp 143 = (60, 24) := rfl
theorem shp_144 : shp 144 = (60, 24) := rfl
theorem shp_145 : shp 145 = (60, 24) := rfl
theorem shp_146 : shp 146 = (60, 24) := rfl
theorem shp_147 : shp 147 = (60, 24) := rfl
theorem shp_148 : shp 148 = (60, 24) := rfl
theorem shp_149 : shp 149 = (60, 24) := rfl
theorem shp_150 : shp 150 = (60, 24) := rfl
theorem shp_151 : shp 151 = (60, 24) := rfl
theorem shp_152 : shp 152 = (60, 24) := rfl
theorem shp_153 : shp 153 = (60, 24) := rfl
theorem shp_154 : shp 154 = (60, 8) := rfl
theorem shp_155 : shp 155 = (60, 5) := rfl
theorem shp_156 : shp 156 = (5, 9) := rfl
theorem shp_157 : shp 157 = (60, 8) := rfl
theorem shp_158 : shp 158 = (60, 8) := rfl
theorem shp_159 : shp 159 = (60, 8) := rfl
theorem shp_160 : shp 160 = (60, 8) := rfl
theorem shp_161 : shp 161 = (60, 150) := rfl
theorem shp_162 : shp 162 = (60, 150) := rfl
theorem shp_163 : shp 163 = (0, 4) := rfl
theorem shp_164 : shp 164 = (60, 10) := rfl
theorem shp_165 : shp 165 = (60, 10) := rfl
theorem shp_166 : shp 166 = (60, 10) := rfl
theorem shp_167 : shp 167 = (74, 3) := rfl
theorem shp_168 : shp 168 = (4, 4) := rfl
theorem shp_169 : shp 169 = (60, 21) := rfl
theorem shp_170 : shp 170 = (64, 21) := rfl
theorem shp_171 : shp 171 = (60, 24) := rfl
theorem shp_172 : shp 172 = (60, 24) := rfl
theorem shp_173 : shp 173 = (60, 24) := rfl
theorem shp_174 : shp 174 = (60, 24) := rfl
theorem shp_175 : shp 175 = (60, 24) := rfl
theorem shp_176 : shp 176 = (60, 24) := rfl
theorem shp_177 : shp 177 = (60, 24) := rfl
theorem shp_178 : shp 178 = (60, 24) := rfl
theorem shp_179 : shp 179 = (60, 24) := rfl
theorem shp_180 : shp 180 = (60, 24) := rfl
theorem shp_181 : shp 181 = (60, 24) := rfl
theorem shp_182 : shp 182 = (60, 24) := rfl
theorem shp_183 : shp 183 = (60, 24) := rfl
theorem shp_184 : shp 184 = (60, 24) := rfl
theorem shp_185 : shp 185 = (60, 24) := rfl
theorem shp_186 : shp 186 = (60, 24) := rfl
theorem shp_187 : shp 187 = (60, 24) := rfl
theorem shp_188 : shp 188 = (60, 24) := rfl
theorem shp_189 : shp 189 = (60, 24) := rfl
theorem shp_190 : shp 190 = (60, 24) := rfl
theorem shp_191 : shp 191 = (60, 24) := rfl
theorem shp_192 : shp 192 = (64, 21) := rfl
theorem shp_193 : shp 193 = (60, 24) := rfl
theorem shp_194 : shp 194 = (60, 24) := rfl
theorem shp_195 : shp 195 = (60, 24) := rfl
theorem shp_196 : shp 196 = (60, 24) := rfl
theorem shp_197 : shp 197 = (60, 24) := rfl
theorem shp_198 : shp 198 = (60, 24) := rfl
theorem shp_199 : shp 199 = (60, 24) := rfl
theorem shp_200 : shp 200 = (60, 24) := rfl
theorem shp_201 : shp 201 = (60, 24) := rfl
theorem shp_202 : shp 202 = (60, 24) := rfl
theorem shp_203 : shp 203 = (60, 24) := rfl
theorem shp_204 : shp 204 = (60, 24) := rfl
theorem shp_205 : shp 205 = (60, 24) := rfl
theorem shp_206 : shp 206 = (60, 24) := rfl
theorem shp_207 : shp 207 = (60, 24) := rfl
theorem shp_208 : shp 208 = (60, 24) := rfl
theorem shp_209 : shp 209 = (60, 24) := rfl
theorem shp_210 : shp 210 = (60, 24) := rfl
theorem shp_211 : shp 211 = (60, 24) := rfl
theorem shp_212 : shp 212 = (60, 24) := rfl
theorem shp_213 : shp 213 = (60, 24) := rfl
theorem shp_214 : shp 214 = (4, 4) := rfl
theorem shp_215 : shp 215 = (60, 21) := rfl
theorem shp_216 : shp 216 = (64, 21) := rfl
theorem shp_217 : shp 217 = (60, 24) := rfl
theorem shp_218 : shp 218 = (60, 24) := rfl
theorem shp_219 : shp 219 = (60, 24) := rfl
theorem shp_220 : shp 220 = (60, 24) := rfl
theorem shp_221 : shp 221 = (60, 24) := rfl
theorem shp_222 : shp 222 = (60, 24) := rfl
theorem shp_223 : shp 223 = (60, 24) := rfl
theorem shp_224 : shp 224 = (60, 24) := rfl
theorem shp_225 : shp 225 = (60, 24) := rfl
theorem shp_226 : shp 226 = (60, 24) := rfl
theorem shp_227 : shp 227 = (60, 24) := rfl
theorem shp_228 : shp 228 = (60, 24) := rfl
theorem shp_229 : shp 229 = (60, 24) := rfl
theorem shp_230 : shp 230 = (60, 24) := rfl
theorem shp_231 : shp 231 = (60, 24) := rfl
theorem shp_232 : shp 232 = (60, 24) := rfl
theorem shp_233 : shp 233 = (60, 24) := rfl
theorem shp_234 : shp 234 = (60, 24) := rfl
theorem shp_235 : shp 235 = (60, 24) := rfl
theorem shp_236 : shp 236 = (60, 24) := rfl
theorem shp_237 : shp 237 = (60, 24) := rfl
theorem shp_238 : shp 238 = (64, 21) := rfl
theorem shp_239 : shp 239 = (60, 24) := rfl
theorem shp_240 : shp 240 = (60, 24) := rfl
theorem shp_241 : shp 241 = (60, 24) := rfl
theorem shp_242 : shp 242 = (60, 24) := rfl
theorem shp_243 : shp 243 = (60, 24) := rfl
theorem shp_244 : shp 244 = (60, 24) := rfl
theorem shp_245 : shp 245 = (60, 24) := rfl
theorem shp_246 : shp 246 = (60, 24) := rfl
theorem shp_247 : shp 247 = (60, 24) := rfl
theorem shp_248 : shp 248 = (60, 24) := rfl
theorem shp_249 : shp 249 = (60, 24) := rfl
theorem shp_250 : shp 250 = (60, 24) := rfl
theorem shp_251 : shp 251 = (60, 24) := rfl
theorem shp_252 : shp 252 = (60, 24) := rfl
theorem shp_253 : shp 253 = (60, 24) := rfl
theorem shp_254 : shp 254 = (60, 24) := rfl
theorem shp_255 : shp 255 = (60, 24) := rfl
theorem shp_256 : shp 256 = (60, 24) := rfl
theorem shp_257 : shp 257 = (60, 24) := rfl
theorem shp_258 : shp 258 = (60, 24) := rfl
theorem shp_259 : shp 259 = (60, 24) := rfl
theorem shp_260 : shp 260 = (4, 4) := rfl
theorem shp_261 : shp 261 = (60, 21) := rfl
theorem shp_262 : shp 262 = (64, 21) := rfl
theorem shp_263 : shp 263 = (60, 24) := rfl
theorem shp_264 : shp 264 = (60, 24) := rfl
theorem shp_265 : shp 265 = (60, 24) := rfl
theorem shp_266 : shp 266 = (60, 24) := rfl
theorem shp_267 : shp 267 = (60, 24) := rfl
theorem shp_268 : shp 268 = (60, 24) := rfl
theorem shp_269 : shp 269 = (60, 24) := rfl
theorem shp_270 : shp 270 = (60, 24) := rfl
theorem shp_271 : shp 271 = (60, 24) := rfl
theorem shp_272 : shp 272 = (60, 24) := rfl
theorem shp_273 : shp 273 = (60, 24) := rfl
theorem shp_274 : shp 274 = (60, 24) := rfl
theorem shp_275 : shp 275 = (60, 24) := rfl
theorem shp_276 : shp 276 = (60, 24) := rfl
theorem shp_277 : shp 277 = (60, 24) := rfl
theorem shp_278 : shp 278 = (60, 24) := rfl
theorem shp_279 : shp 279 = (60, 24) := rfl
theorem shp_280 : shp 280 = (60, 24) := rfl
theorem shp_281 : shp 281 = (60, 24) := rfl
theorem shp_282 : shp 282 = (60, 24) := rfl
theorem shp_283 : shp 283 = (60, 24) := rfl
theorem shp_284 : shp 284 = (64, 21) := rfl
theorem shp_285 : shp 285 = (60, 24) := rfl
theorem shp_286 : shp 286 = (60, 24) := rfl
theorem shp_287 : shp 287 = (60, 24) := rfl
theorem shp_288 : shp 288 = (60, 24) := rfl
theorem shp_289 : shp 289 = (60, 24) := rfl
theorem shp_290 : shp 290 = (60, 24) := rfl
theorem shp_291 : shp 291 = (60, 24) := rfl
theorem shp_292 : shp 292 = (60, 24) := rfl
theorem shp_293 : shp 293 = (60, 24) := rfl
theorem shp_294 : shp 294 = (60, 24) := rfl
theorem shp_295 : shp 295 = (60, 24) := rfl
theorem shp_296 : shp 296 = (60, 24) := rfl
theorem shp_297 : shp 297 = (60, 24) := rfl
theorem shp_298 : shp 298 = (60, 24) := rfl
theorem shp_299 : shp 299 = (60, 24) := rfl
theorem shp_300 : shp 300 = (60, 24) := rfl
theorem shp_301 : shp 301 = (60, 24) := rfl
theorem shp_302 : shp 302 = (60, 24) := rfl
theorem shp_303 : shp 303 = (60, 24) := rfl
theorem shp_304 : shp 304 = (60, 24) := rfl
theorem shp_305 : shp 305 = (60, 24) := rfl
theorem shp_306 : shp 306 = (6, 16) := rfl
theorem shp_307 : shp 307 = (7, 14) := rfl
theorem shp_308 : shp 308 = (60, 91) := rfl
theorem shp_309 : shp 309 = (60, 91) := rfl
theorem shp_310 : shp 310 = (2, 12) := rfl
theorem shp_311 : shp 311 = (60, 8) := rfl
theorem shp_312 : shp 312 = (60, 25) := rfl
theorem shp_313 : shp 313 = (60, 104) := rfl
theorem shp_314 : shp 314 = (62, 6) := rfl
theorem shp_315 : shp 315 = (75, 6) := rfl
theorem shp_316 : shp 316 = (1, 3) := rfl
theorem shp_317 : shp 317 = (60, 9100) := rfl
theorem shp_318 : shp 318 = (62, 9100) := rfl
theorem shp_319 : shp 319 = (1, 3) := rfl
theorem shp_320 : shp 320 = (60, 9100) := rfl
theorem shp_321 : shp 321 = (62, 9100) := rfl
theorem shp_322 : shp 322 = (60, 252) := rfl
theorem shp_323 : shp 323 = (62, 252) := rfl
theorem shp_324 : shp 324 = (62, 252) := rfl
theorem shp_325 : shp 325 = (65, 24) := rfl
theorem shp_326 : shp 326 = (62, 6) := rfl
theorem shp_327 : shp 327 = (62, 6) := rfl
theorem shp_328 : shp 328 = (62, 6) := rfl
theorem shp_329 : shp 329 = (62, 6) := rfl
theorem shp_330 : shp 330 = (62, 6) := rfl
theorem shp_331 : shp 331 = (62, 6) := rfl
theorem shp_332 : shp 332 = (62, 6) := rfl
theorem shp_333 : shp 333 = (62, 6) := rfl
theorem shp_334 : shp 334 = (62, 6) := rfl
theorem shp_335 : shp 335 = (62, 6) := rfl
theorem shp_336 : shp 336 = (62, 6) := rfl
theorem shp_337 : shp 337 = (62, 6) := rfl
theorem shp_338 : shp 338 = (62, 6) := rfl
theorem shp_339 : shp 339 = (62, 6) := rfl
theorem shp_340 : shp 340 = (62, 6) := rfl
theorem shp_341 : shp 341 = (62, 6) := rfl
theorem shp_342 : shp 342 = (62, 6) := rfl
theorem shp_343 : shp 343 = (62, 6) := rfl
theorem shp_344 : shp 344 = (62, 6) := rfl
theorem shp_345 : shp 345 = (62, 6) := rfl
theorem shp_346 : shp 346 = (62, 6) := rfl
theorem shp_347 : shp 347 = (62, 6) := rfl
theorem shp_348 : shp 348 = (62, 6) := rfl
theorem shp_349 : shp 349 = (62, 6) := rfl
theorem shp_350 : shp 350 = (65, 24) := rfl
theorem shp_351 : shp 351 = (62, 182) := rfl
theorem shp_352 : shp 352 = (62, 182) := rfl
theorem shp_353 : shp 353 = (62, 182) := rfl
theorem shp_354 : shp 354 = (62, 182) := rfl
theorem shp_355 : shp 355 = (62, 182) := rfl
theorem shp_356 : shp 356 = (62, 182) := rfl
theorem shp_357 : shp 357 = (62, 182) := rfl
theorem shp_358 : shp 358 = (62, 182) := rfl
theorem shp_359 : shp 359 = (62, 182) := rfl
theorem shp_360 : shp 360 = (62, 182) := rfl
theorem shp_361 : shp 361 = (62, 182) := rfl
theorem shp_362 : shp 362 = (62, 182) := rfl
theorem shp_363 : shp 363 = (62, 182) := rfl
theorem shp_364 : shp 364 = (62, 182) := rfl
theorem shp_365 : shp 365 = (62, 182) := rfl
theorem shp_366 : shp 366 = (62, 182) := rfl
theorem shp_367 : shp 367 = (62, 182) := rfl
theorem shp_368 : shp 368 = (62, 182) := rfl
theorem shp_369 : shp 369 = (62, 182) := rfl
theorem shp_370 : shp 370 = (62, 182) := rfl
theorem shp_371 : shp 371 = (62, 182) := rfl
theorem shp_372 : shp 372 = (62, 182) := rfl
theorem shp_373 : shp 373 = (62, 182) := rfl
theorem shp_374 : shp 374 = (62, 182) := rfl
theorem shp_375 : shp 375 = (60, 24) := rfl
theorem shp_376 : shp 376 = (62, 6) := rfl
theorem shp_377 : shp 377 = (65, 24) := rfl
theorem shp_378 : shp 378 = (62, 6) := rfl
theorem shp_379 : shp 379 = (62, 6) := rfl
theorem shp_380 : shp 380 = (62, 6) := rfl
theorem shp_381 : shp 381 = (62, 6) := rfl
theorem shp_382 : shp 382 = (62, 6) := rfl
theorem shp_383 : shp 383 = (62, 6) := rfl
theorem shp_384 : shp 384 = (62, 6) := rfl
theorem shp_385 : shp 385 = (62, 6) := rfl
theorem shp_386 : shp 386 = (62, 6) := rfl
theorem shp_387 : shp 387 = (62, 6) := rfl
theorem shp_388 : shp 388 = (62, 6) := rfl
theorem shp_389 : shp 389 = (62, 6) := rfl
theorem shp_390 : shp 390 = (62, 6) := rfl
theorem shp_391 : shp 391 = (62, 6) := rfl
theorem shp_392 : shp 392 = (62, 6) := rfl
theorem shp_393 : shp 393 = (62, 6) := rfl
theorem shp_394 : shp 394 = (62, 6) := rfl
theorem shp_395 : shp 395 = (62, 6) := rfl
theorem shp_396 : shp 396 = (62, 6) := rfl
theorem shp_397 : shp 397 = (62, 6) := rfl
theorem shp_398 : shp 398 = (62, 6) := rfl
theorem shp_399 : shp 399 = (62, 6) := rfl
theorem shp_400 : shp 400 = (62, 6) := rfl
theorem shp_401 : shp 401 = (62, 6) := rfl
theorem shp_402 : shp 402 = (65, 24) := rfl
theorem shp_403 : shp 403 = (62, 4) := rfl
theorem shp_404 : shp 404 = (62, 4) := rfl
theorem shp_405 : shp 405 = (62, 4) := rfl
theorem shp_406 : shp 406 = (62, 4) := rfl
theorem shp_407 : shp 407 = (62, 4) := rfl
theorem shp_408 : shp 408 = (62, 4) := rfl
theorem shp_409 : shp 409 = (62, 4) := rfl
theorem shp_410 : shp 410 = (62, 4) := rfl
theorem shp_411 : shp 411 = (62, 4) := rfl
theorem shp_412 : shp 412 = (62, 4) := rfl
theorem shp_413 : shp 413 = (62, 4) := rfl
theorem shp_414 : shp 414 = (62, 4) := rfl
theorem shp_415 : shp 415 = (62, 4) := rfl
theorem shp_416 : shp 416 = (62, 4) := rfl
theorem shp_417 : shp 417 = (62, 4) := rfl
theorem shp_418 : shp 418 = (62, 4) := rfl
theorem shp_419 : shp 419 = (62, 4) := rfl
theorem shp_420 : shp 420 = (62, 4) := rfl
theorem shp_421 : shp 421 = (62, 4) := rfl
theorem shp_422 : shp 422 = (62, 4) := rfl
theorem shp_423 : shp 423 = (62, 4) := rfl
theorem shp_424 : shp 424 = (62, 4) := rfl
theorem shp_425 : shp 425 = (62, 4) := rfl
theorem shp_426 : shp 426 = (62, 4) := rfl
theorem shp_427 : shp 427 = (62, 24) := rfl
theorem shp_428 : shp 428 = (3, 5) := rfl
theorem shp_429 : shp 429 = (2, 12) := rfl
theorem shp_430 : shp 430 = (60, 8) := rfl
theorem shp_431 : shp 431 = (60, 25) := rfl
theorem shp_432 : shp 432 = (12, 65) := rfl
theorem shp_433 : shp 433 = (60, 2) := rfl
theorem shp_434 : shp 434 = (60, 600) := rfl
theorem shp_435 : shp 435 = (60, 12) := rfl
theorem shp_436 : shp 436 = (60, 12) := rfl
theorem shp_437 : shp 437 = (60, 24) := rfl
theorem shp_438 : shp 438 = (60, 24) := rfl
theorem shp_439 : shp 439 = (60, 24) := rfl
theorem shp_440 : shp 440 = (60, 24) := rfl
theorem shp_441 : shp 441 = (60, 150) := rfl
theorem shp_442 : shp 442 = (60, 150) := rfl
theorem shp_443 : shp 443 = (60, 32) := rfl
theorem shp_444 : shp 444 = (60, 150) := rfl
theorem shp_445 : shp 445 = (60, 1050) := rfl
theorem shp_446 : shp 446 = (60, 1050) := rfl
theorem shp_447 : shp 447 = (60, 224) := rfl
theorem shp_448 : shp 448 = (60, 7) := rfl
theorem shp_449 : shp 449 = (60, 30) := rfl
theorem shp_450 : shp 450 = (60, 30) := rfl
theorem shp_451 : shp 451 = (60, 16900) := rfl
theorem shp_452 : shp 452 = (60, 16900) := rfl
theorem shp_453 : shp 453 = (62, 16900) := rfl
theorem shp_454 : shp 454 = (62, 16900) := rfl
theorem shp_455 : shp 455 = (62, 6) := rfl
theorem shp_456 : shp 456 = (62, 24) := rfl
theorem shp_457 : shp 457 = (60, 8) := rfl
theorem shp_458 : shp 458 = (60, 980) := rfl
theorem shp_459 : shp 459 = (60, 3090) := rfl
theorem shp_460 : shp 460 = (62, 1) := rfl
theorem tb_0 : jm_tb[0]? = some mX11_init := rfl
theorem tb_1 : jm_tb[1]? = some mX11_feed := rfl
theorem tb_2 : jm_tb[2]? = some mX11_office := rfl
theorem tb_3 : jm_tb[3]? = some mX11_habit := rfl
theorem tb_4 : jm_tb[4]? = some mX11_rule := rfl
theorem tb_5 : jm_tb[5]? = some mX11_book := rfl
theorem tb_6 : jm_tb[6]? = some mX11_fault := rfl
theorem tb_7 : jm_tb[7]? = some mX11_readHabit := rfl
theorem tb_8 : jm_tb[8]? = some mX11_closeTape := rfl
theorem tb_9 : jm_tb[9]? = some mX11_faultAnswer := rfl
theorem tb_10 : jm_tb[10]? = some mX11_told := rfl
theorem tb_11 : jm_tb[11]? = some mX11_visit := rfl
theorem tb_12 : jm_tb[12]? = some mX11_person := rfl
theorem tb_13 : jm_tb[13]? = some mX11_price := rfl
theorem tb_14 : jm_tb[14]? = some mX11_states := rfl
theorem tb_15 : jm_tb[15]? = some mX11_likely := rfl
theorem tb_16 : jm_tb[16]? = some mX11_state := rfl
theorem tb_17 : jm_tb[17]? = some mX11_likeliest := rfl
theorem tb_18 : jm_tb[18]? = some mX11_mean := rfl
theorem tb_19 : jm_tb[19]? = some mX11_often := rfl
theorem tb_20 : jm_tb[20]? = some mX11_since := rfl
theorem tb_21 : jm_tb[21]? = some mX11_drunk := rfl
theorem tb_22 : jm_tb[22]? = some mX11_done := rfl
theorem tb_23 : jm_tb[23]? = some mX11_cost := rfl
theorem tb_24 : jm_tb[24]? = some mX11_fits := rfl
theorem tb_25 : jm_tb[25]? = some mX11_given := rfl
theorem tb_26 : jm_tb[26]? = some mX11_best := rfl
theorem tb_27 : jm_tb[27]? = some mX11_worth := rfl
theorem tb_28 : jm_tb[28]? = some mX11_gain := rfl
theorem tb_29 : jm_tb[29]? = some mX11_without := rfl
theorem tb_30 : jm_tb[30]? = some mX11_keeper := rfl
theorem tb_31 : jm_tb[31]? = some mX11_spoiler := rfl
theorem tb_32 : jm_tb[32]? = some mX11_falling := rfl
theorem tb_33 : jm_tb[33]? = some mX11_seeing := rfl
theorem tb_34 : jm_tb[34]? = some mX11_filled := rfl
theorem tb_35 : jm_tb[35]? = some mX11_fill := rfl
theorem tb_36 : jm_tb[36]? = some mX11_ruled := rfl
theorem tb_37 : jm_tb[37]? = some mX11_swapped := rfl
theorem tb_38 : jm_tb[38]? = some mX11_swap := rfl
theorem tb_39 : jm_tb[39]? = some mX11_pairOf := rfl
theorem tb_40 : jm_tb[40]? = some mX11_day := rfl
theorem tb_41 : jm_tb[41]? = some mX11_span := rfl
theorem tb_42 : jm_tb[42]? = some mX11_come := rfl
theorem tb_43 : jm_tb[43]? = some mX11_skip := rfl
theorem tb_44 : jm_tb[44]? = some mX11_shift := rfl
theorem tb_45 : jm_tb[45]? = some mX11_teach := rfl
theorem tb_46 : jm_tb[46]? = some mX11_undo := rfl
theorem tb_47 : jm_tb[47]? = some mX11_image := rfl
theorem tb_48 : jm_tb[48]? = some mX11_restore := rfl
theorem tb_49 : jm_tb[49]? = some mX11_status := rfl
theorem tb_50 : jm_tb[50]? = some mX11_count := rfl
theorem tb_51 : jm_tb[51]? = some mX11_need := rfl
theorem tb_52 : jm_tb[52]? = some mX11_needFound := rfl
theorem tb_53 : jm_tb[53]? = some mX11_needPerson := rfl
theorem tb_54 : jm_tb[54]? = some mX11_needVisit := rfl
theorem tb_55 : jm_tb[55]? = some mX11_needBytes := rfl
theorem tb_56 : jm_tb[56]? = some mX11_isWithin := rfl
theorem tb_57 : jm_tb[57]? = some mX11_isPart := rfl
theorem tb_58 : jm_tb[58]? = some mX11_diary := rfl
theorem tb_59 : jm_tb[59]? = some mX11_people := rfl
theorem tb_60 : jm_tb[60]? = some mX11_inLeastTerms := rfl
theorem tb_61 : jm_tb[61]? = some mX11_commonDivisor := rfl
theorem tb_62 : jm_tb[62]? = some mX12_thrown := rfl
theorem tb_63 : jm_tb[63]? = some mX12_may := rfl
theorem tb_64 : jm_tb[64]? = some mX12_within := rfl
theorem tb_65 : jm_tb[65]? = some mX12_init := rfl
theorem tb_66 : jm_tb[66]? = some mX12_feed := rfl
theorem tb_67 : jm_tb[67]? = some mX12_fine := rfl
theorem tb_68 : jm_tb[68]? = some mX12_wrong := rfl
theorem tb_69 : jm_tb[69]? = some mX12_here := rfl
theorem tb_70 : jm_tb[70]? = some mX12_isSmall := rfl
theorem tb_71 : jm_tb[71]? = some mX12_isDigit := rfl
theorem tb_72 : jm_tb[72]? = some mX12_word := rfl
theorem tb_73 : jm_tb[73]? = some mX12_of := rfl
theorem tb_74 : jm_tb[74]? = some mX12_pass := rfl
theorem tb_75 : jm_tb[75]? = some mX12_readNumber := rfl
theorem tb_76 : jm_tb[76]? = some mX12_sign := rfl
theorem tb_77 : jm_tb[77]? = some mX12_isMore := rfl
theorem tb_78 : jm_tb[78]? = some mX12_begins := rfl
theorem tb_79 : jm_tb[79]? = some mX12_result := rfl
theorem tb_80 : jm_tb[80]? = some mX12_fault := rfl
theorem tb_81 : jm_tb[81]? = some mX12_clears := rfl
theorem tb_82 : jm_tb[82]? = some mX12_copies := rfl
theorem tb_83 : jm_tb[83]? = some mX12_sets := rfl
theorem tb_84 : jm_tb[84]? = some mX12_puts := rfl
theorem tb_85 : jm_tb[85]? = some mX12_readClause := rfl
theorem tb_86 : jm_tb[86]? = some mX12_standsHere := rfl
theorem tb_87 : jm_tb[87]? = some mX12_clauseHere := rfl
theorem tb_88 : jm_tb[88]? = some mX12_office := rfl
theorem tb_89 : jm_tb[89]? = some mX12_emit := rfl
theorem tb_90 : jm_tb[90]? = some mX12_opensOne := rfl
theorem tb_91 : jm_tb[91]? = some mX12_readAny := rfl
theorem tb_92 : jm_tb[92]? = some mX12_readAll := rfl
theorem tb_93 : jm_tb[93]? = some mX12_readOne := rfl
theorem tb_94 : jm_tb[94]? = some mX12_readSum := rfl
theorem tb_95 : jm_tb[95]? = some mX12_readProduct := rfl
theorem tb_96 : jm_tb[96]? = some mX12_factOf := rfl
theorem tb_97 : jm_tb[97]? = some mX12_readUnit := rfl
theorem tb_98 : jm_tb[98]? = some mX12_actOf := rfl
theorem tb_99 : jm_tb[99]? = some mX12_readStep := rfl
theorem tb_100 : jm_tb[100]? = some mX12_readHabit := rfl
theorem tb_101 : jm_tb[101]? = some mX12_isPerson := rfl
theorem tb_102 : jm_tb[102]? = some mX12_isVisit := rfl
theorem tb_103 : jm_tb[103]? = some mX12_isTold := rfl
theorem tb_104 : jm_tb[104]? = some mX12_habit := rfl
theorem tb_105 : jm_tb[105]? = some mX12_rule := rfl
theorem tb_106 : jm_tb[106]? = some mX12_book := rfl
theorem tb_107 : jm_tb[107]? = some mX12_told := rfl
theorem tb_108 : jm_tb[108]? = some mX12_whichOf := rfl
theorem tb_109 : jm_tb[109]? = some mX12_sinceOf := rfl
theorem tb_110 : jm_tb[110]? = some mX12_visit := rfl
theorem tb_111 : jm_tb[111]? = some mX12_person := rfl
theorem tb_112 : jm_tb[112]? = some mX12_price := rfl
theorem tb_113 : jm_tb[113]? = some mX12_plain := rfl
theorem tb_114 : jm_tb[114]? = some mX12_index := rfl
theorem tb_115 : jm_tb[115]? = some mX12_begin := rfl
theorem tb_116 : jm_tb[116]? = some mX12_gives := rfl
theorem tb_117 : jm_tb[117]? = some mX12_takesNext := rfl
theorem tb_118 : jm_tb[118]? = some mX12_stateOf := rfl
theorem tb_119 : jm_tb[119]? = some mX12_falls := rfl
theorem tb_120 : jm_tb[120]? = some mX12_isWarm := rfl
theorem tb_121 : jm_tb[121]? = some mX12_isLine := rfl
theorem tb_122 : jm_tb[122]? = some mX12_keepsBook := rfl
theorem tb_123 : jm_tb[123]? = some mX12_isSo := rfl
theorem tb_124 : jm_tb[124]? = some mX12_both := rfl
theorem tb_125 : jm_tb[125]? = some mX12_findFacts := rfl
theorem tb_126 : jm_tb[126]? = some mX12_habitOf := rfl
theorem tb_127 : jm_tb[127]? = some mX12_does := rfl
theorem tb_128 : jm_tb[128]? = some mX12_takes := rfl
theorem tb_129 : jm_tb[129]? = some mX12_starts := rfl
theorem tb_130 : jm_tb[130]? = some mX12_goesStep := rfl
theorem tb_131 : jm_tb[131]? = some mX12_ends := rfl
theorem tb_132 : jm_tb[132]? = some mX12_comes := rfl
theorem tb_133 : jm_tb[133]? = some mX12_goes := rfl
theorem tb_134 : jm_tb[134]? = some mX12_goesAll := rfl
theorem tb_135 : jm_tb[135]? = some mX12_isOf := rfl
theorem tb_136 : jm_tb[136]? = some mX12_likelyOf := rfl
theorem tb_137 : jm_tb[137]? = some mX12_all := rfl
theorem tb_138 : jm_tb[138]? = some mX12_least := rfl
theorem tb_139 : jm_tb[139]? = some mX12_states := rfl
theorem tb_140 : jm_tb[140]? = some mX12_likely := rfl
theorem tb_141 : jm_tb[141]? = some mX12_partsOf := rfl
theorem tb_142 : jm_tb[142]? = some mX12_state := rfl
theorem tb_143 : jm_tb[143]? = some mX12_likeliest := rfl
theorem tb_144 : jm_tb[144]? = some mX12_mean := rfl
theorem tb_145 : jm_tb[145]? = some mX12_isPart := rfl
theorem tb_146 : jm_tb[146]? = some mX12_often := rfl
theorem tb_147 : jm_tb[147]? = some mX12_since := rfl
theorem tb_148 : jm_tb[148]? = some mX12_drunk := rfl
theorem tb_149 : jm_tb[149]? = some mX12_done := rfl
theorem tb_150 : jm_tb[150]? = some mX12_costNow := rfl
set_option maxRecDepth 20000 in
theorem tb_151 : jm_tb[151]? = some mX12_cost := rfl
set_option maxRecDepth 20000 in
theorem tb_152 : jm_tb[152]? = some mX12_fits := rfl
set_option maxRecDepth 20000 in
theorem tb_153 : jm_tb[153]? = some mX12_goesGiven := rfl
set_option maxRecDepth 20000 in
theorem tb_154 : jm_tb[154]? = some mX12_share := rfl
set_option maxRecDepth 20000 in
theorem tb_155 : jm_tb[155]? = some mX12_given := rfl
set_option maxRecDepth 20000 in
theorem tb_156 : jm_tb[156]? = some mX12_takeCost := rfl
set_option maxRecDepth 20000 in
theorem tb_157 : jm_tb[157]? = some mX12_worthOf := rfl
set_option maxRecDepth 20000 in
theorem tb_158 : jm_tb[158]? = some mX12_best := rfl
set_option maxRecDepth 20000 in
theorem tb_159 : jm_tb[159]? = some mX12_worth := rfl
set_option maxRecDepth 20000 in
theorem tb_160 : jm_tb[160]? = some mX12_gain := rfl
set_option maxRecDepth 20000 in
theorem tb_161 : jm_tb[161]? = some mX12_trueNow := rfl
set_option maxRecDepth 20000 in
theorem tb_162 : jm_tb[162]? = some mX12_without := rfl
set_option maxRecDepth 20000 in
theorem tb_163 : jm_tb[163]? = some mX12_leastWithout := rfl
set_option maxRecDepth 20000 in
theorem tb_164 : jm_tb[164]? = some mX12_keeper := rfl
set_option maxRecDepth 20000 in
theorem tb_165 : jm_tb[165]? = some mX12_spoiler := rfl
set_option maxRecDepth 20000 in
theorem tb_166 : jm_tb[166]? = some mX12_falling := rfl
set_option maxRecDepth 20000 in
theorem tb_167 : jm_tb[167]? = some mX12_seeing := rfl
set_option maxRecDepth 20000 in
theorem tb_168 : jm_tb[168]? = some mX12_filled := rfl
set_option maxRecDepth 20000 in
theorem tb_169 : jm_tb[169]? = some mX12_fill := rfl
set_option maxRecDepth 20000 in
theorem tb_170 : jm_tb[170]? = some mX12_ruled := rfl
set_option maxRecDepth 20000 in
theorem tb_171 : jm_tb[171]? = some mX12_swapped := rfl
set_option maxRecDepth 20000 in
theorem tb_172 : jm_tb[172]? = some mX12_swap := rfl
set_option maxRecDepth 20000 in
theorem tb_173 : jm_tb[173]? = some mX12_draws := rfl
set_option maxRecDepth 20000 in
theorem tb_174 : jm_tb[174]? = some mX12_dayDoes := rfl
set_option maxRecDepth 20000 in
theorem tb_175 : jm_tb[175]? = some mX12_dayGoes := rfl
set_option maxRecDepth 20000 in
theorem tb_176 : jm_tb[176]? = some mX12_day := rfl
set_option maxRecDepth 20000 in
theorem tb_177 : jm_tb[177]? = some mX12_span := rfl
set_option maxRecDepth 20000 in
theorem tb_178 : jm_tb[178]? = some mX12_keepsVisits := rfl
set_option maxRecDepth 20000 in
theorem tb_179 : jm_tb[179]? = some mX12_leaves := rfl
set_option maxRecDepth 20000 in
theorem tb_180 : jm_tb[180]? = some mX12_come := rfl
set_option maxRecDepth 20000 in
theorem tb_181 : jm_tb[181]? = some mX12_skip := rfl
set_option maxRecDepth 20000 in
theorem tb_182 : jm_tb[182]? = some mX12_shift := rfl
set_option maxRecDepth 20000 in
theorem tb_183 : jm_tb[183]? = some mX12_teach := rfl
set_option maxRecDepth 20000 in
theorem tb_184 : jm_tb[184]? = some mX12_undo := rfl
set_option maxRecDepth 20000 in
theorem tb_185 : jm_tb[185]? = some mX12_keepsRow := rfl
set_option maxRecDepth 20000 in
theorem tb_186 : jm_tb[186]? = some mX12_keepsAll := rfl
set_option maxRecDepth 20000 in
theorem tb_187 : jm_tb[187]? = some mX12_image := rfl
set_option maxRecDepth 20000 in
theorem tb_188 : jm_tb[188]? = some mX12_restore := rfl
set_option maxRecDepth 20000 in
theorem tb_189 : jm_tb[189]? = some mX12_status := rfl
set_option maxRecDepth 20000 in
theorem tb_190 : jm_tb[190]? = some mX12_count := rfl
set_option maxRecDepth 20000 in
theorem tb_191 : jm_tb[191]? = some mX0_init := rfl
set_option maxRecDepth 20000 in
theorem tb_192 : jm_tb[192]? = some mX0_clear := rfl
set_option maxRecDepth 20000 in
theorem tb_193 : jm_tb[193]? = some mX0_copy := rfl
set_option maxRecDepth 20000 in
theorem tb_194 : jm_tb[194]? = some mX0_read := rfl
set_option maxRecDepth 20000 in
theorem tb_195 : jm_tb[195]? = some mX0_readLine := rfl
set_option maxRecDepth 20000 in
theorem tb_196 : jm_tb[196]? = some mX0_tellsOf := rfl
set_option maxRecDepth 20000 in
theorem tb_197 : jm_tb[197]? = some mX0_isFitting := rfl
set_option maxRecDepth 20000 in
theorem tb_198 : jm_tb[198]? = some mX0_valueOf := rfl
set_option maxRecDepth 20000 in
theorem tb_199 : jm_tb[199]? = some mX1_init := rfl
set_option maxRecDepth 20000 in
theorem tb_200 : jm_tb[200]? = some mX1_pairOf := rfl
set_option maxRecDepth 20000 in
theorem tb_201 : jm_tb[201]? = some mX1_numberOf := rfl
set_option maxRecDepth 20000 in
theorem tb_202 : jm_tb[202]? = some mX1_stateAt := rfl
set_option maxRecDepth 20000 in
theorem tb_203 : jm_tb[203]? = some mX1_partsAt := rfl
set_option maxRecDepth 20000 in
theorem tb_204 : jm_tb[204]? = some mX1_add := rfl
set_option maxRecDepth 20000 in
theorem tb_205 : jm_tb[205]? = some mX1_clear := rfl
set_option maxRecDepth 20000 in
theorem tb_206 : jm_tb[206]? = some mX2_init := rfl
set_option maxRecDepth 20000 in
theorem tb_207 : jm_tb[207]? = some mX2_setOut := rfl
set_option maxRecDepth 20000 in
theorem tb_208 : jm_tb[208]? = some mX2_enter := rfl
set_option maxRecDepth 20000 in
theorem tb_209 : jm_tb[209]? = some mX2_warmth := rfl
set_option maxRecDepth 20000 in
theorem tb_210 : jm_tb[210]? = some mX2_hasRoom := rfl
set_option maxRecDepth 20000 in
theorem tb_211 : jm_tb[211]? = some mX2_isTrue := rfl
set_option maxRecDepth 20000 in
theorem tb_212 : jm_tb[212]? = some mX2_isSo := rfl
set_option maxRecDepth 20000 in
theorem tb_213 : jm_tb[213]? = some mX2_wordWorths := rfl
set_option maxRecDepth 20000 in
theorem tb_214 : jm_tb[214]? = some mX3_init := rfl
set_option maxRecDepth 20000 in
theorem tb_215 : jm_tb[215]? = some mX3_pass := rfl
set_option maxRecDepth 20000 in
theorem tb_216 : jm_tb[216]? = some mX3_answer := rfl
set_option maxRecDepth 20000 in
theorem tb_217 : jm_tb[217]? = some mX3_passVisit := rfl
set_option maxRecDepth 20000 in
theorem tb_218 : jm_tb[218]? = some mX3_isDone := rfl
set_option maxRecDepth 20000 in
theorem tb_219 : jm_tb[219]? = some mX3_draw := rfl
set_option maxRecDepth 20000 in
theorem tb_220 : jm_tb[220]? = some mX3_doAct := rfl
set_option maxRecDepth 20000 in
theorem tb_221 : jm_tb[221]? = some mX3_drink := rfl
set_option maxRecDepth 20000 in
theorem tb_222 : jm_tb[222]? = some mX3_lookInside := rfl
set_option maxRecDepth 20000 in
theorem tb_223 : jm_tb[223]? = some mX3_start := rfl
set_option maxRecDepth 20000 in
theorem tb_224 : jm_tb[224]? = some mX4_init := rfl
set_option maxRecDepth 20000 in
theorem tb_225 : jm_tb[225]? = some mX4_clear := rfl
set_option maxRecDepth 20000 in
theorem tb_226 : jm_tb[226]? = some mX4_page := rfl
set_option maxRecDepth 20000 in
theorem tb_227 : jm_tb[227]? = some mX4_total := rfl
set_option maxRecDepth 20000 in
theorem tb_228 : jm_tb[228]? = some mX4_personOf := rfl
set_option maxRecDepth 20000 in
theorem tb_229 : jm_tb[229]? = some mX4_minuteOf := rfl
set_option maxRecDepth 20000 in
theorem tb_230 : jm_tb[230]? = some mX4_whichOfHis := rfl
set_option maxRecDepth 20000 in
theorem tb_231 : jm_tb[231]? = some mX4_minutesSinceHis := rfl
set_option maxRecDepth 20000 in
theorem tb_232 : jm_tb[232]? = some mX4_visitsOf := rfl
set_option maxRecDepth 20000 in
theorem tb_233 : jm_tb[233]? = some mX4_firstOf := rfl
set_option maxRecDepth 20000 in
theorem tb_234 : jm_tb[234]? = some mX4_insert := rfl
set_option maxRecDepth 20000 in
theorem tb_235 : jm_tb[235]? = some mX4_remove := rfl
set_option maxRecDepth 20000 in
theorem tb_236 : jm_tb[236]? = some mX4_turnPage := rfl
set_option maxRecDepth 20000 in
theorem tb_237 : jm_tb[237]? = some mX4_turnBack := rfl
set_option maxRecDepth 20000 in
theorem tb_238 : jm_tb[238]? = some mX4_copy := rfl
set_option maxRecDepth 20000 in
theorem tb_239 : jm_tb[239]? = some mX4_copyPage := rfl
set_option maxRecDepth 20000 in
theorem tb_240 : jm_tb[240]? = some mX5_init := rfl
set_option maxRecDepth 20000 in
theorem tb_241 : jm_tb[241]? = some mX5_clear := rfl
set_option maxRecDepth 20000 in
theorem tb_242 : jm_tb[242]? = some mX5_copy := rfl
set_option maxRecDepth 20000 in
theorem tb_243 : jm_tb[243]? = some mX5_actOf := rfl
set_option maxRecDepth 20000 in
theorem tb_244 : jm_tb[244]? = some mX5_oddsOf := rfl
set_option maxRecDepth 20000 in
theorem tb_245 : jm_tb[245]? = some mX5_hasCondition := rfl
set_option maxRecDepth 20000 in
theorem tb_246 : jm_tb[246]? = some mX5_read := rfl
set_option maxRecDepth 20000 in
theorem tb_247 : jm_tb[247]? = some mX5_readStep := rfl
set_option maxRecDepth 20000 in
theorem tb_248 : jm_tb[248]? = some mX5_readEither := rfl
set_option maxRecDepth 20000 in
theorem tb_249 : jm_tb[249]? = some mX5_readBoth := rfl
set_option maxRecDepth 20000 in
theorem tb_250 : jm_tb[250]? = some mX5_readClaim := rfl
set_option maxRecDepth 20000 in
theorem tb_251 : jm_tb[251]? = some mX5_takeRelation := rfl
set_option maxRecDepth 20000 in
theorem tb_252 : jm_tb[252]? = some mX5_readSum := rfl
set_option maxRecDepth 20000 in
theorem tb_253 : jm_tb[253]? = some mX5_readProduct := rfl
set_option maxRecDepth 20000 in
theorem tb_254 : jm_tb[254]? = some mX5_readUnit := rfl
set_option maxRecDepth 20000 in
theorem tb_255 : jm_tb[255]? = some mX5_mayOpen := rfl
set_option maxRecDepth 20000 in
theorem tb_256 : jm_tb[256]? = some mX5_order := rfl
set_option maxRecDepth 20000 in
theorem tb_257 : jm_tb[257]? = some mX5_isSo := rfl
set_option maxRecDepth 20000 in
theorem tb_258 : jm_tb[258]? = some mX5_joined := rfl
set_option maxRecDepth 20000 in
theorem tb_259 : jm_tb[259]? = some mX5_push := rfl
set_option maxRecDepth 20000 in
theorem tb_260 : jm_tb[260]? = some mX5_pop := rfl
set_option maxRecDepth 20000 in
theorem tb_261 : jm_tb[261]? = some mX6_init := rfl
set_option maxRecDepth 20000 in
theorem tb_262 : jm_tb[262]? = some mX6_forget := rfl
set_option maxRecDepth 20000 in
theorem tb_263 : jm_tb[263]? = some mX6_endBy := rfl
set_option maxRecDepth 20000 in
theorem tb_264 : jm_tb[264]? = some mX6_costBy := rfl
set_option maxRecDepth 20000 in
theorem tb_265 : jm_tb[265]? = some mX6_endOrCostBy := rfl
set_option maxRecDepth 20000 in
theorem tb_266 : jm_tb[266]? = some mX6_statesBehind := rfl
set_option maxRecDepth 20000 in
theorem tb_267 : jm_tb[267]? = some mX6_factBehind := rfl
set_option maxRecDepth 20000 in
theorem tb_268 : jm_tb[268]? = some mX6_partsBehind := rfl
set_option maxRecDepth 20000 in
theorem tb_269 : jm_tb[269]? = some mX6_drunkBy := rfl
set_option maxRecDepth 20000 in
theorem tb_270 : jm_tb[270]? = some mX6_washedAgain := rfl
set_option maxRecDepth 20000 in
theorem tb_271 : jm_tb[271]? = some mX6_looksTaken := rfl
set_option maxRecDepth 20000 in
theorem tb_272 : jm_tb[272]? = some mX6_factGiven := rfl
set_option maxRecDepth 20000 in
theorem tb_273 : jm_tb[273]? = some mX6_wayGiven := rfl
set_option maxRecDepth 20000 in
theorem tb_274 : jm_tb[274]? = some mX6_allGiven := rfl
set_option maxRecDepth 20000 in
theorem tb_275 : jm_tb[275]? = some mX6_fitting := rfl
set_option maxRecDepth 20000 in
theorem tb_276 : jm_tb[276]? = some mX6_isVisit := rfl
set_option maxRecDepth 20000 in
theorem tb_277 : jm_tb[277]? = some mX6_reckon := rfl
set_option maxRecDepth 20000 in
theorem tb_278 : jm_tb[278]? = some mX6_keepCounts := rfl
set_option maxRecDepth 20000 in
theorem tb_279 : jm_tb[279]? = some mX6_reckonGiven := rfl
set_option maxRecDepth 20000 in
theorem tb_280 : jm_tb[280]? = some mX7_init := rfl
set_option maxRecDepth 20000 in
theorem tb_281 : jm_tb[281]? = some mX7_plan := rfl
set_option maxRecDepth 20000 in
theorem tb_282 : jm_tb[282]? = some mX7_setOut := rfl
set_option maxRecDepth 20000 in
theorem tb_283 : jm_tb[283]? = some mX7_isLeftOut := rfl
set_option maxRecDepth 20000 in
theorem tb_284 : jm_tb[284]? = some mX7_enter := rfl
set_option maxRecDepth 20000 in
theorem tb_285 : jm_tb[285]? = some mX7_keepFitting := rfl
set_option maxRecDepth 20000 in
theorem tb_286 : jm_tb[286]? = some mX7_act := rfl
set_option maxRecDepth 20000 in
theorem tb_287 : jm_tb[287]? = some mX7_doStep := rfl
set_option maxRecDepth 20000 in
theorem tb_288 : jm_tb[288]? = some mX7_clearMemo := rfl
set_option maxRecDepth 20000 in
theorem tb_289 : jm_tb[289]? = some mX7_isSo := rfl
set_option maxRecDepth 20000 in
theorem tb_290 : jm_tb[290]? = some mX7_doAct := rfl
set_option maxRecDepth 20000 in
theorem tb_291 : jm_tb[291]? = some mX7_drink := rfl
set_option maxRecDepth 20000 in
theorem tb_292 : jm_tb[292]? = some mX7_lookInside := rfl
set_option maxRecDepth 20000 in
theorem tb_293 : jm_tb[293]? = some mX7_start := rfl
set_option maxRecDepth 20000 in
theorem tb_294 : jm_tb[294]? = some mX7_forgetSeen := rfl
set_option maxRecDepth 20000 in
theorem tb_295 : jm_tb[295]? = some mX7_startFull := rfl
set_option maxRecDepth 20000 in
theorem tb_296 : jm_tb[296]? = some mX7_goOn := rfl
set_option maxRecDepth 20000 in
theorem tb_297 : jm_tb[297]? = some mX7_load := rfl
set_option maxRecDepth 20000 in
theorem tb_298 : jm_tb[298]? = some mX7_drunkFrom := rfl
set_option maxRecDepth 20000 in
theorem tb_299 : jm_tb[299]? = some mX7_costAt := rfl
set_option maxRecDepth 20000 in
theorem tb_300 : jm_tb[300]? = some mX7_allParts := rfl
set_option maxRecDepth 20000 in
theorem tb_301 : jm_tb[301]? = some mX7_trueParts := rfl
set_option maxRecDepth 20000 in
theorem tb_302 : jm_tb[302]? = some mX7_sumFacts := rfl
set_option maxRecDepth 20000 in
theorem tb_303 : jm_tb[303]? = some mX7_sumStates := rfl
set_option maxRecDepth 20000 in
theorem tb_304 : jm_tb[304]? = some mX7_weighWays := rfl
set_option maxRecDepth 20000 in
theorem tb_305 : jm_tb[305]? = some mX7_takeCost := rfl
set_option maxRecDepth 20000 in
theorem tb_306 : jm_tb[306]? = some mX7_startCost := rfl
set_option maxRecDepth 20000 in
theorem tb_307 : jm_tb[307]? = some mX8_init := rfl
set_option maxRecDepth 20000 in
theorem tb_308 : jm_tb[308]? = some mX8_setOut := rfl
set_option maxRecDepth 20000 in
theorem tb_309 : jm_tb[309]? = some mX8_tell := rfl
set_option maxRecDepth 20000 in
theorem tb_310 : jm_tb[310]? = some mX8_priceAt := rfl
set_option maxRecDepth 20000 in
theorem tb_311 : jm_tb[311]? = some mX8_toldOf := rfl
set_option maxRecDepth 20000 in
theorem tb_312 : jm_tb[312]? = some mX8_priceOf := rfl
set_option maxRecDepth 20000 in
theorem tb_313 : jm_tb[313]? = some mX8_copy := rfl
set_option maxRecDepth 20000 in
theorem tb_314 : jm_tb[314]? = some mX8_read := rfl
set_option maxRecDepth 20000 in
theorem tb_315 : jm_tb[315]? = some mX8_readClause := rfl
set_option maxRecDepth 20000 in
theorem tb_316 : jm_tb[316]? = some mX8_isTooMany := rfl
set_option maxRecDepth 20000 in
theorem tb_317 : jm_tb[317]? = some mX8_readNumbers := rfl
set_option maxRecDepth 20000 in
theorem tb_318 : jm_tb[318]? = some mX8_readCups := rfl
set_option maxRecDepth 20000 in
theorem tb_319 : jm_tb[319]? = some mX8_readPrices := rfl
set_option maxRecDepth 20000 in
theorem tb_320 : jm_tb[320]? = some mX8_readVisit := rfl
set_option maxRecDepth 20000 in
theorem tb_321 : jm_tb[321]? = some mX9_init := rfl
set_option maxRecDepth 20000 in
theorem tb_322 : jm_tb[322]? = some mX9_hasRoom := rfl
set_option maxRecDepth 20000 in
theorem tb_323 : jm_tb[323]? = some mX9_put := rfl
set_option maxRecDepth 20000 in
theorem tb_324 : jm_tb[324]? = some mX9_open := rfl
set_option maxRecDepth 20000 in
theorem tb_325 : jm_tb[325]? = some mX9_isFine := rfl
set_option maxRecDepth 20000 in
theorem tb_326 : jm_tb[326]? = some mX9_refuse := rfl
set_option maxRecDepth 20000 in
theorem tb_327 : jm_tb[327]? = some mX9_nextPlace := rfl
set_option maxRecDepth 20000 in
theorem tb_328 : jm_tb[328]? = some mX9_goesOn := rfl
set_option maxRecDepth 20000 in
theorem tb_329 : jm_tb[329]? = some mX9_takeSign := rfl
set_option maxRecDepth 20000 in
theorem tb_330 : jm_tb[330]? = some mX9_needSign := rfl
set_option maxRecDepth 20000 in
theorem tb_331 : jm_tb[331]? = some mX9_goTo := rfl
set_option maxRecDepth 20000 in
theorem tb_332 : jm_tb[332]? = some mX9_takeWordOf := rfl
set_option maxRecDepth 20000 in
theorem tb_333 : jm_tb[333]? = some mX9_matches := rfl
set_option maxRecDepth 20000 in
theorem tb_334 : jm_tb[334]? = some mX9_takeNumber := rfl
set_option maxRecDepth 20000 in
theorem tb_335 : jm_tb[335]? = some mX9_byteAt := rfl
set_option maxRecDepth 20000 in
theorem tb_336 : jm_tb[336]? = some mX9_isLetter := rfl
set_option maxRecDepth 20000 in
theorem tb_337 : jm_tb[337]? = some mX9_isDigit := rfl
set_option maxRecDepth 20000 in
theorem tb_338 : jm_tb[338]? = some mX10_init := rfl
set_option maxRecDepth 20000 in
theorem tb_339 : jm_tb[339]? = some mX10_begin := rfl
set_option maxRecDepth 20000 in
theorem tb_340 : jm_tb[340]? = some mX10_habitOf := rfl
set_option maxRecDepth 20000 in
theorem tb_341 : jm_tb[341]? = some mL_office := rfl
set_option maxRecDepth 20000 in
theorem tb_342 : jm_tb[342]? = some mL_habit := rfl
set_option maxRecDepth 20000 in
theorem tb_343 : jm_tb[343]? = some mL_rule := rfl
set_option maxRecDepth 20000 in
theorem tb_344 : jm_tb[344]? = some mL_book := rfl
set_option maxRecDepth 20000 in
theorem tb_345 : jm_tb[345]? = some mL_told := rfl
set_option maxRecDepth 20000 in
theorem tb_346 : jm_tb[346]? = some mL_visit := rfl
set_option maxRecDepth 20000 in
theorem tb_347 : jm_tb[347]? = some mL_person := rfl
set_option maxRecDepth 20000 in
theorem tb_348 : jm_tb[348]? = some mL_price := rfl
set_option maxRecDepth 20000 in
theorem tb_349 : jm_tb[349]? = some mL_states := rfl
set_option maxRecDepth 20000 in
theorem tb_350 : jm_tb[350]? = some mL_likely := rfl
set_option maxRecDepth 20000 in
theorem tb_351 : jm_tb[351]? = some mL_state := rfl
set_option maxRecDepth 20000 in
theorem tb_352 : jm_tb[352]? = some mL_likeliest := rfl
set_option maxRecDepth 20000 in
theorem tb_353 : jm_tb[353]? = some mL_mean := rfl
set_option maxRecDepth 20000 in
theorem tb_354 : jm_tb[354]? = some mL_often := rfl
set_option maxRecDepth 20000 in
theorem tb_355 : jm_tb[355]? = some mL_drunk := rfl
set_option maxRecDepth 20000 in
theorem tb_356 : jm_tb[356]? = some mL_done := rfl
set_option maxRecDepth 20000 in
theorem tb_357 : jm_tb[357]? = some mL_cost := rfl
set_option maxRecDepth 20000 in
theorem tb_358 : jm_tb[358]? = some mL_fits := rfl
set_option maxRecDepth 20000 in
theorem tb_359 : jm_tb[359]? = some mL_given := rfl
set_option maxRecDepth 20000 in
theorem tb_360 : jm_tb[360]? = some mL_best := rfl
set_option maxRecDepth 20000 in
theorem tb_361 : jm_tb[361]? = some mL_worth := rfl
set_option maxRecDepth 20000 in
theorem tb_362 : jm_tb[362]? = some mL_gain := rfl
set_option maxRecDepth 20000 in
theorem tb_363 : jm_tb[363]? = some mL_without := rfl
set_option maxRecDepth 20000 in
theorem tb_364 : jm_tb[364]? = some mL_falling := rfl
set_option maxRecDepth 20000 in
theorem tb_365 : jm_tb[365]? = some mL_seeing := rfl
set_option maxRecDepth 20000 in
theorem tb_366 : jm_tb[366]? = some mL_filled := rfl
set_option maxRecDepth 20000 in
theorem tb_367 : jm_tb[367]? = some mL_ruled := rfl
set_option maxRecDepth 20000 in
theorem tb_368 : jm_tb[368]? = some mL_swapped := rfl
set_option maxRecDepth 20000 in
theorem tb_369 : jm_tb[369]? = some mL_day := rfl
set_option maxRecDepth 20000 in
theorem tb_370 : jm_tb[370]? = some mL_span := rfl
set_option maxRecDepth 20000 in
theorem tb_371 : jm_tb[371]? = some mL_come := rfl
set_option maxRecDepth 20000 in
theorem tb_372 : jm_tb[372]? = some mL_skip := rfl
set_option maxRecDepth 20000 in
theorem tb_373 : jm_tb[373]? = some mL_shift := rfl
set_option maxRecDepth 20000 in
theorem tb_374 : jm_tb[374]? = some mL_teach := rfl
set_option maxRecDepth 20000 in
theorem tb_375 : jm_tb[375]? = some mX9_isFine := rfl
set_option maxRecDepth 20000 in
theorem tb_376 : jm_tb[376]? = some mJS_charAt := rfl
set_option maxRecDepth 20000 in
theorem tb_377 : jm_tb[377]? = some mJS_checkIndex := rfl
set_option maxRecDepth 20000 in
theorem tb_378 : jm_tb[378]? = some mJS_coder := rfl
set_option maxRecDepth 20000 in
theorem tb_379 : jm_tb[379]? = some mJS_isLatin1 := rfl
set_option maxRecDepth 20000 in
theorem tb_380 : jm_tb[380]? = some mJS_length := rfl
set_option maxRecDepth 20000 in
theorem tb_381 : jm_tb[381]? = some mJL_charAt := rfl
set_option maxRecDepth 20000 in
theorem tb_382 : jm_tb[382]? = some mJP_checkIndex := rfl
def jm_fk (ci : Nat) : List Nat := (([[0, 2, 2, 2], [0, 2, 2], [0, 0, 0, 0, 0, 0, 0, 0, 0, 0, 2, 2], [2, 0, 0, 0, 0], [0, 2, 2, 2], [0, 2, 2, 2, 2, 2, 0, 2, 0], [2, 0, 2, 2, 2, 2, 2, 2, 2, 1, 1, 0, 2, 2, 2, 1], [2, 2, 2, 2, 2, 2, 1, 1, 2, 2, 0, 0, 0, 0], [2, 2, 2], [2, 0, 0, 0, 0, 0], [2, 2, 2, 2], [2, 2, 2, 2, 2, 2, 2, 2, 0, 0, 0, 0], [0, 2, 0, 0, 0, 0, 0, 0, 0, 2, 2, 2, 2, 2, 2, 2, 0, 0, 0, 0, 2, 2, 2, 2, 2, 2, 2, 2, 0, 0, 2, 2, 0, 2, 2, 0, 0, 2, 2, 2, 2, 1, 1, 0, 0, 0, 0, 0, 0, 0, 0, 0, 0, 0, 0, 0, 2, 0, 0, 0, 0, 2, 0, 2, 0]] : List (List Nat))[ci]?).getD []
def jm_ieq (a b : jm_I) : Bool := decide (a.1 = b.1) && (decide (a.2.1 = b.2.1) && (decide (a.2.2.1 = b.2.2.1) && (decide (a.2.2.2.1 = b.2.2.2.1) && (decide (a.2.2.2.2.1 = b.2.2.2.2.1) && (decide (a.2.2.2.2.2.1 = b.2.2.2.2.2.1) && (decide (a.2.2.2.2.2.2.1 = b.2.2.2.2.2.2.1) && (decide (a.2.2.2.2.2.2.2.1 = b.2.2.2.2.2.2.2.1) && decide (a.2.2.2.2.2.2.2.2 = b.2.2.2.2.2.2.2.2))))))))
def jm_ate (l : List jm_I) (pc : Nat) (e : jm_I) : Bool := match jm_at l pc with
  | some e' => jm_ieq e' e
  | none => false
theorem jm_ate_ok {l : List jm_I} {pc : Nat} {e : jm_I} (h : jm_ate l pc e = true) : jm_at l pc = some e := by
  unfold jm_ate at h
  split at h
  next e' he =>
    rw [he]
    obtain ⟨a1, a2, a3, a4, a5, a6, a7, a8, a9⟩ := e'
    obtain ⟨b1, b2, b3, b4, b5, b6, b7, b8, b9⟩ := e
    simp only [jm_ieq, Bool.and_eq_true, decide_eq_true_eq] at h
    obtain ⟨h1, h2, h3, h4, h5, h6, h7, h8, h9⟩ := h
    subst h1; subst h2; subst h3; subst h4; subst h5; subst h6; subst h7; subst h8; subst h9
    rfl
  next => cases h
/-- the claim's run over the flat memory; g: the script -/
abbrev fm_g : Type := Nat × (Nat → Int32)
noncomputable def ev (g : fm_g) (d : Nat) (M : jm_M) (pc : Nat) (L : jm_L) (st : List Value) (s : fm_S) : Option (jm_O × fm_S) := fm_ev shp (jm_G0 g.1 g.2) jm_tb d M pc L st s
/-- behind a call, in a method without handlers -/
noncomputable def evK (g : fm_g) (d : Nat) (M : jm_M) (np : Nat) (L : jm_L) (rest : List Value) (r : Option (jm_O × fm_S)) : Option (jm_O × fm_S) := match r with
  | some (.inl none, s') => ev g d M np L rest s'
  | some (.inl (some v), s') => ev g d M np L (v :: rest) s'
  | some (.inr E, s') => some (.inr E, s')
  | none => none
/-- .. in one with handlers -/
noncomputable def evH (g : fm_g) (d : Nat) (M : jm_M) (pc np : Nat) (L : jm_L) (rest : List Value) (r : Option (jm_O × fm_S)) : Option (jm_O × fm_S) := match r with
  | some (.inl none, s') => ev g d M np L rest s'
  | some (.inl (some v), s') => ev g d M np L (v :: rest) s'
  | some (.inr E, s') => match jm_hnd M.2.2.2.2.1 pc E with
    | some hp => ev g d M hp L [.float 1] s'
    | none => none
  | none => none
/-- an answer of true or false -/
def bi (P : Prop) [Decidable P] : Int32 := if P then Int32.ofNat 1 else Int32.ofNat 0
theorem bi01 {P : Prop} [Decidable P] : bi P = 0 ∨ bi P = 1 := by
  unfold bi
  split
  · exact Or.inr rfl
  · exact Or.inl rfl
theorem bi_eq {P : Prop} [Decidable P] : (bi P = 0) = ¬P := by
  unfold bi
  split
  next h => simp [h]
  next h => simp [h]
theorem bi_ne {P : Prop} [Decidable P] : (bi P ≠ 0) = P := by
  unfold bi
  split
  next h => simp [h]
  next h => simp [h]
section ER
variable {g : fm_g} {d : Nat} {M : jm_M} {pc np x y z w : Nat} {v : Value} {bs : List Bool} {L L0 : jm_L} {st : List Value} {s : fm_S}
theorem evK_n {np : Nat} {rest : List Value} : evK g d M np L rest (some (.inl none, s)) = ev g d M np L rest s := rfl
theorem evK_v {np : Nat} {rest : List Value} {u : Value} : evK g d M np L rest (some (.inl (some u), s)) = ev g d M np L (u :: rest) s := rfl
theorem evK_x {np E : Nat} {rest : List Value} : evK g d M np L rest (some (.inr E, s)) = some (.inr E, s) := rfl
theorem evH_v {pc np : Nat} {rest : List Value} {u : Value} : evH g d M pc np L rest (some (.inl (some u), s)) = ev g d M np L (u :: rest) s := rfl
def msk (bs : List Bool) (L0 : jm_L) : jm_L := if bs = [] then L0 else jm_mask bs L0
/-- a run doesn't hang on what is masked -/
theorem jm_mask2 : ∀ (bs : List Bool) (L : jm_L), jm_mask bs (jm_mask bs L) = jm_mask bs L
  | [], _ => rfl
  | _ :: _, [] => rfl
  | b :: bs, v :: L => by
    simp only [jm_mask, jm_mask2 bs L]
    cases b <;> rfl
theorem e_m {i : Instr} (hat : jm_at M.2.2.2.2.2.2 pc = some (pc, i, np, x, y, z, w, v, bs)) (hb : bs ≠ []) : ev g d M pc L0 st s = ev g d M pc (jm_mask bs L0) st s := by
  have h1 : (if bs = [] then L0 else jm_mask bs L0) = jm_mask bs L0 := if_neg hb
  have h2 : (if bs = [] then jm_mask bs L0 else jm_mask bs (jm_mask bs L0)) = jm_mask bs L0 := by rw [if_neg hb, jm_mask2]
  refine fm_opt fun r => ?_
  unfold ev
  rw [fm_ev_iff, fm_ev_iff]
  constructor
  · rintro ⟨n, hn⟩
    cases n with
    | zero => cases hn
    | succ n => exact ⟨n + 1, by simp only [fm_run, hat, h1, h2] at hn ⊢; exact hn⟩
  · rintro ⟨n, hn⟩
    cases n with
    | zero => cases hn
    | succ n => exact ⟨n + 1, by simp only [fm_run, hat, h1, h2] at hn ⊢; exact hn⟩
theorem e_s {e : jm_I} {np : Nat} {L1 : jm_L} {st1 : List Value} {s1 : fm_S} (hat : jm_at M.2.2.2.2.2.2 pc = some e) (hk : jm_kind e = 0) (hs : fm_stp shp (jm_G0 g.1 g.2) e (msk e.2.2.2.2.2.2.2.2 L0) st s = some (np, L1, st1, s1)) : ev g d M pc L0 st s = ev g d M np L1 st1 s1 := by
  unfold ev
  rw [fm_ev_s (L := msk e.2.2.2.2.2.2.2.2 L0) hat hk rfl, hs]
  rfl
theorem e_i {e : jm_I} {t np : Nat} {L1 : jm_L} {st1 : List Value} {P : Prop} [Decidable P] (hat : jm_at M.2.2.2.2.2.2 pc = some e) (hk : jm_kind e = 0) (hb : fm_heapy e.2.1 = false) (hs : jm_stp (jm_G0 g.1 g.2) e (msk e.2.2.2.2.2.2.2.2 L0) st ([], 0, 0) = if P then some (t, L1, st1, ([], 0, 0)) else some (np, L1, st1, ([], 0, 0))) : ev g d M pc L0 st s = if P then ev g d M t L1 st1 s else ev g d M np L1 st1 s := by
  unfold ev
  rw [fm_ev_s (L := msk e.2.2.2.2.2.2.2.2 L0) hat hk rfl, fm_stp_blind s hb, hs]
  split <;> rfl
theorem e_div {i : Instr} {a b r : Int32} (hat : jm_at M.2.2.2.2.2.2 pc = some (pc, i, np, x, y, z, w, v, bs)) (hi : (i = .idiv ∧ r = a / b) ∨ (i = .irem ∧ r = a - a / b * b)) (hL : msk bs L0 = L) (h : b ≠ 0) : ev g d M pc L0 (.int b :: .int a :: st) s = ev g d M np L (.int r :: st) s := by
  subst hL
  rcases hi with ⟨rfl, rfl⟩ | ⟨rfl, rfl⟩
  · exact e_s hat rfl (by simp [fm_stp, jm_stp, h])
  · exact e_s hat rfl (by simp [fm_stp, jm_stp, h])
theorem e_ldiv {i : Instr} {a b r : Int64} (hat : jm_at M.2.2.2.2.2.2 pc = some (pc, i, np, x, y, z, w, v, bs)) (hi : (i = .ldiv ∧ r = a / b) ∨ (i = .lrem ∧ r = a - a / b * b)) (hL : msk bs L0 = L) (h : b ≠ 0) : ev g d M pc L0 (.long b :: .long a :: st) s = ev g d M np L (.long r :: st) s := by
  subst hL
  rcases hi with ⟨rfl, rfl⟩ | ⟨rfl, rfl⟩
  · exact e_s hat rfl (by simp [fm_stp, jm_stp, h])
  · exact e_s hat rfl (by simp [fm_stp, jm_stp, h])
theorem e_gf {i a : Nat} {u : Value} (hat : jm_at M.2.2.2.2.2.2 pc = some (pc, .getfield i, np, x, y, z, w, v, bs)) (hx : x < 50) (hL : msk bs L0 = L) (hu : (if z = 0 then .int (gI s a y) else if z = 1 then .long (gJ s a y) else .ref (gR s a y)) = u) (h : (shp a).1 = x) : ev g d M pc L0 (.ref a :: st) s = ev g d M np L (u :: st) s := by
  subst hL
  exact e_s hat rfl (by simp only [fm_stp]; rw [if_pos ⟨h, hx⟩, hu])
theorem e_pI {i a : Nat} {u : Int32} (hat : jm_at M.2.2.2.2.2.2 pc = some (pc, .putfield i, np, x, y, 0, w, v, bs)) (hL : msk bs L0 = L) (h : (shp a).1 = x) : ev g d M pc L0 (.int u :: .ref a :: st) s = ev g d M np L st (pI s a y u) := by
  subst hL
  exact e_s hat rfl (by simp only [fm_stp]; rw [if_pos ⟨h, Or.inl trivial⟩])
theorem e_pZ {i a : Nat} {u : Int32} (hat : jm_at M.2.2.2.2.2.2 pc = some (pc, .putfield i, np, x, y, 3, w, v, bs)) (hL : msk bs L0 = L) (h : (shp a).1 = x) (hu : u = 0 ∨ u = 1) : ev g d M pc L0 (.int u :: .ref a :: st) s = ev g d M np L st (pI s a y u) := by
  subst hL
  exact e_s hat rfl (by simp only [fm_stp]; rw [if_pos ⟨h, Or.inr ⟨trivial, hu⟩⟩])
theorem e_pJ {i a : Nat} {u : Int64} (hat : jm_at M.2.2.2.2.2.2 pc = some (pc, .putfield i, np, x, y, 1, w, v, bs)) (hL : msk bs L0 = L) (h : (shp a).1 = x) : ev g d M pc L0 (.long u :: .ref a :: st) s = ev g d M np L st (pJ s a y u) := by
  subst hL
  exact e_s hat rfl (by simp only [fm_stp]; rw [if_pos ⟨h, trivial⟩])
theorem e_pR {i a u : Nat} (hat : jm_at M.2.2.2.2.2.2 pc = some (pc, .putfield i, np, x, y, 2, w, v, bs)) (hL : msk bs L0 = L) (h : (shp a).1 = x) : ev g d M pc L0 (.ref u :: .ref a :: st) s = ev g d M np L st (pR s a y u) := by
  subst hL
  exact e_s hat rfl (by simp only [fm_stp]; rw [if_pos ⟨h, trivial⟩])
theorem e_ald {i : Instr} {k : Int32} {a n : Nat} (hat : jm_at M.2.2.2.2.2.2 pc = some (pc, i, np, x, y, z, w, v, bs)) (hi : (i = .iaload ∧ n = 60) ∨ (i = .baload ∧ n = 61)) (hL : msk bs L0 = L) (h : (shp a).1 = n) (hk : jm_in k (shp a).2 = true) : ev g d M pc L0 (.int k :: .ref a :: st) s = ev g d M np L (.int (gI s a k.toNatClampNeg) :: st) s := by
  subst hL
  rcases hi with ⟨rfl, rfl⟩ | ⟨rfl, rfl⟩
  · exact e_s hat rfl (by simp only [fm_stp]; rw [if_pos ⟨h, hk⟩])
  · exact e_s hat rfl (by simp only [fm_stp]; rw [if_pos ⟨h, hk⟩])
theorem e_lald {k : Int32} {a : Nat} (hat : jm_at M.2.2.2.2.2.2 pc = some (pc, .laload, np, x, y, z, w, v, bs)) (hL : msk bs L0 = L) (h : (shp a).1 = 62) (hk : jm_in k (shp a).2 = true) : ev g d M pc L0 (.int k :: .ref a :: st) s = ev g d M np L (.long (gJ s a k.toNatClampNeg) :: st) s := by
  subst hL
  exact e_s hat rfl (by simp only [fm_stp]; rw [if_pos ⟨h, hk⟩])
theorem e_aald {k : Int32} {a : Nat} (hat : jm_at M.2.2.2.2.2.2 pc = some (pc, .aaload, np, x, y, z, w, v, bs)) (hL : msk bs L0 = L) (h : 64 ≤ (shp a).1) (hk : jm_in k (shp a).2 = true) (h0 : gR s a k.toNatClampNeg ≠ 0) : ev g d M pc L0 (.int k :: .ref a :: st) s = ev g d M np L (.ref (gR s a k.toNatClampNeg) :: st) s := by
  subst hL
  exact e_s hat rfl (by simp only [fm_stp]; rw [if_pos ⟨h, hk⟩, if_neg h0])
theorem e_iast {k u : Int32} {a : Nat} (hat : jm_at M.2.2.2.2.2.2 pc = some (pc, .iastore, np, x, y, z, w, v, bs)) (hL : msk bs L0 = L) (h : (shp a).1 = 60) (hk : jm_in k (shp a).2 = true) : ev g d M pc L0 (.int u :: .int k :: .ref a :: st) s = ev g d M np L st (pI s a k.toNatClampNeg u) := by
  subst hL
  exact e_s hat rfl (by simp only [fm_stp]; rw [if_pos ⟨h, hk⟩])
theorem e_bast {k u : Int32} {a : Nat} (hat : jm_at M.2.2.2.2.2.2 pc = some (pc, .bastore, np, x, y, z, w, v, bs)) (hL : msk bs L0 = L) (h : (shp a).1 = 61) (hk : jm_in k (shp a).2 = true) : ev g d M pc L0 (.int u :: .int k :: .ref a :: st) s = ev g d M np L st (pI s a k.toNatClampNeg (vp_nar .byte u)) := by
  subst hL
  exact e_s hat rfl (by simp only [fm_stp]; rw [if_pos ⟨h, hk⟩])
theorem e_last {k : Int32} {u : Int64} {a : Nat} (hat : jm_at M.2.2.2.2.2.2 pc = some (pc, .lastore, np, x, y, z, w, v, bs)) (hL : msk bs L0 = L) (h : (shp a).1 = 62) (hk : jm_in k (shp a).2 = true) : ev g d M pc L0 (.long u :: .int k :: .ref a :: st) s = ev g d M np L st (pJ s a k.toNatClampNeg u) := by
  subst hL
  exact e_s hat rfl (by simp only [fm_stp]; rw [if_pos ⟨h, hk⟩])
theorem e_aast {k : Int32} {u a : Nat} (hat : jm_at M.2.2.2.2.2.2 pc = some (pc, .aastore, np, x, y, z, w, v, bs)) (hx : x < 60) (hL : msk bs L0 = L) (h : (shp a).1 = 70 + x) (hu : (shp u).1 = x) (hk : jm_in k (shp a).2 = true) (h0 : u ≠ 0) : ev g d M pc L0 (.ref u :: .int k :: .ref a :: st) s = ev g d M np L st (pR s a k.toNatClampNeg u) := by
  subst hL
  exact e_s hat rfl (by simp only [fm_stp]; rw [if_pos ⟨h, hu, hx, hk, h0⟩])
theorem e_len {a : Nat} (hat : jm_at M.2.2.2.2.2.2 pc = some (pc, .arraylength, np, x, y, z, w, v, bs)) (hL : msk bs L0 = L) (h : 60 ≤ (shp a).1) (h2 : (shp a).1 < 99) : ev g d M pc L0 (.ref a :: st) s = ev g d M np L (.int (Int32.ofNat (shp a).2) :: st) s := by
  subst hL
  exact e_s hat rfl (by simp only [fm_stp]; rw [if_pos ⟨h, h2⟩])
theorem e_slen (hat : jm_at M.2.2.2.2.2.2 pc = some (pc, .arraylength, np, x, y, z, w, v, bs)) (hL : msk bs L0 = L) : ev g d M pc L0 (.float 0 :: st) s = ev g d M np L (.int (Int32.ofNat g.1) :: st) s := by
  subst hL
  exact e_s hat rfl (by simp [fm_stp, jm_G0])
theorem e_sald {k : Int32} (hat : jm_at M.2.2.2.2.2.2 pc = some (pc, .iaload, np, x, y, z, w, v, bs)) (hL : msk bs L0 = L) (hk : jm_in k g.1 = true) : ev g d M pc L0 (.int k :: .float 0 :: st) s = ev g d M np L (.int (g.2 k.toNatClampNeg) :: st) s := by
  subst hL
  exact e_s hat rfl (by simp only [fm_stp]; rw [if_pos ⟨trivial, hk⟩]; rfl)
theorem e_tlen {k n : Nat} (hat : jm_at M.2.2.2.2.2.2 pc = some (pc, .arraylength, np, x, y, z, w, v, bs)) (hL : msk bs L0 = L) (hk : 1000 ≤ k) (hn : (jm_lits[k - 1000]?).map List.length = some n) : ev g d M pc L0 (.retAddr k :: st) s = ev g d M np L (.int (Int32.ofNat n) :: st) s := by
  subst hL
  obtain ⟨t, h1, rfl⟩ := Option.map_eq_some_iff.mp hn
  exact e_s hat rfl (by simp only [fm_stp]; rw [if_neg (by omega)]; simp [jm_G0, h1])
theorem e_tald {k : Nat} {j : Int32} {t : List Int32} (hat : jm_at M.2.2.2.2.2.2 pc = some (pc, .baload, np, x, y, z, w, v, bs)) (hL : msk bs L0 = L) (hk : 1000 ≤ k) (hn : jm_lits[k - 1000]? = some t) (hj : jm_in j t.length = true) : ev g d M pc L0 (.int j :: .retAddr k :: st) s = ev g d M np L (.int (t.getD j.toNatClampNeg 0) :: st) s := by
  subst hL
  exact e_s hat rfl (by simp only [fm_stp]; rw [if_neg (by omega)]; simp [jm_G0, hn, hj])
theorem e_tgf {k i : Nat} {u : Value} (hat : jm_at M.2.2.2.2.2.2 pc = some (pc, .getfield i, np, 50, y, z, w, v, bs)) (hL : msk bs L0 = L) (hu : (if y = 0 then .retAddr (k + 1000) else .int 0) = u) (hk : k < jm_lits.length) : ev g d M pc L0 (.retAddr k :: st) s = ev g d M np L (u :: st) s := by
  subst hL
  subst hu
  refine e_s hat rfl ?_
  simp only [fm_stp]
  rw [if_pos ⟨trivial, by simpa [jm_G0] using hk⟩]
  split <;> rfl
theorem e_mi {i : Nat} {a b r : Int32} (hat : jm_at M.2.2.2.2.2.2 pc = some (pc, .invokestatic i, np, x, y, z, w, v, bs)) (hi : (x = 1003 ∧ r = if a < b then b else a) ∨ (x = 1004 ∧ r = if b < a then b else a)) (hL : msk bs L0 = L) (hl : jm_lt st = true) : ev g d M pc L0 (.int b :: .int a :: st) s = ev g d M np L (.int r :: st) s := by
  subst hL
  rcases hi with ⟨rfl, rfl⟩ | ⟨rfl, rfl⟩
  · exact e_s hat rfl (by simp [fm_stp, jm_stp, hl])
  · exact e_s hat rfl (by simp [fm_stp, jm_stp, hl])
theorem e_ml {i : Nat} {a b r : Int64} (hat : jm_at M.2.2.2.2.2.2 pc = some (pc, .invokestatic i, np, x, y, z, w, v, bs)) (hi : (x = 1005 ∧ r = if b < a then a else b) ∨ (x = 1006 ∧ r = if b < a then b else a)) (hL : msk bs L0 = L) (hl : jm_lt st = true) : ev g d M pc L0 (.long b :: .long a :: st) s = ev g d M np L (.long r :: st) s := by
  subst hL
  rcases hi with ⟨rfl, rfl⟩ | ⟨rfl, rfl⟩
  · exact e_s hat rfl (by simp [fm_stp, jm_stp, hl])
  · exact e_s hat rfl (by simp [fm_stp, jm_stp, hl])
theorem e_c0 {e : jm_I} {M' : jm_M} {As rest : List Value} (hat : jm_at M.2.2.2.2.2.2 pc = some e) (hk : jm_kind e = 5) (hL : msk e.2.2.2.2.2.2.2.2 L0 = L) (hM : jm_tb[e.2.2.2.1]? = some M') (hn : As.length = M'.2.2.2.2.2.1) (hlay : (jm_lay As).length ≤ M'.2.2.1) (hr : fm_rcv shp (jm_G0 g.1 g.2) e.2.1 e.2.2.2.2.2.1 As = true) (hl : jm_lt rest = true) : ev g (d + 1) M pc L0 (As.reverse ++ rest) s = fm_K shp (jm_G0 g.1 g.2) jm_tb (d + 1) M pc e.2.2.1 (jm_sp e.2.1) L rest (ev g d M' 0 (jm_ent As M'.2.2.1) [] s) := by
  have e1 : (As.reverse ++ rest).take M'.2.2.2.2.2.1 = As.reverse := by rw [← hn]; simp
  have e2 : (As.reverse ++ rest).drop M'.2.2.2.2.2.1 = rest := by rw [← hn]; simp
  unfold ev
  have h9 := fm_ev_c (sh := shp) (G := jm_G0 g.1 g.2) (tb := jm_tb) (d := d) (s := s) (st := As.reverse ++ rest) hat hk hL hM ⟨by simp [← hn], by rw [e1, List.reverse_reverse]; exact hr, by rw [e2]; exact hl, by rw [e1, List.reverse_reverse]; exact hlay⟩
  rw [e1, e2, List.reverse_reverse] at h9
  exact h9
theorem e_c {e : jm_I} {M' : jm_M} {As rest : List Value} {np : Nat} (hat : jm_at M.2.2.2.2.2.2 pc = some e) (hk : jm_kind e = 5) (hL : msk e.2.2.2.2.2.2.2.2 L0 = L) (hM : jm_tb[e.2.2.2.1]? = some M') (hn : As.length = M'.2.2.2.2.2.1) (hlay : (jm_lay As).length ≤ M'.2.2.1) (hM0 : M.2.2.2.2.1 = []) (hsp : jm_sp e.2.1 = false) (hnp : e.2.2.1 = np) (hr : fm_rcv shp (jm_G0 g.1 g.2) e.2.1 e.2.2.2.2.2.1 As = true) (hl : jm_lt rest = true) : ev g (d + 1) M pc L0 (As.reverse ++ rest) s = evK g (d + 1) M np L rest (ev g d M' 0 (jm_ent As M'.2.2.1) [] s) := by
  rw [e_c0 hat hk hL hM hn hlay hr hl, hsp, hnp]
  cases ev g d M' 0 (jm_ent As M'.2.2.1) [] s with
  | none => rfl
  | some r =>
    obtain ⟨o, s1⟩ := r
    cases o with
    | inl v => cases v <;> rfl
    | inr E =>
      unfold fm_K evK
      dsimp only
      rw [if_neg (by simp), hM0]
      rfl
theorem e_cH {e : jm_I} {M' : jm_M} {As rest : List Value} {np : Nat} (hat : jm_at M.2.2.2.2.2.2 pc = some e) (hk : jm_kind e = 5) (hL : msk e.2.2.2.2.2.2.2.2 L0 = L) (hM : jm_tb[e.2.2.2.1]? = some M') (hn : As.length = M'.2.2.2.2.2.1) (hlay : (jm_lay As).length ≤ M'.2.2.1) (hM0 : M.2.2.2.2.1 ≠ []) (hsp : jm_sp e.2.1 = false) (hnp : e.2.2.1 = np) (hr : fm_rcv shp (jm_G0 g.1 g.2) e.2.1 e.2.2.2.2.2.1 As = true) (hl : jm_lt rest = true) : ev g (d + 1) M pc L0 (As.reverse ++ rest) s = evH g (d + 1) M pc np L rest (ev g d M' 0 (jm_ent As M'.2.2.1) [] s) := by
  rw [e_c0 hat hk hL hM hn hlay hr hl, hsp, hnp]
  cases ev g d M' 0 (jm_ent As M'.2.2.1) [] s with
  | none => rfl
  | some r =>
    obtain ⟨o, s1⟩ := r
    cases o with
    | inl v => cases v <;> rfl
    | inr E =>
      unfold fm_K evH
      dsimp only
      rw [if_neg (by simp)]
      cases jm_hnd M.2.2.2.2.1 pc E with
      | none => simp [hM0]
      | some hp => rfl
theorem e_rcv {i : Nat} {a : Nat} {r : List Value} {ci : Nat} {G : jm_G} (h : (shp a).1 = ci) (hc : ci < 60) : fm_rcv shp G (.invokevirtual i) ci (.ref a :: r) = true := by
  simp [fm_rcv, h, hc]
theorem e_rcvS {i k : Nat} {r : List Value} {g : fm_g} (h : k < jm_lits.length) : fm_rcv shp (jm_G0 g.1 g.2) (.invokevirtual i) 50 (.retAddr k :: r) = true := by
  simpa [fm_rcv, jm_G0] using h
theorem e_t {e : jm_I} {E : Nat} (hat : jm_at M.2.2.2.2.2.2 pc = some e) (hk : jm_kind e = 6) (hM : M.2.2.2.2.1 = []) (hE : e.2.2.2.1 - 2000 = E) : ev g d M pc L0 [] s = some (.inr E, pX s) := by
  subst hE
  exact fm_ev_t hat hk hM
theorem e_r {e : jm_I} {u : Option Value} {k : Nat} (hat : jm_at M.2.2.2.2.2.2 pc = some e) (hk : jm_kind e = k) (hk4 : 1 ≤ k ∧ k ≤ 4) (hr : jm_ret (jm_rz M.2.2.2.1) k st = some u) : ev g d M pc L0 st s = some (.inl u, s) := fm_ev_r hat hk hk4 hr
theorem e_rz {e : jm_I} {u : Int32} (hat : jm_at M.2.2.2.2.2.2 pc = some e) (hk : jm_kind e = 2) (hz : jm_rz M.2.2.2.1 = 1) (hu : u = 0 ∨ u = 1) : ev g d M pc L0 [.int u] s = some (.inl (some (.int u)), s) := e_r hat hk (by decide) (by rw [hz]; simp [jm_ret, hu])
end ER
