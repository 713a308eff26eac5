/-- every cell of the class and of the reference, as a region: its sort (0 int[], 1 boolean[], 2 long[], 3 int[][], 4 long[][], 5 Sheet[], 6 an object, 9 none), its length or class, the first region of its rows -/
def zlay0 (r : Int) : Nat × Nat × Int :=
  if r = 0 then (6, 7, 0) else
  if r = 1 then (6, 1, 0) else
  if r = 2 then (3, 7, 5) else
  if r = 3 then (3, 16, 12) else
  if r = 4 then (0, 2, 0) else
  if 5 ≤ r ∧ r ≤ 27 then (0, 4, 0) else
  (9, 0, 0)
def zlay1 (r : Int) : Nat × Nat × Int :=
  if r = 28 then (6, 1, 0) else
  if r = 29 then (3, 7, 32) else
  if r = 30 then (3, 16, 39) else
  if r = 31 then (0, 2, 0) else
  if 32 ≤ r ∧ r ≤ 54 then (0, 4, 0) else
  (9, 0, 0)
def zlay2 (r : Int) : Nat × Nat × Int :=
  if r = 55 then (6, 4, 0) else
  if r = 56 then (0, 120, 0) else
  if r = 57 then (3, 16, 58) else
  if 58 ≤ r ∧ r ≤ 73 then (0, 4, 0) else
  if r = 74 then (6, 6, 0) else
  if r = 75 then (4, 16, 78) else
  if r = 76 then (2, 128, 0) else
  if r = 77 then (0, 7, 0) else
  if 78 ≤ r ∧ r ≤ 93 then (2, 7, 0) else
  (9, 0, 0)
def zlay3 (r : Int) : Nat × Nat × Int :=
  if r = 94 then (6, 5, 0) else
  if r = 95 then (3, 42, 96) else
  if 96 ≤ r ∧ r ≤ 137 then (0, 42, 0) else
  if r = 138 then (6, 0, 0) else
  if r = 139 then (0, 6, 0) else
  if r = 140 then (0, 64, 0) else
  if r = 141 then (0, 6, 0) else
  (9, 0, 0)
def zlay4 (r : Int) : Nat × Nat × Int :=
  if r = 142 then (6, 2, 0) else
  if r = 143 then (3, 14, 148) else
  if r = 144 then (3, 14, 162) else
  if 145 ≤ r ∧ r ≤ 175 then (0, 7, 0) else
  if r = 176 then (5, 4, 177) else
  (9, 0, 0)
def zlay5 (r : Int) : Nat × Nat × Int :=
  if 177 ≤ r ∧ r ≤ 180 then (6, 3, 0) else
  if 181 ≤ r ∧ r ≤ 184 then (0, 100, 0) else
  (9, 0, 0)
def zlay6 (r : Int) : Nat × Nat × Int :=
  if r = 200 then (6, 8, 0) else
  if r = 201 then (0, 28, 0) else
  if r = 202 then (0, 64, 0) else
  if r = 205 then (0, 2, 0) else
  if r = 206 then (0, 120, 0) else
  if r = 210 then (0, 64, 0) else
  if r = 211 then (0, 16, 0) else
  if r = 213 then (0, 112, 0) else
  if r = 214 then (0, 65536, 0) else
  if r = 215 then (0, 7, 0) else
  if r = 216 then (1, 128, 0) else
  if r = 217 then (1, 71, 0) else
  if r = 218 then (0, 1681, 0) else
  if r = 220 then (0, 94, 0) else
  if 223 ≤ r ∧ r ≤ 224 then (0, 4, 0) else
  if r = 225 then (0, 400, 0) else
  if r = 226 then (0, 100, 0) else
  if 227 ≤ r ∧ r ≤ 228 then (0, 7, 0) else
  if r = 229 then (0, 98, 0) else
  if 230 ≤ r ∧ r ≤ 232 then (0, 7, 0) else
  (9, 0, 0)
def zlay (r : Int) : Nat × Nat × Int := if r < 28 then zlay0 r else if r < 55 then zlay1 r else if r < 94 then zlay2 r else if r < 142 then zlay3 r else if r < 177 then zlay4 r else if r < 200 then zlay5 r else zlay6 r
/-- how many fields a class has, and the sort of each: 0 int or boolean, 1 long, 2 a reference -/
def znf (c : Nat) : Nat := match c with
  | 0 => 3
  | 1 => 5
  | 2 => 6
  | 3 => 4
  | 4 => 4
  | 5 => 2
  | 6 => 4
  | 7 => 9
  | 8 => 32
  | _ => 0
def zft (c k : Nat) : Nat := match c with
  | 0 => ([2, 2, 2] : List Nat).getD k 0
  | 1 => ([2, 2, 2, 0, 0] : List Nat).getD k 0
  | 2 => ([0, 2, 2, 2, 2, 2] : List Nat).getD k 0
  | 3 => ([2, 0, 0, 0] : List Nat).getD k 0
  | 4 => ([2, 2, 0, 0] : List Nat).getD k 0
  | 5 => ([2, 1] : List Nat).getD k 0
  | 6 => ([2, 2, 2, 0] : List Nat).getD k 0
  | 7 => ([2, 2, 0, 2, 2, 2, 2, 2, 2] : List Nat).getD k 0
  | 8 => ([2, 2, 0, 0, 2, 2, 0, 0, 0, 2, 2, 0, 2, 2, 2, 2, 2, 2, 0, 2, 0, 0, 2, 2, 2, 2, 2, 2, 2, 2, 2, 2] : List Nat).getD k 0
  | _ => 0
/-- the region that a reference field of an object holds -/
def zrf (r : Int) (k : Nat) : Int := if r = 0 then ([1, 28, 0, 55, 74, 94, 138, 142, 176] : List Int).getD k 0 else if r = 1 then ([2, 3, 4] : List Int).getD k 0 else if r = 28 then ([29, 30, 31] : List Int).getD k 0 else if r = 55 then ([56, 57] : List Int).getD k 0 else if r = 74 then ([75, 76, 77] : List Int).getD k 0 else if r = 94 then ([95] : List Int).getD k 0 else if r = 138 then ([139, 140, 141] : List Int).getD k 0 else if r = 142 then ([0, 143, 144, 145, 146, 147] : List Int).getD k 0 else if 177 ≤ r ∧ r ≤ 180 then r + 4 else if r = 200 then 201 + k else 0
theorem ly_0 : zlay 0 = (6, 7, 0) := by decide +kernel
theorem ly_1 : zlay 1 = (6, 1, 0) := by decide +kernel
theorem ly_2 : zlay 2 = (3, 7, 5) := by decide +kernel
theorem ly_3 : zlay 3 = (3, 16, 12) := by decide +kernel
theorem ly_4 : zlay 4 = (0, 2, 0) := by decide +kernel
theorem ly_5 : zlay 5 = (0, 4, 0) := by decide +kernel
theorem ly_6 : zlay 6 = (0, 4, 0) := by decide +kernel
theorem ly_7 : zlay 7 = (0, 4, 0) := by decide +kernel
theorem ly_8 : zlay 8 = (0, 4, 0) := by decide +kernel
theorem ly_9 : zlay 9 = (0, 4, 0) := by decide +kernel
theorem ly_10 : zlay 10 = (0, 4, 0) := by decide +kernel
theorem ly_11 : zlay 11 = (0, 4, 0) := by decide +kernel
theorem ly_12 : zlay 12 = (0, 4, 0) := by decide +kernel
theorem ly_13 : zlay 13 = (0, 4, 0) := by decide +kernel
theorem ly_14 : zlay 14 = (0, 4, 0) := by decide +kernel
theorem ly_15 : zlay 15 = (0, 4, 0) := by decide +kernel
theorem ly_16 : zlay 16 = (0, 4, 0) := by decide +kernel
theorem ly_17 : zlay 17 = (0, 4, 0) := by decide +kernel
theorem ly_18 : zlay 18 = (0, 4, 0) := by decide +kernel
theorem ly_19 : zlay 19 = (0, 4, 0) := by decide +kernel
theorem ly_20 : zlay 20 = (0, 4, 0) := by decide +kernel
theorem ly_21 : zlay 21 = (0, 4, 0) := by decide +kernel
theorem ly_22 : zlay 22 = (0, 4, 0) := by decide +kernel
theorem ly_23 : zlay 23 = (0, 4, 0) := by decide +kernel
theorem ly_24 : zlay 24 = (0, 4, 0) := by decide +kernel
theorem ly_25 : zlay 25 = (0, 4, 0) := by decide +kernel
theorem ly_26 : zlay 26 = (0, 4, 0) := by decide +kernel
theorem ly_27 : zlay 27 = (0, 4, 0) := by decide +kernel
theorem ly_28 : zlay 28 = (6, 1, 0) := by decide +kernel
theorem ly_29 : zlay 29 = (3, 7, 32) := by decide +kernel
theorem ly_30 : zlay 30 = (3, 16, 39) := by decide +kernel
theorem ly_31 : zlay 31 = (0, 2, 0) := by decide +kernel
theorem ly_32 : zlay 32 = (0, 4, 0) := by decide +kernel
theorem ly_33 : zlay 33 = (0, 4, 0) := by decide +kernel
theorem ly_34 : zlay 34 = (0, 4, 0) := by decide +kernel
theorem ly_35 : zlay 35 = (0, 4, 0) := by decide +kernel
theorem ly_36 : zlay 36 = (0, 4, 0) := by decide +kernel
theorem ly_37 : zlay 37 = (0, 4, 0) := by decide +kernel
theorem ly_38 : zlay 38 = (0, 4, 0) := by decide +kernel
theorem ly_39 : zlay 39 = (0, 4, 0) := by decide +kernel
theorem ly_40 : zlay 40 = (0, 4, 0) := by decide +kernel
theorem ly_41 : zlay 41 = (0, 4, 0) := by decide +kernel
theorem ly_42 : zlay 42 = (0, 4, 0) := by decide +kernel
theorem ly_43 : zlay 43 = (0, 4, 0) := by decide +kernel
theorem ly_44 : zlay 44 = (0, 4, 0) := by decide +kernel
theorem ly_45 : zlay 45 = (0, 4, 0) := by decide +kernel
theorem ly_46 : zlay 46 = (0, 4, 0) := by decide +kernel
theorem ly_47 : zlay 47 = (0, 4, 0) := by decide +kernel
theorem ly_48 : zlay 48 = (0, 4, 0) := by decide +kernel
theorem ly_49 : zlay 49 = (0, 4, 0) := by decide +kernel
theorem ly_50 : zlay 50 = (0, 4, 0) := by decide +kernel
theorem ly_51 : zlay 51 = (0, 4, 0) := by decide +kernel
theorem ly_52 : zlay 52 = (0, 4, 0) := by decide +kernel
theorem ly_53 : zlay 53 = (0, 4, 0) := by decide +kernel
theorem ly_54 : zlay 54 = (0, 4, 0) := by decide +kernel
theorem ly_55 : zlay 55 = (6, 4, 0) := by decide +kernel
theorem ly_56 : zlay 56 = (0, 120, 0) := by decide +kernel
theorem ly_57 : zlay 57 = (3, 16, 58) := by decide +kernel
theorem ly_58 : zlay 58 = (0, 4, 0) := by decide +kernel
theorem ly_59 : zlay 59 = (0, 4, 0) := by decide +kernel
theorem ly_60 : zlay 60 = (0, 4, 0) := by decide +kernel
theorem ly_61 : zlay 61 = (0, 4, 0) := by decide +kernel
theorem ly_62 : zlay 62 = (0, 4, 0) := by decide +kernel
theorem ly_63 : zlay 63 = (0, 4, 0) := by decide +kernel
theorem ly_64 : zlay 64 = (0, 4, 0) := by decide +kernel
theorem ly_65 : zlay 65 = (0, 4, 0) := by decide +kernel
theorem ly_66 : zlay 66 = (0, 4, 0) := by decide +kernel
theorem ly_67 : zlay 67 = (0, 4, 0) := by decide +kernel
theorem ly_68 : zlay 68 = (0, 4, 0) := by decide +kernel
theorem ly_69 : zlay 69 = (0, 4, 0) := by decide +kernel
theorem ly_70 : zlay 70 = (0, 4, 0) := by decide +kernel
theorem ly_71 : zlay 71 = (0, 4, 0) := by decide +kernel
theorem ly_72 : zlay 72 = (0, 4, 0) := by decide +kernel
theorem ly_73 : zlay 73 = (0, 4, 0) := by decide +kernel
theorem ly_74 : zlay 74 = (6, 6, 0) := by decide +kernel
theorem ly_75 : zlay 75 = (4, 16, 78) := by decide +kernel
theorem ly_76 : zlay 76 = (2, 128, 0) := by decide +kernel
theorem ly_77 : zlay 77 = (0, 7, 0) := by decide +kernel
theorem ly_78 : zlay 78 = (2, 7, 0) := by decide +kernel
theorem ly_79 : zlay 79 = (2, 7, 0) := by decide +kernel
theorem ly_80 : zlay 80 = (2, 7, 0) := by decide +kernel
theorem ly_81 : zlay 81 = (2, 7, 0) := by decide +kernel
theorem ly_82 : zlay 82 = (2, 7, 0) := by decide +kernel
theorem ly_83 : zlay 83 = (2, 7, 0) := by decide +kernel
theorem ly_84 : zlay 84 = (2, 7, 0) := by decide +kernel
theorem ly_85 : zlay 85 = (2, 7, 0) := by decide +kernel
theorem ly_86 : zlay 86 = (2, 7, 0) := by decide +kernel
theorem ly_87 : zlay 87 = (2, 7, 0) := by decide +kernel
theorem ly_88 : zlay 88 = (2, 7, 0) := by decide +kernel
theorem ly_89 : zlay 89 = (2, 7, 0) := by decide +kernel
theorem ly_90 : zlay 90 = (2, 7, 0) := by decide +kernel
theorem ly_91 : zlay 91 = (2, 7, 0) := by decide +kernel
theorem ly_92 : zlay 92 = (2, 7, 0) := by decide +kernel
theorem ly_93 : zlay 93 = (2, 7, 0) := by decide +kernel
theorem ly_94 : zlay 94 = (6, 5, 0) := by decide +kernel
theorem ly_95 : zlay 95 = (3, 42, 96) := by decide +kernel
theorem ly_96 : zlay 96 = (0, 42, 0) := by decide +kernel
theorem ly_97 : zlay 97 = (0, 42, 0) := by decide +kernel
theorem ly_98 : zlay 98 = (0, 42, 0) := by decide +kernel
theorem ly_99 : zlay 99 = (0, 42, 0) := by decide +kernel
theorem ly_100 : zlay 100 = (0, 42, 0) := by decide +kernel
theorem ly_101 : zlay 101 = (0, 42, 0) := by decide +kernel
theorem ly_102 : zlay 102 = (0, 42, 0) := by decide +kernel
theorem ly_103 : zlay 103 = (0, 42, 0) := by decide +kernel
theorem ly_104 : zlay 104 = (0, 42, 0) := by decide +kernel
theorem ly_105 : zlay 105 = (0, 42, 0) := by decide +kernel
theorem ly_106 : zlay 106 = (0, 42, 0) := by decide +kernel
theorem ly_107 : zlay 107 = (0, 42, 0) := by decide +kernel
theorem ly_108 : zlay 108 = (0, 42, 0) := by decide +kernel
theorem ly_109 : zlay 109 = (0, 42, 0) := by decide +kernel
theorem ly_110 : zlay 110 = (0, 42, 0) := by decide +kernel
theorem ly_111 : zlay 111 = (0, 42, 0) := by decide +kernel
theorem ly_112 : zlay 112 = (0, 42, 0) := by decide +kernel
theorem ly_113 : zlay 113 = (0, 42, 0) := by decide +kernel
theorem ly_114 : zlay 114 = (0, 42, 0) := by decide +kernel
theorem ly_115 : zlay 115 = (0, 42, 0) := by decide +kernel
theorem ly_116 : zlay 116 = (0, 42, 0) := by decide +kernel
theorem ly_117 : zlay 117 = (0, 42, 0) := by decide +kernel
theorem ly_118 : zlay 118 = (0, 42, 0) := by decide +kernel
theorem ly_119 : zlay 119 = (0, 42, 0) := by decide +kernel
theorem ly_120 : zlay 120 = (0, 42, 0) := by decide +kernel
theorem ly_121 : zlay 121 = (0, 42, 0) := by decide +kernel
theorem ly_122 : zlay 122 = (0, 42, 0) := by decide +kernel
theorem ly_123 : zlay 123 = (0, 42, 0) := by decide +kernel
theorem ly_124 : zlay 124 = (0, 42, 0) := by decide +kernel
theorem ly_125 : zlay 125 = (0, 42, 0) := by decide +kernel
theorem ly_126 : zlay 126 = (0, 42, 0) := by decide +kernel
theorem ly_127 : zlay 127 = (0, 42, 0) := by decide +kernel
theorem ly_128 : zlay 128 = (0, 42, 0) := by decide +kernel
theorem ly_129 : zlay 129 = (0, 42, 0) := by decide +kernel
theorem ly_130 : zlay 130 = (0, 42, 0) := by decide +kernel
theorem ly_131 : zlay 131 = (0, 42, 0) := by decide +kernel
theorem ly_132 : zlay 132 = (0, 42, 0) := by decide +kernel
theorem ly_133 : zlay 133 = (0, 42, 0) := by decide +kernel
theorem ly_134 : zlay 134 = (0, 42, 0) := by decide +kernel
theorem ly_135 : zlay 135 = (0, 42, 0) := by decide +kernel
theorem ly_136 : zlay 136 = (0, 42, 0) := by decide +kernel
theorem ly_137 : zlay 137 = (0, 42, 0) := by decide +kernel
theorem ly_138 : zlay 138 = (6, 0, 0) := by decide +kernel
theorem ly_139 : zlay 139 = (0, 6, 0) := by decide +kernel
theorem ly_140 : zlay 140 = (0, 64, 0) := by decide +kernel
theorem ly_141 : zlay 141 = (0, 6, 0) := by decide +kernel
theorem ly_142 : zlay 142 = (6, 2, 0) := by decide +kernel
theorem ly_143 : zlay 143 = (3, 14, 148) := by decide +kernel
theorem ly_144 : zlay 144 = (3, 14, 162) := by decide +kernel
theorem ly_145 : zlay 145 = (0, 7, 0) := by decide +kernel
theorem ly_146 : zlay 146 = (0, 7, 0) := by decide +kernel
theorem ly_147 : zlay 147 = (0, 7, 0) := by decide +kernel
theorem ly_148 : zlay 148 = (0, 7, 0) := by decide +kernel
theorem ly_149 : zlay 149 = (0, 7, 0) := by decide +kernel
theorem ly_150 : zlay 150 = (0, 7, 0) := by decide +kernel
theorem ly_151 : zlay 151 = (0, 7, 0) := by decide +kernel
theorem ly_152 : zlay 152 = (0, 7, 0) := by decide +kernel
theorem ly_153 : zlay 153 = (0, 7, 0) := by decide +kernel
theorem ly_154 : zlay 154 = (0, 7, 0) := by decide +kernel
theorem ly_155 : zlay 155 = (0, 7, 0) := by decide +kernel
theorem ly_156 : zlay 156 = (0, 7, 0) := by decide +kernel
theorem ly_157 : zlay 157 = (0, 7, 0) := by decide +kernel
theorem ly_158 : zlay 158 = (0, 7, 0) := by decide +kernel
theorem ly_159 : zlay 159 = (0, 7, 0) := by decide +kernel
theorem ly_160 : zlay 160 = (0, 7, 0) := by decide +kernel
theorem ly_161 : zlay 161 = (0, 7, 0) := by decide +kernel
theorem ly_162 : zlay 162 = (0, 7, 0) := by decide +kernel
theorem ly_163 : zlay 163 = (0, 7, 0) := by decide +kernel
theorem ly_164 : zlay 164 = (0, 7, 0) := by decide +kernel
theorem ly_165 : zlay 165 = (0, 7, 0) := by decide +kernel
theorem ly_166 : zlay 166 = (0, 7, 0) := by decide +kernel
theorem ly_167 : zlay 167 = (0, 7, 0) := by decide +kernel
theorem ly_168 : zlay 168 = (0, 7, 0) := by decide +kernel
theorem ly_169 : zlay 169 = (0, 7, 0) := by decide +kernel
theorem ly_170 : zlay 170 = (0, 7, 0) := by decide +kernel
theorem ly_171 : zlay 171 = (0, 7, 0) := by decide +kernel
theorem ly_172 : zlay 172 = (0, 7, 0) := by decide +kernel
theorem ly_173 : zlay 173 = (0, 7, 0) := by decide +kernel
theorem ly_174 : zlay 174 = (0, 7, 0) := by decide +kernel
theorem ly_175 : zlay 175 = (0, 7, 0) := by decide +kernel
theorem ly_176 : zlay 176 = (5, 4, 177) := by decide +kernel
theorem ly_177 : zlay 177 = (6, 3, 0) := by decide +kernel
theorem ly_178 : zlay 178 = (6, 3, 0) := by decide +kernel
theorem ly_179 : zlay 179 = (6, 3, 0) := by decide +kernel
theorem ly_180 : zlay 180 = (6, 3, 0) := by decide +kernel
theorem ly_181 : zlay 181 = (0, 100, 0) := by decide +kernel
theorem ly_182 : zlay 182 = (0, 100, 0) := by decide +kernel
theorem ly_183 : zlay 183 = (0, 100, 0) := by decide +kernel
theorem ly_184 : zlay 184 = (0, 100, 0) := by decide +kernel
theorem ly_200 : zlay 200 = (6, 8, 0) := by decide +kernel
theorem ly_201 : zlay 201 = (0, 28, 0) := by decide +kernel
theorem ly_202 : zlay 202 = (0, 64, 0) := by decide +kernel
theorem ly_205 : zlay 205 = (0, 2, 0) := by decide +kernel
theorem ly_206 : zlay 206 = (0, 120, 0) := by decide +kernel
theorem ly_210 : zlay 210 = (0, 64, 0) := by decide +kernel
theorem ly_211 : zlay 211 = (0, 16, 0) := by decide +kernel
theorem ly_213 : zlay 213 = (0, 112, 0) := by decide +kernel
theorem ly_214 : zlay 214 = (0, 65536, 0) := by decide +kernel
theorem ly_215 : zlay 215 = (0, 7, 0) := by decide +kernel
theorem ly_216 : zlay 216 = (1, 128, 0) := by decide +kernel
theorem ly_217 : zlay 217 = (1, 71, 0) := by decide +kernel
theorem ly_218 : zlay 218 = (0, 1681, 0) := by decide +kernel
theorem ly_220 : zlay 220 = (0, 94, 0) := by decide +kernel
theorem ly_223 : zlay 223 = (0, 4, 0) := by decide +kernel
theorem ly_224 : zlay 224 = (0, 4, 0) := by decide +kernel
theorem ly_225 : zlay 225 = (0, 400, 0) := by decide +kernel
theorem ly_226 : zlay 226 = (0, 100, 0) := by decide +kernel
theorem ly_227 : zlay 227 = (0, 7, 0) := by decide +kernel
theorem ly_228 : zlay 228 = (0, 7, 0) := by decide +kernel
theorem ly_229 : zlay 229 = (0, 98, 0) := by decide +kernel
theorem ly_230 : zlay 230 = (0, 7, 0) := by decide +kernel
theorem ly_231 : zlay 231 = (0, 7, 0) := by decide +kernel
theorem ly_232 : zlay 232 = (0, 7, 0) := by decide +kernel
theorem rf_0_0 : zrf 0 0 = 1 := by decide +kernel
theorem rf_0_1 : zrf 0 1 = 28 := by decide +kernel
theorem rf_0_3 : zrf 0 3 = 55 := by decide +kernel
theorem rf_0_4 : zrf 0 4 = 74 := by decide +kernel
theorem rf_0_5 : zrf 0 5 = 94 := by decide +kernel
theorem rf_0_6 : zrf 0 6 = 138 := by decide +kernel
theorem rf_0_7 : zrf 0 7 = 142 := by decide +kernel
theorem rf_0_8 : zrf 0 8 = 176 := by decide +kernel
theorem rf_1_0 : zrf 1 0 = 2 := by decide +kernel
theorem rf_1_1 : zrf 1 1 = 3 := by decide +kernel
theorem rf_1_2 : zrf 1 2 = 4 := by decide +kernel
theorem rf_28_0 : zrf 28 0 = 29 := by decide +kernel
theorem rf_28_1 : zrf 28 1 = 30 := by decide +kernel
theorem rf_28_2 : zrf 28 2 = 31 := by decide +kernel
theorem rf_55_0 : zrf 55 0 = 56 := by decide +kernel
theorem rf_55_1 : zrf 55 1 = 57 := by decide +kernel
theorem rf_74_0 : zrf 74 0 = 75 := by decide +kernel
theorem rf_74_1 : zrf 74 1 = 76 := by decide +kernel
theorem rf_74_2 : zrf 74 2 = 77 := by decide +kernel
theorem rf_94_0 : zrf 94 0 = 95 := by decide +kernel
theorem rf_138_0 : zrf 138 0 = 139 := by decide +kernel
theorem rf_138_1 : zrf 138 1 = 140 := by decide +kernel
theorem rf_138_2 : zrf 138 2 = 141 := by decide +kernel
theorem rf_142_1 : zrf 142 1 = 143 := by decide +kernel
theorem rf_142_2 : zrf 142 2 = 144 := by decide +kernel
theorem rf_142_3 : zrf 142 3 = 145 := by decide +kernel
theorem rf_142_4 : zrf 142 4 = 146 := by decide +kernel
theorem rf_142_5 : zrf 142 5 = 147 := by decide +kernel
theorem rf_177_0 : zrf 177 0 = 181 := by decide +kernel
theorem rf_178_0 : zrf 178 0 = 182 := by decide +kernel
theorem rf_179_0 : zrf 179 0 = 183 := by decide +kernel
theorem rf_180_0 : zrf 180 0 = 184 := by decide +kernel
theorem rf_200_0 : zrf 200 0 = 201 := by decide +kernel
theorem rf_200_1 : zrf 200 1 = 202 := by decide +kernel
theorem rf_200_4 : zrf 200 4 = 205 := by decide +kernel
theorem rf_200_5 : zrf 200 5 = 206 := by decide +kernel
theorem rf_200_9 : zrf 200 9 = 210 := by decide +kernel
theorem rf_200_10 : zrf 200 10 = 211 := by decide +kernel
theorem rf_200_12 : zrf 200 12 = 213 := by decide +kernel
theorem rf_200_13 : zrf 200 13 = 214 := by decide +kernel
theorem rf_200_14 : zrf 200 14 = 215 := by decide +kernel
theorem rf_200_15 : zrf 200 15 = 216 := by decide +kernel
theorem rf_200_16 : zrf 200 16 = 217 := by decide +kernel
theorem rf_200_17 : zrf 200 17 = 218 := by decide +kernel
theorem rf_200_19 : zrf 200 19 = 220 := by decide +kernel
theorem rf_200_22 : zrf 200 22 = 223 := by decide +kernel
theorem rf_200_23 : zrf 200 23 = 224 := by decide +kernel
theorem rf_200_24 : zrf 200 24 = 225 := by decide +kernel
theorem rf_200_25 : zrf 200 25 = 226 := by decide +kernel
theorem rf_200_26 : zrf 200 26 = 227 := by decide +kernel
theorem rf_200_27 : zrf 200 27 = 228 := by decide +kernel
theorem rf_200_28 : zrf 200 28 = 229 := by decide +kernel
theorem rf_200_29 : zrf 200 29 = 230 := by decide +kernel
theorem rf_200_30 : zrf 200 30 = 231 := by decide +kernel
theorem rf_200_31 : zrf 200 31 = 232 := by decide +kernel
theorem lf_bro {i : Int} (h : 0 ≤ i ∧ i < 7) : zlay (5 + i) = (0, 4, 0) := by
  obtain ⟨k, hk, rfl⟩ : ∃ k : Nat, k < 7 ∧ i = (k : Int) := ⟨i.toNat, by omega, by omega⟩
  revert k
  decide +kernel
theorem lf_sro {i : Int} (h : 0 ≤ i ∧ i < 16) : zlay (12 + i) = (0, 4, 0) := by
  obtain ⟨k, hk, rfl⟩ : ∃ k : Nat, k < 16 ∧ i = (k : Int) := ⟨i.toNat, by omega, by omega⟩
  revert k
  decide +kernel
theorem lf_kbro {i : Int} (h : 0 ≤ i ∧ i < 7) : zlay (32 + i) = (0, 4, 0) := by
  obtain ⟨k, hk, rfl⟩ : ∃ k : Nat, k < 7 ∧ i = (k : Int) := ⟨i.toNat, by omega, by omega⟩
  revert k
  decide +kernel
theorem lf_ksro {i : Int} (h : 0 ≤ i ∧ i < 16) : zlay (39 + i) = (0, 4, 0) := by
  obtain ⟨k, hk, rfl⟩ : ∃ k : Nat, k < 16 ∧ i = (k : Int) := ⟨i.toNat, by omega, by omega⟩
  revert k
  decide +kernel
theorem lf_tro {i : Int} (h : 0 ≤ i ∧ i < 16) : zlay (58 + i) = (0, 4, 0) := by
  obtain ⟨k, hk, rfl⟩ : ∃ k : Nat, k < 16 ∧ i = (k : Int) := ⟨i.toNat, by omega, by omega⟩
  revert k
  decide +kernel
theorem lf_pro {i : Int} (h : 0 ≤ i ∧ i < 16) : zlay (78 + i) = (2, 7, 0) := by
  obtain ⟨k, hk, rfl⟩ : ∃ k : Nat, k < 16 ∧ i = (k : Int) := ⟨i.toNat, by omega, by omega⟩
  revert k
  decide +kernel
theorem lf_fro {i : Int} (h : 0 ≤ i ∧ i < 42) : zlay (96 + i) = (0, 42, 0) := by
  obtain ⟨k, hk, rfl⟩ : ∃ k : Nat, k < 42 ∧ i = (k : Int) := ⟨i.toNat, by omega, by omega⟩
  revert k
  decide +kernel
theorem lf_lik {i : Int} (h : 0 ≤ i ∧ i < 14) : zlay (148 + i) = (0, 7, 0) := by
  obtain ⟨k, hk, rfl⟩ : ∃ k : Nat, k < 14 ∧ i = (k : Int) := ⟨i.toNat, by omega, by omega⟩
  revert k
  decide +kernel
theorem lf_pla {i : Int} (h : 0 ≤ i ∧ i < 14) : zlay (162 + i) = (0, 7, 0) := by
  obtain ⟨k, hk, rfl⟩ : ∃ k : Nat, k < 14 ∧ i = (k : Int) := ⟨i.toNat, by omega, by omega⟩
  revert k
  decide +kernel
theorem lf_she {i : Int} (h : 0 ≤ i ∧ i < 4) : zlay (177 + i) = (6, 3, 0) := by
  obtain ⟨k, hk, rfl⟩ : ∃ k : Nat, k < 4 ∧ i = (k : Int) := ⟨i.toNat, by omega, by omega⟩
  revert k
  decide +kernel
theorem lf_ite {i : Int} (h : 0 ≤ i ∧ i < 4) : zlay (181 + i) = (0, 100, 0) := by
  obtain ⟨k, hk, rfl⟩ : ∃ k : Nat, k < 4 ∧ i = (k : Int) := ⟨i.toNat, by omega, by omega⟩
  revert k
  decide +kernel
theorem rf_she {i : Int} (h : 0 ≤ i ∧ i < 4) : zrf (177 + i) 0 = 181 + i := by
  obtain ⟨k, hk, rfl⟩ : ∃ k : Nat, k < 4 ∧ i = (k : Int) := ⟨i.toNat, by omega, by omega⟩
  revert k
  decide +kernel
