/-! the layout of the class's world, as its constructor makes it (wip/gen/interp.py): kinds and pointers -/
def LC : List (Nat × Nat) := [(9, 13), (0, 10), (4, 80), (0, 1), (1, 144), (0, 7), (1, 36), (1, 36), (1, 6), (1, 6), (1, 6), (1, 6), (1, 6), (0, 7), (1, 36), (1, 36), (1, 6), (1, 6), (1, 6), (1, 6), (1, 6), (0, 7), (1, 36), (1, 36), (1, 6), (1, 6), (1, 6), (1, 6), (1, 6), (0, 4), (6, 12), (6, 2), (2, 2), (0, 7), (1, 36), (1, 36), (1, 6), (1, 6), (1, 6), (1, 6), (1, 6), (0, 7), (1, 36), (1, 36), (1, 6), (1, 6), (1, 6), (1, 6), (1, 6), (0, 7), (1, 36), (1, 36), (1, 6), (1, 6), (1, 6), (1, 6), (1, 6), (0, 7), (1, 36), (1, 36), (1, 6), (1, 6), (1, 6), (1, 6), (1, 6), (0, 7), (1, 36), (1, 36), (1, 6), (1, 6), (1, 6), (1, 6), (1, 6), (0, 7), (1, 36), (1, 36), (1, 6), (1, 6), (1, 6), (1, 6), (1, 6), (0, 7), (1, 36), (1, 36), (1, 6), (1, 6), (1, 6), (1, 6), (1, 6), (0, 7), (1, 36), (1, 36), (1, 6), (1, 6), (1, 6), (1, 6), (1, 6), (0, 7), (1, 36), (1, 36), (1, 6), (1, 6), (1, 6), (1, 6), (1, 6), (0, 7), (1, 36), (1, 36), (1, 6), (1, 6), (1, 6), (1, 6), (1, 6), (0, 7), (1, 36), (1, 36), (1, 6), (1, 6), (1, 6), (1, 6), (1, 6), (0, 7), (1, 36), (1, 36), (1, 6), (1, 6), (1, 6), (1, 6), (1, 6), (0, 7), (1, 36), (1, 36), (1, 6), (1, 6), (1, 6), (1, 6), (1, 6), (0, 7), (1, 36), (1, 36), (1, 6), (1, 6), (1, 6), (1, 6), (1, 6), (0, 0), (7, 6), (5, 6), (5, 6), (0, 9), (1, 36), (1, 36), (0, 5), (1, 36), (0, 5), (1, 36), (0, 5), (1, 36), (0, 5), (1, 36), (0, 5), (1, 36), (0, 5), (1, 36), (0, 2), (1, 6), (1, 6), (1, 6), (0, 3), (5, 4), (1, 72), (1, 72), (0, 8), (5, 36), (1, 41), (0, 6), (1, 40), (1, 40), (4, 40), (2, 5), (0, 6), (1, 40), (1, 40), (4, 40), (2, 5)]
def PCl : List (List Nat) := [[], [2, 0, 3, 5, 13, 21, 29, 145, 164, 168, 172, 174, 175, 180], [], [0, 0, 0, 0, 0, 4], [], [3, 6, 7, 0, 0, 0, 8, 9, 10, 11, 12], [], [], [], [], [], [], [], [3, 14, 15, 0, 0, 0, 16, 17, 18, 19, 20], [], [], [], [], [], [], [], [3, 22, 23, 0, 0, 0, 24, 25, 26, 27, 28], [], [], [], [], [], [], [], [30, 31, 32], [33, 41, 49, 57, 65, 73, 81, 89, 97, 105, 113, 121], [129, 137], [], [3, 34, 35, 0, 0, 0, 36, 37, 38, 39, 40], [], [], [], [], [], [], [], [3, 42, 43, 0, 0, 0, 44, 45, 46, 47, 48], [], [], [], [], [], [], [], [3, 50, 51, 0, 0, 0, 52, 53, 54, 55, 56], [], [], [], [], [], [], [], [3, 58, 59, 0, 0, 0, 60, 61, 62, 63, 64], [], [], [], [], [], [], [], [3, 66, 67, 0, 0, 0, 68, 69, 70, 71, 72], [], [], [], [], [], [], [], [3, 74, 75, 0, 0, 0, 76, 77, 78, 79, 80], [], [], [], [], [], [], [], [3, 82, 83, 0, 0, 0, 84, 85, 86, 87, 88], [], [], [], [], [], [], [], [3, 90, 91, 0, 0, 0, 92, 93, 94, 95, 96], [], [], [], [], [], [], [], [3, 98, 99, 0, 0, 0, 100, 101, 102, 103, 104], [], [], [], [], [], [], [], [3, 106, 107, 0, 0, 0, 108, 109, 110, 111, 112], [], [], [], [], [], [], [], [3, 114, 115, 0, 0, 0, 116, 117, 118, 119, 120], [], [], [], [], [], [], [], [3, 122, 123, 0, 0, 0, 124, 125, 126, 127, 128], [], [], [], [], [], [], [], [3, 130, 131, 0, 0, 0, 132, 133, 134, 135, 136], [], [], [], [], [], [], [], [3, 138, 139, 0, 0, 0, 140, 141, 142, 143, 144], [], [], [], [], [], [], [], [3, 149, 146, 147, 148], [152, 154, 156, 158, 160, 162], [], [], [3, 150, 151], [], [], [0, 0, 0, 153], [], [0, 0, 0, 155], [], [0, 0, 0, 157], [], [0, 0, 0, 159], [], [0, 0, 0, 161], [], [0, 0, 0, 163], [], [0, 165, 166, 167], [], [], [], [3, 0, 0, 169, 170, 171], [], [], [], [173], [], [], [176, 0, 177, 178, 0, 179], [], [], [], [], [181, 0, 182, 183, 0, 184], [], [], [], []]
/-- the pointers; b says whether rule and spare stand swapped -/
def PC (b : Bool) : PM := fun o k => if o = 1 ∧ k = 12 then (if b then 180 else 175) else if o = 1 ∧ k = 13 then (if b then 175 else 180) else (PCl.getD o []).getD k 0
theorem kC_0 : kd (kz LC) 0 = (9, 13) := rfl
theorem kC_1 : kd (kz LC) 1 = (0, 10) := rfl
theorem kC_2 : kd (kz LC) 2 = (4, 80) := rfl
theorem kC_3 : kd (kz LC) 3 = (0, 1) := rfl
theorem kC_4 : kd (kz LC) 4 = (1, 144) := rfl
theorem kC_5 : kd (kz LC) 5 = (0, 7) := rfl
theorem kC_6 : kd (kz LC) 6 = (1, 36) := rfl
theorem kC_7 : kd (kz LC) 7 = (1, 36) := rfl
theorem kC_8 : kd (kz LC) 8 = (1, 6) := rfl
theorem kC_9 : kd (kz LC) 9 = (1, 6) := rfl
theorem kC_10 : kd (kz LC) 10 = (1, 6) := rfl
theorem kC_11 : kd (kz LC) 11 = (1, 6) := rfl
theorem kC_12 : kd (kz LC) 12 = (1, 6) := rfl
theorem kC_13 : kd (kz LC) 13 = (0, 7) := rfl
theorem kC_14 : kd (kz LC) 14 = (1, 36) := rfl
theorem kC_15 : kd (kz LC) 15 = (1, 36) := rfl
theorem kC_16 : kd (kz LC) 16 = (1, 6) := rfl
theorem kC_17 : kd (kz LC) 17 = (1, 6) := rfl
theorem kC_18 : kd (kz LC) 18 = (1, 6) := rfl
theorem kC_19 : kd (kz LC) 19 = (1, 6) := rfl
theorem kC_20 : kd (kz LC) 20 = (1, 6) := rfl
theorem kC_21 : kd (kz LC) 21 = (0, 7) := rfl
theorem kC_22 : kd (kz LC) 22 = (1, 36) := rfl
theorem kC_23 : kd (kz LC) 23 = (1, 36) := rfl
theorem kC_24 : kd (kz LC) 24 = (1, 6) := rfl
theorem kC_25 : kd (kz LC) 25 = (1, 6) := rfl
theorem kC_26 : kd (kz LC) 26 = (1, 6) := rfl
theorem kC_27 : kd (kz LC) 27 = (1, 6) := rfl
theorem kC_28 : kd (kz LC) 28 = (1, 6) := rfl
theorem kC_29 : kd (kz LC) 29 = (0, 4) := rfl
theorem kC_30 : kd (kz LC) 30 = (6, 12) := rfl
theorem kC_31 : kd (kz LC) 31 = (6, 2) := rfl
theorem kC_32 : kd (kz LC) 32 = (2, 2) := rfl
theorem kC_33 : kd (kz LC) 33 = (0, 7) := rfl
theorem kC_34 : kd (kz LC) 34 = (1, 36) := rfl
theorem kC_35 : kd (kz LC) 35 = (1, 36) := rfl
theorem kC_36 : kd (kz LC) 36 = (1, 6) := rfl
theorem kC_37 : kd (kz LC) 37 = (1, 6) := rfl
theorem kC_38 : kd (kz LC) 38 = (1, 6) := rfl
theorem kC_39 : kd (kz LC) 39 = (1, 6) := rfl
theorem kC_40 : kd (kz LC) 40 = (1, 6) := rfl
theorem kC_41 : kd (kz LC) 41 = (0, 7) := rfl
theorem kC_42 : kd (kz LC) 42 = (1, 36) := rfl
theorem kC_43 : kd (kz LC) 43 = (1, 36) := rfl
theorem kC_44 : kd (kz LC) 44 = (1, 6) := rfl
theorem kC_45 : kd (kz LC) 45 = (1, 6) := rfl
theorem kC_46 : kd (kz LC) 46 = (1, 6) := rfl
theorem kC_47 : kd (kz LC) 47 = (1, 6) := rfl
theorem kC_48 : kd (kz LC) 48 = (1, 6) := rfl
theorem kC_49 : kd (kz LC) 49 = (0, 7) := rfl
theorem kC_50 : kd (kz LC) 50 = (1, 36) := rfl
theorem kC_51 : kd (kz LC) 51 = (1, 36) := rfl
theorem kC_52 : kd (kz LC) 52 = (1, 6) := rfl
theorem kC_53 : kd (kz LC) 53 = (1, 6) := rfl
theorem kC_54 : kd (kz LC) 54 = (1, 6) := rfl
theorem kC_55 : kd (kz LC) 55 = (1, 6) := rfl
theorem kC_56 : kd (kz LC) 56 = (1, 6) := rfl
theorem kC_57 : kd (kz LC) 57 = (0, 7) := rfl
theorem kC_58 : kd (kz LC) 58 = (1, 36) := rfl
theorem kC_59 : kd (kz LC) 59 = (1, 36) := rfl
theorem kC_60 : kd (kz LC) 60 = (1, 6) := rfl
theorem kC_61 : kd (kz LC) 61 = (1, 6) := rfl
theorem kC_62 : kd (kz LC) 62 = (1, 6) := rfl
theorem kC_63 : kd (kz LC) 63 = (1, 6) := rfl
theorem kC_64 : kd (kz LC) 64 = (1, 6) := rfl
theorem kC_65 : kd (kz LC) 65 = (0, 7) := rfl
theorem kC_66 : kd (kz LC) 66 = (1, 36) := rfl
theorem kC_67 : kd (kz LC) 67 = (1, 36) := rfl
theorem kC_68 : kd (kz LC) 68 = (1, 6) := rfl
theorem kC_69 : kd (kz LC) 69 = (1, 6) := rfl
theorem kC_70 : kd (kz LC) 70 = (1, 6) := rfl
theorem kC_71 : kd (kz LC) 71 = (1, 6) := rfl
theorem kC_72 : kd (kz LC) 72 = (1, 6) := rfl
theorem kC_73 : kd (kz LC) 73 = (0, 7) := rfl
theorem kC_74 : kd (kz LC) 74 = (1, 36) := rfl
theorem kC_75 : kd (kz LC) 75 = (1, 36) := rfl
theorem kC_76 : kd (kz LC) 76 = (1, 6) := rfl
theorem kC_77 : kd (kz LC) 77 = (1, 6) := rfl
theorem kC_78 : kd (kz LC) 78 = (1, 6) := rfl
theorem kC_79 : kd (kz LC) 79 = (1, 6) := rfl
theorem kC_80 : kd (kz LC) 80 = (1, 6) := rfl
theorem kC_81 : kd (kz LC) 81 = (0, 7) := rfl
theorem kC_82 : kd (kz LC) 82 = (1, 36) := rfl
theorem kC_83 : kd (kz LC) 83 = (1, 36) := rfl
theorem kC_84 : kd (kz LC) 84 = (1, 6) := rfl
theorem kC_85 : kd (kz LC) 85 = (1, 6) := rfl
theorem kC_86 : kd (kz LC) 86 = (1, 6) := rfl
theorem kC_87 : kd (kz LC) 87 = (1, 6) := rfl
theorem kC_88 : kd (kz LC) 88 = (1, 6) := rfl
theorem kC_89 : kd (kz LC) 89 = (0, 7) := rfl
theorem kC_90 : kd (kz LC) 90 = (1, 36) := rfl
theorem kC_91 : kd (kz LC) 91 = (1, 36) := rfl
theorem kC_92 : kd (kz LC) 92 = (1, 6) := rfl
theorem kC_93 : kd (kz LC) 93 = (1, 6) := rfl
theorem kC_94 : kd (kz LC) 94 = (1, 6) := rfl
theorem kC_95 : kd (kz LC) 95 = (1, 6) := rfl
theorem kC_96 : kd (kz LC) 96 = (1, 6) := rfl
theorem kC_97 : kd (kz LC) 97 = (0, 7) := rfl
theorem kC_98 : kd (kz LC) 98 = (1, 36) := rfl
theorem kC_99 : kd (kz LC) 99 = (1, 36) := rfl
theorem kC_100 : kd (kz LC) 100 = (1, 6) := rfl
theorem kC_101 : kd (kz LC) 101 = (1, 6) := rfl
theorem kC_102 : kd (kz LC) 102 = (1, 6) := rfl
theorem kC_103 : kd (kz LC) 103 = (1, 6) := rfl
theorem kC_104 : kd (kz LC) 104 = (1, 6) := rfl
theorem kC_105 : kd (kz LC) 105 = (0, 7) := rfl
theorem kC_106 : kd (kz LC) 106 = (1, 36) := rfl
theorem kC_107 : kd (kz LC) 107 = (1, 36) := rfl
theorem kC_108 : kd (kz LC) 108 = (1, 6) := rfl
theorem kC_109 : kd (kz LC) 109 = (1, 6) := rfl
theorem kC_110 : kd (kz LC) 110 = (1, 6) := rfl
theorem kC_111 : kd (kz LC) 111 = (1, 6) := rfl
theorem kC_112 : kd (kz LC) 112 = (1, 6) := rfl
theorem kC_113 : kd (kz LC) 113 = (0, 7) := rfl
theorem kC_114 : kd (kz LC) 114 = (1, 36) := rfl
theorem kC_115 : kd (kz LC) 115 = (1, 36) := rfl
theorem kC_116 : kd (kz LC) 116 = (1, 6) := rfl
theorem kC_117 : kd (kz LC) 117 = (1, 6) := rfl
theorem kC_118 : kd (kz LC) 118 = (1, 6) := rfl
theorem kC_119 : kd (kz LC) 119 = (1, 6) := rfl
theorem kC_120 : kd (kz LC) 120 = (1, 6) := rfl
theorem kC_121 : kd (kz LC) 121 = (0, 7) := rfl
theorem kC_122 : kd (kz LC) 122 = (1, 36) := rfl
theorem kC_123 : kd (kz LC) 123 = (1, 36) := rfl
theorem kC_124 : kd (kz LC) 124 = (1, 6) := rfl
theorem kC_125 : kd (kz LC) 125 = (1, 6) := rfl
theorem kC_126 : kd (kz LC) 126 = (1, 6) := rfl
theorem kC_127 : kd (kz LC) 127 = (1, 6) := rfl
theorem kC_128 : kd (kz LC) 128 = (1, 6) := rfl
theorem kC_129 : kd (kz LC) 129 = (0, 7) := rfl
theorem kC_130 : kd (kz LC) 130 = (1, 36) := rfl
theorem kC_131 : kd (kz LC) 131 = (1, 36) := rfl
theorem kC_132 : kd (kz LC) 132 = (1, 6) := rfl
theorem kC_133 : kd (kz LC) 133 = (1, 6) := rfl
theorem kC_134 : kd (kz LC) 134 = (1, 6) := rfl
theorem kC_135 : kd (kz LC) 135 = (1, 6) := rfl
theorem kC_136 : kd (kz LC) 136 = (1, 6) := rfl
theorem kC_137 : kd (kz LC) 137 = (0, 7) := rfl
theorem kC_138 : kd (kz LC) 138 = (1, 36) := rfl
theorem kC_139 : kd (kz LC) 139 = (1, 36) := rfl
theorem kC_140 : kd (kz LC) 140 = (1, 6) := rfl
theorem kC_141 : kd (kz LC) 141 = (1, 6) := rfl
theorem kC_142 : kd (kz LC) 142 = (1, 6) := rfl
theorem kC_143 : kd (kz LC) 143 = (1, 6) := rfl
theorem kC_144 : kd (kz LC) 144 = (1, 6) := rfl
theorem kC_145 : kd (kz LC) 145 = (0, 0) := rfl
theorem kC_146 : kd (kz LC) 146 = (7, 6) := rfl
theorem kC_147 : kd (kz LC) 147 = (5, 6) := rfl
theorem kC_148 : kd (kz LC) 148 = (5, 6) := rfl
theorem kC_149 : kd (kz LC) 149 = (0, 9) := rfl
theorem kC_150 : kd (kz LC) 150 = (1, 36) := rfl
theorem kC_151 : kd (kz LC) 151 = (1, 36) := rfl
theorem kC_152 : kd (kz LC) 152 = (0, 5) := rfl
theorem kC_153 : kd (kz LC) 153 = (1, 36) := rfl
theorem kC_154 : kd (kz LC) 154 = (0, 5) := rfl
theorem kC_155 : kd (kz LC) 155 = (1, 36) := rfl
theorem kC_156 : kd (kz LC) 156 = (0, 5) := rfl
theorem kC_157 : kd (kz LC) 157 = (1, 36) := rfl
theorem kC_158 : kd (kz LC) 158 = (0, 5) := rfl
theorem kC_159 : kd (kz LC) 159 = (1, 36) := rfl
theorem kC_160 : kd (kz LC) 160 = (0, 5) := rfl
theorem kC_161 : kd (kz LC) 161 = (1, 36) := rfl
theorem kC_162 : kd (kz LC) 162 = (0, 5) := rfl
theorem kC_163 : kd (kz LC) 163 = (1, 36) := rfl
theorem kC_164 : kd (kz LC) 164 = (0, 2) := rfl
theorem kC_165 : kd (kz LC) 165 = (1, 6) := rfl
theorem kC_166 : kd (kz LC) 166 = (1, 6) := rfl
theorem kC_167 : kd (kz LC) 167 = (1, 6) := rfl
theorem kC_168 : kd (kz LC) 168 = (0, 3) := rfl
theorem kC_169 : kd (kz LC) 169 = (5, 4) := rfl
theorem kC_170 : kd (kz LC) 170 = (1, 72) := rfl
theorem kC_171 : kd (kz LC) 171 = (1, 72) := rfl
theorem kC_172 : kd (kz LC) 172 = (0, 8) := rfl
theorem kC_173 : kd (kz LC) 173 = (5, 36) := rfl
theorem kC_174 : kd (kz LC) 174 = (1, 41) := rfl
theorem kC_175 : kd (kz LC) 175 = (0, 6) := rfl
theorem kC_176 : kd (kz LC) 176 = (1, 40) := rfl
theorem kC_177 : kd (kz LC) 177 = (1, 40) := rfl
theorem kC_178 : kd (kz LC) 178 = (4, 40) := rfl
theorem kC_179 : kd (kz LC) 179 = (2, 5) := rfl
theorem kC_180 : kd (kz LC) 180 = (0, 6) := rfl
theorem kC_181 : kd (kz LC) 181 = (1, 40) := rfl
theorem kC_182 : kd (kz LC) 182 = (1, 40) := rfl
theorem kC_183 : kd (kz LC) 183 = (4, 40) := rfl
theorem kC_184 : kd (kz LC) 184 = (2, 5) := rfl
theorem pC_1_0 {b : Bool} : PC b 1 0 = 2 := rfl
theorem pC_1_2 {b : Bool} : PC b 1 2 = 3 := rfl
theorem pC_1_3 {b : Bool} : PC b 1 3 = 5 := rfl
theorem pC_1_4 {b : Bool} : PC b 1 4 = 13 := rfl
theorem pC_1_5 {b : Bool} : PC b 1 5 = 21 := rfl
theorem pC_1_6 {b : Bool} : PC b 1 6 = 29 := rfl
theorem pC_1_7 {b : Bool} : PC b 1 7 = 145 := rfl
theorem pC_1_8 {b : Bool} : PC b 1 8 = 164 := rfl
theorem pC_1_9 {b : Bool} : PC b 1 9 = 168 := rfl
theorem pC_1_10 {b : Bool} : PC b 1 10 = 172 := rfl
theorem pC_1_11 {b : Bool} : PC b 1 11 = 174 := rfl
theorem pC_3_5 {b : Bool} : PC b 3 5 = 4 := rfl
theorem pC_5_0 {b : Bool} : PC b 5 0 = 3 := rfl
theorem pC_5_1 {b : Bool} : PC b 5 1 = 6 := rfl
theorem pC_5_2 {b : Bool} : PC b 5 2 = 7 := rfl
theorem pC_5_6 {b : Bool} : PC b 5 6 = 8 := rfl
theorem pC_5_7 {b : Bool} : PC b 5 7 = 9 := rfl
theorem pC_5_8 {b : Bool} : PC b 5 8 = 10 := rfl
theorem pC_5_9 {b : Bool} : PC b 5 9 = 11 := rfl
theorem pC_5_10 {b : Bool} : PC b 5 10 = 12 := rfl
theorem pC_13_0 {b : Bool} : PC b 13 0 = 3 := rfl
theorem pC_13_1 {b : Bool} : PC b 13 1 = 14 := rfl
theorem pC_13_2 {b : Bool} : PC b 13 2 = 15 := rfl
theorem pC_13_6 {b : Bool} : PC b 13 6 = 16 := rfl
theorem pC_13_7 {b : Bool} : PC b 13 7 = 17 := rfl
theorem pC_13_8 {b : Bool} : PC b 13 8 = 18 := rfl
theorem pC_13_9 {b : Bool} : PC b 13 9 = 19 := rfl
theorem pC_13_10 {b : Bool} : PC b 13 10 = 20 := rfl
theorem pC_21_0 {b : Bool} : PC b 21 0 = 3 := rfl
theorem pC_21_1 {b : Bool} : PC b 21 1 = 22 := rfl
theorem pC_21_2 {b : Bool} : PC b 21 2 = 23 := rfl
theorem pC_21_6 {b : Bool} : PC b 21 6 = 24 := rfl
theorem pC_21_7 {b : Bool} : PC b 21 7 = 25 := rfl
theorem pC_21_8 {b : Bool} : PC b 21 8 = 26 := rfl
theorem pC_21_9 {b : Bool} : PC b 21 9 = 27 := rfl
theorem pC_21_10 {b : Bool} : PC b 21 10 = 28 := rfl
theorem pC_29_0 {b : Bool} : PC b 29 0 = 30 := rfl
theorem pC_29_1 {b : Bool} : PC b 29 1 = 31 := rfl
theorem pC_29_2 {b : Bool} : PC b 29 2 = 32 := rfl
theorem pC_30_0 {b : Bool} : PC b 30 0 = 33 := rfl
theorem pC_30_1 {b : Bool} : PC b 30 1 = 41 := rfl
theorem pC_30_2 {b : Bool} : PC b 30 2 = 49 := rfl
theorem pC_30_3 {b : Bool} : PC b 30 3 = 57 := rfl
theorem pC_30_4 {b : Bool} : PC b 30 4 = 65 := rfl
theorem pC_30_5 {b : Bool} : PC b 30 5 = 73 := rfl
theorem pC_30_6 {b : Bool} : PC b 30 6 = 81 := rfl
theorem pC_30_7 {b : Bool} : PC b 30 7 = 89 := rfl
theorem pC_30_8 {b : Bool} : PC b 30 8 = 97 := rfl
theorem pC_30_9 {b : Bool} : PC b 30 9 = 105 := rfl
theorem pC_30_10 {b : Bool} : PC b 30 10 = 113 := rfl
theorem pC_30_11 {b : Bool} : PC b 30 11 = 121 := rfl
theorem pC_31_0 {b : Bool} : PC b 31 0 = 129 := rfl
theorem pC_31_1 {b : Bool} : PC b 31 1 = 137 := rfl
theorem pC_33_0 {b : Bool} : PC b 33 0 = 3 := rfl
theorem pC_33_1 {b : Bool} : PC b 33 1 = 34 := rfl
theorem pC_33_2 {b : Bool} : PC b 33 2 = 35 := rfl
theorem pC_33_6 {b : Bool} : PC b 33 6 = 36 := rfl
theorem pC_33_7 {b : Bool} : PC b 33 7 = 37 := rfl
theorem pC_33_8 {b : Bool} : PC b 33 8 = 38 := rfl
theorem pC_33_9 {b : Bool} : PC b 33 9 = 39 := rfl
theorem pC_33_10 {b : Bool} : PC b 33 10 = 40 := rfl
theorem pC_41_0 {b : Bool} : PC b 41 0 = 3 := rfl
theorem pC_41_1 {b : Bool} : PC b 41 1 = 42 := rfl
theorem pC_41_2 {b : Bool} : PC b 41 2 = 43 := rfl
theorem pC_41_6 {b : Bool} : PC b 41 6 = 44 := rfl
theorem pC_41_7 {b : Bool} : PC b 41 7 = 45 := rfl
theorem pC_41_8 {b : Bool} : PC b 41 8 = 46 := rfl
theorem pC_41_9 {b : Bool} : PC b 41 9 = 47 := rfl
theorem pC_41_10 {b : Bool} : PC b 41 10 = 48 := rfl
theorem pC_49_0 {b : Bool} : PC b 49 0 = 3 := rfl
theorem pC_49_1 {b : Bool} : PC b 49 1 = 50 := rfl
theorem pC_49_2 {b : Bool} : PC b 49 2 = 51 := rfl
theorem pC_49_6 {b : Bool} : PC b 49 6 = 52 := rfl
theorem pC_49_7 {b : Bool} : PC b 49 7 = 53 := rfl
theorem pC_49_8 {b : Bool} : PC b 49 8 = 54 := rfl
theorem pC_49_9 {b : Bool} : PC b 49 9 = 55 := rfl
theorem pC_49_10 {b : Bool} : PC b 49 10 = 56 := rfl
theorem pC_57_0 {b : Bool} : PC b 57 0 = 3 := rfl
theorem pC_57_1 {b : Bool} : PC b 57 1 = 58 := rfl
theorem pC_57_2 {b : Bool} : PC b 57 2 = 59 := rfl
theorem pC_57_6 {b : Bool} : PC b 57 6 = 60 := rfl
theorem pC_57_7 {b : Bool} : PC b 57 7 = 61 := rfl
theorem pC_57_8 {b : Bool} : PC b 57 8 = 62 := rfl
theorem pC_57_9 {b : Bool} : PC b 57 9 = 63 := rfl
theorem pC_57_10 {b : Bool} : PC b 57 10 = 64 := rfl
theorem pC_65_0 {b : Bool} : PC b 65 0 = 3 := rfl
theorem pC_65_1 {b : Bool} : PC b 65 1 = 66 := rfl
theorem pC_65_2 {b : Bool} : PC b 65 2 = 67 := rfl
theorem pC_65_6 {b : Bool} : PC b 65 6 = 68 := rfl
theorem pC_65_7 {b : Bool} : PC b 65 7 = 69 := rfl
theorem pC_65_8 {b : Bool} : PC b 65 8 = 70 := rfl
theorem pC_65_9 {b : Bool} : PC b 65 9 = 71 := rfl
theorem pC_65_10 {b : Bool} : PC b 65 10 = 72 := rfl
theorem pC_73_0 {b : Bool} : PC b 73 0 = 3 := rfl
theorem pC_73_1 {b : Bool} : PC b 73 1 = 74 := rfl
theorem pC_73_2 {b : Bool} : PC b 73 2 = 75 := rfl
theorem pC_73_6 {b : Bool} : PC b 73 6 = 76 := rfl
theorem pC_73_7 {b : Bool} : PC b 73 7 = 77 := rfl
theorem pC_73_8 {b : Bool} : PC b 73 8 = 78 := rfl
theorem pC_73_9 {b : Bool} : PC b 73 9 = 79 := rfl
theorem pC_73_10 {b : Bool} : PC b 73 10 = 80 := rfl
theorem pC_81_0 {b : Bool} : PC b 81 0 = 3 := rfl
theorem pC_81_1 {b : Bool} : PC b 81 1 = 82 := rfl
theorem pC_81_2 {b : Bool} : PC b 81 2 = 83 := rfl
theorem pC_81_6 {b : Bool} : PC b 81 6 = 84 := rfl
theorem pC_81_7 {b : Bool} : PC b 81 7 = 85 := rfl
theorem pC_81_8 {b : Bool} : PC b 81 8 = 86 := rfl
theorem pC_81_9 {b : Bool} : PC b 81 9 = 87 := rfl
theorem pC_81_10 {b : Bool} : PC b 81 10 = 88 := rfl
theorem pC_89_0 {b : Bool} : PC b 89 0 = 3 := rfl
theorem pC_89_1 {b : Bool} : PC b 89 1 = 90 := rfl
theorem pC_89_2 {b : Bool} : PC b 89 2 = 91 := rfl
theorem pC_89_6 {b : Bool} : PC b 89 6 = 92 := rfl
theorem pC_89_7 {b : Bool} : PC b 89 7 = 93 := rfl
theorem pC_89_8 {b : Bool} : PC b 89 8 = 94 := rfl
theorem pC_89_9 {b : Bool} : PC b 89 9 = 95 := rfl
theorem pC_89_10 {b : Bool} : PC b 89 10 = 96 := rfl
theorem pC_97_0 {b : Bool} : PC b 97 0 = 3 := rfl
theorem pC_97_1 {b : Bool} : PC b 97 1 = 98 := rfl
theorem pC_97_2 {b : Bool} : PC b 97 2 = 99 := rfl
theorem pC_97_6 {b : Bool} : PC b 97 6 = 100 := rfl
theorem pC_97_7 {b : Bool} : PC b 97 7 = 101 := rfl
theorem pC_97_8 {b : Bool} : PC b 97 8 = 102 := rfl
theorem pC_97_9 {b : Bool} : PC b 97 9 = 103 := rfl
theorem pC_97_10 {b : Bool} : PC b 97 10 = 104 := rfl
theorem pC_105_0 {b : Bool} : PC b 105 0 = 3 := rfl
theorem pC_105_1 {b : Bool} : PC b 105 1 = 106 := rfl
theorem pC_105_2 {b : Bool} : PC b 105 2 = 107 := rfl
theorem pC_105_6 {b : Bool} : PC b 105 6 = 108 := rfl
theorem pC_105_7 {b : Bool} : PC b 105 7 = 109 := rfl
theorem pC_105_8 {b : Bool} : PC b 105 8 = 110 := rfl
theorem pC_105_9 {b : Bool} : PC b 105 9 = 111 := rfl
theorem pC_105_10 {b : Bool} : PC b 105 10 = 112 := rfl
theorem pC_113_0 {b : Bool} : PC b 113 0 = 3 := rfl
theorem pC_113_1 {b : Bool} : PC b 113 1 = 114 := rfl
theorem pC_113_2 {b : Bool} : PC b 113 2 = 115 := rfl
theorem pC_113_6 {b : Bool} : PC b 113 6 = 116 := rfl
theorem pC_113_7 {b : Bool} : PC b 113 7 = 117 := rfl
theorem pC_113_8 {b : Bool} : PC b 113 8 = 118 := rfl
theorem pC_113_9 {b : Bool} : PC b 113 9 = 119 := rfl
theorem pC_113_10 {b : Bool} : PC b 113 10 = 120 := rfl
theorem pC_121_0 {b : Bool} : PC b 121 0 = 3 := rfl
theorem pC_121_1 {b : Bool} : PC b 121 1 = 122 := rfl
theorem pC_121_2 {b : Bool} : PC b 121 2 = 123 := rfl
theorem pC_121_6 {b : Bool} : PC b 121 6 = 124 := rfl
theorem pC_121_7 {b : Bool} : PC b 121 7 = 125 := rfl
theorem pC_121_8 {b : Bool} : PC b 121 8 = 126 := rfl
theorem pC_121_9 {b : Bool} : PC b 121 9 = 127 := rfl
theorem pC_121_10 {b : Bool} : PC b 121 10 = 128 := rfl
theorem pC_129_0 {b : Bool} : PC b 129 0 = 3 := rfl
theorem pC_129_1 {b : Bool} : PC b 129 1 = 130 := rfl
theorem pC_129_2 {b : Bool} : PC b 129 2 = 131 := rfl
theorem pC_129_6 {b : Bool} : PC b 129 6 = 132 := rfl
theorem pC_129_7 {b : Bool} : PC b 129 7 = 133 := rfl
theorem pC_129_8 {b : Bool} : PC b 129 8 = 134 := rfl
theorem pC_129_9 {b : Bool} : PC b 129 9 = 135 := rfl
theorem pC_129_10 {b : Bool} : PC b 129 10 = 136 := rfl
theorem pC_137_0 {b : Bool} : PC b 137 0 = 3 := rfl
theorem pC_137_1 {b : Bool} : PC b 137 1 = 138 := rfl
theorem pC_137_2 {b : Bool} : PC b 137 2 = 139 := rfl
theorem pC_137_6 {b : Bool} : PC b 137 6 = 140 := rfl
theorem pC_137_7 {b : Bool} : PC b 137 7 = 141 := rfl
theorem pC_137_8 {b : Bool} : PC b 137 8 = 142 := rfl
theorem pC_137_9 {b : Bool} : PC b 137 9 = 143 := rfl
theorem pC_137_10 {b : Bool} : PC b 137 10 = 144 := rfl
theorem pC_145_0 {b : Bool} : PC b 145 0 = 3 := rfl
theorem pC_145_1 {b : Bool} : PC b 145 1 = 149 := rfl
theorem pC_145_2 {b : Bool} : PC b 145 2 = 146 := rfl
theorem pC_145_3 {b : Bool} : PC b 145 3 = 147 := rfl
theorem pC_145_4 {b : Bool} : PC b 145 4 = 148 := rfl
theorem pC_146_0 {b : Bool} : PC b 146 0 = 152 := rfl
theorem pC_146_1 {b : Bool} : PC b 146 1 = 154 := rfl
theorem pC_146_2 {b : Bool} : PC b 146 2 = 156 := rfl
theorem pC_146_3 {b : Bool} : PC b 146 3 = 158 := rfl
theorem pC_146_4 {b : Bool} : PC b 146 4 = 160 := rfl
theorem pC_146_5 {b : Bool} : PC b 146 5 = 162 := rfl
theorem pC_149_0 {b : Bool} : PC b 149 0 = 3 := rfl
theorem pC_149_1 {b : Bool} : PC b 149 1 = 150 := rfl
theorem pC_149_2 {b : Bool} : PC b 149 2 = 151 := rfl
theorem pC_152_3 {b : Bool} : PC b 152 3 = 153 := rfl
theorem pC_154_3 {b : Bool} : PC b 154 3 = 155 := rfl
theorem pC_156_3 {b : Bool} : PC b 156 3 = 157 := rfl
theorem pC_158_3 {b : Bool} : PC b 158 3 = 159 := rfl
theorem pC_160_3 {b : Bool} : PC b 160 3 = 161 := rfl
theorem pC_162_3 {b : Bool} : PC b 162 3 = 163 := rfl
theorem pC_164_1 {b : Bool} : PC b 164 1 = 165 := rfl
theorem pC_164_2 {b : Bool} : PC b 164 2 = 166 := rfl
theorem pC_164_3 {b : Bool} : PC b 164 3 = 167 := rfl
theorem pC_168_0 {b : Bool} : PC b 168 0 = 3 := rfl
theorem pC_168_3 {b : Bool} : PC b 168 3 = 169 := rfl
theorem pC_168_4 {b : Bool} : PC b 168 4 = 170 := rfl
theorem pC_168_5 {b : Bool} : PC b 168 5 = 171 := rfl
theorem pC_172_0 {b : Bool} : PC b 172 0 = 173 := rfl
theorem pC_175_0 {b : Bool} : PC b 175 0 = 176 := rfl
theorem pC_175_2 {b : Bool} : PC b 175 2 = 177 := rfl
theorem pC_175_3 {b : Bool} : PC b 175 3 = 178 := rfl
theorem pC_175_5 {b : Bool} : PC b 175 5 = 179 := rfl
theorem pC_180_0 {b : Bool} : PC b 180 0 = 181 := rfl
theorem pC_180_2 {b : Bool} : PC b 180 2 = 182 := rfl
theorem pC_180_3 {b : Bool} : PC b 180 3 = 183 := rfl
theorem pC_180_5 {b : Bool} : PC b 180 5 = 184 := rfl
theorem pC_rule {b : Bool} : PC b 1 12 = if b then 180 else 175 := rfl
theorem pC_spare {b : Bool} : PC b 1 13 = if b then 175 else 180 := rfl
def stI (o : Nat) : Prop := o ∈ [5, 13, 21, 33, 41, 49, 57, 65, 73, 81, 89, 97, 105, 113, 121, 129, 137]
theorem stI_all {p : Nat → Prop} (h : ∀ o ∈ [5, 13, 21, 33, 41, 49, 57, 65, 73, 81, 89, 97, 105, 113, 121, 129, 137], p o) {o : Nat} (ho : stI o) : p o := h o ho
theorem st_k {o : Nat} (ho : stI o) : kd (kz LC) o = (0, 7) := stI_all (p := fun o => kd (kz LC) o = (0, 7)) (by decide +kernel) ho
theorem st_k1 {o : Nat} (ho : stI o) : kd (kz LC) (o + 1) = (1, 36) := stI_all (p := fun o => kd (kz LC) (o + 1) = (1, 36)) (by decide +kernel) ho
theorem st_k2 {o : Nat} (ho : stI o) : kd (kz LC) (o + 2) = (1, 36) := stI_all (p := fun o => kd (kz LC) (o + 2) = (1, 36)) (by decide +kernel) ho
theorem st_k3 {o : Nat} (ho : stI o) : kd (kz LC) (o + 3) = (1, 6) := stI_all (p := fun o => kd (kz LC) (o + 3) = (1, 6)) (by decide +kernel) ho
theorem st_k4 {o : Nat} (ho : stI o) : kd (kz LC) (o + 4) = (1, 6) := stI_all (p := fun o => kd (kz LC) (o + 4) = (1, 6)) (by decide +kernel) ho
theorem st_k5 {o : Nat} (ho : stI o) : kd (kz LC) (o + 5) = (1, 6) := stI_all (p := fun o => kd (kz LC) (o + 5) = (1, 6)) (by decide +kernel) ho
theorem st_k6 {o : Nat} (ho : stI o) : kd (kz LC) (o + 6) = (1, 6) := stI_all (p := fun o => kd (kz LC) (o + 6) = (1, 6)) (by decide +kernel) ho
theorem st_k7 {o : Nat} (ho : stI o) : kd (kz LC) (o + 7) = (1, 6) := stI_all (p := fun o => kd (kz LC) (o + 7) = (1, 6)) (by decide +kernel) ho
theorem st_b {o : Nat} (ho : stI o) : 5 ≤ o ∧ o ≤ 137 := stI_all (p := fun o => 5 ≤ o ∧ o ≤ 137) (by decide +kernel) ho
theorem st_q1 {o : Nat} (ho : stI o) : (PCl.getD o []).getD 1 0 = o + 1 := stI_all (p := fun o => (PCl.getD o []).getD 1 0 = o + 1) (by decide +kernel) ho
theorem st_p1 {o : Nat} {b : Bool} (ho : stI o) : PC b o 1 = o + 1 := by
  have h := st_b ho
  unfold PC
  rw [if_neg (by omega), if_neg (by omega)]
  exact st_q1 ho
theorem st_q2 {o : Nat} (ho : stI o) : (PCl.getD o []).getD 2 0 = o + 2 := stI_all (p := fun o => (PCl.getD o []).getD 2 0 = o + 2) (by decide +kernel) ho
theorem st_p2 {o : Nat} {b : Bool} (ho : stI o) : PC b o 2 = o + 2 := by
  have h := st_b ho
  unfold PC
  rw [if_neg (by omega), if_neg (by omega)]
  exact st_q2 ho
theorem st_q6 {o : Nat} (ho : stI o) : (PCl.getD o []).getD 6 0 = o + 3 := stI_all (p := fun o => (PCl.getD o []).getD 6 0 = o + 3) (by decide +kernel) ho
theorem st_p6 {o : Nat} {b : Bool} (ho : stI o) : PC b o 6 = o + 3 := by
  have h := st_b ho
  unfold PC
  rw [if_neg (by omega), if_neg (by omega)]
  exact st_q6 ho
theorem st_q7 {o : Nat} (ho : stI o) : (PCl.getD o []).getD 7 0 = o + 4 := stI_all (p := fun o => (PCl.getD o []).getD 7 0 = o + 4) (by decide +kernel) ho
theorem st_p7 {o : Nat} {b : Bool} (ho : stI o) : PC b o 7 = o + 4 := by
  have h := st_b ho
  unfold PC
  rw [if_neg (by omega), if_neg (by omega)]
  exact st_q7 ho
theorem st_q8 {o : Nat} (ho : stI o) : (PCl.getD o []).getD 8 0 = o + 5 := stI_all (p := fun o => (PCl.getD o []).getD 8 0 = o + 5) (by decide +kernel) ho
theorem st_p8 {o : Nat} {b : Bool} (ho : stI o) : PC b o 8 = o + 5 := by
  have h := st_b ho
  unfold PC
  rw [if_neg (by omega), if_neg (by omega)]
  exact st_q8 ho
theorem st_q9 {o : Nat} (ho : stI o) : (PCl.getD o []).getD 9 0 = o + 6 := stI_all (p := fun o => (PCl.getD o []).getD 9 0 = o + 6) (by decide +kernel) ho
theorem st_p9 {o : Nat} {b : Bool} (ho : stI o) : PC b o 9 = o + 6 := by
  have h := st_b ho
  unfold PC
  rw [if_neg (by omega), if_neg (by omega)]
  exact st_q9 ho
theorem st_q10 {o : Nat} (ho : stI o) : (PCl.getD o []).getD 10 0 = o + 7 := stI_all (p := fun o => (PCl.getD o []).getD 10 0 = o + 7) (by decide +kernel) ho
theorem st_p10 {o : Nat} {b : Bool} (ho : stI o) : PC b o 10 = o + 7 := by
  have h := st_b ho
  unfold PC
  rw [if_neg (by omega), if_neg (by omega)]
  exact st_q10 ho
theorem st_q0 {o : Nat} (ho : stI o) : (PCl.getD o []).getD 0 0 = 3 := stI_all (p := fun o => (PCl.getD o []).getD 0 0 = 3) (by decide +kernel) ho
theorem st_p0 {o : Nat} {b : Bool} (ho : stI o) : PC b o 0 = 3 := by
  have h := st_b ho
  unfold PC
  rw [if_neg (by omega), if_neg (by omega)]
  exact st_q0 ho
theorem st_gap {o q : Nat} (ho : stI o) (hq : stI q) : o = q ∨ o + 8 ≤ q ∨ q + 8 ≤ o := by
  have h : ∀ a ∈ [5, 13, 21, 33, 41, 49, 57, 65, 73, 81, 89, 97, 105, 113, 121, 129, 137], ∀ c ∈ [5, 13, 21, 33, 41, 49, 57, 65, 73, 81, 89, 97, 105, 113, 121, 129, 137], a = c ∨ a + 8 ≤ c ∨ c + 8 ≤ a := by decide +kernel
  exact h o ho q hq
