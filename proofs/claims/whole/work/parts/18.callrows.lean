/-! calls of the pure machine where nothing is made; Math -/
def kz (L : List (Nat × Nat)) : KK := ((0, 0), L)
theorem popA_of : ∀ (xs acc st : List PV) (K : List PV → List PV → Prop), K (xs.reverse ++ acc) st → popA xs.length acc (xs ++ st) K
  | [], _, _, _, h => h
  | x :: xs, acc, st, K, h => by
    show popA xs.length (x :: acc) (xs ++ st) K
    refine popA_of xs (x :: acc) st K ?_
    rw [List.reverse_cons, List.append_assoc] at h
    exact h
theorem scat_0 : scat [] = 0 := rfl
theorem scat_I {x : Int} {t : List PV} : scat (pI x :: t) = 1 + scat t := rfl
theorem scat_L {x : Int} {t : List PV} : scat (pL x :: t) = 2 + scat t := rfl
theorem scat_R {x : Nat} {t : List PV} : scat (pR x :: t) = 1 + scat t := rfl
section ZC
variable {E : CR} {m : Nat} {Q : QT} {X : XT} {pc : Nat} {ls : PL} {st : List PV} {L L' : List (Nat × Nat)} {P P' : PM} {M M' : MM} {r : Option PV} {i c y : Nat}
theorem kcall_z {as : List PV} {K : List PV → KK → PM → MM → Prop} (h4 : scat st ≤ 8) (hE : E y as (kz L) P M r (kz L') P' M') (h : K (r.toList ++ st) (kz L') P' M') : kCall E y as st (kz L) P M K := ⟨h4, (0, 0), r, kz L', P', M', ⟨Nat.le_refl _, Nat.le_refl _⟩, hE, h⟩
theorem zc_virt (hd : decode (cod m) pc = .ok (.invokevirtual i, 3)) (hct : CTb (mow m) i = some (c, y)) (hc : c < 2) (as : List PV) {o ci : Nat} (hlen : as.length = nar y) (hci : mow y = ci) (hk : kd (kz L) o = (0, ci)) (h4 : scat st ≤ 8) (hE : E y (pR o :: as) (kz L) P M r (kz L') P' M') (h : wpB E m Q X (pc + 3) ls (r.toList ++ st) (kz L') P' M') : wpB E m Q X pc ls (as.reverse ++ pR o :: st) (kz L) P M := by
  rw [wpB_at hd]
  refine ⟨rfl, c, y, hct, hc, ?_⟩
  unfold kInv
  rw [if_pos hc]
  have e : as.reverse ++ pR o :: st = (pR o :: as).reverse ++ st := by simp
  have e2 : nar y + 1 = ((pR o :: as).reverse).length := by simp [hlen]
  rw [e, e2]
  refine popA_of _ _ _ _ ?_
  rw [List.append_nil, List.reverse_reverse]
  exact ⟨⟨o, as, rfl, by rw [hci]; exact hk⟩, kcall_z h4 hE h⟩
theorem zc_stat (hd : decode (cod m) pc = .ok (.invokestatic i, 3)) (hct : CTb (mow m) i = some (c, y)) (hc : c = 2 ∨ c = 3) (as : List PV) (hlen : as.length = nar y) (h4 : scat st ≤ 8) (hE : E y as (kz L) P M r (kz L') P' M') (h : wpB E m Q X (pc + 3) ls (r.toList ++ st) (kz L') P' M') : wpB E m Q X pc ls (as.reverse ++ st) (kz L) P M := by
  rw [wpB_at hd]
  refine ⟨rfl, c, y, hct, by omega, ?_⟩
  unfold kInv
  rw [if_neg (by omega), if_pos (by omega)]
  have e2 : nar y = (as.reverse).length := by simp [hlen]
  rw [e2]
  refine popA_of _ _ _ _ ?_
  rw [List.append_nil, List.reverse_reverse]
  exact kcall_z h4 hE h
theorem zc_max {κ : KK} {x z : Int} (hd : decode (cod m) pc = .ok (.invokestatic i, 3)) (hct : CTb (mow m) i = some (7, y)) (h4 : scat st ≤ 8) : wpB E m Q X pc ls (pI z :: pI x :: st) κ P M ↔ wpB E m Q X (pc + 3) ls (pI (if x < z then z else x) :: st) κ P M := by
  rw [wpB_at hd]
  simp [stepP, hct, kInv, popI, h4]
theorem zc_min {κ : KK} {x z : Int} (hd : decode (cod m) pc = .ok (.invokestatic i, 3)) (hct : CTb (mow m) i = some (8, y)) (h4 : scat st ≤ 8) : wpB E m Q X pc ls (pI z :: pI x :: st) κ P M ↔ wpB E m Q X (pc + 3) ls (pI (if z < x then z else x) :: st) κ P M := by
  rw [wpB_at hd]
  simp [stepP, hct, kInv, popI, h4]
theorem zc_abs {κ : KK} {x : Int} (hd : decode (cod m) pc = .ok (.invokestatic i, 3)) (hct : CTb (mow m) i = some (9, y)) (h4 : scat st ≤ 8) : wpB E m Q X pc ls (pI x :: st) κ P M ↔ wpB E m Q X (pc + 3) ls (pI (if 0 ≤ x then x else w32 (0 - x)) :: st) κ P M := by
  rw [wpB_at hd]
  simp [stepP, hct, kInv, popI, h4]
theorem zc_copy {κ : KK} {n dp sp : Int} {d s : Nat} (hd : decode (cod m) pc = .ok (.invokestatic i, 3)) (hct : CTb (mow m) i = some (10, y)) (h4 : scat st ≤ 8) : wpB E m Q X pc ls (pI n :: pI dp :: pR d :: pI sp :: pR s :: st) κ P M ↔ ((kd κ s).1 = 1 ∧ (kd κ d).1 = 1 ∧ 0 ≤ sp ∧ 0 ≤ dp ∧ 0 ≤ n ∧ sp + n ≤ (kd κ s).2 ∧ dp + n ≤ (kd κ d).2 ∧ wpB E m Q X (pc + 3) ls st κ P (cM M s d sp.toNat dp.toNat n.toNat)) := by
  rw [wpB_at hd]
  simp only [stepP, hct, kInv, popI, popR]
  constructor
  · rintro ⟨-, c1, y1, e1, -, h⟩
    cases e1
    simp only [Nat.reduceLT, if_false, Nat.reduceEqDiff, if_true] at h
    obtain ⟨_, _, e1, _, _, e2, _, _, e3, _, _, e4, _, _, e5, _, n0, n1, k0, k1, q1, q2, q3, q4, q5, h⟩ := h
    cases e1; cases e2; cases e3; cases e4; cases e5
    rw [k0, k1]
    exact ⟨rfl, rfl, q1, q2, q3, q4, q5, h⟩
  · rintro ⟨k0, k1, q1, q2, q3, q4, q5, h⟩
    refine ⟨trivial, 10, y, rfl, by omega, ?_⟩
    simp only [Nat.reduceLT, if_false, Nat.reduceEqDiff, if_true]
    exact ⟨_, _, rfl, _, _, rfl, _, _, rfl, _, _, rfl, _, _, rfl, h4, (kd κ s).2, (kd κ d).2, by rw [← k0], by rw [← k1], q1, q2, q3, q4, q5, h⟩
end ZC
/-! how many arguments each method has -/
theorem nar_0 : nar 0 = 0 := by decide +kernel
theorem nar_1 : nar 1 = 0 := by decide +kernel
theorem nar_2 : nar 2 = 2 := by decide +kernel
theorem nar_3 : nar 3 = 1 := by decide +kernel
theorem nar_4 : nar 4 = 1 := by decide +kernel
theorem nar_5 : nar 5 = 1 := by decide +kernel
theorem nar_6 : nar 6 = 1 := by decide +kernel
theorem nar_7 : nar 7 = 0 := by decide +kernel
theorem nar_8 : nar 8 = 0 := by decide +kernel
theorem nar_9 : nar 9 = 1 := by decide +kernel
theorem nar_10 : nar 10 = 0 := by decide +kernel
theorem nar_11 : nar 11 = 0 := by decide +kernel
theorem nar_12 : nar 12 = 0 := by decide +kernel
theorem nar_13 : nar 13 = 2 := by decide +kernel
theorem nar_14 : nar 14 = 1 := by decide +kernel
theorem nar_15 : nar 15 = 1 := by decide +kernel
theorem nar_16 : nar 16 = 1 := by decide +kernel
theorem nar_17 : nar 17 = 1 := by decide +kernel
theorem nar_18 : nar 18 = 1 := by decide +kernel
theorem nar_19 : nar 19 = 1 := by decide +kernel
theorem nar_20 : nar 20 = 1 := by decide +kernel
theorem nar_21 : nar 21 = 1 := by decide +kernel
theorem nar_22 : nar 22 = 1 := by decide +kernel
theorem nar_23 : nar 23 = 1 := by decide +kernel
theorem nar_24 : nar 24 = 1 := by decide +kernel
theorem nar_25 : nar 25 = 0 := by decide +kernel
theorem nar_26 : nar 26 = 0 := by decide +kernel
theorem nar_27 : nar 27 = 1 := by decide +kernel
theorem nar_28 : nar 28 = 1 := by decide +kernel
theorem nar_29 : nar 29 = 0 := by decide +kernel
theorem nar_30 : nar 30 = 0 := by decide +kernel
theorem nar_31 : nar 31 = 0 := by decide +kernel
theorem nar_32 : nar 32 = 0 := by decide +kernel
theorem nar_33 : nar 33 = 4 := by decide +kernel
theorem nar_34 : nar 34 = 3 := by decide +kernel
theorem nar_35 : nar 35 = 2 := by decide +kernel
theorem nar_36 : nar 36 = 4 := by decide +kernel
theorem nar_37 : nar 37 = 1 := by decide +kernel
theorem nar_38 : nar 38 = 0 := by decide +kernel
theorem nar_39 : nar 39 = 0 := by decide +kernel
theorem nar_40 : nar 40 = 2 := by decide +kernel
theorem nar_41 : nar 41 = 1 := by decide +kernel
theorem nar_42 : nar 42 = 1 := by decide +kernel
theorem nar_43 : nar 43 = 1 := by decide +kernel
theorem nar_44 : nar 44 = 2 := by decide +kernel
theorem nar_45 : nar 45 = 4 := by decide +kernel
theorem nar_46 : nar 46 = 3 := by decide +kernel
theorem nar_47 : nar 47 = 5 := by decide +kernel
theorem nar_48 : nar 48 = 1 := by decide +kernel
theorem nar_49 : nar 49 = 4 := by decide +kernel
theorem nar_50 : nar 50 = 2 := by decide +kernel
theorem nar_51 : nar 51 = 0 := by decide +kernel
theorem nar_52 : nar 52 = 1 := by decide +kernel
theorem nar_53 : nar 53 = 1 := by decide +kernel
theorem nar_54 : nar 54 = 1 := by decide +kernel
theorem nar_55 : nar 55 = 0 := by decide +kernel
theorem nar_56 : nar 56 = 3 := by decide +kernel
theorem nar_57 : nar 57 = 4 := by decide +kernel
theorem nar_58 : nar 58 = 0 := by decide +kernel
theorem nar_59 : nar 59 = 1 := by decide +kernel
theorem nar_60 : nar 60 = 1 := by decide +kernel
theorem nar_61 : nar 61 = 3 := by decide +kernel
theorem nar_62 : nar 62 = 1 := by decide +kernel
theorem nar_63 : nar 63 = 1 := by decide +kernel
theorem nar_64 : nar 64 = 2 := by decide +kernel
theorem nar_65 : nar 65 = 0 := by decide +kernel
theorem nar_66 : nar 66 = 3 := by decide +kernel
theorem nar_67 : nar 67 = 2 := by decide +kernel
theorem nar_68 : nar 68 = 1 := by decide +kernel
theorem nar_69 : nar 69 = 1 := by decide +kernel
theorem nar_70 : nar 70 = 0 := by decide +kernel
theorem nar_71 : nar 71 = 1 := by decide +kernel
theorem nar_72 : nar 72 = 1 := by decide +kernel
theorem nar_73 : nar 73 = 1 := by decide +kernel
theorem nar_74 : nar 74 = 1 := by decide +kernel
theorem nar_75 : nar 75 = 1 := by decide +kernel
theorem nar_76 : nar 76 = 2 := by decide +kernel
theorem nar_77 : nar 77 = 2 := by decide +kernel
theorem nar_78 : nar 78 = 2 := by decide +kernel
theorem nar_79 : nar 79 = 2 := by decide +kernel
theorem nar_80 : nar 80 = 2 := by decide +kernel
theorem nar_81 : nar 81 = 2 := by decide +kernel
theorem nar_82 : nar 82 = 0 := by decide +kernel
theorem nar_83 : nar 83 = 1 := by decide +kernel
theorem nar_84 : nar 84 = 1 := by decide +kernel
theorem nar_85 : nar 85 = 3 := by decide +kernel
theorem nar_86 : nar 86 = 1 := by decide +kernel
theorem nar_87 : nar 87 = 1 := by decide +kernel
theorem nar_88 : nar 88 = 1 := by decide +kernel
theorem nar_89 : nar 89 = 0 := by decide +kernel
theorem nar_90 : nar 90 = 1 := by decide +kernel
theorem nar_91 : nar 91 = 1 := by decide +kernel
theorem nar_92 : nar 92 = 2 := by decide +kernel
theorem nar_93 : nar 93 = 1 := by decide +kernel
theorem nar_94 : nar 94 = 0 := by decide +kernel
theorem nar_95 : nar 95 = 2 := by decide +kernel
theorem nar_96 : nar 96 = 2 := by decide +kernel
theorem nar_97 : nar 97 = 1 := by decide +kernel
theorem nar_98 : nar 98 = 2 := by decide +kernel
theorem nar_99 : nar 99 = 3 := by decide +kernel
theorem nar_100 : nar 100 = 2 := by decide +kernel
theorem nar_101 : nar 101 = 1 := by decide +kernel
theorem nar_102 : nar 102 = 3 := by decide +kernel
theorem nar_103 : nar 103 = 2 := by decide +kernel
theorem nar_104 : nar 104 = 3 := by decide +kernel
theorem nar_105 : nar 105 = 2 := by decide +kernel
theorem nar_106 : nar 106 = 2 := by decide +kernel
theorem nar_107 : nar 107 = 1 := by decide +kernel
theorem nar_108 : nar 108 = 1 := by decide +kernel
theorem nar_109 : nar 109 = 2 := by decide +kernel
theorem nar_110 : nar 110 = 2 := by decide +kernel
theorem nar_111 : nar 111 = 0 := by decide +kernel
theorem nar_112 : nar 112 = 2 := by decide +kernel
theorem nar_113 : nar 113 = 2 := by decide +kernel
theorem nar_114 : nar 114 = 0 := by decide +kernel
theorem nar_115 : nar 115 = 2 := by decide +kernel
theorem nar_116 : nar 116 = 1 := by decide +kernel
theorem nar_117 : nar 117 = 1 := by decide +kernel
theorem nar_118 : nar 118 = 1 := by decide +kernel
theorem nar_119 : nar 119 = 0 := by decide +kernel
theorem nar_120 : nar 120 = 0 := by decide +kernel
theorem nar_121 : nar 121 = 1 := by decide +kernel
theorem nar_122 : nar 122 = 1 := by decide +kernel
theorem nar_123 : nar 123 = 1 := by decide +kernel
theorem nar_124 : nar 124 = 1 := by decide +kernel
theorem nar_125 : nar 125 = 1 := by decide +kernel
theorem nar_126 : nar 126 = 1 := by decide +kernel
theorem nar_127 : nar 127 = 1 := by decide +kernel
theorem nar_128 : nar 128 = 2 := by decide +kernel
theorem nar_129 : nar 129 = 0 := by decide +kernel
theorem nar_130 : nar 130 = 0 := by decide +kernel
theorem nar_131 : nar 131 = 0 := by decide +kernel
theorem nar_132 : nar 132 = 0 := by decide +kernel
theorem nar_133 : nar 133 = 1 := by decide +kernel
theorem nar_134 : nar 134 = 1 := by decide +kernel
theorem nar_135 : nar 135 = 3 := by decide +kernel
theorem nar_136 : nar 136 = 2 := by decide +kernel
theorem nar_137 : nar 137 = 2 := by decide +kernel
theorem nar_138 : nar 138 = 2 := by decide +kernel
theorem nar_139 : nar 139 = 0 := by decide +kernel
theorem nar_140 : nar 140 = 1 := by decide +kernel
theorem nar_141 : nar 141 = 3 := by decide +kernel
theorem nar_142 : nar 142 = 2 := by decide +kernel
theorem nar_143 : nar 143 = 3 := by decide +kernel
theorem nar_144 : nar 144 = 0 := by decide +kernel
theorem nar_145 : nar 145 = 2 := by decide +kernel
theorem nar_146 : nar 146 = 0 := by decide +kernel
theorem nar_147 : nar 147 = 1 := by decide +kernel
theorem nar_148 : nar 148 = 1 := by decide +kernel
theorem nar_149 : nar 149 = 2 := by decide +kernel
theorem nar_150 : nar 150 = 1 := by decide +kernel
theorem nar_151 : nar 151 = 2 := by decide +kernel
theorem nar_152 : nar 152 = 1 := by decide +kernel
theorem nar_153 : nar 153 = 2 := by decide +kernel
theorem nar_154 : nar 154 = 2 := by decide +kernel
theorem nar_155 : nar 155 = 1 := by decide +kernel
theorem nar_156 : nar 156 = 0 := by decide +kernel
theorem nar_157 : nar 157 = 0 := by decide +kernel
theorem nar_158 : nar 158 = 1 := by decide +kernel
theorem nar_159 : nar 159 = 1 := by decide +kernel
theorem nar_160 : nar 160 = 3 := by decide +kernel
theorem nar_161 : nar 161 = 0 := by decide +kernel
theorem nar_162 : nar 162 = 1 := by decide +kernel
theorem nar_163 : nar 163 = 3 := by decide +kernel
theorem nar_164 : nar 164 = 2 := by decide +kernel
theorem nar_165 : nar 165 = 0 := by decide +kernel
theorem nar_166 : nar 166 = 0 := by decide +kernel
theorem nar_167 : nar 167 = 1 := by decide +kernel
theorem nar_168 : nar 168 = 1 := by decide +kernel
theorem nar_169 : nar 169 = 0 := by decide +kernel
theorem nar_170 : nar 170 = 0 := by decide +kernel
theorem nar_171 : nar 171 = 0 := by decide +kernel
theorem nar_172 : nar 172 = 1 := by decide +kernel
theorem nar_173 : nar 173 = 0 := by decide +kernel
theorem nar_174 : nar 174 = 1 := by decide +kernel
theorem nar_175 : nar 175 = 0 := by decide +kernel
theorem nar_176 : nar 176 = 0 := by decide +kernel
theorem nar_177 : nar 177 = 1 := by decide +kernel
theorem nar_178 : nar 178 = 1 := by decide +kernel
theorem nar_179 : nar 179 = 1 := by decide +kernel
theorem nar_180 : nar 180 = 1 := by decide +kernel
theorem nar_181 : nar 181 = 1 := by decide +kernel
theorem nar_182 : nar 182 = 1 := by decide +kernel
theorem nar_183 : nar 183 = 1 := by decide +kernel
theorem nar_184 : nar 184 = 2 := by decide +kernel
theorem nar_185 : nar 185 = 1 := by decide +kernel
theorem nar_186 : nar 186 = 0 := by decide +kernel
theorem nar_187 : nar 187 = 0 := by decide +kernel
theorem nar_188 : nar 188 = 2 := by decide +kernel
theorem nar_189 : nar 189 = 2 := by decide +kernel
theorem nar_190 : nar 190 = 2 := by decide +kernel
theorem nar_191 : nar 191 = 3 := by decide +kernel
theorem nar_192 : nar 192 = 2 := by decide +kernel
theorem nar_193 : nar 193 = 2 := by decide +kernel
theorem nar_194 : nar 194 = 1 := by decide +kernel
theorem nar_195 : nar 195 = 2 := by decide +kernel
theorem nar_196 : nar 196 = 1 := by decide +kernel
theorem nar_197 : nar 197 = 2 := by decide +kernel
theorem nar_198 : nar 198 = 1 := by decide +kernel
theorem nar_199 : nar 199 = 4 := by decide +kernel
theorem nar_200 : nar 200 = 1 := by decide +kernel
theorem nar_201 : nar 201 = 1 := by decide +kernel
theorem nar_202 : nar 202 = 1 := by decide +kernel
theorem nar_203 : nar 203 = 3 := by decide +kernel
theorem nar_204 : nar 204 = 2 := by decide +kernel
theorem nar_205 : nar 205 = 1 := by decide +kernel
theorem nar_206 : nar 206 = 1 := by decide +kernel
theorem nar_207 : nar 207 = 1 := by decide +kernel
theorem nar_208 : nar 208 = 2 := by decide +kernel
theorem nar_209 : nar 209 = 1 := by decide +kernel
theorem nar_210 : nar 210 = 2 := by decide +kernel
theorem nar_211 : nar 211 = 2 := by decide +kernel
theorem nar_212 : nar 212 = 2 := by decide +kernel
theorem nar_213 : nar 213 = 2 := by decide +kernel
theorem nar_214 : nar 214 = 0 := by decide +kernel
theorem nar_215 : nar 215 = 1 := by decide +kernel
theorem nar_216 : nar 216 = 0 := by decide +kernel
theorem nar_217 : nar 217 = 3 := by decide +kernel
theorem nar_218 : nar 218 = 0 := by decide +kernel
theorem nar_219 : nar 219 = 1 := by decide +kernel
theorem nar_220 : nar 220 = 0 := by decide +kernel
theorem nar_221 : nar 221 = 1 := by decide +kernel
theorem nar_222 : nar 222 = 2 := by decide +kernel
theorem nar_223 : nar 223 = 2 := by decide +kernel
theorem nar_224 : nar 224 = 1 := by decide +kernel
theorem nar_225 : nar 225 = 1 := by decide +kernel
theorem nar_226 : nar 226 = 3 := by decide +kernel
theorem nar_227 : nar 227 = 1 := by decide +kernel
theorem nar_228 : nar 228 = 0 := by decide +kernel
theorem nar_229 : nar 229 = 2 := by decide +kernel
theorem nar_230 : nar 230 = 0 := by decide +kernel
theorem nar_231 : nar 231 = 2 := by decide +kernel
theorem nar_232 : nar 232 = 2 := by decide +kernel
theorem nar_233 : nar 233 = 2 := by decide +kernel
theorem nar_234 : nar 234 = 3 := by decide +kernel
theorem nar_235 : nar 235 = 1 := by decide +kernel
theorem nar_236 : nar 236 = 1 := by decide +kernel
theorem nar_237 : nar 237 = 0 := by decide +kernel
theorem nar_238 : nar 238 = 1 := by decide +kernel
theorem nar_239 : nar 239 = 1 := by decide +kernel
theorem nar_240 : nar 240 = 1 := by decide +kernel
theorem nar_241 : nar 241 = 1 := by decide +kernel
theorem nar_242 : nar 242 = 1 := by decide +kernel
theorem nar_243 : nar 243 = 1 := by decide +kernel
theorem nar_244 : nar 244 = 2 := by decide +kernel
theorem nar_245 : nar 245 = 0 := by decide +kernel
theorem nar_246 : nar 246 = 0 := by decide +kernel
theorem nar_247 : nar 247 = 0 := by decide +kernel
theorem nar_248 : nar 248 = 0 := by decide +kernel
theorem nar_249 : nar 249 = 1 := by decide +kernel
theorem nar_250 : nar 250 = 3 := by decide +kernel
theorem nar_251 : nar 251 = 1 := by decide +kernel
theorem nar_252 : nar 252 = 1 := by decide +kernel
theorem nar_253 : nar 253 = 3 := by decide +kernel
theorem nar_254 : nar 254 = 2 := by decide +kernel
theorem nar_255 : nar 255 = 2 := by decide +kernel
theorem nar_256 : nar 256 = 2 := by decide +kernel
theorem nar_257 : nar 257 = 0 := by decide +kernel
theorem nar_258 : nar 258 = 1 := by decide +kernel
theorem nar_259 : nar 259 = 3 := by decide +kernel
theorem nar_260 : nar 260 = 2 := by decide +kernel
theorem nar_261 : nar 261 = 3 := by decide +kernel
theorem nar_262 : nar 262 = 0 := by decide +kernel
theorem nar_263 : nar 263 = 0 := by decide +kernel
theorem nar_264 : nar 264 = 2 := by decide +kernel
theorem nar_265 : nar 265 = 1 := by decide +kernel
theorem nar_266 : nar 266 = 1 := by decide +kernel
theorem nar_267 : nar 267 = 1 := by decide +kernel
theorem nar_268 : nar 268 = 1 := by decide +kernel
theorem nar_269 : nar 269 = 1 := by decide +kernel
theorem nar_270 : nar 270 = 1 := by decide +kernel
