/-! the law begins: hOK of its heap, by program -/
def hz (f : Nat → Nat → Int32) : Prop := ∀ a k, aIn (f a k).toInt (gSeg (wd.2.1 a) k)
theorem gSeg0 : ∀ (r : List (Nat × aI)) (k : Nat), r.all (fun p => aLe [(0, 0, 1)] p.2) = true → aIn 0 (gSeg r k)
  | [], _, _ => aR1_in (lo := -2147483648) (hi := 2147483647) (by decide) (by decide)
  | p :: t, k, h => by
    simp only [List.all_cons, Bool.and_eq_true] at h
    unfold gSeg
    split
    · exact aLe_in h.1 (aR1_in (lo := 0) (hi := 0) (by decide) (by decide))
    · exact gSeg0 t k h.2
theorem hz_0 (a k : Nat) : aIn 0 (gSeg (wd.2.1 a) k) := by
  have hw : wG.all (fun r => r.all (fun p => aLe [(0, 0, 1)] p.2)) = true := by decide +kernel
  refine gSeg0 _ k ?_
  show (wG.getD a []).all (fun p => aLe [(0, 0, 1)] p.2) = true
  rw [List.getD_eq_getElem?_getD]
  cases e : wG[a]? with
  | none => rfl
  | some r => exact List.all_eq_true.mp hw r (List.mem_of_getElem? e)
theorem hz_row {f : Nat → Nat → Int32} {c : Nat} (h : hz f) : hz (zrow f c (fun _ => 0)) := by
  intro a k
  unfold zrow
  split
  · exact hz_0 a k
  · exact h a k
theorem hz_up {f : Nat → Nat → Int32} {c j : Nat} {v : Int32} (h : hz f) (hv : aIn v.toInt (gSeg (wd.2.1 c) j)) : hz (zup f c j v) := by
  intro a k
  unfold zup
  split
  · next e =>
    split
    · next e2 => rw [e, e2]; exact hv
    · exact h a k
  · exact h a k
def hZ (h : zH) : Prop := hz h.2.1
theorem hZ_t {a : (Nat × (Nat → Nat × Nat) × Nat)} {f : Nat → Nat → Int32} {b : (Nat → Nat → Int64) × (Nat → Nat → Option Nat) × Nat} (e : hz f) : hZ (a, f, b) := e
theorem hy_0 : hZ hh_0 := fun a k => hz_0 a k
theorem hy_1 : hZ hh_1 := hZ_t (hz_row hy_0)
theorem hy_2 : hZ hh_2 := hZ_t (hz_row hy_1)
theorem hy_3 : hZ hh_3 := hZ_t hy_2
theorem hy_4 : hZ hh_4 := hZ_t (hz_up hy_3 (hz_0 _ _))
theorem hy_5 : hZ hh_5 := hZ_t (hz_up hy_4 (hz_0 _ _))
theorem hy_6 : hZ hh_6 := hZ_t (hz_row hy_5)
theorem hy_7 : hZ hh_7 := hZ_t (hz_row hy_6)
theorem hy_8 : hZ hh_8 := hZ_t hy_7
theorem hy_9 : hZ hh_9 := hZ_t (hz_row hy_8)
theorem hy_10 : hZ hh_10 := hZ_t hy_9
theorem hy_11 : hZ hh_11 := hZ_t (hz_row hy_10)
theorem hy_12 : hZ hh_12 := hZ_t hy_11
theorem hy_13 : hZ hh_13 := hZ_t (hz_row hy_12)
theorem hy_14 : hZ hh_14 := hZ_t hy_13
theorem hy_15 : hZ hh_15 := hZ_t (hz_row hy_14)
theorem hy_16 : hZ hh_16 := hZ_t hy_15
theorem hy_17 : hZ hh_17 := hZ_t (hz_row hy_16)
theorem hy_18 : hZ hh_18 := hZ_t hy_17
theorem hy_19 : hZ hh_19 := hZ_t (hz_row hy_18)
theorem hy_20 : hZ hh_20 := hZ_t hy_19
theorem hy_21 : hZ hh_21 := hZ_t (hz_row hy_20)
theorem hy_22 : hZ hh_22 := hZ_t hy_21
theorem hy_23 : hZ hh_23 := hZ_t (hz_row hy_22)
theorem hy_24 : hZ hh_24 := hZ_t hy_23
theorem hy_25 : hZ hh_25 := hZ_t (hz_row hy_24)
theorem hy_26 : hZ hh_26 := hZ_t hy_25
theorem hy_27 : hZ hh_27 := hZ_t (hz_row hy_26)
theorem hy_28 : hZ hh_28 := hZ_t hy_27
theorem hy_29 : hZ hh_29 := hZ_t (hz_row hy_28)
theorem hy_30 : hZ hh_30 := hZ_t hy_29
theorem hy_31 : hZ hh_31 := hZ_t (hz_row hy_30)
theorem hy_32 : hZ hh_32 := hZ_t hy_31
theorem hy_33 : hZ hh_33 := hZ_t (hz_row hy_32)
theorem hy_34 : hZ hh_34 := hZ_t hy_33
theorem hy_35 : hZ hh_35 := hZ_t (hz_row hy_34)
theorem hy_36 : hZ hh_36 := hZ_t hy_35
theorem hy_37 : hZ hh_37 := hZ_t (hz_row hy_36)
theorem hy_38 : hZ hh_38 := hZ_t hy_37
theorem hy_39 : hZ hh_39 := hZ_t (hz_row hy_38)
theorem hy_40 : hZ hh_40 := hZ_t hy_39
theorem hy_41 : hZ hh_41 := hZ_t (hz_row hy_40)
theorem hy_42 : hZ hh_42 := hZ_t hy_41
theorem hy_43 : hZ hh_43 := hZ_t (hz_row hy_42)
theorem hy_44 : hZ hh_44 := hZ_t hy_43
theorem hy_45 : hZ hh_45 := hZ_t (hz_row hy_44)
theorem hy_46 : hZ hh_46 := hZ_t hy_45
theorem hy_47 : hZ hh_47 := hZ_t (hz_row hy_46)
theorem hy_48 : hZ hh_48 := hZ_t hy_47
theorem hy_49 : hZ hh_49 := hZ_t (hz_row hy_48)
theorem hy_50 : hZ hh_50 := hZ_t hy_49
theorem hy_51 : hZ hh_51 := hZ_t (hz_row hy_50)
theorem hy_52 : hZ hh_52 := hZ_t hy_51
theorem hy_53 : hZ hh_53 := hZ_t (hz_row hy_52)
theorem hy_54 : hZ hh_54 := hZ_t hy_53
theorem hy_55 : hZ hh_55 := hZ_t (hz_row hy_54)
theorem hy_56 : hZ hh_56 := hZ_t hy_55
theorem hy_57 : hZ hh_57 := hZ_t (hz_row hy_56)
theorem hy_58 : hZ hh_58 := hZ_t hy_57
theorem hy_59 : hZ hh_59 := hZ_t (hz_row hy_58)
theorem hy_60 : hZ hh_60 := hZ_t hy_59
theorem hy_61 : hZ hh_61 := hZ_t (hz_row hy_60)
theorem hy_62 : hZ hh_62 := hZ_t hy_61
theorem hy_63 : hZ hh_63 := hZ_t (hz_row hy_62)
theorem hy_64 : hZ hh_64 := hZ_t hy_63
theorem hy_65 : hZ hh_65 := hZ_t (hz_row hy_64)
theorem hy_66 : hZ hh_66 := hZ_t hy_65
theorem hy_67 : hZ hh_67 := hZ_t (hz_row hy_66)
theorem hy_68 : hZ hh_68 := hZ_t hy_67
theorem hy_69 : hZ hh_69 := hZ_t (hz_row hy_68)
theorem hy_70 : hZ hh_70 := hZ_t hy_69
theorem hy_71 : hZ hh_71 := hZ_t (hz_row hy_70)
theorem hy_72 : hZ hh_72 := hZ_t hy_71
theorem hy_73 : hZ hh_73 := hZ_t (hz_row hy_72)
theorem hy_74 : hZ hh_74 := hZ_t hy_73
theorem hy_75 : hZ hh_75 := hZ_t (hz_row hy_74)
theorem hy_76 : hZ hh_76 := hZ_t hy_75
theorem hy_77 : hZ hh_77 := hZ_t (hz_row hy_76)
theorem hy_78 : hZ hh_78 := hZ_t hy_77
theorem hy_79 : hZ hh_79 := hZ_t (hz_row hy_78)
theorem hy_80 : hZ hh_80 := hZ_t hy_79
theorem hy_81 : hZ hh_81 := hZ_t (hz_row hy_80)
theorem hy_82 : hZ hh_82 := hZ_t hy_81
theorem hy_83 : hZ hh_83 := hZ_t (hz_row hy_82)
theorem hy_84 : hZ hh_84 := hZ_t hy_83
theorem hy_85 : hZ hh_85 := hZ_t hy_84
theorem hy_86 : hZ hh_86 := hZ_t (hz_row hy_85)
theorem hy_87 : hZ hh_87 := hZ_t (hz_row hy_86)
theorem hy_88 : hZ hh_88 := hZ_t hy_87
theorem hy_89 : hZ hh_89 := hZ_t (hz_row hy_88)
theorem hy_90 : hZ hh_90 := hZ_t hy_89
theorem hy_91 : hZ hh_91 := hZ_t (hz_row hy_90)
theorem hy_92 : hZ hh_92 := hZ_t hy_91
theorem hy_93 : hZ hh_93 := hZ_t (hz_row hy_92)
theorem hy_94 : hZ hh_94 := hZ_t hy_93
theorem hy_95 : hZ hh_95 := hZ_t (hz_row hy_94)
theorem hy_96 : hZ hh_96 := hZ_t hy_95
theorem hy_97 : hZ hh_97 := hZ_t (hz_row hy_96)
theorem hy_98 : hZ hh_98 := hZ_t hy_97
theorem hy_99 : hZ hh_99 := hZ_t (hz_row hy_98)
theorem hy_100 : hZ hh_100 := hZ_t hy_99
theorem hy_101 : hZ hh_101 := hZ_t (hz_row hy_100)
theorem hy_102 : hZ hh_102 := hZ_t hy_101
theorem hy_103 : hZ hh_103 := hZ_t (hz_row hy_102)
theorem hy_104 : hZ hh_104 := hZ_t hy_103
theorem hy_105 : hZ hh_105 := hZ_t (hz_row hy_104)
theorem hy_106 : hZ hh_106 := hZ_t hy_105
theorem hy_107 : hZ hh_107 := hZ_t (hz_row hy_106)
theorem hy_108 : hZ hh_108 := hZ_t hy_107
theorem hy_109 : hZ hh_109 := hZ_t (hz_row hy_108)
theorem hy_110 : hZ hh_110 := hZ_t hy_109
theorem hy_111 : hZ hh_111 := hZ_t (hz_row hy_110)
theorem hy_112 : hZ hh_112 := hZ_t hy_111
theorem hy_113 : hZ hh_113 := hZ_t (hz_row hy_112)
theorem hy_114 : hZ hh_114 := hZ_t hy_113
theorem hy_115 : hZ hh_115 := hZ_t (hz_row hy_114)
theorem hy_116 : hZ hh_116 := hZ_t hy_115
theorem hy_117 : hZ hh_117 := hZ_t (hz_row hy_116)
theorem hy_118 : hZ hh_118 := hZ_t hy_117
theorem hy_119 : hZ hh_119 := hZ_t (hz_row hy_118)
theorem hy_120 : hZ hh_120 := hZ_t hy_119
theorem hy_121 : hZ hh_121 := hZ_t (hz_row hy_120)
theorem hy_122 : hZ hh_122 := hZ_t hy_121
theorem hy_123 : hZ hh_123 := hZ_t (hz_row hy_122)
theorem hy_124 : hZ hh_124 := hZ_t hy_123
theorem hy_125 : hZ hh_125 := hZ_t (hz_row hy_124)
theorem hy_126 : hZ hh_126 := hZ_t hy_125
theorem hy_127 : hZ hh_127 := hZ_t (hz_row hy_126)
theorem hy_128 : hZ hh_128 := hZ_t hy_127
theorem hy_129 : hZ hh_129 := hZ_t (hz_row hy_128)
theorem hy_130 : hZ hh_130 := hZ_t hy_129
theorem hy_131 : hZ hh_131 := hZ_t (hz_row hy_130)
theorem hy_132 : hZ hh_132 := hZ_t hy_131
theorem hy_133 : hZ hh_133 := hZ_t (hz_row hy_132)
theorem hy_134 : hZ hh_134 := hZ_t hy_133
theorem hy_135 : hZ hh_135 := hZ_t (hz_row hy_134)
theorem hy_136 : hZ hh_136 := hZ_t hy_135
theorem hy_137 : hZ hh_137 := hZ_t (hz_row hy_136)
theorem hy_138 : hZ hh_138 := hZ_t hy_137
theorem hy_139 : hZ hh_139 := hZ_t (hz_row hy_138)
theorem hy_140 : hZ hh_140 := hZ_t hy_139
theorem hy_141 : hZ hh_141 := hZ_t (hz_row hy_140)
theorem hy_142 : hZ hh_142 := hZ_t hy_141
theorem hy_143 : hZ hh_143 := hZ_t (hz_row hy_142)
theorem hy_144 : hZ hh_144 := hZ_t hy_143
theorem hy_145 : hZ hh_145 := hZ_t (hz_row hy_144)
theorem hy_146 : hZ hh_146 := hZ_t hy_145
theorem hy_147 : hZ hh_147 := hZ_t (hz_row hy_146)
theorem hy_148 : hZ hh_148 := hZ_t hy_147
theorem hy_149 : hZ hh_149 := hZ_t (hz_row hy_148)
theorem hy_150 : hZ hh_150 := hZ_t hy_149
theorem hy_151 : hZ hh_151 := hZ_t (hz_row hy_150)
theorem hy_152 : hZ hh_152 := hZ_t hy_151
theorem hy_153 : hZ hh_153 := hZ_t (hz_row hy_152)
theorem hy_154 : hZ hh_154 := hZ_t hy_153
theorem hy_155 : hZ hh_155 := hZ_t (hz_row hy_154)
theorem hy_156 : hZ hh_156 := hZ_t hy_155
theorem hy_157 : hZ hh_157 := hZ_t (hz_row hy_156)
theorem hy_158 : hZ hh_158 := hZ_t hy_157
theorem hy_159 : hZ hh_159 := hZ_t (hz_row hy_158)
theorem hy_160 : hZ hh_160 := hZ_t hy_159
theorem hy_161 : hZ hh_161 := hZ_t (hz_row hy_160)
theorem hy_162 : hZ hh_162 := hZ_t hy_161
theorem hy_163 : hZ hh_163 := hZ_t (hz_row hy_162)
theorem hy_164 : hZ hh_164 := hZ_t hy_163
theorem hy_165 : hZ hh_165 := hZ_t hy_164
theorem hy_166 : hZ hh_166 := hZ_t (hz_row hy_165)
theorem hy_167 : hZ hh_167 := hZ_t (hz_up hy_166 (hz_0 _ _))
theorem hy_168 : hZ hh_168 := hZ_t (hz_up hy_167 (hz_0 _ _))
theorem hy_169 : hZ hh_169 := hZ_t (hz_up hy_168 (hz_0 _ _))
theorem hy_170 : hZ hh_170 := hZ_t (hz_up hy_169 (hz_0 _ _))
theorem hy_171 : hZ hh_171 := hZ_t (hz_up hy_170 (hz_0 _ _))
theorem hy_172 : hZ hh_172 := hZ_t (hz_row hy_171)
theorem hy_173 : hZ hh_173 := hZ_t hy_172
theorem hy_174 : hZ hh_174 := hZ_t (hz_row hy_173)
theorem hy_175 : hZ hh_175 := hZ_t hy_174
theorem hy_176 : hZ hh_176 := hZ_t (hz_row hy_175)
theorem hy_177 : hZ hh_177 := hZ_t hy_176
theorem hy_178 : hZ hh_178 := hZ_t (hz_up hy_177 (hz_0 _ _))
theorem hy_179 : hZ hh_179 := hZ_t (hz_up hy_178 (hz_0 _ _))
theorem hy_180 : hZ hh_180 := hZ_t (hz_up hy_179 (aLe_in (A := [(-1, -1, 1)]) (by decide +kernel) (aR1_in (lo := -1) (hi := -1) (by decide) (by decide))))
theorem hy_181 : hZ hh_181 := hZ_t hy_180
theorem hy_182 : hZ hh_182 := hZ_t hy_181
theorem hy_183 : hZ hh_183 := hZ_t hy_182
theorem hy_184 : hZ hh_184 := hZ_t (hz_row hy_183)
theorem hy_185 : hZ hh_185 := hZ_t (hz_up hy_184 (hz_0 _ _))
theorem hy_186 : hZ hh_186 := hZ_t (hz_up hy_185 (hz_0 _ _))
theorem hy_187 : hZ hh_187 := hZ_t (hz_row hy_186)
theorem hy_188 : hZ hh_188 := hZ_t hy_187
theorem hy_189 : hZ hh_189 := hZ_t (hz_row hy_188)
theorem hy_190 : hZ hh_190 := hZ_t hy_189
theorem hy_191 : hZ hh_191 := hZ_t (hz_row hy_190)
theorem hy_192 : hZ hh_192 := hZ_t hy_191
theorem hy_193 : hZ hh_193 := hZ_t (hz_row hy_192)
theorem hy_194 : hZ hh_194 := hZ_t hy_193
theorem hy_195 : hZ hh_195 := hZ_t (hz_row hy_194)
theorem hy_196 : hZ hh_196 := hZ_t hy_195
theorem hy_197 : hZ hh_197 := hZ_t hy_196
theorem hy_198 : hZ hh_198 := hZ_t (hz_row hy_197)
theorem hy_199 : hZ hh_199 := hZ_t (hz_up hy_198 (hz_0 _ _))
theorem hy_200 : hZ hh_200 := hZ_t (hz_up hy_199 (hz_0 _ _))
theorem hy_201 : hZ hh_201 := hZ_t (hz_up hy_200 (hz_0 _ _))
theorem hy_202 : hZ hh_202 := hZ_t (hz_up hy_201 (aLe_in (A := [(-2, -2, 1)]) (by decide +kernel) (aR1_in (lo := -2) (hi := -2) (by decide) (by decide))))
theorem hy_203 : hZ hh_203 := hZ_t (hz_row hy_202)
theorem hy_204 : hZ hh_204 := hZ_t hy_203
theorem hy_205 : hZ hh_205 := hZ_t hy_204
theorem hy_206 : hZ hh_206 := hZ_t hy_205
theorem hy_207 : hZ hh_207 := hZ_t (hz_row hy_206)
theorem hy_208 : hZ hh_208 := hZ_t (hz_row hy_207)
theorem hy_209 : hZ hh_209 := hZ_t hy_208
theorem hy_210 : hZ hh_210 := hZ_t (hz_up hy_209 (aLe_in (A := [(-2, -2, 1)]) (by decide +kernel) (aR1_in (lo := -2) (hi := -2) (by decide) (by decide))))
theorem hy_211 : hZ hh_211 := hZ_t (hz_up hy_210 (hz_0 _ _))
theorem hy_212 : hZ hh_212 := hZ_t (hz_up hy_211 (hz_0 _ _))
theorem hy_213 : hZ hh_213 := hZ_t hy_212
theorem hy_214 : hZ hh_214 := hZ_t hy_213
theorem hy_215 : hZ hh_215 := hZ_t hy_214
theorem hy_216 : hZ hh_216 := hZ_t hy_215
theorem hy_217 : hZ hh_217 := hZ_t (hz_row hy_216)
theorem hy_218 : hZ hh_218 := hZ_t (hz_row hy_217)
theorem hy_219 : hZ hh_219 := hZ_t hy_218
theorem hy_220 : hZ hh_220 := hZ_t (hz_row hy_219)
theorem hy_221 : hZ hh_221 := hZ_t hy_220
theorem hy_222 : hZ hh_222 := hZ_t (hz_row hy_221)
theorem hy_223 : hZ hh_223 := hZ_t hy_222
theorem hy_224 : hZ hh_224 := hZ_t hy_223
theorem hy_225 : hZ hh_225 := hZ_t hy_224
theorem hy_226 : hZ hh_226 := hZ_t (hz_row hy_225)
theorem hy_227 : hZ hh_227 := hZ_t (hz_row hy_226)
theorem hy_228 : hZ hh_228 := hZ_t hy_227
theorem hy_229 : hZ hh_229 := hZ_t (hz_row hy_228)
theorem hy_230 : hZ hh_230 := hZ_t hy_229
theorem hy_231 : hZ hh_231 := hZ_t (hz_up hy_230 (hz_0 _ _))
theorem hy_232 : hZ hh_232 := hZ_t (hz_up hy_231 (hz_0 _ _))
theorem hy_233 : hZ hh_233 := hZ_t (hz_row hy_232)
theorem hy_234 : hZ hh_234 := hZ_t hy_233
theorem hy_235 : hZ hh_235 := hZ_t hy_234
theorem hy_236 : hZ hh_236 := hZ_t (hz_row hy_235)
theorem hy_237 : hZ hh_237 := hZ_t hy_236
theorem hy_238 : hZ hh_238 := hZ_t (hz_up hy_237 (hz_0 _ _))
theorem hy_239 : hZ hh_239 := hZ_t (hz_up hy_238 (hz_0 _ _))
theorem hy_240 : hZ hh_240 := hZ_t (hz_row hy_239)
theorem hy_241 : hZ hh_241 := hZ_t hy_240
theorem hy_242 : hZ hh_242 := hZ_t (hz_up hy_241 (hz_0 _ _))
theorem hy_243 : hZ hh_243 := hZ_t (hz_row hy_242)
theorem hy_244 : hZ hh_244 := hZ_t (hz_up hy_243 (hz_0 _ _))
theorem hy_245 : hZ hh_245 := hZ_t (hz_up hy_244 (hz_0 _ _))
theorem hy_246 : hZ hh_246 := hZ_t (hz_row hy_245)
theorem hy_247 : hZ hh_247 := hZ_t hy_246
theorem hy_248 : hZ hh_248 := hZ_t (hz_row hy_247)
theorem hy_249 : hZ hh_249 := hZ_t hy_248
theorem hy_250 : hZ hh_250 := hZ_t (hz_row hy_249)
theorem hy_251 : hZ hh_251 := hZ_t hy_250
theorem hy_252 : hZ hh_252 := hZ_t (hz_row hy_251)
theorem hy_253 : hZ hh_253 := hZ_t hy_252
theorem hy_254 : hZ hh_254 := hZ_t (hz_row hy_253)
theorem hy_255 : hZ hh_255 := hZ_t hy_254
theorem hy_256 : hZ hh_256 := hZ_t hy_255
theorem hy_257 : hZ hh_257 := hZ_t (hz_row hy_256)
theorem hy_258 : hZ hh_258 := hZ_t (hz_up hy_257 (hz_0 _ _))
theorem hy_259 : hZ hh_259 := hZ_t (hz_up hy_258 (hz_0 _ _))
theorem hy_260 : hZ hh_260 := hZ_t (hz_row hy_259)
theorem hy_261 : hZ hh_261 := hZ_t hy_260
theorem hy_262 : hZ hh_262 := hZ_t (hz_row hy_261)
theorem hy_263 : hZ hh_263 := hZ_t hy_262
theorem hy_264 : hZ hh_264 := hZ_t (hz_row hy_263)
theorem hy_265 : hZ hh_265 := hZ_t hy_264
theorem hy_266 : hZ hh_266 := hZ_t (hz_row hy_265)
theorem hy_267 : hZ hh_267 := hZ_t hy_266
theorem hy_268 : hZ hh_268 := hZ_t (hz_row hy_267)
theorem hy_269 : hZ hh_269 := hZ_t hy_268
theorem hy_270 : hZ hh_270 := hZ_t hy_269
theorem hy_271 : hZ hh_271 := hZ_t (hz_row hy_270)
theorem hy_272 : hZ hh_272 := hZ_t (hz_up hy_271 (hz_0 _ _))
theorem hy_273 : hZ hh_273 := hZ_t (hz_up hy_272 (hz_0 _ _))
theorem hy_274 : hZ hh_274 := hZ_t (hz_row hy_273)
theorem hy_275 : hZ hh_275 := hZ_t hy_274
theorem hy_276 : hZ hh_276 := hZ_t (hz_row hy_275)
theorem hy_277 : hZ hh_277 := hZ_t hy_276
theorem hy_278 : hZ hh_278 := hZ_t (hz_row hy_277)
theorem hy_279 : hZ hh_279 := hZ_t hy_278
theorem hy_280 : hZ hh_280 := hZ_t (hz_row hy_279)
theorem hy_281 : hZ hh_281 := hZ_t hy_280
theorem hy_282 : hZ hh_282 := hZ_t (hz_row hy_281)
theorem hy_283 : hZ hh_283 := hZ_t hy_282
theorem hy_284 : hZ hh_284 := hZ_t hy_283
theorem hy_285 : hZ hh_285 := hZ_t (hz_row hy_284)
theorem hy_286 : hZ hh_286 := hZ_t (hz_up hy_285 (hz_0 _ _))
theorem hy_287 : hZ hh_287 := hZ_t (hz_up hy_286 (hz_0 _ _))
theorem hy_288 : hZ hh_288 := hZ_t (hz_row hy_287)
theorem hy_289 : hZ hh_289 := hZ_t hy_288
theorem hy_290 : hZ hh_290 := hZ_t (hz_row hy_289)
theorem hy_291 : hZ hh_291 := hZ_t hy_290
theorem hy_292 : hZ hh_292 := hZ_t (hz_row hy_291)
theorem hy_293 : hZ hh_293 := hZ_t hy_292
theorem hy_294 : hZ hh_294 := hZ_t (hz_row hy_293)
theorem hy_295 : hZ hh_295 := hZ_t hy_294
theorem hy_296 : hZ hh_296 := hZ_t (hz_row hy_295)
theorem hy_297 : hZ hh_297 := hZ_t hy_296
theorem hy_298 : hZ hh_298 := hZ_t hy_297
theorem hy_299 : hZ hh_299 := hZ_t (hz_row hy_298)
theorem hy_300 : hZ hh_300 := hZ_t (hz_up hy_299 (hz_0 _ _))
theorem hy_301 : hZ hh_301 := hZ_t (hz_up hy_300 (hz_0 _ _))
theorem hy_302 : hZ hh_302 := hZ_t (hz_row hy_301)
theorem hy_303 : hZ hh_303 := hZ_t hy_302
theorem hy_304 : hZ hh_304 := hZ_t (hz_row hy_303)
theorem hy_305 : hZ hh_305 := hZ_t hy_304
theorem hy_306 : hZ hh_306 := hZ_t (hz_row hy_305)
theorem hy_307 : hZ hh_307 := hZ_t hy_306
theorem hy_308 : hZ hh_308 := hZ_t (hz_row hy_307)
theorem hy_309 : hZ hh_309 := hZ_t hy_308
theorem hy_310 : hZ hh_310 := hZ_t (hz_row hy_309)
theorem hy_311 : hZ hh_311 := hZ_t hy_310
theorem hy_312 : hZ hh_312 := hZ_t hy_311
theorem hy_313 : hZ hh_313 := hZ_t (hz_row hy_312)
theorem hy_314 : hZ hh_314 := hZ_t (hz_up hy_313 (hz_0 _ _))
theorem hy_315 : hZ hh_315 := hZ_t (hz_up hy_314 (hz_0 _ _))
theorem hy_316 : hZ hh_316 := hZ_t (hz_row hy_315)
theorem hy_317 : hZ hh_317 := hZ_t hy_316
theorem hy_318 : hZ hh_318 := hZ_t (hz_row hy_317)
theorem hy_319 : hZ hh_319 := hZ_t hy_318
theorem hy_320 : hZ hh_320 := hZ_t (hz_row hy_319)
theorem hy_321 : hZ hh_321 := hZ_t hy_320
theorem hy_322 : hZ hh_322 := hZ_t (hz_row hy_321)
theorem hy_323 : hZ hh_323 := hZ_t hy_322
theorem hy_324 : hZ hh_324 := hZ_t (hz_row hy_323)
theorem hy_325 : hZ hh_325 := hZ_t hy_324
theorem hy_326 : hZ hh_326 := hZ_t hy_325
theorem hy_327 : hZ hh_327 := hZ_t (hz_row hy_326)
theorem hy_328 : hZ hh_328 := hZ_t (hz_up hy_327 (hz_0 _ _))
theorem hy_329 : hZ hh_329 := hZ_t (hz_up hy_328 (hz_0 _ _))
theorem hy_330 : hZ hh_330 := hZ_t (hz_row hy_329)
theorem hy_331 : hZ hh_331 := hZ_t hy_330
theorem hy_332 : hZ hh_332 := hZ_t (hz_row hy_331)
theorem hy_333 : hZ hh_333 := hZ_t hy_332
theorem hy_334 : hZ hh_334 := hZ_t (hz_row hy_333)
theorem hy_335 : hZ hh_335 := hZ_t hy_334
theorem hy_336 : hZ hh_336 := hZ_t (hz_row hy_335)
theorem hy_337 : hZ hh_337 := hZ_t hy_336
theorem hy_338 : hZ hh_338 := hZ_t (hz_row hy_337)
theorem hy_339 : hZ hh_339 := hZ_t hy_338
theorem hy_340 : hZ hh_340 := hZ_t hy_339
theorem hy_341 : hZ hh_341 := hZ_t (hz_row hy_340)
theorem hy_342 : hZ hh_342 := hZ_t (hz_up hy_341 (hz_0 _ _))
theorem hy_343 : hZ hh_343 := hZ_t (hz_up hy_342 (hz_0 _ _))
theorem hy_344 : hZ hh_344 := hZ_t (hz_row hy_343)
theorem hy_345 : hZ hh_345 := hZ_t hy_344
theorem hy_346 : hZ hh_346 := hZ_t (hz_row hy_345)
theorem hy_347 : hZ hh_347 := hZ_t hy_346
theorem hy_348 : hZ hh_348 := hZ_t (hz_row hy_347)
theorem hy_349 : hZ hh_349 := hZ_t hy_348
theorem hy_350 : hZ hh_350 := hZ_t (hz_row hy_349)
theorem hy_351 : hZ hh_351 := hZ_t hy_350
theorem hy_352 : hZ hh_352 := hZ_t (hz_row hy_351)
theorem hy_353 : hZ hh_353 := hZ_t hy_352
theorem hy_354 : hZ hh_354 := hZ_t hy_353
theorem hy_355 : hZ hh_355 := hZ_t (hz_row hy_354)
theorem hy_356 : hZ hh_356 := hZ_t (hz_up hy_355 (hz_0 _ _))
theorem hy_357 : hZ hh_357 := hZ_t (hz_up hy_356 (hz_0 _ _))
theorem hy_358 : hZ hh_358 := hZ_t (hz_row hy_357)
theorem hy_359 : hZ hh_359 := hZ_t hy_358
theorem hy_360 : hZ hh_360 := hZ_t (hz_row hy_359)
theorem hy_361 : hZ hh_361 := hZ_t hy_360
theorem hy_362 : hZ hh_362 := hZ_t (hz_row hy_361)
theorem hy_363 : hZ hh_363 := hZ_t hy_362
theorem hy_364 : hZ hh_364 := hZ_t (hz_row hy_363)
theorem hy_365 : hZ hh_365 := hZ_t hy_364
theorem hy_366 : hZ hh_366 := hZ_t (hz_row hy_365)
theorem hy_367 : hZ hh_367 := hZ_t hy_366
theorem hy_368 : hZ hh_368 := hZ_t hy_367
theorem hy_369 : hZ hh_369 := hZ_t (hz_row hy_368)
theorem hy_370 : hZ hh_370 := hZ_t (hz_up hy_369 (hz_0 _ _))
theorem hy_371 : hZ hh_371 := hZ_t (hz_up hy_370 (hz_0 _ _))
theorem hy_372 : hZ hh_372 := hZ_t (hz_row hy_371)
theorem hy_373 : hZ hh_373 := hZ_t hy_372
theorem hy_374 : hZ hh_374 := hZ_t (hz_row hy_373)
theorem hy_375 : hZ hh_375 := hZ_t hy_374
theorem hy_376 : hZ hh_376 := hZ_t (hz_row hy_375)
theorem hy_377 : hZ hh_377 := hZ_t hy_376
theorem hy_378 : hZ hh_378 := hZ_t (hz_row hy_377)
theorem hy_379 : hZ hh_379 := hZ_t hy_378
theorem hy_380 : hZ hh_380 := hZ_t (hz_row hy_379)
theorem hy_381 : hZ hh_381 := hZ_t hy_380
theorem hy_382 : hZ hh_382 := hZ_t hy_381
theorem hy_383 : hZ hh_383 := hZ_t (hz_row hy_382)
theorem hy_384 : hZ hh_384 := hZ_t (hz_up hy_383 (hz_0 _ _))
theorem hy_385 : hZ hh_385 := hZ_t (hz_up hy_384 (hz_0 _ _))
theorem hy_386 : hZ hh_386 := hZ_t (hz_row hy_385)
theorem hy_387 : hZ hh_387 := hZ_t hy_386
theorem hy_388 : hZ hh_388 := hZ_t (hz_row hy_387)
theorem hy_389 : hZ hh_389 := hZ_t hy_388
theorem hy_390 : hZ hh_390 := hZ_t (hz_row hy_389)
theorem hy_391 : hZ hh_391 := hZ_t hy_390
theorem hy_392 : hZ hh_392 := hZ_t (hz_row hy_391)
theorem hy_393 : hZ hh_393 := hZ_t hy_392
theorem hy_394 : hZ hh_394 := hZ_t (hz_row hy_393)
theorem hy_395 : hZ hh_395 := hZ_t hy_394
theorem hy_396 : hZ hh_396 := hZ_t hy_395
theorem hy_397 : hZ hh_397 := hZ_t (hz_row hy_396)
theorem hy_398 : hZ hh_398 := hZ_t (hz_up hy_397 (hz_0 _ _))
theorem hy_399 : hZ hh_399 := hZ_t (hz_up hy_398 (hz_0 _ _))
theorem hy_400 : hZ hh_400 := hZ_t (hz_row hy_399)
theorem hy_401 : hZ hh_401 := hZ_t hy_400
theorem hy_402 : hZ hh_402 := hZ_t (hz_row hy_401)
theorem hy_403 : hZ hh_403 := hZ_t hy_402
theorem hy_404 : hZ hh_404 := hZ_t (hz_row hy_403)
theorem hy_405 : hZ hh_405 := hZ_t hy_404
theorem hy_406 : hZ hh_406 := hZ_t (hz_row hy_405)
theorem hy_407 : hZ hh_407 := hZ_t hy_406
theorem hy_408 : hZ hh_408 := hZ_t (hz_row hy_407)
theorem hy_409 : hZ hh_409 := hZ_t hy_408
theorem hy_410 : hZ hh_410 := hZ_t hy_409
theorem hy_411 : hZ hh_411 := hZ_t (hz_row hy_410)
theorem hy_412 : hZ hh_412 := hZ_t (hz_up hy_411 (hz_0 _ _))
theorem hy_413 : hZ hh_413 := hZ_t (hz_up hy_412 (hz_0 _ _))
theorem hy_414 : hZ hh_414 := hZ_t (hz_row hy_413)
theorem hy_415 : hZ hh_415 := hZ_t hy_414
theorem hy_416 : hZ hh_416 := hZ_t (hz_row hy_415)
theorem hy_417 : hZ hh_417 := hZ_t hy_416
theorem hy_418 : hZ hh_418 := hZ_t (hz_row hy_417)
theorem hy_419 : hZ hh_419 := hZ_t hy_418
theorem hy_420 : hZ hh_420 := hZ_t (hz_row hy_419)
theorem hy_421 : hZ hh_421 := hZ_t hy_420
theorem hy_422 : hZ hh_422 := hZ_t (hz_row hy_421)
theorem hy_423 : hZ hh_423 := hZ_t hy_422
theorem hy_424 : hZ hh_424 := hZ_t hy_423
theorem hy_425 : hZ hh_425 := hZ_t (hz_row hy_424)
theorem hy_426 : hZ hh_426 := hZ_t (hz_up hy_425 (hz_0 _ _))
theorem hy_427 : hZ hh_427 := hZ_t (hz_up hy_426 (hz_0 _ _))
theorem hy_428 : hZ hh_428 := hZ_t (hz_row hy_427)
theorem hy_429 : hZ hh_429 := hZ_t hy_428
theorem hy_430 : hZ hh_430 := hZ_t (hz_row hy_429)
theorem hy_431 : hZ hh_431 := hZ_t hy_430
theorem hy_432 : hZ hh_432 := hZ_t (hz_row hy_431)
theorem hy_433 : hZ hh_433 := hZ_t hy_432
theorem hy_434 : hZ hh_434 := hZ_t (hz_row hy_433)
theorem hy_435 : hZ hh_435 := hZ_t hy_434
theorem hy_436 : hZ hh_436 := hZ_t (hz_row hy_435)
theorem hy_437 : hZ hh_437 := hZ_t hy_436
theorem hy_438 : hZ hh_438 := hZ_t hy_437
theorem hy_439 : hZ hh_439 := hZ_t (hz_row hy_438)
theorem hy_440 : hZ hh_440 := hZ_t (hz_up hy_439 (hz_0 _ _))
theorem hy_441 : hZ hh_441 := hZ_t (hz_up hy_440 (hz_0 _ _))
theorem hy_442 : hZ hh_442 := hZ_t (hz_row hy_441)
theorem hy_443 : hZ hh_443 := hZ_t hy_442
theorem hy_444 : hZ hh_444 := hZ_t (hz_row hy_443)
theorem hy_445 : hZ hh_445 := hZ_t hy_444
theorem hy_446 : hZ hh_446 := hZ_t (hz_row hy_445)
theorem hy_447 : hZ hh_447 := hZ_t hy_446
theorem hy_448 : hZ hh_448 := hZ_t (hz_row hy_447)
theorem hy_449 : hZ hh_449 := hZ_t hy_448
theorem hy_450 : hZ hh_450 := hZ_t (hz_row hy_449)
theorem hy_451 : hZ hh_451 := hZ_t hy_450
theorem hy_452 : hZ hh_452 := hZ_t hy_451
theorem hy_453 : hZ hh_453 := hZ_t (hz_row hy_452)
theorem hy_454 : hZ hh_454 := hZ_t (hz_row hy_453)
theorem hy_455 : hZ hh_455 := hZ_t hy_454
theorem hy_456 : hZ hh_456 := hZ_t (hz_up hy_455 (aLe_in (A := [(-1, -1, 1)]) (by decide +kernel) (aR1_in (lo := -1) (hi := -1) (by decide) (by decide))))
theorem hy_457 : hZ hh_457 := hZ_t (hz_row hy_456)
theorem hy_458 : hZ hh_458 := hZ_t hy_457
theorem hy_459 : hZ hh_459 := hZ_t (hz_row hy_458)
theorem hy_460 : hZ hh_460 := hZ_t hy_459
theorem hy_461 : hZ hh_461 := hZ_t (hz_row hy_460)
theorem hy_462 : hZ hh_462 := hZ_t hy_461
theorem hy_463 : hZ hh_463 := hZ_t (hz_row hy_462)
theorem hy_464 : hZ hh_464 := hZ_t hy_463
theorem hy_465 : hZ hh_465 := hZ_t (hz_row hy_464)
theorem hy_466 : hZ hh_466 := hZ_t hy_465
theorem hy_467 : hZ hh_467 := hZ_t (hz_row hy_466)
theorem hy_468 : hZ hh_468 := hZ_t hy_467
theorem hy_469 : hZ hh_469 := hZ_t (hz_row hy_468)
theorem hy_470 : hZ hh_470 := hZ_t hy_469
theorem hy_471 : hZ hh_471 := hZ_t (hz_row hy_470)
theorem hy_472 : hZ hh_472 := hZ_t hy_471
theorem hy_473 : hZ hh_473 := hZ_t (hz_row hy_472)
theorem hy_474 : hZ hh_474 := hZ_t hy_473
theorem hy_475 : hZ hh_475 := hZ_t (hz_row hy_474)
theorem hy_476 : hZ hh_476 := hZ_t hy_475
theorem hy_477 : hZ hh_477 := hZ_t (hz_row hy_476)
theorem hy_478 : hZ hh_478 := hZ_t hy_477
theorem hy_479 : hZ hh_479 := hZ_t (hz_row hy_478)
theorem hy_480 : hZ hh_480 := hZ_t hy_479
theorem hy_481 : hZ hh_481 := hZ_t (hz_row hy_480)
theorem hy_482 : hZ hh_482 := hZ_t hy_481
theorem hy_483 : hZ hh_483 := hZ_t (hz_row hy_482)
theorem hy_484 : hZ hh_484 := hZ_t hy_483
theorem hy_485 : hZ hh_485 := hZ_t (hz_row hy_484)
theorem hy_486 : hZ hh_486 := hZ_t hy_485
theorem hy_487 : hZ hh_487 := hZ_t (hz_row hy_486)
set_option maxRecDepth 100000 in
theorem hk_sh : (List.range 214).all (fun a => decide (zsh hh_487 a = wSh[a]?)) = true := by decide +kernel
set_option maxRecDepth 100000 in
theorem hk_ln : wSh.length = 214 := by decide +kernel
set_option maxRecDepth 100000 in
theorem hk_rf : (List.range wR.length).all (fun a => (List.range (wR.getD a []).length).all (fun k => match (wR.getD a []).getD k none with | some b => decide (hh_487.2.2.2.1 a k = some b) | none => true)) = true := by decide +kernel
set_option maxRecDepth 100000 in
theorem hk_im : wI.all (fun i => i.1.any (fun c => decide (hh_487.2.1 c.1.1 c.1.2 = 0) && c.2.all (fun p => ile 1 p.1 || ile p.2.1 (-1))) || (decide (hh_487.2.1 i.2.1.1 i.2.1.2 = 0) && aLe [(0, 0, 1)] i.2.2)) = true := by decide +kernel
theorem hOK_beg : hOK wd hh_487 := by
  refine ⟨fun a q hq => ?_, hy_487, fun a k b hb => ?_, fun i hi hc => ?_, zble rfl⟩
  · have hq : wSh[a]? = some q := hq
    have ha : a < 214 := by
      have := (List.getElem?_eq_some_iff.mp hq).1
      rw [hk_ln] at this
      exact this
    have := of_decide_eq_true (List.all_eq_true.mp hk_sh a (List.mem_range.mpr ha))
    rw [this]
    exact hq
  · have hb : (wR.getD a []).getD k none = some b := hb
    have hk : k < (wR.getD a []).length := by
      rcases Nat.lt_or_ge k (wR.getD a []).length with z | z
      · exact z
      · rw [List.getD_eq_getElem?_getD (l := wR.getD a []), List.getElem?_eq_none z] at hb
        cases hb
    have ha : a < wR.length := by
      rcases Nat.lt_or_ge a wR.length with z | z
      · exact z
      · rw [List.getD_eq_getElem?_getD (l := wR), List.getElem?_eq_none z] at hk
        exact absurd hk (Nat.not_lt_zero _)
    have := List.all_eq_true.mp (List.all_eq_true.mp hk_rf a (List.mem_range.mpr ha)) k (List.mem_range.mpr hk)
    rw [hb] at this
    exact of_decide_eq_true this
  · have hor := List.all_eq_true.mp hk_im i hi
    rw [Bool.or_eq_true] at hor
    rcases hor with hor | hor
    rotate_left
    · rw [Bool.and_eq_true] at hor
      rw [of_decide_eq_true hor.1]
      exact aLe_in hor.2 (aR1_in (lo := 0) (hi := 0) (by decide) (by decide))
    obtain ⟨c, hcm, hcc⟩ := List.any_eq_true.mp hor
    rw [Bool.and_eq_true] at hcc
    have h0 := of_decide_eq_true hcc.1
    obtain ⟨p, hp, a, b, -⟩ := hc c hcm
    rw [h0] at a b
    have a : p.1 ≤ 0 := a
    have b : 0 ≤ p.2.1 := b
    have := List.all_eq_true.mp hcc.2 p hp
    rw [Bool.or_eq_true, ile_iff, ile_iff] at this
    omega
theorem l_law {L : Nat} {xs : Nat → Int32} (hL : L ≤ 3072) : zEx (some (L, xs)) 1005 mL_law (0, [(0, .inr (.inr (some 1000000)))], [], hh_0) zQL := by
  refine k_law0 1001 ?_
  refine ex_iconst (v := nI 0) (pc' := 21) dL_law_20 (by decide) rfl ?_
  refine ex_istore (pc' := 23) dL_law_21 (by decide) rfl rfl ?_
  refine l_loop2 hL 520 0 0 hh_487 _ (by omega) (by omega) (by decide) ⟨hOK_beg, .inl ?_, ?_, Nat.le_refl _, rfl, ?_, ?_⟩ lZ_beg ⟨rfl, rfl, rfl, rfl, rfl⟩
  · intro q hq
    have hk : rv0.all (fun q => decide (hh_487.2.2.2.1 q.1.1 q.1.2 = some q.2)) = true := by decide +kernel
    exact of_decide_eq_true (List.all_eq_true.mp hk q hq)
  · decide +kernel
  · intro k hk
    have e : hh_487.2.1 196 2 = 0 := by decide +kernel
    rw [e] at hk
    have : (0 : Int32).toInt = 0 := by decide
    omega
  · refine ⟨⟨pA0, 2, ⟨pI_0, .inl rfl, by decide +kernel, ⟨by decide +kernel, by decide +kernel, by decide +kernel, by decide +kernel, by decide +kernel, by decide +kernel, fun i hi => absurd hi (Nat.not_lt_zero i), fun i hi => absurd hi (Nat.not_lt_zero i), fun i hi => absurd hi (Nat.not_lt_zero i), fun j hj => absurd rfl hj⟩, .inl ⟨by decide +kernel, rfl⟩⟩, tA_0⟩, by decide +kernel, ⟨?_, ?_⟩, by decide +kernel⟩
    · have e1 : hh_487.2.1 0 2 = 0 := by decide +kernel
      have e2 : hh_487.2.1 196 11 = 0 := by decide +kernel
      rw [e1, e2]
    · have e2 : hh_487.2.1 196 11 = 0 := by decide +kernel
      rw [e2]
      exact fun z => absurd z (by decide)
