/-! the law's loop: what is wanted of each pair of calls -/
theorem lg_cmp_self (x : Int64) : lg_cmp x x = nI 0 := by simp [lg_cmp, nI]
section Ops
variable {sc : Sc} {d i : Nat} {I : Nat → Nat → Int32} {J : Nat → Nat → Int64} {T : Option Nat} {Q : Option Value → Mm → Prop} {Inv : (Nat → Nat → Int32) → (Nat → Nat → Int64) → Option Nat → Prop}
theorem op_0 (hn : sc.1 < 2 ^ 31) (hi : i + 6 ≤ sc.1) (hP : PairI Inv sc d 108 177 [some (.ref 0), some (.int (sc.2 (i + 1))), some (.int (sc.2 (i + 2)))] [some (.ref 89), some (.int (sc.2 (i + 1))), some (.int (sc.2 (i + 2)))]) (hI : Inv I J T) (hc : ∀ I2 J2 T2, Inv I2 J2 T2 → Rn sc (d + 1) 319 1102 [some (.ref 1000), some (.ref 0), some (.ref 89), some (.int (nI i))] [] (K0, I2, J2, R1 T2) Q) : Rn sc (d + 1) 319 22 [some (.ref 1000), some (.ref 0), some (.ref 89), some (.int (nI i))] [] (K0, I, J, R1 T) Q := by
  simp (disch := first | assumption | omega) only [x319_22, x319_23, x319_24, x319_25, x319_26, x319_27, x319_28, x319_29, x319_30, x319_31, x319_32, x319_33, nI_add]
  refine Rn_mono (hP I J T hI) ?_
  rintro r s1 ⟨x, rfl, I1, J1, T1, rfl, h2⟩
  simp (disch := first | assumption | omega) only [Option.toList, List.cons_append, List.nil_append, x319_34, x319_35, x319_36, x319_37, x319_38, x319_39, x319_40, x319_41, x319_42, x319_43, x319_44, x319_45, nI_add]
  refine Rn_mono h2 ?_
  rintro r s2 ⟨rfl, I2, J2, T2, rfl, h3⟩
  simp only [Option.toList, List.cons_append, List.nil_append, x319_46]
  rw [if_pos trivial]
  exact hc I2 J2 T2 h3
theorem op_1 (hn : sc.1 < 2 ^ 31) (hi : i + 6 ≤ sc.1) (hP : PairI Inv sc d 109 178 [some (.ref 0), some (.int (sc.2 (i + 1))), some (.int (sc.2 (i + 2))), none] [some (.ref 89), some (.int (sc.2 (i + 1))), some (.int (sc.2 (i + 2))), none]) (hI : Inv I J T) (hc : ∀ I2 J2 T2, Inv I2 J2 T2 → Rn sc (d + 1) 319 1102 [some (.ref 1000), some (.ref 0), some (.ref 89), some (.int (nI i))] [] (K0, I2, J2, R1 T2) Q) : Rn sc (d + 1) 319 49 [some (.ref 1000), some (.ref 0), some (.ref 89), some (.int (nI i))] [] (K0, I, J, R1 T) Q := by
  simp (disch := first | assumption | omega) only [x319_49, x319_50, x319_51, x319_52, x319_53, x319_54, x319_55, x319_56, x319_57, x319_58, x319_59, x319_60, nI_add]
  refine Rn_mono (hP I J T hI) ?_
  rintro r s1 ⟨x, rfl, I1, J1, T1, rfl, h2⟩
  simp (disch := first | assumption | omega) only [Option.toList, List.cons_append, List.nil_append, x319_61, x319_62, x319_63, x319_64, x319_65, x319_66, x319_67, x319_68, x319_69, x319_70, x319_71, x319_72, nI_add]
  refine Rn_mono h2 ?_
  rintro r s2 ⟨rfl, I2, J2, T2, rfl, h3⟩
  simp only [Option.toList, List.cons_append, List.nil_append, x319_73]
  rw [if_pos trivial]
  exact hc I2 J2 T2 h3
theorem op_2 (hn : sc.1 < 2 ^ 31) (hi : i + 6 ≤ sc.1) (hP : PairI Inv sc d 110 179 [some (.ref 0), some (.int (sc.2 (i + 1))), some (.int (sc.2 (i + 2)))] [some (.ref 89), some (.int (sc.2 (i + 1))), some (.int (sc.2 (i + 2)))]) (hI : Inv I J T) (hc : ∀ I2 J2 T2, Inv I2 J2 T2 → Rn sc (d + 1) 319 1102 [some (.ref 1000), some (.ref 0), some (.ref 89), some (.int (nI i))] [] (K0, I2, J2, R1 T2) Q) : Rn sc (d + 1) 319 76 [some (.ref 1000), some (.ref 0), some (.ref 89), some (.int (nI i))] [] (K0, I, J, R1 T) Q := by
  simp (disch := first | assumption | omega) only [x319_76, x319_77, x319_78, x319_79, x319_80, x319_81, x319_82, x319_83, x319_84, x319_85, x319_86, x319_87, nI_add]
  refine Rn_mono (hP I J T hI) ?_
  rintro r s1 ⟨x, rfl, I1, J1, T1, rfl, h2⟩
  simp (disch := first | assumption | omega) only [Option.toList, List.cons_append, List.nil_append, x319_88, x319_89, x319_90, x319_91, x319_92, x319_93, x319_94, x319_95, x319_96, x319_97, x319_98, x319_99, nI_add]
  refine Rn_mono h2 ?_
  rintro r s2 ⟨rfl, I2, J2, T2, rfl, h3⟩
  simp only [Option.toList, List.cons_append, List.nil_append, x319_100]
  rw [if_pos trivial]
  exact hc I2 J2 T2 h3
theorem op_3 (hn : sc.1 < 2 ^ 31) (hi : i + 6 ≤ sc.1) (hP : PairI Inv sc d 111 181 [some (.ref 0), some (.int (sc.2 (i + 1))), some (.int (sc.2 (i + 2))), some (.int (sc.2 (i + 3))), some (.int (sc.2 (i + 4))), some (.int (sc.2 (i + 5)))] [some (.ref 89), some (.int (sc.2 (i + 1))), some (.int (sc.2 (i + 2))), some (.int (sc.2 (i + 3))), some (.int (sc.2 (i + 4))), some (.int (sc.2 (i + 5)))]) (hI : Inv I J T) (hc : ∀ I2 J2 T2, Inv I2 J2 T2 → Rn sc (d + 1) 319 1102 [some (.ref 1000), some (.ref 0), some (.ref 89), some (.int (nI i))] [] (K0, I2, J2, R1 T2) Q) : Rn sc (d + 1) 319 103 [some (.ref 1000), some (.ref 0), some (.ref 89), some (.int (nI i))] [] (K0, I, J, R1 T) Q := by
  simp (disch := first | assumption | omega) only [x319_103, x319_104, x319_105, x319_106, x319_107, x319_108, x319_109, x319_110, x319_111, x319_112, x319_113, x319_114, x319_115, x319_116, x319_117, x319_118, x319_119, x319_120, x319_121, x319_122, x319_123, x319_124, x319_125, x319_126, x319_127, x319_128, x319_129, nI_add]
  refine Rn_mono (hP I J T hI) ?_
  rintro r s1 ⟨x, rfl, I1, J1, T1, rfl, h2⟩
  simp (disch := first | assumption | omega) only [Option.toList, List.cons_append, List.nil_append, x319_130, x319_131, x319_132, x319_133, x319_134, x319_135, x319_136, x319_137, x319_138, x319_139, x319_140, x319_141, x319_142, x319_143, x319_144, x319_145, x319_146, x319_147, x319_148, x319_149, x319_150, x319_151, x319_152, x319_153, x319_154, x319_155, x319_156, nI_add]
  refine Rn_mono h2 ?_
  rintro r s2 ⟨rfl, I2, J2, T2, rfl, h3⟩
  simp only [Option.toList, List.cons_append, List.nil_append, x319_157]
  rw [if_pos trivial]
  exact hc I2 J2 T2 h3
theorem op_4 (hn : sc.1 < 2 ^ 31) (hi : i + 6 ≤ sc.1) (hP : PairI Inv sc d 112 182 [some (.ref 0), some (.int (sc.2 (i + 1)))] [some (.ref 89), some (.int (sc.2 (i + 1)))]) (hI : Inv I J T) (hc : ∀ I2 J2 T2, Inv I2 J2 T2 → Rn sc (d + 1) 319 1102 [some (.ref 1000), some (.ref 0), some (.ref 89), some (.int (nI i))] [] (K0, I2, J2, R1 T2) Q) : Rn sc (d + 1) 319 160 [some (.ref 1000), some (.ref 0), some (.ref 89), some (.int (nI i))] [] (K0, I, J, R1 T) Q := by
  simp (disch := first | assumption | omega) only [x319_160, x319_161, x319_162, x319_163, x319_164, x319_165, x319_166, nI_add]
  refine Rn_mono (hP I J T hI) ?_
  rintro r s1 ⟨x, rfl, I1, J1, T1, rfl, h2⟩
  simp (disch := first | assumption | omega) only [Option.toList, List.cons_append, List.nil_append, x319_167, x319_168, x319_169, x319_170, x319_171, x319_172, x319_173, nI_add]
  refine Rn_mono h2 ?_
  rintro r s2 ⟨rfl, I2, J2, T2, rfl, h3⟩
  simp only [Option.toList, List.cons_append, List.nil_append, x319_174]
  rw [if_pos trivial]
  exact hc I2 J2 T2 h3
theorem op_5 (hn : sc.1 < 2 ^ 31) (hi : i + 6 ≤ sc.1) (hP : PairI Inv sc d 113 219 [some (.ref 0), none] [some (.ref 89)]) (hI : Inv I J T) (hc : ∀ I2 J2 T2, Inv I2 J2 T2 → Rn sc (d + 1) 319 1102 [some (.ref 1000), some (.ref 0), some (.ref 89), some (.int (nI i))] [] (K0, I2, J2, R1 T2) Q) : Rn sc (d + 1) 319 177 [some (.ref 1000), some (.ref 0), some (.ref 89), some (.int (nI i))] [] (K0, I, J, R1 T) Q := by
  simp (disch := first | assumption | omega) only [x319_177, x319_178, nI_add]
  refine Rn_mono (hP I J T hI) ?_
  rintro r s1 ⟨x, rfl, I1, J1, T1, rfl, h2⟩
  simp (disch := first | assumption | omega) only [Option.toList, List.cons_append, List.nil_append, x319_179, x319_180, nI_add]
  refine Rn_mono h2 ?_
  rintro r s2 ⟨rfl, I2, J2, T2, rfl, h3⟩
  simp only [Option.toList, List.cons_append, List.nil_append, x319_181]
  rw [if_pos trivial]
  exact hc I2 J2 T2 h3
theorem op_6 (hn : sc.1 < 2 ^ 31) (hi : i + 6 ≤ sc.1) (hP : PairI Inv sc d 114 220 [some (.ref 0), some (.int (sc.2 (i + 1)))] [some (.ref 89), some (.int (sc.2 (i + 1)))]) (hI : Inv I J T) (hc : ∀ I2 J2 T2, Inv I2 J2 T2 → Rn sc (d + 1) 319 1102 [some (.ref 1000), some (.ref 0), some (.ref 89), some (.int (nI i))] [] (K0, I2, J2, R1 T2) Q) : Rn sc (d + 1) 319 184 [some (.ref 1000), some (.ref 0), some (.ref 89), some (.int (nI i))] [] (K0, I, J, R1 T) Q := by
  simp (disch := first | assumption | omega) only [x319_184, x319_185, x319_186, x319_187, x319_188, x319_189, x319_190, nI_add]
  refine Rn_mono (hP I J T hI) ?_
  rintro r s1 ⟨x, rfl, I1, J1, T1, rfl, h2⟩
  simp (disch := first | assumption | omega) only [Option.toList, List.cons_append, List.nil_append, x319_191, x319_192, x319_193, x319_194, x319_195, x319_196, x319_197, nI_add]
  refine Rn_mono h2 ?_
  rintro r s2 ⟨rfl, I2, J2, T2, rfl, h3⟩
  simp only [Option.toList, List.cons_append, List.nil_append, x319_198]
  rw [if_pos trivial]
  exact hc I2 J2 T2 h3
theorem op_7 (hn : sc.1 < 2 ^ 31) (hi : i + 6 ≤ sc.1) (hP : PairI Inv sc d 115 221 [some (.ref 0), some (.int (sc.2 (i + 1)))] [some (.ref 89), some (.int (sc.2 (i + 1)))]) (hI : Inv I J T) (hc : ∀ I2 J2 T2, Inv I2 J2 T2 → Rn sc (d + 1) 319 1102 [some (.ref 1000), some (.ref 0), some (.ref 89), some (.int (nI i))] [] (K0, I2, J2, R1 T2) Q) : Rn sc (d + 1) 319 201 [some (.ref 1000), some (.ref 0), some (.ref 89), some (.int (nI i))] [] (K0, I, J, R1 T) Q := by
  simp (disch := first | assumption | omega) only [x319_201, x319_202, x319_203, x319_204, x319_205, x319_206, x319_207, nI_add]
  refine Rn_mono (hP I J T hI) ?_
  rintro r s1 ⟨x, rfl, I1, J1, T1, rfl, h2⟩
  simp (disch := first | assumption | omega) only [Option.toList, List.cons_append, List.nil_append, x319_208, x319_209, x319_210, x319_211, x319_212, x319_213, x319_214, nI_add]
  refine Rn_mono h2 ?_
  rintro r s2 ⟨rfl, I2, J2, T2, rfl, h3⟩
  simp only [Option.toList, List.cons_append, List.nil_append, x319_215]
  rw [if_pos trivial]
  exact hc I2 J2 T2 h3
theorem op_8 (hn : sc.1 < 2 ^ 31) (hi : i + 6 ≤ sc.1) (hP : PairI Inv sc d 116 243 [some (.ref 0), some (.int (sc.2 (i + 1))), some (.int (sc.2 (i + 2)))] [some (.ref 89), some (.int (sc.2 (i + 1))), some (.int (sc.2 (i + 2)))]) (hI : Inv I J T) (hc : ∀ I2 J2 T2, Inv I2 J2 T2 → Rn sc (d + 1) 319 1102 [some (.ref 1000), some (.ref 0), some (.ref 89), some (.int (nI i))] [] (K0, I2, J2, R1 T2) Q) : Rn sc (d + 1) 319 218 [some (.ref 1000), some (.ref 0), some (.ref 89), some (.int (nI i))] [] (K0, I, J, R1 T) Q := by
  simp (disch := first | assumption | omega) only [x319_218, x319_219, x319_220, x319_221, x319_222, x319_223, x319_224, x319_225, x319_226, x319_227, x319_228, x319_229, nI_add]
  refine Rn_mono (hP I J T hI) ?_
  rintro r s1 ⟨x, rfl, I1, J1, T1, rfl, h2⟩
  simp (disch := first | assumption | omega) only [Option.toList, List.cons_append, List.nil_append, x319_230, x319_231, x319_232, x319_233, x319_234, x319_235, x319_236, x319_237, x319_238, x319_239, x319_240, x319_241, nI_add]
  refine Rn_mono h2 ?_
  rintro r s2 ⟨rfl, I2, J2, T2, rfl, h3⟩
  simp only [Option.toList, List.cons_append, List.nil_append, x319_242]
  rw [if_pos trivial]
  exact hc I2 J2 T2 h3
theorem op_9 (hn : sc.1 < 2 ^ 31) (hi : i + 6 ≤ sc.1) (hP : PairI Inv sc d 117 244 [some (.ref 0), some (.int (sc.2 (i + 1))), some (.int (sc.2 (i + 2)))] [some (.ref 89), some (.int (sc.2 (i + 1))), some (.int (sc.2 (i + 2)))]) (hI : Inv I J T) (hc : ∀ I2 J2 T2, Inv I2 J2 T2 → Rn sc (d + 1) 319 1102 [some (.ref 1000), some (.ref 0), some (.ref 89), some (.int (nI i))] [] (K0, I2, J2, R1 T2) Q) : Rn sc (d + 1) 319 245 [some (.ref 1000), some (.ref 0), some (.ref 89), some (.int (nI i))] [] (K0, I, J, R1 T) Q := by
  simp (disch := first | assumption | omega) only [x319_245, x319_246, x319_247, x319_248, x319_249, x319_250, x319_251, x319_252, x319_253, x319_254, x319_255, x319_256, nI_add]
  refine Rn_mono (hP I J T hI) ?_
  rintro r s1 ⟨x, rfl, I1, J1, T1, rfl, h2⟩
  simp (disch := first | assumption | omega) only [Option.toList, List.cons_append, List.nil_append, x319_257, x319_258, x319_259, x319_260, x319_261, x319_262, x319_263, x319_264, x319_265, x319_266, x319_267, x319_268, nI_add]
  refine Rn_mono h2 ?_
  rintro r s2 ⟨rfl, I2, J2, T2, rfl, h3⟩
  simp only [Option.toList, List.cons_append, List.nil_append, x319_269]
  rw [if_pos trivial]
  exact hc I2 J2 T2 h3
theorem op_10 (hn : sc.1 < 2 ^ 31) (hi : i + 6 ≤ sc.1) (hP : PairI Inv sc d 118 245 [some (.ref 0), some (.int (sc.2 (i + 1))), some (.int (sc.2 (i + 2)))] [some (.ref 89), some (.int (sc.2 (i + 1))), some (.int (sc.2 (i + 2)))]) (hI : Inv I J T) (hc : ∀ I2 J2 T2, Inv I2 J2 T2 → Rn sc (d + 1) 319 1102 [some (.ref 1000), some (.ref 0), some (.ref 89), some (.int (nI i))] [] (K0, I2, J2, R1 T2) Q) : Rn sc (d + 1) 319 272 [some (.ref 1000), some (.ref 0), some (.ref 89), some (.int (nI i))] [] (K0, I, J, R1 T) Q := by
  simp (disch := first | assumption | omega) only [x319_272, x319_273, x319_274, x319_275, x319_276, x319_277, x319_278, x319_279, x319_280, x319_281, x319_282, x319_283, nI_add]
  refine Rn_mono (hP I J T hI) ?_
  rintro r s1 ⟨x, rfl, I1, J1, T1, rfl, h2⟩
  simp (disch := first | assumption | omega) only [Option.toList, List.cons_append, List.nil_append, x319_284, x319_285, x319_286, x319_287, x319_288, x319_289, x319_290, x319_291, x319_292, x319_293, x319_294, x319_295, nI_add]
  refine Rn_mono h2 ?_
  rintro r s2 ⟨rfl, I2, J2, T2, rfl, h3⟩
  simp only [Option.toList, List.cons_append, List.nil_append, x319_296]
  rw [if_pos trivial]
  exact hc I2 J2 T2 h3
theorem op_11 (hn : sc.1 < 2 ^ 31) (hi : i + 6 ≤ sc.1) (hP : PairI Inv sc d 119 247 [some (.ref 0), some (.int (sc.2 (i + 1))), none, none] [some (.ref 89), some (.int (sc.2 (i + 1)))]) (hI : Inv I J T) (hc : ∀ I2 J2 T2, Inv I2 J2 T2 → Rn sc (d + 1) 319 1102 [some (.ref 1000), some (.ref 0), some (.ref 89), some (.int (nI i))] [] (K0, I2, J2, R1 T2) Q) : Rn sc (d + 1) 319 299 [some (.ref 1000), some (.ref 0), some (.ref 89), some (.int (nI i))] [] (K0, I, J, R1 T) Q := by
  simp (disch := first | assumption | omega) only [x319_299, x319_300, x319_301, x319_302, x319_303, x319_304, x319_305, nI_add]
  refine Rn_mono (hP I J T hI) ?_
  rintro r s1 ⟨x, rfl, I1, J1, T1, rfl, h2⟩
  simp (disch := first | assumption | omega) only [Option.toList, List.cons_append, List.nil_append, x319_306, x319_307, x319_308, x319_309, x319_310, x319_311, x319_312, nI_add]
  refine Rn_mono h2 ?_
  rintro r s2 ⟨rfl, I2, J2, T2, rfl, h3⟩
  simp only [Option.toList, List.cons_append, List.nil_append, x319_313]
  rw [if_pos trivial]
  exact hc I2 J2 T2 h3
theorem op_12 (hn : sc.1 < 2 ^ 31) (hi : i + 6 ≤ sc.1) (hP : PairI Inv sc d 120 249 [some (.ref 0), some (.int (sc.2 (i + 1))), none, none, none, none] [some (.ref 89), some (.int (sc.2 (i + 1))), none]) (hI : Inv I J T) (hc : ∀ I2 J2 T2, Inv I2 J2 T2 → Rn sc (d + 1) 319 1102 [some (.ref 1000), some (.ref 0), some (.ref 89), some (.int (nI i))] [] (K0, I2, J2, R1 T2) Q) : Rn sc (d + 1) 319 316 [some (.ref 1000), some (.ref 0), some (.ref 89), some (.int (nI i))] [] (K0, I, J, R1 T) Q := by
  simp (disch := first | assumption | omega) only [x319_316, x319_317, x319_318, x319_319, x319_320, x319_321, x319_322, nI_add]
  refine Rn_mono (hP I J T hI) ?_
  rintro r s1 ⟨x, rfl, I1, J1, T1, rfl, h2⟩
  simp (disch := first | assumption | omega) only [Option.toList, List.cons_append, List.nil_append, x319_323, x319_324, x319_325, x319_326, x319_327, x319_328, x319_329, nI_add]
  refine Rn_mono h2 ?_
  rintro r s2 ⟨rfl, I2, J2, T2, rfl, h3⟩
  simp only [Option.toList, List.cons_append, List.nil_append, x319_330]
  rw [if_pos trivial]
  exact hc I2 J2 T2 h3
theorem op_13 (hn : sc.1 < 2 ^ 31) (hi : i + 6 ≤ sc.1) (hP : PairI Inv sc d 123 251 [some (.ref 0), some (.int (sc.2 (i + 1))), some (.int (sc.2 (i + 2))), none] [some (.ref 89), some (.int (sc.2 (i + 1))), some (.int (sc.2 (i + 2))), none, none]) (hI : Inv I J T) (hc : ∀ I2 J2 T2, Inv I2 J2 T2 → Rn sc (d + 1) 319 1102 [some (.ref 1000), some (.ref 0), some (.ref 89), some (.int (nI i))] [] (K0, I2, J2, R1 T2) Q) : Rn sc (d + 1) 319 333 [some (.ref 1000), some (.ref 0), some (.ref 89), some (.int (nI i))] [] (K0, I, J, R1 T) Q := by
  simp (disch := first | assumption | omega) only [x319_333, x319_334, x319_335, x319_336, x319_337, x319_338, x319_339, x319_340, x319_341, x319_342, x319_343, x319_344, nI_add]
  refine Rn_mono (hP I J T hI) ?_
  rintro r s1 ⟨x, rfl, I1, J1, T1, rfl, h2⟩
  simp (disch := first | assumption | omega) only [Option.toList, List.cons_append, List.nil_append, x319_345, x319_346, x319_347, x319_348, x319_349, x319_350, x319_351, x319_352, x319_353, x319_354, x319_355, x319_356, nI_add]
  refine Rn_mono h2 ?_
  rintro r s2 ⟨rfl, I2, J2, T2, rfl, h3⟩
  simp only [Option.toList, List.cons_append, List.nil_append, x319_357]
  rw [if_pos trivial]
  exact hc I2 J2 T2 h3
theorem op_14 (hn : sc.1 < 2 ^ 31) (hi : i + 6 ≤ sc.1) (hP : PairI Inv sc d 124 242 [some (.ref 0)] [some (.ref 89), none, none]) (hI : Inv I J T) (hc : ∀ I2 J2 T2, Inv I2 J2 T2 → Rn sc (d + 1) 319 1102 [some (.ref 1000), some (.ref 0), some (.ref 89), some (.int (nI i))] [] (K0, I2, J2, R1 T2) Q) : Rn sc (d + 1) 319 360 [some (.ref 1000), some (.ref 0), some (.ref 89), some (.int (nI i))] [] (K0, I, J, R1 T) Q := by
  simp (disch := first | assumption | omega) only [x319_360, x319_361, nI_add]
  refine Rn_mono (hP I J T hI) ?_
  rintro r s1 ⟨x, rfl, I1, J1, T1, rfl, h2⟩
  simp (disch := first | assumption | omega) only [Option.toList, List.cons_append, List.nil_append, x319_362, x319_363, nI_add]
  refine Rn_mono h2 ?_
  rintro r s2 ⟨rfl, I2, J2, T2, rfl, h3⟩
  simp only [Option.toList, List.cons_append, List.nil_append, x319_364]
  rw [if_pos trivial]
  exact hc I2 J2 T2 h3
theorem op_15 (hn : sc.1 < 2 ^ 31) (hi : i + 6 ≤ sc.1) (hP : PairI Inv sc d 125 252 [some (.ref 0), some (.int (sc.2 (i + 1))), some (.int (sc.2 (i + 2)))] [some (.ref 89), some (.int (sc.2 (i + 1))), some (.int (sc.2 (i + 2)))]) (hI : Inv I J T) (hc : ∀ I2 J2 T2, Inv I2 J2 T2 → Rn sc (d + 1) 319 1102 [some (.ref 1000), some (.ref 0), some (.ref 89), some (.int (nI i))] [] (K0, I2, J2, R1 T2) Q) : Rn sc (d + 1) 319 367 [some (.ref 1000), some (.ref 0), some (.ref 89), some (.int (nI i))] [] (K0, I, J, R1 T) Q := by
  simp (disch := first | assumption | omega) only [x319_367, x319_368, x319_369, x319_370, x319_371, x319_372, x319_373, x319_374, x319_375, x319_376, x319_377, x319_378, nI_add]
  refine Rn_mono (hP I J T hI) ?_
  rintro r s1 ⟨x, rfl, I1, J1, T1, rfl, h2⟩
  simp (disch := first | assumption | omega) only [Option.toList, List.cons_append, List.nil_append, x319_379, x319_380, x319_381, x319_382, x319_383, x319_384, x319_385, x319_386, x319_387, x319_388, x319_389, x319_390, nI_add]
  refine Rn_mono h2 ?_
  rintro r s2 ⟨rfl, I2, J2, T2, rfl, h3⟩
  simp only [Option.toList, List.cons_append, List.nil_append, x319_391]
  rw [if_pos trivial]
  exact hc I2 J2 T2 h3
theorem op_16 (hn : sc.1 < 2 ^ 31) (hi : i + 6 ≤ sc.1) (hP : PairI Inv sc d 126 253 [some (.ref 0), some (.int (sc.2 (i + 1))), some (.int (sc.2 (i + 2)))] [some (.ref 89), some (.int (sc.2 (i + 1))), some (.int (sc.2 (i + 2)))]) (hI : Inv I J T) (hc : ∀ I2 J2 T2, Inv I2 J2 T2 → Rn sc (d + 1) 319 1102 [some (.ref 1000), some (.ref 0), some (.ref 89), some (.int (nI i))] [] (K0, I2, J2, R1 T2) Q) : Rn sc (d + 1) 319 394 [some (.ref 1000), some (.ref 0), some (.ref 89), some (.int (nI i))] [] (K0, I, J, R1 T) Q := by
  simp (disch := first | assumption | omega) only [x319_394, x319_395, x319_396, x319_397, x319_398, x319_399, x319_400, x319_401, x319_402, x319_403, x319_404, x319_405, nI_add]
  refine Rn_mono (hP I J T hI) ?_
  rintro r s1 ⟨x, rfl, I1, J1, T1, rfl, h2⟩
  simp (disch := first | assumption | omega) only [Option.toList, List.cons_append, List.nil_append, x319_406, x319_407, x319_408, x319_409, x319_410, x319_411, x319_412, x319_413, x319_414, x319_415, x319_416, x319_417, nI_add]
  refine Rn_mono h2 ?_
  rintro r s2 ⟨rfl, I2, J2, T2, rfl, h3⟩
  simp only [Option.toList, List.cons_append, List.nil_append, x319_418]
  rw [if_pos trivial]
  exact hc I2 J2 T2 h3
theorem op_17 (hn : sc.1 < 2 ^ 31) (hi : i + 6 ≤ sc.1) (hP : PairI Inv sc d 127 254 [some (.ref 0), some (.int (sc.2 (i + 1))), some (.int (sc.2 (i + 2)))] [some (.ref 89), some (.int (sc.2 (i + 1))), some (.int (sc.2 (i + 2)))]) (hI : Inv I J T) (hc : ∀ I2 J2 T2, Inv I2 J2 T2 → Rn sc (d + 1) 319 1102 [some (.ref 1000), some (.ref 0), some (.ref 89), some (.int (nI i))] [] (K0, I2, J2, R1 T2) Q) : Rn sc (d + 1) 319 421 [some (.ref 1000), some (.ref 0), some (.ref 89), some (.int (nI i))] [] (K0, I, J, R1 T) Q := by
  simp (disch := first | assumption | omega) only [x319_421, x319_422, x319_423, x319_424, x319_425, x319_426, x319_427, x319_428, x319_429, x319_430, x319_431, x319_432, nI_add]
  refine Rn_mono (hP I J T hI) ?_
  rintro r s1 ⟨x, rfl, I1, J1, T1, rfl, h2⟩
  simp (disch := first | assumption | omega) only [Option.toList, List.cons_append, List.nil_append, x319_433, x319_434, x319_435, x319_436, x319_437, x319_438, x319_439, x319_440, x319_441, x319_442, x319_443, x319_444, nI_add]
  refine Rn_mono h2 ?_
  rintro r s2 ⟨rfl, I2, J2, T2, rfl, h3⟩
  simp only [Option.toList, List.cons_append, List.nil_append, x319_445]
  rw [if_pos trivial]
  exact hc I2 J2 T2 h3
theorem op_18 (hn : sc.1 < 2 ^ 31) (hi : i + 6 ≤ sc.1) (hP : PairI Inv sc d 128 255 [some (.ref 0), some (.int (sc.2 (i + 1))), some (.int (sc.2 (i + 2)))] [some (.ref 89), some (.int (sc.2 (i + 1))), some (.int (sc.2 (i + 2)))]) (hI : Inv I J T) (hc : ∀ I2 J2 T2, Inv I2 J2 T2 → Rn sc (d + 1) 319 1102 [some (.ref 1000), some (.ref 0), some (.ref 89), some (.int (nI i))] [] (K0, I2, J2, R1 T2) Q) : Rn sc (d + 1) 319 448 [some (.ref 1000), some (.ref 0), some (.ref 89), some (.int (nI i))] [] (K0, I, J, R1 T) Q := by
  simp (disch := first | assumption | omega) only [x319_448, x319_449, x319_450, x319_451, x319_452, x319_453, x319_454, x319_455, x319_456, x319_457, x319_458, x319_459, nI_add]
  refine Rn_mono (hP I J T hI) ?_
  rintro r s1 ⟨x, rfl, I1, J1, T1, rfl, h2⟩
  simp (disch := first | assumption | omega) only [Option.toList, List.cons_append, List.nil_append, x319_460, x319_461, x319_462, x319_463, x319_464, x319_465, x319_466, x319_467, x319_468, x319_469, x319_470, x319_471, nI_add]
  refine Rn_mono h2 ?_
  rintro r s2 ⟨rfl, I2, J2, T2, rfl, h3⟩
  simp only [Option.toList, List.cons_append, List.nil_append, x319_472]
  rw [if_pos trivial]
  exact hc I2 J2 T2 h3
theorem op_19 (hn : sc.1 < 2 ^ 31) (hi : i + 6 ≤ sc.1) (hP : PairI Inv sc d 129 256 [some (.ref 0), some (.int (sc.2 (i + 1)))] [some (.ref 89), some (.int (sc.2 (i + 1)))]) (hI : Inv I J T) (hc : ∀ I2 J2 T2, Inv I2 J2 T2 → Rn sc (d + 1) 319 1102 [some (.ref 1000), some (.ref 0), some (.ref 89), some (.int (nI i))] [] (K0, I2, J2, R1 T2) Q) : Rn sc (d + 1) 319 475 [some (.ref 1000), some (.ref 0), some (.ref 89), some (.int (nI i))] [] (K0, I, J, R1 T) Q := by
  simp (disch := first | assumption | omega) only [x319_475, x319_476, x319_477, x319_478, x319_479, x319_480, x319_481, nI_add]
  refine Rn_mono (hP I J T hI) ?_
  rintro r s1 ⟨x, rfl, I1, J1, T1, rfl, h2⟩
  simp (disch := first | assumption | omega) only [Option.toList, List.cons_append, List.nil_append, x319_482, x319_483, x319_484, x319_485, x319_486, x319_487, x319_488, nI_add]
  refine Rn_mono h2 ?_
  rintro r s2 ⟨rfl, I2, J2, T2, rfl, h3⟩
  simp only [Option.toList, List.cons_append, List.nil_append, x319_489]
  rw [if_pos trivial]
  exact hc I2 J2 T2 h3
theorem op_20 (hn : sc.1 < 2 ^ 31) (hi : i + 6 ≤ sc.1) (hP : PairI Inv sc d 130 258 [some (.ref 0), some (.int (sc.2 (i + 1))), some (.int (sc.2 (i + 2)))] [some (.ref 89), some (.int (sc.2 (i + 1))), some (.int (sc.2 (i + 2)))]) (hI : Inv I J T) (hc : ∀ I2 J2 T2, Inv I2 J2 T2 → Rn sc (d + 1) 319 1102 [some (.ref 1000), some (.ref 0), some (.ref 89), some (.int (nI i))] [] (K0, I2, J2, R1 T2) Q) : Rn sc (d + 1) 319 492 [some (.ref 1000), some (.ref 0), some (.ref 89), some (.int (nI i))] [] (K0, I, J, R1 T) Q := by
  simp (disch := first | assumption | omega) only [x319_492, x319_493, x319_494, x319_495, x319_496, x319_497, x319_498, x319_499, x319_500, x319_501, x319_502, x319_503, nI_add]
  refine Rn_mono (hP I J T hI) ?_
  rintro r s1 ⟨x, rfl, I1, J1, T1, rfl, h2⟩
  simp (disch := first | assumption | omega) only [Option.toList, List.cons_append, List.nil_append, x319_504, x319_505, x319_506, x319_507, x319_508, x319_509, x319_510, x319_511, x319_512, x319_513, x319_514, x319_515, nI_add]
  refine Rn_mono h2 ?_
  rintro r s2 ⟨rfl, I2, J2, T2, rfl, h3⟩
  simp only [Option.toList, List.cons_append, List.nil_append, x319_516]
  rw [if_pos trivial]
  exact hc I2 J2 T2 h3
theorem op_21 (hn : sc.1 < 2 ^ 31) (hi : i + 6 ≤ sc.1) (hP : PairI Inv sc d 131 263 [some (.ref 0), some (.int (sc.2 (i + 1))), some (.int (sc.2 (i + 2))), some (.int (sc.2 (i + 3))), none, none, none] [some (.ref 89), some (.int (sc.2 (i + 1))), some (.int (sc.2 (i + 2))), some (.int (sc.2 (i + 3))), none, none]) (hI : Inv I J T) (hc : ∀ I2 J2 T2, Inv I2 J2 T2 → Rn sc (d + 1) 319 1102 [some (.ref 1000), some (.ref 0), some (.ref 89), some (.int (nI i))] [] (K0, I2, J2, R1 T2) Q) : Rn sc (d + 1) 319 519 [some (.ref 1000), some (.ref 0), some (.ref 89), some (.int (nI i))] [] (K0, I, J, R1 T) Q := by
  simp (disch := first | assumption | omega) only [x319_519, x319_520, x319_521, x319_522, x319_523, x319_524, x319_525, x319_526, x319_527, x319_528, x319_529, x319_530, x319_531, x319_532, x319_533, x319_534, x319_535, nI_add]
  refine Rn_mono (hP I J T hI) ?_
  rintro r s1 ⟨x, rfl, I1, J1, T1, rfl, h2⟩
  simp (disch := first | assumption | omega) only [Option.toList, List.cons_append, List.nil_append, x319_536, x319_537, x319_538, x319_539, x319_540, x319_541, x319_542, x319_543, x319_544, x319_545, x319_546, x319_547, x319_548, x319_549, x319_550, x319_551, x319_552, nI_add]
  refine Rn_mono h2 ?_
  rintro r s2 ⟨rfl, I2, J2, T2, rfl, h3⟩
  simp only [Option.toList, List.cons_append, List.nil_append, x319_553]
  rw [if_pos trivial]
  exact hc I2 J2 T2 h3
theorem op_22 (hn : sc.1 < 2 ^ 31) (hi : i + 6 ≤ sc.1) (hP : PairI Inv sc d 132 265 [some (.ref 0), some (.int (sc.2 (i + 1))), some (.int (sc.2 (i + 2)))] [some (.ref 89), some (.int (sc.2 (i + 1))), some (.int (sc.2 (i + 2)))]) (hI : Inv I J T) (hc : ∀ I2 J2 T2, Inv I2 J2 T2 → Rn sc (d + 1) 319 1102 [some (.ref 1000), some (.ref 0), some (.ref 89), some (.int (nI i))] [] (K0, I2, J2, R1 T2) Q) : Rn sc (d + 1) 319 556 [some (.ref 1000), some (.ref 0), some (.ref 89), some (.int (nI i))] [] (K0, I, J, R1 T) Q := by
  simp (disch := first | assumption | omega) only [x319_556, x319_557, x319_558, x319_559, x319_560, x319_561, x319_562, x319_563, x319_564, x319_565, x319_566, x319_567, nI_add]
  refine Rn_mono (hP I J T hI) ?_
  rintro r s1 ⟨x, rfl, I1, J1, T1, rfl, h2⟩
  simp (disch := first | assumption | omega) only [Option.toList, List.cons_append, List.nil_append, x319_568, x319_569, x319_570, x319_571, x319_572, x319_573, x319_574, x319_575, x319_576, x319_577, x319_578, x319_579, nI_add]
  refine Rn_mono h2 ?_
  rintro r s2 ⟨rfl, I2, J2, T2, rfl, h3⟩
  simp only [Option.toList, List.cons_append, List.nil_append, x319_580]
  rw [if_pos trivial]
  exact hc I2 J2 T2 h3
theorem op_23 (hn : sc.1 < 2 ^ 31) (hi : i + 6 ≤ sc.1) (hP : PairI Inv sc d 133 266 [some (.ref 0), some (.int (sc.2 (i + 1))), some (.int (sc.2 (i + 2))), some (.int (sc.2 (i + 3)))] [some (.ref 89), some (.int (sc.2 (i + 1))), some (.int (sc.2 (i + 2))), some (.int (sc.2 (i + 3))), none, none, none]) (hI : Inv I J T) (hc : ∀ I2 J2 T2, Inv I2 J2 T2 → Rn sc (d + 1) 319 1102 [some (.ref 1000), some (.ref 0), some (.ref 89), some (.int (nI i))] [] (K0, I2, J2, R1 T2) Q) : Rn sc (d + 1) 319 583 [some (.ref 1000), some (.ref 0), some (.ref 89), some (.int (nI i))] [] (K0, I, J, R1 T) Q := by
  simp (disch := first | assumption | omega) only [x319_583, x319_584, x319_585, x319_586, x319_587, x319_588, x319_589, x319_590, x319_591, x319_592, x319_593, x319_594, x319_595, x319_596, x319_597, x319_598, x319_599, nI_add]
  refine Rn_mono (hP I J T hI) ?_
  rintro r s1 ⟨x, rfl, I1, J1, T1, rfl, h2⟩
  simp (disch := first | assumption | omega) only [Option.toList, List.cons_append, List.nil_append, x319_600, x319_601, x319_602, x319_603, x319_604, x319_605, x319_606, x319_607, x319_608, x319_609, x319_610, x319_611, x319_612, x319_613, x319_614, x319_615, x319_616, nI_add]
  refine Rn_mono h2 ?_
  rintro r s2 ⟨rfl, I2, J2, T2, rfl, h3⟩
  simp only [Option.toList, List.cons_append, List.nil_append, x319_617]
  rw [if_pos trivial]
  exact hc I2 J2 T2 h3
theorem op_24 (hn : sc.1 < 2 ^ 31) (hi : i + 6 ≤ sc.1) (hP : PairI Inv sc d 134 268 [some (.ref 0), some (.int (sc.2 (i + 1)))] [some (.ref 89), some (.int (sc.2 (i + 1)))]) (hI : Inv I J T) (hc : ∀ I2 J2 T2, Inv I2 J2 T2 → Rn sc (d + 1) 319 1102 [some (.ref 1000), some (.ref 0), some (.ref 89), some (.int (nI i))] [] (K0, I2, J2, R1 T2) Q) : Rn sc (d + 1) 319 620 [some (.ref 1000), some (.ref 0), some (.ref 89), some (.int (nI i))] [] (K0, I, J, R1 T) Q := by
  simp (disch := first | assumption | omega) only [x319_620, x319_621, x319_622, x319_623, x319_624, x319_625, x319_626, nI_add]
  refine Rn_mono (hP I J T hI) ?_
  rintro r s1 ⟨x, rfl, I1, J1, T1, rfl, h2⟩
  simp (disch := first | assumption | omega) only [Option.toList, List.cons_append, List.nil_append, x319_627, x319_628, x319_629, x319_630, x319_631, x319_632, x319_633, nI_add]
  refine Rn_mono h2 ?_
  rintro r s2 ⟨rfl, I2, J2, T2, rfl, h3⟩
  simp only [Option.toList, List.cons_append, List.nil_append, x319_634]
  rw [if_pos trivial]
  exact hc I2 J2 T2 h3
theorem op_25 (hn : sc.1 < 2 ^ 31) (hi : i + 6 ≤ sc.1) (hP : ∀ z, z < 2 → PairI Inv sc d 135 270 [some (.ref 0), some (.int (nI z)), none, none] [some (.ref 89), some (.int (nI z)), none, none]) (hI : Inv I J T) (hc : ∀ I2 J2 T2, Inv I2 J2 T2 → Rn sc (d + 1) 319 1102 [some (.ref 1000), some (.ref 0), some (.ref 89), some (.int (nI i))] [] (K0, I2, J2, R1 T2) Q) : Rn sc (d + 1) 319 637 [some (.ref 1000), some (.ref 0), some (.ref 89), some (.int (nI i))] [] (K0, I, J, R1 T) Q := by
  by_cases hz : sc.2 (i + 1) = 0
  · skip
    simp (disch := first | assumption | omega) only [x319_637, x319_638, x319_639, x319_640, x319_641, x319_642, x319_643, x319_644, x319_645, x319_646, x319_647, nI_add, if_pos hz]
    refine Rn_mono ((hP 0 (by omega)) I J T hI) ?_
    rintro r s1 ⟨x, rfl, I1, J1, T1, rfl, h2⟩
    simp (disch := first | assumption | omega) only [Option.toList, List.cons_append, List.nil_append, x319_648, x319_649, x319_650, x319_651, x319_652, x319_653, x319_654, x319_655, x319_656, x319_657, x319_658, nI_add, if_pos hz]
    refine Rn_mono h2 ?_
    rintro r s2 ⟨rfl, I2, J2, T2, rfl, h3⟩
    simp only [Option.toList, List.cons_append, List.nil_append, x319_659]
    rw [if_pos trivial]
    exact hc I2 J2 T2 h3
  · skip
    simp (disch := first | assumption | omega) only [x319_637, x319_638, x319_639, x319_640, x319_641, x319_642, x319_643, x319_644, x319_645, x319_646, x319_647, nI_add, if_neg hz]
    refine Rn_mono ((hP 1 (by omega)) I J T hI) ?_
    rintro r s1 ⟨x, rfl, I1, J1, T1, rfl, h2⟩
    simp (disch := first | assumption | omega) only [Option.toList, List.cons_append, List.nil_append, x319_648, x319_649, x319_650, x319_651, x319_652, x319_653, x319_654, x319_655, x319_656, x319_657, x319_658, nI_add, if_neg hz]
    refine Rn_mono h2 ?_
    rintro r s2 ⟨rfl, I2, J2, T2, rfl, h3⟩
    simp only [Option.toList, List.cons_append, List.nil_append, x319_659]
    rw [if_pos trivial]
    exact hc I2 J2 T2 h3
theorem op_26 (hn : sc.1 < 2 ^ 31) (hi : i + 6 ≤ sc.1) (hP : PairI Inv sc d 136 271 [some (.ref 0), none, none] [some (.ref 89), none, none]) (hI : Inv I J T) (hc : ∀ I2 J2 T2, Inv I2 J2 T2 → Rn sc (d + 1) 319 1102 [some (.ref 1000), some (.ref 0), some (.ref 89), some (.int (nI i))] [] (K0, I2, J2, R1 T2) Q) : Rn sc (d + 1) 319 662 [some (.ref 1000), some (.ref 0), some (.ref 89), some (.int (nI i))] [] (K0, I, J, R1 T) Q := by
  simp (disch := first | assumption | omega) only [x319_662, x319_663, nI_add]
  refine Rn_mono (hP I J T hI) ?_
  rintro r s1 ⟨x, rfl, I1, J1, T1, rfl, h2⟩
  simp (disch := first | assumption | omega) only [Option.toList, List.cons_append, List.nil_append, x319_664, x319_665, nI_add]
  refine Rn_mono h2 ?_
  rintro r s2 ⟨rfl, I2, J2, T2, rfl, h3⟩
  simp only [Option.toList, List.cons_append, List.nil_append, x319_666]
  rw [if_pos trivial]
  exact hc I2 J2 T2 h3
theorem op_27 (hn : sc.1 < 2 ^ 31) (hi : i + 6 ≤ sc.1) (hP : PairI Inv sc d 137 272 [some (.ref 0), none, none, none] [some (.ref 89), none, none]) (hI : Inv I J T) (hc : ∀ I2 J2 T2, Inv I2 J2 T2 → Rn sc (d + 1) 319 1102 [some (.ref 1000), some (.ref 0), some (.ref 89), some (.int (nI i))] [] (K0, I2, J2, R1 T2) Q) : Rn sc (d + 1) 319 669 [some (.ref 1000), some (.ref 0), some (.ref 89), some (.int (nI i))] [] (K0, I, J, R1 T) Q := by
  simp (disch := first | assumption | omega) only [x319_669, x319_670, nI_add]
  refine Rn_mono (hP I J T hI) ?_
  rintro r s1 ⟨x, rfl, I1, J1, T1, rfl, h2⟩
  simp (disch := first | assumption | omega) only [Option.toList, List.cons_append, List.nil_append, x319_671, x319_672, nI_add]
  refine Rn_mono h2 ?_
  rintro r s2 ⟨rfl, I2, J2, T2, rfl, h3⟩
  simp only [Option.toList, List.cons_append, List.nil_append, x319_673]
  rw [if_pos trivial]
  exact hc I2 J2 T2 h3
theorem op_28 (hn : sc.1 < 2 ^ 31) (hi : i + 6 ≤ sc.1) (hP : PairI Inv sc d 138 273 [some (.ref 0)] [some (.ref 89), none, none, none, none]) (hI : Inv I J T) (hc : ∀ I2 J2 T2, Inv I2 J2 T2 → Rn sc (d + 1) 319 1102 [some (.ref 1000), some (.ref 0), some (.ref 89), some (.int (nI i))] [] (K0, I2, J2, R1 T2) Q) : Rn sc (d + 1) 319 676 [some (.ref 1000), some (.ref 0), some (.ref 89), some (.int (nI i))] [] (K0, I, J, R1 T) Q := by
  simp (disch := first | assumption | omega) only [x319_676, x319_677, nI_add]
  refine Rn_mono (hP I J T hI) ?_
  rintro r s1 ⟨x, rfl, I1, J1, T1, rfl, h2⟩
  simp (disch := first | assumption | omega) only [Option.toList, List.cons_append, List.nil_append, x319_678, x319_679, nI_add]
  refine Rn_mono h2 ?_
  rintro r s2 ⟨rfl, I2, J2, T2, rfl, h3⟩
  simp only [Option.toList, List.cons_append, List.nil_append, x319_680]
  rw [if_pos trivial]
  exact hc I2 J2 T2 h3
theorem op_29 (hn : sc.1 < 2 ^ 31) (hi : i + 6 ≤ sc.1) (hP : PairI Inv sc d 139 275 [some (.ref 0)] [some (.ref 89), none, none]) (hI : Inv I J T) (hc : ∀ I2 J2 T2, Inv I2 J2 T2 → Rn sc (d + 1) 319 1102 [some (.ref 1000), some (.ref 0), some (.ref 89), some (.int (nI i))] [] (K0, I2, J2, R1 T2) Q) : Rn sc (d + 1) 319 683 [some (.ref 1000), some (.ref 0), some (.ref 89), some (.int (nI i))] [] (K0, I, J, R1 T) Q := by
  simp (disch := first | assumption | omega) only [x319_683, x319_684, nI_add]
  refine Rn_mono (hP I J T hI) ?_
  rintro r s1 ⟨x, rfl, I1, J1, T1, rfl, h2⟩
  simp (disch := first | assumption | omega) only [Option.toList, List.cons_append, List.nil_append, x319_685, x319_686, nI_add]
  refine Rn_mono h2 ?_
  rintro r s2 ⟨rfl, I2, J2, T2, rfl, h3⟩
  simp only [Option.toList, List.cons_append, List.nil_append, x319_687]
  rw [if_pos trivial]
  exact hc I2 J2 T2 h3
theorem op_30 (hn : sc.1 < 2 ^ 31) (hi : i + 6 ≤ sc.1) (hP : PairJ Inv sc d 140 280 [some (.ref 0), some (.int (sc.2 (i + 1)))] [some (.ref 89), some (.int (sc.2 (i + 1)))]) (hI : Inv I J T) (hc : ∀ I2 J2 T2, Inv I2 J2 T2 → Rn sc (d + 1) 319 1102 [some (.ref 1000), some (.ref 0), some (.ref 89), some (.int (nI i))] [] (K0, I2, J2, R1 T2) Q) : Rn sc (d + 1) 319 690 [some (.ref 1000), some (.ref 0), some (.ref 89), some (.int (nI i))] [] (K0, I, J, R1 T) Q := by
  simp (disch := first | assumption | omega) only [x319_690, x319_691, x319_692, x319_693, x319_694, x319_695, x319_696, nI_add]
  refine Rn_mono (hP I J T hI) ?_
  rintro r s1 ⟨x, rfl, I1, J1, T1, rfl, h2⟩
  simp (disch := first | assumption | omega) only [Option.toList, List.cons_append, List.nil_append, x319_697, x319_698, x319_699, x319_700, x319_701, x319_702, x319_703, nI_add]
  refine Rn_mono h2 ?_
  rintro r s2 ⟨rfl, I2, J2, T2, rfl, h3⟩
  simp only [Option.toList, List.cons_append, List.nil_append, x319_704, x319_705, lg_cmp_self]
  rw [if_pos (by decide)]
  exact hc I2 J2 T2 h3
theorem op_31 (hn : sc.1 < 2 ^ 31) (hi : i + 6 ≤ sc.1) (hP : PairI Inv sc d 141 281 [some (.ref 0), some (.int (sc.2 (i + 1))), some (.int (sc.2 (i + 2)))] [some (.ref 89), some (.int (sc.2 (i + 1))), some (.int (sc.2 (i + 2)))]) (hI : Inv I J T) (hc : ∀ I2 J2 T2, Inv I2 J2 T2 → Rn sc (d + 1) 319 1102 [some (.ref 1000), some (.ref 0), some (.ref 89), some (.int (nI i))] [] (K0, I2, J2, R1 T2) Q) : Rn sc (d + 1) 319 708 [some (.ref 1000), some (.ref 0), some (.ref 89), some (.int (nI i))] [] (K0, I, J, R1 T) Q := by
  simp (disch := first | assumption | omega) only [x319_708, x319_709, x319_710, x319_711, x319_712, x319_713, x319_714, x319_715, x319_716, x319_717, x319_718, x319_719, nI_add]
  refine Rn_mono (hP I J T hI) ?_
  rintro r s1 ⟨x, rfl, I1, J1, T1, rfl, h2⟩
  simp (disch := first | assumption | omega) only [Option.toList, List.cons_append, List.nil_append, x319_720, x319_721, x319_722, x319_723, x319_724, x319_725, x319_726, x319_727, x319_728, x319_729, x319_730, x319_731, nI_add]
  refine Rn_mono h2 ?_
  rintro r s2 ⟨rfl, I2, J2, T2, rfl, h3⟩
  simp only [Option.toList, List.cons_append, List.nil_append, x319_732]
  rw [if_pos trivial]
  exact hc I2 J2 T2 h3
theorem op_32 (hn : sc.1 < 2 ^ 31) (hi : i + 6 ≤ sc.1) (hP : PairI Inv sc d 142 283 [some (.ref 0), some (.int (sc.2 (i + 1)))] [some (.ref 89), some (.int (sc.2 (i + 1)))]) (hI : Inv I J T) (hc : ∀ I2 J2 T2, Inv I2 J2 T2 → Rn sc (d + 1) 319 1102 [some (.ref 1000), some (.ref 0), some (.ref 89), some (.int (nI i))] [] (K0, I2, J2, R1 T2) Q) : Rn sc (d + 1) 319 735 [some (.ref 1000), some (.ref 0), some (.ref 89), some (.int (nI i))] [] (K0, I, J, R1 T) Q := by
  simp (disch := first | assumption | omega) only [x319_735, x319_736, x319_737, x319_738, x319_739, x319_740, x319_741, nI_add]
  refine Rn_mono (hP I J T hI) ?_
  rintro r s1 ⟨x, rfl, I1, J1, T1, rfl, h2⟩
  simp (disch := first | assumption | omega) only [Option.toList, List.cons_append, List.nil_append, x319_742, x319_743, x319_744, x319_745, x319_746, x319_747, x319_748, nI_add]
  refine Rn_mono h2 ?_
  rintro r s2 ⟨rfl, I2, J2, T2, rfl, h3⟩
  simp only [Option.toList, List.cons_append, List.nil_append, x319_749]
  rw [if_pos trivial]
  exact hc I2 J2 T2 h3
theorem op_33 (hn : sc.1 < 2 ^ 31) (hi : i + 6 ≤ sc.1) (hP : PairI Inv sc d 143 284 [some (.ref 0)] [some (.ref 89)]) (hI : Inv I J T) (hc : ∀ I2 J2 T2, Inv I2 J2 T2 → Rn sc (d + 1) 319 1102 [some (.ref 1000), some (.ref 0), some (.ref 89), some (.int (nI i))] [] (K0, I2, J2, R1 T2) Q) : Rn sc (d + 1) 319 752 [some (.ref 1000), some (.ref 0), some (.ref 89), some (.int (nI i))] [] (K0, I, J, R1 T) Q := by
  simp (disch := first | assumption | omega) only [x319_752, x319_753, nI_add]
  refine Rn_mono (hP I J T hI) ?_
  rintro r s1 ⟨x, rfl, I1, J1, T1, rfl, h2⟩
  simp (disch := first | assumption | omega) only [Option.toList, List.cons_append, List.nil_append, x319_754, x319_755, nI_add]
  refine Rn_mono h2 ?_
  rintro r s2 ⟨rfl, I2, J2, T2, rfl, h3⟩
  simp only [Option.toList, List.cons_append, List.nil_append, x319_756]
  rw [if_pos trivial]
  exact hc I2 J2 T2 h3
theorem op_34 (hn : sc.1 < 2 ^ 31) (hi : i + 6 ≤ sc.1) (hP : ∀ z, z < 2 → PairI Inv sc d 144 285 [some (.ref 0), some (.int (sc.2 (i + 1))), some (.int (sc.2 (i + 2))), some (.int (nI z)), none] [some (.ref 89), some (.int (sc.2 (i + 1))), some (.int (sc.2 (i + 2))), some (.int (nI z)), none, none]) (hI : Inv I J T) (hc : ∀ I2 J2 T2, Inv I2 J2 T2 → Rn sc (d + 1) 319 1102 [some (.ref 1000), some (.ref 0), some (.ref 89), some (.int (nI i))] [] (K0, I2, J2, R1 T2) Q) : Rn sc (d + 1) 319 759 [some (.ref 1000), some (.ref 0), some (.ref 89), some (.int (nI i))] [] (K0, I, J, R1 T) Q := by
  by_cases hz : sc.2 (i + 3) = 0
  · skip
    simp (disch := first | assumption | omega) only [x319_759, x319_760, x319_761, x319_762, x319_763, x319_764, x319_765, x319_766, x319_767, x319_768, x319_769, x319_770, x319_771, x319_772, x319_773, x319_774, x319_775, x319_776, x319_777, x319_778, x319_779, nI_add, if_pos hz]
    refine Rn_mono ((hP 0 (by omega)) I J T hI) ?_
    rintro r s1 ⟨x, rfl, I1, J1, T1, rfl, h2⟩
    simp (disch := first | assumption | omega) only [Option.toList, List.cons_append, List.nil_append, x319_780, x319_781, x319_782, x319_783, x319_784, x319_785, x319_786, x319_787, x319_788, x319_789, x319_790, x319_791, x319_792, x319_793, x319_794, x319_795, x319_796, x319_797, x319_798, x319_799, x319_800, nI_add, if_pos hz]
    refine Rn_mono h2 ?_
    rintro r s2 ⟨rfl, I2, J2, T2, rfl, h3⟩
    simp only [Option.toList, List.cons_append, List.nil_append, x319_801]
    rw [if_pos trivial]
    exact hc I2 J2 T2 h3
  · skip
    simp (disch := first | assumption | omega) only [x319_759, x319_760, x319_761, x319_762, x319_763, x319_764, x319_765, x319_766, x319_767, x319_768, x319_769, x319_770, x319_771, x319_772, x319_773, x319_774, x319_775, x319_776, x319_777, x319_778, x319_779, nI_add, if_neg hz]
    refine Rn_mono ((hP 1 (by omega)) I J T hI) ?_
    rintro r s1 ⟨x, rfl, I1, J1, T1, rfl, h2⟩
    simp (disch := first | assumption | omega) only [Option.toList, List.cons_append, List.nil_append, x319_780, x319_781, x319_782, x319_783, x319_784, x319_785, x319_786, x319_787, x319_788, x319_789, x319_790, x319_791, x319_792, x319_793, x319_794, x319_795, x319_796, x319_797, x319_798, x319_799, x319_800, nI_add, if_neg hz]
    refine Rn_mono h2 ?_
    rintro r s2 ⟨rfl, I2, J2, T2, rfl, h3⟩
    simp only [Option.toList, List.cons_append, List.nil_append, x319_801]
    rw [if_pos trivial]
    exact hc I2 J2 T2 h3
theorem op_35 (hn : sc.1 < 2 ^ 31) (hi : i + 6 ≤ sc.1) (hP : ∀ z, z < 2 → PairI Inv sc d 145 287 [some (.ref 0), some (.int (sc.2 (i + 1))), some (.int (nI z)), none] [some (.ref 89), some (.int (sc.2 (i + 1))), some (.int (nI z)), none, none]) (hI : Inv I J T) (hc : ∀ I2 J2 T2, Inv I2 J2 T2 → Rn sc (d + 1) 319 1102 [some (.ref 1000), some (.ref 0), some (.ref 89), some (.int (nI i))] [] (K0, I2, J2, R1 T2) Q) : Rn sc (d + 1) 319 804 [some (.ref 1000), some (.ref 0), some (.ref 89), some (.int (nI i))] [] (K0, I, J, R1 T) Q := by
  by_cases hz : sc.2 (i + 2) = 0
  · skip
    simp (disch := first | assumption | omega) only [x319_804, x319_805, x319_806, x319_807, x319_808, x319_809, x319_810, x319_811, x319_812, x319_813, x319_814, x319_815, x319_816, x319_817, x319_818, x319_819, nI_add, if_pos hz]
    refine Rn_mono ((hP 0 (by omega)) I J T hI) ?_
    rintro r s1 ⟨x, rfl, I1, J1, T1, rfl, h2⟩
    simp (disch := first | assumption | omega) only [Option.toList, List.cons_append, List.nil_append, x319_820, x319_821, x319_822, x319_823, x319_824, x319_825, x319_826, x319_827, x319_828, x319_829, x319_830, x319_831, x319_832, x319_833, x319_834, x319_835, nI_add, if_pos hz]
    refine Rn_mono h2 ?_
    rintro r s2 ⟨rfl, I2, J2, T2, rfl, h3⟩
    simp only [Option.toList, List.cons_append, List.nil_append, x319_836]
    rw [if_pos trivial]
    exact hc I2 J2 T2 h3
  · skip
    simp (disch := first | assumption | omega) only [x319_804, x319_805, x319_806, x319_807, x319_808, x319_809, x319_810, x319_811, x319_812, x319_813, x319_814, x319_815, x319_816, x319_817, x319_818, x319_819, nI_add, if_neg hz]
    refine Rn_mono ((hP 1 (by omega)) I J T hI) ?_
    rintro r s1 ⟨x, rfl, I1, J1, T1, rfl, h2⟩
    simp (disch := first | assumption | omega) only [Option.toList, List.cons_append, List.nil_append, x319_820, x319_821, x319_822, x319_823, x319_824, x319_825, x319_826, x319_827, x319_828, x319_829, x319_830, x319_831, x319_832, x319_833, x319_834, x319_835, nI_add, if_neg hz]
    refine Rn_mono h2 ?_
    rintro r s2 ⟨rfl, I2, J2, T2, rfl, h3⟩
    simp only [Option.toList, List.cons_append, List.nil_append, x319_836]
    rw [if_pos trivial]
    exact hc I2 J2 T2 h3
theorem op_36 (hn : sc.1 < 2 ^ 31) (hi : i + 6 ≤ sc.1) (hP : ∀ z, z < 2 → PairI Inv sc d 146 277 [some (.ref 0), some (.int (sc.2 (i + 1))), some (.int (sc.2 (i + 2))), some (.int (nI z)), none, none, none] [some (.ref 89), some (.int (sc.2 (i + 1))), some (.int (sc.2 (i + 2))), some (.int (nI z)), none, none, none]) (hI : Inv I J T) (hc : ∀ I2 J2 T2, Inv I2 J2 T2 → Rn sc (d + 1) 319 1102 [some (.ref 1000), some (.ref 0), some (.ref 89), some (.int (nI i))] [] (K0, I2, J2, R1 T2) Q) : Rn sc (d + 1) 319 839 [some (.ref 1000), some (.ref 0), some (.ref 89), some (.int (nI i))] [] (K0, I, J, R1 T) Q := by
  by_cases hz : sc.2 (i + 3) = 0
  · skip
    simp (disch := first | assumption | omega) only [x319_839, x319_840, x319_841, x319_842, x319_843, x319_844, x319_845, x319_846, x319_847, x319_848, x319_849, x319_850, x319_851, x319_852, x319_853, x319_854, x319_855, x319_856, x319_857, x319_858, x319_859, nI_add, if_pos hz]
    refine Rn_mono ((hP 0 (by omega)) I J T hI) ?_
    rintro r s1 ⟨x, rfl, I1, J1, T1, rfl, h2⟩
    simp (disch := first | assumption | omega) only [Option.toList, List.cons_append, List.nil_append, x319_860, x319_861, x319_862, x319_863, x319_864, x319_865, x319_866, x319_867, x319_868, x319_869, x319_870, x319_871, x319_872, x319_873, x319_874, x319_875, x319_876, x319_877, x319_878, x319_879, x319_880, nI_add, if_pos hz]
    refine Rn_mono h2 ?_
    rintro r s2 ⟨rfl, I2, J2, T2, rfl, h3⟩
    simp only [Option.toList, List.cons_append, List.nil_append, x319_881]
    rw [if_pos trivial]
    exact hc I2 J2 T2 h3
  · skip
    simp (disch := first | assumption | omega) only [x319_839, x319_840, x319_841, x319_842, x319_843, x319_844, x319_845, x319_846, x319_847, x319_848, x319_849, x319_850, x319_851, x319_852, x319_853, x319_854, x319_855, x319_856, x319_857, x319_858, x319_859, nI_add, if_neg hz]
    refine Rn_mono ((hP 1 (by omega)) I J T hI) ?_
    rintro r s1 ⟨x, rfl, I1, J1, T1, rfl, h2⟩
    simp (disch := first | assumption | omega) only [Option.toList, List.cons_append, List.nil_append, x319_860, x319_861, x319_862, x319_863, x319_864, x319_865, x319_866, x319_867, x319_868, x319_869, x319_870, x319_871, x319_872, x319_873, x319_874, x319_875, x319_876, x319_877, x319_878, x319_879, x319_880, nI_add, if_neg hz]
    refine Rn_mono h2 ?_
    rintro r s2 ⟨rfl, I2, J2, T2, rfl, h3⟩
    simp only [Option.toList, List.cons_append, List.nil_append, x319_881]
    rw [if_pos trivial]
    exact hc I2 J2 T2 h3
theorem op_37 (hn : sc.1 < 2 ^ 31) (hi : i + 6 ≤ sc.1) (hP : PairI Inv sc d 147 288 [some (.ref 0), some (.int (sc.2 (i + 1))), some (.int (sc.2 (i + 2)))] [some (.ref 89), some (.int (sc.2 (i + 1))), some (.int (sc.2 (i + 2)))]) (hI : Inv I J T) (hc : ∀ I2 J2 T2, Inv I2 J2 T2 → Rn sc (d + 1) 319 1102 [some (.ref 1000), some (.ref 0), some (.ref 89), some (.int (nI i))] [] (K0, I2, J2, R1 T2) Q) : Rn sc (d + 1) 319 884 [some (.ref 1000), some (.ref 0), some (.ref 89), some (.int (nI i))] [] (K0, I, J, R1 T) Q := by
  simp (disch := first | assumption | omega) only [x319_884, x319_885, x319_886, x319_887, x319_888, x319_889, x319_890, x319_891, x319_892, x319_893, x319_894, x319_895, nI_add]
  refine Rn_mono (hP I J T hI) ?_
  rintro r s1 ⟨x, rfl, I1, J1, T1, rfl, h2⟩
  simp (disch := first | assumption | omega) only [Option.toList, List.cons_append, List.nil_append, x319_896, x319_897, x319_898, x319_899, x319_900, x319_901, x319_902, x319_903, x319_904, x319_905, x319_906, x319_907, nI_add]
  refine Rn_mono h2 ?_
  rintro r s2 ⟨rfl, I2, J2, T2, rfl, h3⟩
  simp only [Option.toList, List.cons_append, List.nil_append, x319_908]
  rw [if_pos trivial]
  exact hc I2 J2 T2 h3
theorem op_38 (hn : sc.1 < 2 ^ 31) (hi : i + 6 ≤ sc.1) (hP : PairI Inv sc d 148 294 [some (.ref 0), some (.int (sc.2 (i + 1)))] [some (.ref 89), some (.int (sc.2 (i + 1)))]) (hI : Inv I J T) (hc : ∀ I2 J2 T2, Inv I2 J2 T2 → Rn sc (d + 1) 319 1102 [some (.ref 1000), some (.ref 0), some (.ref 89), some (.int (nI i))] [] (K0, I2, J2, R1 T2) Q) : Rn sc (d + 1) 319 911 [some (.ref 1000), some (.ref 0), some (.ref 89), some (.int (nI i))] [] (K0, I, J, R1 T) Q := by
  simp (disch := first | assumption | omega) only [x319_911, x319_912, x319_913, x319_914, x319_915, x319_916, x319_917, nI_add]
  refine Rn_mono (hP I J T hI) ?_
  rintro r s1 ⟨x, rfl, I1, J1, T1, rfl, h2⟩
  simp (disch := first | assumption | omega) only [Option.toList, List.cons_append, List.nil_append, x319_918, x319_919, x319_920, x319_921, x319_922, x319_923, x319_924, nI_add]
  refine Rn_mono h2 ?_
  rintro r s2 ⟨rfl, I2, J2, T2, rfl, h3⟩
  simp only [Option.toList, List.cons_append, List.nil_append, x319_925]
  rw [if_pos trivial]
  exact hc I2 J2 T2 h3
theorem op_39 (hn : sc.1 < 2 ^ 31) (hi : i + 6 ≤ sc.1) (hP : PairI Inv sc d 149 291 [some (.ref 0), some (.int (sc.2 (i + 1)))] [some (.ref 89), some (.int (sc.2 (i + 1)))]) (hI : Inv I J T) (hc : ∀ I2 J2 T2, Inv I2 J2 T2 → Rn sc (d + 1) 319 1102 [some (.ref 1000), some (.ref 0), some (.ref 89), some (.int (nI i))] [] (K0, I2, J2, R1 T2) Q) : Rn sc (d + 1) 319 928 [some (.ref 1000), some (.ref 0), some (.ref 89), some (.int (nI i))] [] (K0, I, J, R1 T) Q := by
  simp (disch := first | assumption | omega) only [x319_928, x319_929, x319_930, x319_931, x319_932, x319_933, x319_934, nI_add]
  refine Rn_mono (hP I J T hI) ?_
  rintro r s1 ⟨x, rfl, I1, J1, T1, rfl, h2⟩
  simp (disch := first | assumption | omega) only [Option.toList, List.cons_append, List.nil_append, x319_935, x319_936, x319_937, x319_938, x319_939, x319_940, x319_941, nI_add]
  refine Rn_mono h2 ?_
  rintro r s2 ⟨rfl, I2, J2, T2, rfl, h3⟩
  simp only [Option.toList, List.cons_append, List.nil_append, x319_942]
  rw [if_pos trivial]
  exact hc I2 J2 T2 h3
theorem op_40 (hn : sc.1 < 2 ^ 31) (hi : i + 6 ≤ sc.1) (hP : PairI Inv sc d 150 296 [some (.ref 0), some (.int (sc.2 (i + 1)))] [some (.ref 89), some (.int (sc.2 (i + 1))), none, none, none, none, none]) (hI : Inv I J T) (hc : ∀ I2 J2 T2, Inv I2 J2 T2 → Rn sc (d + 1) 319 1102 [some (.ref 1000), some (.ref 0), some (.ref 89), some (.int (nI i))] [] (K0, I2, J2, R1 T2) Q) : Rn sc (d + 1) 319 945 [some (.ref 1000), some (.ref 0), some (.ref 89), some (.int (nI i))] [] (K0, I, J, R1 T) Q := by
  simp (disch := first | assumption | omega) only [x319_945, x319_946, x319_947, x319_948, x319_949, x319_950, x319_951, nI_add]
  refine Rn_mono (hP I J T hI) ?_
  rintro r s1 ⟨x, rfl, I1, J1, T1, rfl, h2⟩
  simp (disch := first | assumption | omega) only [Option.toList, List.cons_append, List.nil_append, x319_952, x319_953, x319_954, x319_955, x319_956, x319_957, x319_958, nI_add]
  refine Rn_mono h2 ?_
  rintro r s2 ⟨rfl, I2, J2, T2, rfl, h3⟩
  simp only [Option.toList, List.cons_append, List.nil_append, x319_959]
  rw [if_pos trivial]
  exact hc I2 J2 T2 h3
theorem op_41 (hn : sc.1 < 2 ^ 31) (hi : i + 6 ≤ sc.1) (hP : PairI Inv sc d 151 297 [some (.ref 0), some (.int (sc.2 (i + 1)))] [some (.ref 89), some (.int (sc.2 (i + 1)))]) (hI : Inv I J T) (hc : ∀ I2 J2 T2, Inv I2 J2 T2 → Rn sc (d + 1) 319 1102 [some (.ref 1000), some (.ref 0), some (.ref 89), some (.int (nI i))] [] (K0, I2, J2, R1 T2) Q) : Rn sc (d + 1) 319 962 [some (.ref 1000), some (.ref 0), some (.ref 89), some (.int (nI i))] [] (K0, I, J, R1 T) Q := by
  simp (disch := first | assumption | omega) only [x319_962, x319_963, x319_964, x319_965, x319_966, x319_967, x319_968, nI_add]
  refine Rn_mono (hP I J T hI) ?_
  rintro r s1 ⟨x, rfl, I1, J1, T1, rfl, h2⟩
  simp (disch := first | assumption | omega) only [Option.toList, List.cons_append, List.nil_append, x319_969, x319_970, x319_971, x319_972, x319_973, x319_974, x319_975, nI_add]
  refine Rn_mono h2 ?_
  rintro r s2 ⟨rfl, I2, J2, T2, rfl, h3⟩
  simp only [Option.toList, List.cons_append, List.nil_append, x319_976]
  rw [if_pos trivial]
  exact hc I2 J2 T2 h3
theorem op_42 (hn : sc.1 < 2 ^ 31) (hi : i + 6 ≤ sc.1) (hP : PairI Inv sc d 152 300 [some (.ref 0), some (.int (sc.2 (i + 1))), none] [some (.ref 89), some (.int (sc.2 (i + 1))), none]) (hI : Inv I J T) (hc : ∀ I2 J2 T2, Inv I2 J2 T2 → Rn sc (d + 1) 319 1102 [some (.ref 1000), some (.ref 0), some (.ref 89), some (.int (nI i))] [] (K0, I2, J2, R1 T2) Q) : Rn sc (d + 1) 319 979 [some (.ref 1000), some (.ref 0), some (.ref 89), some (.int (nI i))] [] (K0, I, J, R1 T) Q := by
  simp (disch := first | assumption | omega) only [x319_979, x319_980, x319_981, x319_982, x319_983, x319_984, x319_985, nI_add]
  refine Rn_mono (hP I J T hI) ?_
  rintro r s1 ⟨x, rfl, I1, J1, T1, rfl, h2⟩
  simp (disch := first | assumption | omega) only [Option.toList, List.cons_append, List.nil_append, x319_986, x319_987, x319_988, x319_989, x319_990, x319_991, x319_992, nI_add]
  refine Rn_mono h2 ?_
  rintro r s2 ⟨rfl, I2, J2, T2, rfl, h3⟩
  simp only [Option.toList, List.cons_append, List.nil_append, x319_993]
  rw [if_pos trivial]
  exact hc I2 J2 T2 h3
theorem op_43 (hn : sc.1 < 2 ^ 31) (hi : i + 6 ≤ sc.1) (hP : PairI Inv sc d 153 301 [some (.ref 0), some (.int (sc.2 (i + 1))), some (.int (sc.2 (i + 2))), some (.int (sc.2 (i + 3)))] [some (.ref 89), some (.int (sc.2 (i + 1))), some (.int (sc.2 (i + 2))), some (.int (sc.2 (i + 3))), none]) (hI : Inv I J T) (hc : ∀ I2 J2 T2, Inv I2 J2 T2 → Rn sc (d + 1) 319 1102 [some (.ref 1000), some (.ref 0), some (.ref 89), some (.int (nI i))] [] (K0, I2, J2, R1 T2) Q) : Rn sc (d + 1) 319 996 [some (.ref 1000), some (.ref 0), some (.ref 89), some (.int (nI i))] [] (K0, I, J, R1 T) Q := by
  simp (disch := first | assumption | omega) only [x319_996, x319_997, x319_998, x319_999, x319_1000, x319_1001, x319_1002, x319_1003, x319_1004, x319_1005, x319_1006, x319_1007, x319_1008, x319_1009, x319_1010, x319_1011, x319_1012, nI_add]
  refine Rn_mono (hP I J T hI) ?_
  rintro r s1 ⟨x, rfl, I1, J1, T1, rfl, h2⟩
  simp (disch := first | assumption | omega) only [Option.toList, List.cons_append, List.nil_append, x319_1013, x319_1014, x319_1015, x319_1016, x319_1017, x319_1018, x319_1019, x319_1020, x319_1021, x319_1022, x319_1023, x319_1024, x319_1025, x319_1026, x319_1027, x319_1028, x319_1029, nI_add]
  refine Rn_mono h2 ?_
  rintro r s2 ⟨rfl, I2, J2, T2, rfl, h3⟩
  simp only [Option.toList, List.cons_append, List.nil_append, x319_1030]
  rw [if_pos trivial]
  exact hc I2 J2 T2 h3
theorem op_44 (hn : sc.1 < 2 ^ 31) (hi : i + 6 ≤ sc.1) (hP : PairI Inv sc d 154 302 [some (.ref 0), none, none] [some (.ref 89), none, none, none, none]) (hI : Inv I J T) (hc : ∀ I2 J2 T2, Inv I2 J2 T2 → Rn sc (d + 1) 319 1102 [some (.ref 1000), some (.ref 0), some (.ref 89), some (.int (nI i))] [] (K0, I2, J2, R1 T2) Q) : Rn sc (d + 1) 319 1033 [some (.ref 1000), some (.ref 0), some (.ref 89), some (.int (nI i))] [] (K0, I, J, R1 T) Q := by
  simp (disch := first | assumption | omega) only [x319_1033, x319_1034, nI_add]
  refine Rn_mono (hP I J T hI) ?_
  rintro r s1 ⟨x, rfl, I1, J1, T1, rfl, h2⟩
  simp (disch := first | assumption | omega) only [Option.toList, List.cons_append, List.nil_append, x319_1035, x319_1036, nI_add]
  refine Rn_mono h2 ?_
  rintro r s2 ⟨rfl, I2, J2, T2, rfl, h3⟩
  simp only [Option.toList, List.cons_append, List.nil_append, x319_1037]
  rw [if_pos trivial]
  exact hc I2 J2 T2 h3
theorem op_45 (hn : sc.1 < 2 ^ 31) (hi : i + 6 ≤ sc.1) (hP : PairI Inv sc d 156 261 [some (.ref 0), none, none, none, none] [some (.ref 89), none, none]) (hI : Inv I J T) (hc : ∀ I2 J2 T2, Inv I2 J2 T2 → Rn sc (d + 1) 319 1102 [some (.ref 1000), some (.ref 0), some (.ref 89), some (.int (nI i))] [] (K0, I2, J2, R1 T2) Q) : Rn sc (d + 1) 319 1040 [some (.ref 1000), some (.ref 0), some (.ref 89), some (.int (nI i))] [] (K0, I, J, R1 T) Q := by
  simp (disch := first | assumption | omega) only [x319_1040, x319_1041, nI_add]
  refine Rn_mono (hP I J T hI) ?_
  rintro r s1 ⟨x, rfl, I1, J1, T1, rfl, h2⟩
  simp (disch := first | assumption | omega) only [Option.toList, List.cons_append, List.nil_append, x319_1042, x319_1043, nI_add]
  refine Rn_mono h2 ?_
  rintro r s2 ⟨rfl, I2, J2, T2, rfl, h3⟩
  simp only [Option.toList, List.cons_append, List.nil_append, x319_1044]
  rw [if_pos trivial]
  exact hc I2 J2 T2 h3
theorem op_46 (hn : sc.1 < 2 ^ 31) (hi : i + 6 ≤ sc.1) (hP : PairI Inv sc d 158 262 [some (.ref 0), none, none, none] [some (.ref 89), none, none]) (hI : Inv I J T) (hc : ∀ I2 J2 T2, Inv I2 J2 T2 → Rn sc (d + 1) 319 1102 [some (.ref 1000), some (.ref 0), some (.ref 89), some (.int (nI i))] [] (K0, I2, J2, R1 T2) Q) : Rn sc (d + 1) 319 1047 [some (.ref 1000), some (.ref 0), some (.ref 89), some (.int (nI i))] [] (K0, I, J, R1 T) Q := by
  simp (disch := first | assumption | omega) only [x319_1047, x319_1048, nI_add]
  refine Rn_mono (hP I J T hI) ?_
  rintro r s1 ⟨x, rfl, I1, J1, T1, rfl, h2⟩
  simp (disch := first | assumption | omega) only [Option.toList, List.cons_append, List.nil_append, x319_1049, x319_1050, nI_add]
  refine Rn_mono h2 ?_
  rintro r s2 ⟨rfl, I2, J2, T2, rfl, h3⟩
  simp only [Option.toList, List.cons_append, List.nil_append, x319_1051]
  rw [if_pos trivial]
  exact hc I2 J2 T2 h3
theorem op_47 (hn : sc.1 < 2 ^ 31) (hi : i + 6 ≤ sc.1) (hP : PairI Inv sc d 159 259 [some (.ref 0), some (.int (sc.2 (i + 1))), none, none] [some (.ref 89), some (.int (sc.2 (i + 1))), none, none]) (hI : Inv I J T) (hc : ∀ I2 J2 T2, Inv I2 J2 T2 → Rn sc (d + 1) 319 1102 [some (.ref 1000), some (.ref 0), some (.ref 89), some (.int (nI i))] [] (K0, I2, J2, R1 T2) Q) : Rn sc (d + 1) 319 1054 [some (.ref 1000), some (.ref 0), some (.ref 89), some (.int (nI i))] [] (K0, I, J, R1 T) Q := by
  simp (disch := first | assumption | omega) only [x319_1054, x319_1055, x319_1056, x319_1057, x319_1058, x319_1059, x319_1060, nI_add]
  refine Rn_mono (hP I J T hI) ?_
  rintro r s1 ⟨x, rfl, I1, J1, T1, rfl, h2⟩
  simp (disch := first | assumption | omega) only [Option.toList, List.cons_append, List.nil_append, x319_1061, x319_1062, x319_1063, x319_1064, x319_1065, x319_1066, x319_1067, nI_add]
  refine Rn_mono h2 ?_
  rintro r s2 ⟨rfl, I2, J2, T2, rfl, h3⟩
  simp only [Option.toList, List.cons_append, List.nil_append, x319_1068]
  rw [if_pos trivial]
  exact hc I2 J2 T2 h3
theorem op_48 (hn : sc.1 < 2 ^ 31) (hi : i + 6 ≤ sc.1) (hP : PairI Inv sc d 160 303 [some (.ref 0)] [some (.ref 89)]) (hI : Inv I J T) (hc : ∀ I2 J2 T2, Inv I2 J2 T2 → Rn sc (d + 1) 319 1102 [some (.ref 1000), some (.ref 0), some (.ref 89), some (.int (nI i))] [] (K0, I2, J2, R1 T2) Q) : Rn sc (d + 1) 319 1071 [some (.ref 1000), some (.ref 0), some (.ref 89), some (.int (nI i))] [] (K0, I, J, R1 T) Q := by
  simp (disch := first | assumption | omega) only [x319_1071, x319_1072, nI_add]
  refine Rn_mono (hP I J T hI) ?_
  rintro r s1 ⟨x, rfl, I1, J1, T1, rfl, h2⟩
  simp (disch := first | assumption | omega) only [Option.toList, List.cons_append, List.nil_append, x319_1073, x319_1074, nI_add]
  refine Rn_mono h2 ?_
  rintro r s2 ⟨rfl, I2, J2, T2, rfl, h3⟩
  simp only [Option.toList, List.cons_append, List.nil_append, x319_1075]
  rw [if_pos trivial]
  exact hc I2 J2 T2 h3
theorem op_49 (hn : sc.1 < 2 ^ 31) (hi : i + 6 ≤ sc.1) (hP : PairI Inv sc d 161 304 [some (.ref 0)] [some (.ref 89)]) (hI : Inv I J T) (hc : ∀ I2 J2 T2, Inv I2 J2 T2 → Rn sc (d + 1) 319 1102 [some (.ref 1000), some (.ref 0), some (.ref 89), some (.int (nI i))] [] (K0, I2, J2, R1 T2) Q) : Rn sc (d + 1) 319 1078 [some (.ref 1000), some (.ref 0), some (.ref 89), some (.int (nI i))] [] (K0, I, J, R1 T) Q := by
  simp (disch := first | assumption | omega) only [x319_1078, x319_1079, nI_add]
  refine Rn_mono (hP I J T hI) ?_
  rintro r s1 ⟨x, rfl, I1, J1, T1, rfl, h2⟩
  simp (disch := first | assumption | omega) only [Option.toList, List.cons_append, List.nil_append, x319_1080, x319_1081, nI_add]
  refine Rn_mono h2 ?_
  rintro r s2 ⟨rfl, I2, J2, T2, rfl, h3⟩
  simp only [Option.toList, List.cons_append, List.nil_append, x319_1082]
  rw [if_pos trivial]
  exact hc I2 J2 T2 h3
theorem op_50 (hn : sc.1 < 2 ^ 31) (hi : i + 6 ≤ sc.1) (hP : PairI Inv sc d 162 305 [some (.ref 0), some (.int (sc.2 (i + 1)))] [some (.ref 89), some (.int (sc.2 (i + 1)))]) (hI : Inv I J T) (hc : ∀ I2 J2 T2, Inv I2 J2 T2 → Rn sc (d + 1) 319 1102 [some (.ref 1000), some (.ref 0), some (.ref 89), some (.int (nI i))] [] (K0, I2, J2, R1 T2) Q) : Rn sc (d + 1) 319 1085 [some (.ref 1000), some (.ref 0), some (.ref 89), some (.int (nI i))] [] (K0, I, J, R1 T) Q := by
  simp (disch := first | assumption | omega) only [x319_1085, x319_1086, x319_1087, x319_1088, x319_1089, x319_1090, x319_1091, nI_add]
  refine Rn_mono (hP I J T hI) ?_
  rintro r s1 ⟨x, rfl, I1, J1, T1, rfl, h2⟩
  simp (disch := first | assumption | omega) only [Option.toList, List.cons_append, List.nil_append, x319_1092, x319_1093, x319_1094, x319_1095, x319_1096, x319_1097, x319_1098, nI_add]
  refine Rn_mono h2 ?_
  rintro r s2 ⟨rfl, I2, J2, T2, rfl, h3⟩
  simp only [Option.toList, List.cons_append, List.nil_append, x319_1099]
  rw [if_pos trivial]
  exact hc I2 J2 T2 h3
end Ops
