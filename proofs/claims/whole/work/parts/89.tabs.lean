/-! all tables at once; what a place in the code says -/
def ZipP {α β : Type} (P : α → β → Prop) : List α → List β → Prop
  | [], _ => True
  | _ :: _, [] => False
  | a :: as, c :: cs => P a c ∧ ZipP P as cs
theorem ZipP_cons {α β : Type} {P : α → β → Prop} {a : α} {c : β} {as : List α} {cs : List β} (h : P a c) (t : ZipP P as cs) : ZipP P (a :: as) (c :: cs) := ⟨h, t⟩
theorem ZipP_at {α β : Type} {P : α → β → Prop} : ∀ (as : List α) (cs : List β) (i : Nat) (a : α), ZipP P as cs → nthO as i = some a → ∃ c, nthO cs i = some c ∧ P a c
  | [], _, i, a, _, h => by simp [nthO] at h
  | _ :: _, [], _, _, z, _ => z.elim
  | x :: as, c :: cs, 0, a, z, h => by
    cases h
    exact ⟨c, rfl, z.1⟩
  | x :: as, c :: cs, i + 1, a, z, h => ZipP_at as cs i a z.2 h
def PrOk (q : Mt × List Ea) (P : Nat × Nat × Nat × Nat × Nat) : Prop := ckA q.1 q.2 0 q.2 = true ∧ (P.1 ≠ 3 → mdB q.1 P = true) ∧ pcL q.2 0 = 0
set_option maxRecDepth 100000 in
set_option maxHeartbeats 4000000 in
theorem pr_all : ZipP PrOk prL mPl := by
  unfold prL mPl
  refine ZipP_cons ⟨ck_0, fun _ => md_0, rfl⟩ ?_
  refine ZipP_cons ⟨ck_1, fun _ => md_1, rfl⟩ ?_
  refine ZipP_cons ⟨ck_2, fun _ => md_2, rfl⟩ ?_
  refine ZipP_cons ⟨ck_3, fun _ => md_3, rfl⟩ ?_
  refine ZipP_cons ⟨ck_4, fun _ => md_4, rfl⟩ ?_
  refine ZipP_cons ⟨ck_5, fun _ => md_5, rfl⟩ ?_
  refine ZipP_cons ⟨ck_6, fun _ => md_6, rfl⟩ ?_
  refine ZipP_cons ⟨ck_7, fun _ => md_7, rfl⟩ ?_
  refine ZipP_cons ⟨ck_8, fun _ => md_8, rfl⟩ ?_
  refine ZipP_cons ⟨ck_9, fun _ => md_9, rfl⟩ ?_
  refine ZipP_cons ⟨ck_10, fun _ => md_10, rfl⟩ ?_
  refine ZipP_cons ⟨ck_11, fun _ => md_11, rfl⟩ ?_
  refine ZipP_cons ⟨ck_12, fun _ => md_12, rfl⟩ ?_
  refine ZipP_cons ⟨ck_13, fun _ => md_13, rfl⟩ ?_
  refine ZipP_cons ⟨ck_14, fun _ => md_14, rfl⟩ ?_
  refine ZipP_cons ⟨ck_15, fun _ => md_15, rfl⟩ ?_
  refine ZipP_cons ⟨ck_16, fun _ => md_16, rfl⟩ ?_
  refine ZipP_cons ⟨ck_17, fun _ => md_17, rfl⟩ ?_
  refine ZipP_cons ⟨ck_18, fun _ => md_18, rfl⟩ ?_
  refine ZipP_cons ⟨ck_19, fun _ => md_19, rfl⟩ ?_
  refine ZipP_cons ⟨ck_20, fun _ => md_20, rfl⟩ ?_
  refine ZipP_cons ⟨ck_21, fun _ => md_21, rfl⟩ ?_
  refine ZipP_cons ⟨ck_22, fun _ => md_22, rfl⟩ ?_
  refine ZipP_cons ⟨ck_23, fun _ => md_23, rfl⟩ ?_
  refine ZipP_cons ⟨ck_24, fun _ => md_24, rfl⟩ ?_
  refine ZipP_cons ⟨ck_25, fun _ => md_25, rfl⟩ ?_
  refine ZipP_cons ⟨ck_26, fun _ => md_26, rfl⟩ ?_
  refine ZipP_cons ⟨ck_27, fun _ => md_27, rfl⟩ ?_
  refine ZipP_cons ⟨ck_28, fun _ => md_28, rfl⟩ ?_
  refine ZipP_cons ⟨ck_29, fun _ => md_29, rfl⟩ ?_
  refine ZipP_cons ⟨ck_30, fun _ => md_30, rfl⟩ ?_
  refine ZipP_cons ⟨ck_31, fun _ => md_31, rfl⟩ ?_
  refine ZipP_cons ⟨ck_32, fun _ => md_32, rfl⟩ ?_
  refine ZipP_cons ⟨ck_33, fun _ => md_33, rfl⟩ ?_
  refine ZipP_cons ⟨ck_34, fun _ => md_34, rfl⟩ ?_
  refine ZipP_cons ⟨ck_35, fun _ => md_35, rfl⟩ ?_
  refine ZipP_cons ⟨ck_36, fun _ => md_36, rfl⟩ ?_
  refine ZipP_cons ⟨ck_37, fun _ => md_37, rfl⟩ ?_
  refine ZipP_cons ⟨ck_38, fun _ => md_38, rfl⟩ ?_
  refine ZipP_cons ⟨ck_39, fun _ => md_39, rfl⟩ ?_
  refine ZipP_cons ⟨ck_40, fun _ => md_40, rfl⟩ ?_
  refine ZipP_cons ⟨ck_41, fun _ => md_41, rfl⟩ ?_
  refine ZipP_cons ⟨ck_42, fun _ => md_42, rfl⟩ ?_
  refine ZipP_cons ⟨ck_43, fun _ => md_43, rfl⟩ ?_
  refine ZipP_cons ⟨ck_44, fun _ => md_44, rfl⟩ ?_
  refine ZipP_cons ⟨ck_45, fun _ => md_45, rfl⟩ ?_
  refine ZipP_cons ⟨ck_46, fun _ => md_46, rfl⟩ ?_
  refine ZipP_cons ⟨ck_47, fun _ => md_47, rfl⟩ ?_
  refine ZipP_cons ⟨ck_48, fun _ => md_48, rfl⟩ ?_
  refine ZipP_cons ⟨ck_49, fun _ => md_49, rfl⟩ ?_
  refine ZipP_cons ⟨ck_50, fun _ => md_50, rfl⟩ ?_
  refine ZipP_cons ⟨ck_51, fun _ => md_51, rfl⟩ ?_
  refine ZipP_cons ⟨ck_52, fun _ => md_52, rfl⟩ ?_
  refine ZipP_cons ⟨ck_53, fun _ => md_53, rfl⟩ ?_
  refine ZipP_cons ⟨ck_54, fun _ => md_54, rfl⟩ ?_
  refine ZipP_cons ⟨ck_55, fun _ => md_55, rfl⟩ ?_
  refine ZipP_cons ⟨ck_56, fun _ => md_56, rfl⟩ ?_
  refine ZipP_cons ⟨ck_57, fun _ => md_57, rfl⟩ ?_
  refine ZipP_cons ⟨ck_58, fun _ => md_58, rfl⟩ ?_
  refine ZipP_cons ⟨ck_59, fun _ => md_59, rfl⟩ ?_
  refine ZipP_cons ⟨ck_60, fun _ => md_60, rfl⟩ ?_
  refine ZipP_cons ⟨ck_61, fun _ => md_61, rfl⟩ ?_
  refine ZipP_cons ⟨ck_62, fun _ => md_62, rfl⟩ ?_
  refine ZipP_cons ⟨ck_63, fun _ => md_63, rfl⟩ ?_
  refine ZipP_cons ⟨ck_64, fun _ => md_64, rfl⟩ ?_
  refine ZipP_cons ⟨ck_65, fun _ => md_65, rfl⟩ ?_
  refine ZipP_cons ⟨ck_66, fun _ => md_66, rfl⟩ ?_
  refine ZipP_cons ⟨ck_67, fun _ => md_67, rfl⟩ ?_
  refine ZipP_cons ⟨ck_68, fun _ => md_68, rfl⟩ ?_
  refine ZipP_cons ⟨ck_69, fun _ => md_69, rfl⟩ ?_
  refine ZipP_cons ⟨ck_70, fun _ => md_70, rfl⟩ ?_
  refine ZipP_cons ⟨ck_71, fun _ => md_71, rfl⟩ ?_
  refine ZipP_cons ⟨ck_72, fun _ => md_72, rfl⟩ ?_
  refine ZipP_cons ⟨ck_73, fun _ => md_73, rfl⟩ ?_
  refine ZipP_cons ⟨ck_74, fun _ => md_74, rfl⟩ ?_
  refine ZipP_cons ⟨ck_75, fun _ => md_75, rfl⟩ ?_
  refine ZipP_cons ⟨ck_76, fun _ => md_76, rfl⟩ ?_
  refine ZipP_cons ⟨ck_77, fun _ => md_77, rfl⟩ ?_
  refine ZipP_cons ⟨ck_78, fun _ => md_78, rfl⟩ ?_
  refine ZipP_cons ⟨ck_79, fun _ => md_79, rfl⟩ ?_
  refine ZipP_cons ⟨ck_80, fun _ => md_80, rfl⟩ ?_
  refine ZipP_cons ⟨ck_81, fun _ => md_81, rfl⟩ ?_
  refine ZipP_cons ⟨ck_82, fun _ => md_82, rfl⟩ ?_
  refine ZipP_cons ⟨ck_83, fun _ => md_83, rfl⟩ ?_
  refine ZipP_cons ⟨ck_84, fun _ => md_84, rfl⟩ ?_
  refine ZipP_cons ⟨ck_85, fun _ => md_85, rfl⟩ ?_
  refine ZipP_cons ⟨ck_86, fun _ => md_86, rfl⟩ ?_
  refine ZipP_cons ⟨ck_87, fun _ => md_87, rfl⟩ ?_
  refine ZipP_cons ⟨ck_88, fun _ => md_88, rfl⟩ ?_
  refine ZipP_cons ⟨ck_89, fun _ => md_89, rfl⟩ ?_
  refine ZipP_cons ⟨ck_90, fun _ => md_90, rfl⟩ ?_
  refine ZipP_cons ⟨ck_91, fun _ => md_91, rfl⟩ ?_
  refine ZipP_cons ⟨ck_92, fun _ => md_92, rfl⟩ ?_
  refine ZipP_cons ⟨ck_93, fun _ => md_93, rfl⟩ ?_
  refine ZipP_cons ⟨ck_94, fun _ => md_94, rfl⟩ ?_
  refine ZipP_cons ⟨ck_95, fun _ => md_95, rfl⟩ ?_
  refine ZipP_cons ⟨ck_96, fun _ => md_96, rfl⟩ ?_
  refine ZipP_cons ⟨ck_97, fun _ => md_97, rfl⟩ ?_
  refine ZipP_cons ⟨ck_98, fun _ => md_98, rfl⟩ ?_
  refine ZipP_cons ⟨ck_99, fun _ => md_99, rfl⟩ ?_
  refine ZipP_cons ⟨ck_100, fun _ => md_100, rfl⟩ ?_
  refine ZipP_cons ⟨ck_101, fun _ => md_101, rfl⟩ ?_
  refine ZipP_cons ⟨ck_102, fun _ => md_102, rfl⟩ ?_
  refine ZipP_cons ⟨ck_103, fun _ => md_103, rfl⟩ ?_
  refine ZipP_cons ⟨ck_104, fun _ => md_104, rfl⟩ ?_
  refine ZipP_cons ⟨ck_105, fun _ => md_105, rfl⟩ ?_
  refine ZipP_cons ⟨ck_106, fun _ => md_106, rfl⟩ ?_
  refine ZipP_cons ⟨ck_107, fun _ => md_107, rfl⟩ ?_
  refine ZipP_cons ⟨ck_108, fun _ => md_108, rfl⟩ ?_
  refine ZipP_cons ⟨ck_109, fun _ => md_109, rfl⟩ ?_
  refine ZipP_cons ⟨ck_110, fun _ => md_110, rfl⟩ ?_
  refine ZipP_cons ⟨ck_111, fun _ => md_111, rfl⟩ ?_
  refine ZipP_cons ⟨ck_112, fun _ => md_112, rfl⟩ ?_
  refine ZipP_cons ⟨ck_113, fun _ => md_113, rfl⟩ ?_
  refine ZipP_cons ⟨ck_114, fun _ => md_114, rfl⟩ ?_
  refine ZipP_cons ⟨ck_115, fun _ => md_115, rfl⟩ ?_
  refine ZipP_cons ⟨ck_116, fun _ => md_116, rfl⟩ ?_
  refine ZipP_cons ⟨ck_117, fun _ => md_117, rfl⟩ ?_
  refine ZipP_cons ⟨ck_118, fun _ => md_118, rfl⟩ ?_
  refine ZipP_cons ⟨ck_119, fun _ => md_119, rfl⟩ ?_
  refine ZipP_cons ⟨ck_120, fun _ => md_120, rfl⟩ ?_
  refine ZipP_cons ⟨ck_121, fun _ => md_121, rfl⟩ ?_
  refine ZipP_cons ⟨ck_122, fun _ => md_122, rfl⟩ ?_
  refine ZipP_cons ⟨ck_123, fun _ => md_123, rfl⟩ ?_
  refine ZipP_cons ⟨ck_124, fun _ => md_124, rfl⟩ ?_
  refine ZipP_cons ⟨ck_125, fun _ => md_125, rfl⟩ ?_
  refine ZipP_cons ⟨ck_126, fun _ => md_126, rfl⟩ ?_
  refine ZipP_cons ⟨ck_127, fun _ => md_127, rfl⟩ ?_
  refine ZipP_cons ⟨ck_128, fun _ => md_128, rfl⟩ ?_
  refine ZipP_cons ⟨ck_129, fun _ => md_129, rfl⟩ ?_
  refine ZipP_cons ⟨ck_130, fun _ => md_130, rfl⟩ ?_
  refine ZipP_cons ⟨ck_131, fun _ => md_131, rfl⟩ ?_
  refine ZipP_cons ⟨ck_132, fun _ => md_132, rfl⟩ ?_
  refine ZipP_cons ⟨ck_133, fun _ => md_133, rfl⟩ ?_
  refine ZipP_cons ⟨ck_134, fun _ => md_134, rfl⟩ ?_
  refine ZipP_cons ⟨ck_135, fun _ => md_135, rfl⟩ ?_
  refine ZipP_cons ⟨ck_136, fun _ => md_136, rfl⟩ ?_
  refine ZipP_cons ⟨ck_137, fun _ => md_137, rfl⟩ ?_
  refine ZipP_cons ⟨ck_138, fun _ => md_138, rfl⟩ ?_
  refine ZipP_cons ⟨ck_139, fun _ => md_139, rfl⟩ ?_
  refine ZipP_cons ⟨ck_140, fun _ => md_140, rfl⟩ ?_
  refine ZipP_cons ⟨ck_141, fun _ => md_141, rfl⟩ ?_
  refine ZipP_cons ⟨ck_142, fun _ => md_142, rfl⟩ ?_
  refine ZipP_cons ⟨ck_143, fun _ => md_143, rfl⟩ ?_
  refine ZipP_cons ⟨ck_144, fun _ => md_144, rfl⟩ ?_
  refine ZipP_cons ⟨ck_145, fun _ => md_145, rfl⟩ ?_
  refine ZipP_cons ⟨ck_146, fun _ => md_146, rfl⟩ ?_
  refine ZipP_cons ⟨ck_147, fun _ => md_147, rfl⟩ ?_
  refine ZipP_cons ⟨ck_148, fun _ => md_148, rfl⟩ ?_
  refine ZipP_cons ⟨ck_149, fun _ => md_149, rfl⟩ ?_
  refine ZipP_cons ⟨ck_150, fun _ => md_150, rfl⟩ ?_
  refine ZipP_cons ⟨ck_151, fun _ => md_151, rfl⟩ ?_
  refine ZipP_cons ⟨ck_152, fun _ => md_152, rfl⟩ ?_
  refine ZipP_cons ⟨ck_153, fun _ => md_153, rfl⟩ ?_
  refine ZipP_cons ⟨ck_154, fun _ => md_154, rfl⟩ ?_
  refine ZipP_cons ⟨ck_155, fun _ => md_155, rfl⟩ ?_
  refine ZipP_cons ⟨ck_156, fun _ => md_156, rfl⟩ ?_
  refine ZipP_cons ⟨ck_157, fun _ => md_157, rfl⟩ ?_
  refine ZipP_cons ⟨ck_158, fun _ => md_158, rfl⟩ ?_
  refine ZipP_cons ⟨ck_159, fun _ => md_159, rfl⟩ ?_
  refine ZipP_cons ⟨ck_160, fun _ => md_160, rfl⟩ ?_
  refine ZipP_cons ⟨ck_161, fun _ => md_161, rfl⟩ ?_
  refine ZipP_cons ⟨ck_162, fun _ => md_162, rfl⟩ ?_
  refine ZipP_cons ⟨ck_163, fun _ => md_163, rfl⟩ ?_
  refine ZipP_cons ⟨ck_164, fun _ => md_164, rfl⟩ ?_
  refine ZipP_cons ⟨ck_165, fun _ => md_165, rfl⟩ ?_
  refine ZipP_cons ⟨ck_166, fun _ => md_166, rfl⟩ ?_
  refine ZipP_cons ⟨ck_167, fun _ => md_167, rfl⟩ ?_
  refine ZipP_cons ⟨ck_168, fun _ => md_168, rfl⟩ ?_
  refine ZipP_cons ⟨ck_169, fun _ => md_169, rfl⟩ ?_
  refine ZipP_cons ⟨ck_170, fun _ => md_170, rfl⟩ ?_
  refine ZipP_cons ⟨ck_171, fun _ => md_171, rfl⟩ ?_
  refine ZipP_cons ⟨ck_172, fun _ => md_172, rfl⟩ ?_
  refine ZipP_cons ⟨ck_173, fun _ => md_173, rfl⟩ ?_
  refine ZipP_cons ⟨ck_174, fun _ => md_174, rfl⟩ ?_
  refine ZipP_cons ⟨ck_175, fun _ => md_175, rfl⟩ ?_
  refine ZipP_cons ⟨ck_176, fun _ => md_176, rfl⟩ ?_
  refine ZipP_cons ⟨ck_177, fun _ => md_177, rfl⟩ ?_
  refine ZipP_cons ⟨ck_178, fun _ => md_178, rfl⟩ ?_
  refine ZipP_cons ⟨ck_179, fun _ => md_179, rfl⟩ ?_
  refine ZipP_cons ⟨ck_180, fun _ => md_180, rfl⟩ ?_
  refine ZipP_cons ⟨ck_181, fun _ => md_181, rfl⟩ ?_
  refine ZipP_cons ⟨ck_182, fun _ => md_182, rfl⟩ ?_
  refine ZipP_cons ⟨ck_183, fun _ => md_183, rfl⟩ ?_
  refine ZipP_cons ⟨ck_184, fun _ => md_184, rfl⟩ ?_
  refine ZipP_cons ⟨ck_185, fun _ => md_185, rfl⟩ ?_
  refine ZipP_cons ⟨ck_186, fun _ => md_186, rfl⟩ ?_
  refine ZipP_cons ⟨ck_187, fun _ => md_187, rfl⟩ ?_
  refine ZipP_cons ⟨ck_188, fun _ => md_188, rfl⟩ ?_
  refine ZipP_cons ⟨ck_189, fun _ => md_189, rfl⟩ ?_
  refine ZipP_cons ⟨ck_190, fun _ => md_190, rfl⟩ ?_
  refine ZipP_cons ⟨ck_191, fun _ => md_191, rfl⟩ ?_
  refine ZipP_cons ⟨ck_192, fun _ => md_192, rfl⟩ ?_
  refine ZipP_cons ⟨ck_193, fun _ => md_193, rfl⟩ ?_
  refine ZipP_cons ⟨ck_194, fun _ => md_194, rfl⟩ ?_
  refine ZipP_cons ⟨ck_195, fun _ => md_195, rfl⟩ ?_
  refine ZipP_cons ⟨ck_196, fun _ => md_196, rfl⟩ ?_
  refine ZipP_cons ⟨ck_197, fun _ => md_197, rfl⟩ ?_
  refine ZipP_cons ⟨ck_198, fun _ => md_198, rfl⟩ ?_
  refine ZipP_cons ⟨ck_199, fun _ => md_199, rfl⟩ ?_
  refine ZipP_cons ⟨ck_200, fun _ => md_200, rfl⟩ ?_
  refine ZipP_cons ⟨ck_201, fun _ => md_201, rfl⟩ ?_
  refine ZipP_cons ⟨ck_202, fun _ => md_202, rfl⟩ ?_
  refine ZipP_cons ⟨ck_203, fun _ => md_203, rfl⟩ ?_
  refine ZipP_cons ⟨ck_204, fun _ => md_204, rfl⟩ ?_
  refine ZipP_cons ⟨ck_205, fun _ => md_205, rfl⟩ ?_
  refine ZipP_cons ⟨ck_206, fun _ => md_206, rfl⟩ ?_
  refine ZipP_cons ⟨ck_207, fun _ => md_207, rfl⟩ ?_
  refine ZipP_cons ⟨ck_208, fun _ => md_208, rfl⟩ ?_
  refine ZipP_cons ⟨ck_209, fun _ => md_209, rfl⟩ ?_
  refine ZipP_cons ⟨ck_210, fun _ => md_210, rfl⟩ ?_
  refine ZipP_cons ⟨ck_211, fun _ => md_211, rfl⟩ ?_
  refine ZipP_cons ⟨ck_212, fun _ => md_212, rfl⟩ ?_
  refine ZipP_cons ⟨ck_213, fun _ => md_213, rfl⟩ ?_
  refine ZipP_cons ⟨ck_214, fun _ => md_214, rfl⟩ ?_
  refine ZipP_cons ⟨ck_215, fun _ => md_215, rfl⟩ ?_
  refine ZipP_cons ⟨ck_216, fun _ => md_216, rfl⟩ ?_
  refine ZipP_cons ⟨ck_217, fun _ => md_217, rfl⟩ ?_
  refine ZipP_cons ⟨ck_218, fun _ => md_218, rfl⟩ ?_
  refine ZipP_cons ⟨ck_219, fun _ => md_219, rfl⟩ ?_
  refine ZipP_cons ⟨ck_220, fun _ => md_220, rfl⟩ ?_
  refine ZipP_cons ⟨ck_221, fun _ => md_221, rfl⟩ ?_
  refine ZipP_cons ⟨ck_222, fun _ => md_222, rfl⟩ ?_
  refine ZipP_cons ⟨ck_223, fun _ => md_223, rfl⟩ ?_
  refine ZipP_cons ⟨ck_224, fun _ => md_224, rfl⟩ ?_
  refine ZipP_cons ⟨ck_225, fun _ => md_225, rfl⟩ ?_
  refine ZipP_cons ⟨ck_226, fun _ => md_226, rfl⟩ ?_
  refine ZipP_cons ⟨ck_227, fun _ => md_227, rfl⟩ ?_
  refine ZipP_cons ⟨ck_228, fun _ => md_228, rfl⟩ ?_
  refine ZipP_cons ⟨ck_229, fun _ => md_229, rfl⟩ ?_
  refine ZipP_cons ⟨ck_230, fun _ => md_230, rfl⟩ ?_
  refine ZipP_cons ⟨ck_231, fun _ => md_231, rfl⟩ ?_
  refine ZipP_cons ⟨ck_232, fun _ => md_232, rfl⟩ ?_
  refine ZipP_cons ⟨ck_233, fun _ => md_233, rfl⟩ ?_
  refine ZipP_cons ⟨ck_234, fun _ => md_234, rfl⟩ ?_
  refine ZipP_cons ⟨ck_235, fun _ => md_235, rfl⟩ ?_
  refine ZipP_cons ⟨ck_236, fun _ => md_236, rfl⟩ ?_
  refine ZipP_cons ⟨ck_237, fun _ => md_237, rfl⟩ ?_
  refine ZipP_cons ⟨ck_238, fun _ => md_238, rfl⟩ ?_
  refine ZipP_cons ⟨ck_239, fun _ => md_239, rfl⟩ ?_
  refine ZipP_cons ⟨ck_240, fun _ => md_240, rfl⟩ ?_
  refine ZipP_cons ⟨ck_241, fun _ => md_241, rfl⟩ ?_
  refine ZipP_cons ⟨ck_242, fun _ => md_242, rfl⟩ ?_
  refine ZipP_cons ⟨ck_243, fun _ => md_243, rfl⟩ ?_
  refine ZipP_cons ⟨ck_244, fun _ => md_244, rfl⟩ ?_
  refine ZipP_cons ⟨ck_245, fun _ => md_245, rfl⟩ ?_
  refine ZipP_cons ⟨ck_246, fun _ => md_246, rfl⟩ ?_
  refine ZipP_cons ⟨ck_247, fun _ => md_247, rfl⟩ ?_
  refine ZipP_cons ⟨ck_248, fun _ => md_248, rfl⟩ ?_
  refine ZipP_cons ⟨ck_249, fun _ => md_249, rfl⟩ ?_
  refine ZipP_cons ⟨ck_250, fun _ => md_250, rfl⟩ ?_
  refine ZipP_cons ⟨ck_251, fun _ => md_251, rfl⟩ ?_
  refine ZipP_cons ⟨ck_252, fun _ => md_252, rfl⟩ ?_
  refine ZipP_cons ⟨ck_253, fun _ => md_253, rfl⟩ ?_
  refine ZipP_cons ⟨ck_254, fun _ => md_254, rfl⟩ ?_
  refine ZipP_cons ⟨ck_255, fun _ => md_255, rfl⟩ ?_
  refine ZipP_cons ⟨ck_256, fun _ => md_256, rfl⟩ ?_
  refine ZipP_cons ⟨ck_257, fun _ => md_257, rfl⟩ ?_
  refine ZipP_cons ⟨ck_258, fun _ => md_258, rfl⟩ ?_
  refine ZipP_cons ⟨ck_259, fun _ => md_259, rfl⟩ ?_
  refine ZipP_cons ⟨ck_260, fun _ => md_260, rfl⟩ ?_
  refine ZipP_cons ⟨ck_261, fun _ => md_261, rfl⟩ ?_
  refine ZipP_cons ⟨ck_262, fun _ => md_262, rfl⟩ ?_
  refine ZipP_cons ⟨ck_263, fun _ => md_263, rfl⟩ ?_
  refine ZipP_cons ⟨ck_264, fun _ => md_264, rfl⟩ ?_
  refine ZipP_cons ⟨ck_265, fun _ => md_265, rfl⟩ ?_
  refine ZipP_cons ⟨ck_266, fun _ => md_266, rfl⟩ ?_
  refine ZipP_cons ⟨ck_267, fun _ => md_267, rfl⟩ ?_
  refine ZipP_cons ⟨ck_268, fun _ => md_268, rfl⟩ ?_
  refine ZipP_cons ⟨ck_269, fun _ => md_269, rfl⟩ ?_
  refine ZipP_cons ⟨ck_270, fun _ => md_270, rfl⟩ ?_
  refine ZipP_cons ⟨ck_271, fun _ => md_271, rfl⟩ ?_
  refine ZipP_cons ⟨ck_272, fun _ => md_272, rfl⟩ ?_
  refine ZipP_cons ⟨ck_273, fun _ => md_273, rfl⟩ ?_
  refine ZipP_cons ⟨ck_274, fun _ => md_274, rfl⟩ ?_
  refine ZipP_cons ⟨ck_275, fun _ => md_275, rfl⟩ ?_
  refine ZipP_cons ⟨ck_276, fun _ => md_276, rfl⟩ ?_
  refine ZipP_cons ⟨ck_277, fun _ => md_277, rfl⟩ ?_
  refine ZipP_cons ⟨ck_278, fun _ => md_278, rfl⟩ ?_
  refine ZipP_cons ⟨ck_279, fun _ => md_279, rfl⟩ ?_
  refine ZipP_cons ⟨ck_280, fun _ => md_280, rfl⟩ ?_
  refine ZipP_cons ⟨ck_281, fun _ => md_281, rfl⟩ ?_
  refine ZipP_cons ⟨ck_282, fun _ => md_282, rfl⟩ ?_
  refine ZipP_cons ⟨ck_283, fun _ => md_283, rfl⟩ ?_
  refine ZipP_cons ⟨ck_284, fun _ => md_284, rfl⟩ ?_
  refine ZipP_cons ⟨ck_285, fun _ => md_285, rfl⟩ ?_
  refine ZipP_cons ⟨ck_286, fun _ => md_286, rfl⟩ ?_
  refine ZipP_cons ⟨ck_287, fun _ => md_287, rfl⟩ ?_
  refine ZipP_cons ⟨ck_288, fun _ => md_288, rfl⟩ ?_
  refine ZipP_cons ⟨ck_289, fun _ => md_289, rfl⟩ ?_
  refine ZipP_cons ⟨ck_290, fun _ => md_290, rfl⟩ ?_
  refine ZipP_cons ⟨ck_291, fun _ => md_291, rfl⟩ ?_
  refine ZipP_cons ⟨ck_292, fun _ => md_292, rfl⟩ ?_
  refine ZipP_cons ⟨ck_293, fun _ => md_293, rfl⟩ ?_
  refine ZipP_cons ⟨ck_294, fun _ => md_294, rfl⟩ ?_
  refine ZipP_cons ⟨ck_295, fun _ => md_295, rfl⟩ ?_
  refine ZipP_cons ⟨ck_296, fun _ => md_296, rfl⟩ ?_
  refine ZipP_cons ⟨ck_297, fun _ => md_297, rfl⟩ ?_
  refine ZipP_cons ⟨ck_298, fun _ => md_298, rfl⟩ ?_
  refine ZipP_cons ⟨ck_299, fun _ => md_299, rfl⟩ ?_
  refine ZipP_cons ⟨ck_300, fun _ => md_300, rfl⟩ ?_
  refine ZipP_cons ⟨ck_301, fun _ => md_301, rfl⟩ ?_
  refine ZipP_cons ⟨ck_302, fun _ => md_302, rfl⟩ ?_
  refine ZipP_cons ⟨ck_303, fun _ => md_303, rfl⟩ ?_
  refine ZipP_cons ⟨ck_304, fun _ => md_304, rfl⟩ ?_
  refine ZipP_cons ⟨ck_305, fun _ => md_305, rfl⟩ ?_
  refine ZipP_cons ⟨ck_306, fun _ => md_306, rfl⟩ ?_
  refine ZipP_cons ⟨ck_307, fun _ => md_307, rfl⟩ ?_
  refine ZipP_cons ⟨ck_308, fun _ => md_308, rfl⟩ ?_
  refine ZipP_cons ⟨ck_309, fun _ => md_309, rfl⟩ ?_
  refine ZipP_cons ⟨ck_310, fun _ => md_310, rfl⟩ ?_
  refine ZipP_cons ⟨ck_311, fun _ => md_311, rfl⟩ ?_
  refine ZipP_cons ⟨ck_312, fun _ => md_312, rfl⟩ ?_
  refine ZipP_cons ⟨ck_313, fun _ => md_313, rfl⟩ ?_
  refine ZipP_cons ⟨ck_314, fun _ => md_314, rfl⟩ ?_
  refine ZipP_cons ⟨ck_315, fun _ => md_315, rfl⟩ ?_
  refine ZipP_cons ⟨ck_316, fun _ => md_316, rfl⟩ ?_
  refine ZipP_cons ⟨ck_317, fun _ => md_317, rfl⟩ ?_
  refine ZipP_cons ⟨ck_318, fun _ => md_318, rfl⟩ ?_
  exact ZipP_cons ⟨ck_319, fun h => absurd rfl h, rfl⟩ trivial
theorem ckA_at (q : Mt) (l : List Ea) : ∀ (a : List Ea) (i0 i : Nat) (e : Ea), ckA q l i0 a = true → nthO a i = some e → ckE q l (i0 + i) e = true
  | [], i0, i, e, _, h => by simp [nthO] at h
  | x :: a, i0, 0, e, c, h => by
    cases h
    simp only [ckA, Bool.and_eq_true] at c
    exact c.1
  | x :: a, i0, i + 1, e, c, h => by
    simp only [ckA, Bool.and_eq_true] at c
    have := ckA_at q l a (i0 + 1) i e c.2 h
    rw [show i0 + (i + 1) = i0 + 1 + i by omega]
    exact this
theorem mt_of {mi : Nat} {q : Mt × List Ea} (h : nthO prL mi = some q) : mt_ mi = q.1 := by unfold mt_; rw [h]
theorem at_ok {mi i : Nat} {e : Ea} (h : at_ mi i = some e) : ∃ q, nthO prL mi = some q ∧ nthO q.2 i = some e ∧ ckE (mt_ mi) q.2 i e = true ∧ ∀ j, pcO mi j = pcL q.2 j := by
  cases hq : nthO prL mi with
  | none => simp [at_, hq] at h
  | some q =>
    have h1 : ∀ j, at_ mi j = nthO q.2 j := fun j => by unfold at_; rw [hq]
    rw [h1] at h
    obtain ⟨P, -, hP⟩ := ZipP_at _ _ _ _ pr_all hq
    refine ⟨q, rfl, h, ?_, fun j => by unfold pcO pcL; rw [h1]; rfl⟩
    have := ckA_at q.1 q.2 q.2 0 i e hP.1 h
    rw [mt_of hq]
    rwa [Nat.zero_add] at this
theorem md_ok {mj : Nat} {q : Mt × List Ea} (h : nthO prL mj = some q) (h3 : (mPx mj).1 ≠ 3) : mdB q.1 (mPx mj) = true := by
  obtain ⟨P, h1, hP⟩ := ZipP_at _ _ _ _ pr_all h
  have e1 : mPx mj = P := by unfold mPx; rw [h1]
  rw [e1] at h3 ⊢
  exact hP.2.1 h3
theorem pc_zero {mj : Nat} {q : Mt × List Ea} (h : nthO prL mj = some q) : pcO mj 0 = 0 := by
  obtain ⟨P, -, hP⟩ := ZipP_at _ _ _ _ pr_all h
  have h1 : ∀ j, at_ mj j = nthO q.2 j := fun j => by unfold at_; rw [h]
  have := hP.2.2
  unfold pcO
  rw [h1]
  exact this
theorem swB_ok (l : List Ea) (pc : Nat) : ∀ (r : List Nat) (offs : List Int) (j u : Nat), swB l pc r offs = true → nthO r j = some u → ∃ off, offs[j]? = some off ∧ (pc : Int) + off = (pcL l u : Int)
  | [], _, j, u, _, h => by simp [nthO] at h
  | _ :: _, [], _, _, c, _ => by simp [swB] at c
  | x :: r, off :: offs, 0, u, c, h => by
    cases h
    simp only [swB, Bool.and_eq_true, decide_eq_true_eq] at c
    exact ⟨off, rfl, c.1⟩
  | x :: r, off :: offs, j + 1, u, c, h => by
    simp only [swB, Bool.and_eq_true, decide_eq_true_eq] at c
    obtain ⟨o1, h1, h2⟩ := swB_ok l pc r offs j u c.2 h
    exact ⟨o1, by simpa using h1, h2⟩
theorem tgB_ok {l : List Ea} {pc : Nat} {off : Int} {ops : List Nat} (h : tgB l pc off ops = true) : ∀ t r, ops = t :: r → (pc : Int) + off = (pcL l t : Int) := by
  intro t r e
  subst e
  simpa [tgB] using h
theorem nxt_ok {mi i : Nat} {l : List Ea} {e : Ea} (hpc : ∀ j, pcO mi j = pcL l j) (h : nxtB l i e = true) : nxtP mi i e := by
  obtain ⟨tag, ins, pc, len, ops, kc⟩ := e
  cases ins with
  | goto off =>
    intro t r e
    rw [hpc]
    exact tgB_ok h t r e
  | tableswitch dflt lo hi offs =>
    intro t r e
    simp only [nxtB, Bool.and_eq_true] at h
    refine ⟨by rw [hpc]; exact tgB_ok h.1 t r e, fun j u hu => ?_⟩
    subst e
    obtain ⟨off, h1, h2⟩ := swB_ok _ _ _ _ j u h.2 hu
    exact ⟨off, by simpa using h1, by rw [hpc]; exact h2⟩
  | ifCond cd off =>
    simp only [nxtB, Bool.and_eq_true, decide_eq_true_eq] at h
    exact ⟨by rw [hpc]; exact h.1, fun t r e => by rw [hpc]; exact tgB_ok h.2 t r e⟩
  | if_icmp cd off =>
    simp only [nxtB, Bool.and_eq_true, decide_eq_true_eq] at h
    exact ⟨by rw [hpc]; exact h.1, fun t r e => by rw [hpc]; exact tgB_ok h.2 t r e⟩
  | ifnull off =>
    simp only [nxtB, Bool.and_eq_true, decide_eq_true_eq] at h
    exact ⟨by rw [hpc]; exact h.1, fun t r e => by rw [hpc]; exact tgB_ok h.2 t r e⟩
  | _ =>
    simp only [nxtB, decide_eq_true_eq] at h
    show pcO mi (i + 1) = _
    rw [hpc]
    exact h
theorem len_ok {ins : Instr} {len : Nat} (h : lenB ins len = true) : lenOk ins len := by
  cases ins <;> first | trivial | (simp only [lenB, decide_eq_true_eq] at h; exact h)

