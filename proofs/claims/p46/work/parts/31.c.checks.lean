theorem mb_0 : ∀ q ∈ ms_0, ab_MK cm_ms q := List.forall_mem_cons.mpr ⟨mk_0, List.forall_mem_cons.mpr ⟨mk_1, List.forall_mem_cons.mpr ⟨mk_2, List.forall_mem_cons.mpr ⟨mk_3, List.forall_mem_cons.mpr ⟨mk_4, List.forall_mem_cons.mpr ⟨mk_5, List.forall_mem_cons.mpr ⟨mk_6, List.forall_mem_cons.mpr ⟨mk_7, List.forall_mem_cons.mpr ⟨mk_8, List.forall_mem_cons.mpr ⟨mk_9, List.forall_mem_cons.mpr ⟨mk_10, List.forall_mem_cons.mpr ⟨mk_11, List.forall_mem_cons.mpr ⟨mk_12, List.forall_mem_cons.mpr ⟨mk_13, List.forall_mem_cons.mpr ⟨mk_14, List.forall_mem_cons.mpr ⟨mk_15, List.forall_mem_cons.mpr ⟨mk_16, List.forall_mem_cons.mpr ⟨mk_17, List.forall_mem_cons.mpr ⟨mk_18, List.forall_mem_cons.mpr ⟨mk_19, fun _ h => absurd h List.not_mem_nil⟩⟩⟩⟩⟩⟩⟩⟩⟩⟩⟩⟩⟩⟩⟩⟩⟩⟩⟩⟩
theorem mb_1 : ∀ q ∈ ms_1, ab_MK cm_ms q := List.forall_mem_cons.mpr ⟨mk_20, List.forall_mem_cons.mpr ⟨mk_21, List.forall_mem_cons.mpr ⟨mk_22, List.forall_mem_cons.mpr ⟨mk_23, List.forall_mem_cons.mpr ⟨mk_24, List.forall_mem_cons.mpr ⟨mk_25, List.forall_mem_cons.mpr ⟨mk_26, List.forall_mem_cons.mpr ⟨mk_27, List.forall_mem_cons.mpr ⟨mk_28, List.forall_mem_cons.mpr ⟨mk_29, List.forall_mem_cons.mpr ⟨mk_30, List.forall_mem_cons.mpr ⟨mk_31, List.forall_mem_cons.mpr ⟨mk_32, List.forall_mem_cons.mpr ⟨mk_33, List.forall_mem_cons.mpr ⟨mk_34, List.forall_mem_cons.mpr ⟨mk_35, List.forall_mem_cons.mpr ⟨mk_36, List.forall_mem_cons.mpr ⟨mk_37, List.forall_mem_cons.mpr ⟨mk_38, List.forall_mem_cons.mpr ⟨mk_39, fun _ h => absurd h List.not_mem_nil⟩⟩⟩⟩⟩⟩⟩⟩⟩⟩⟩⟩⟩⟩⟩⟩⟩⟩⟩⟩
theorem mb_2 : ∀ q ∈ ms_2, ab_MK cm_ms q := List.forall_mem_cons.mpr ⟨mk_40, List.forall_mem_cons.mpr ⟨mk_41, List.forall_mem_cons.mpr ⟨mk_42, List.forall_mem_cons.mpr ⟨mk_43, List.forall_mem_cons.mpr ⟨mk_44, List.forall_mem_cons.mpr ⟨mk_45, List.forall_mem_cons.mpr ⟨mk_46, List.forall_mem_cons.mpr ⟨mk_47, List.forall_mem_cons.mpr ⟨mk_48, List.forall_mem_cons.mpr ⟨mk_49, List.forall_mem_cons.mpr ⟨mk_50, List.forall_mem_cons.mpr ⟨mk_51, List.forall_mem_cons.mpr ⟨mk_52, List.forall_mem_cons.mpr ⟨mk_53, List.forall_mem_cons.mpr ⟨mk_54, List.forall_mem_cons.mpr ⟨mk_55, List.forall_mem_cons.mpr ⟨mk_56, List.forall_mem_cons.mpr ⟨mk_57, List.forall_mem_cons.mpr ⟨mk_58, List.forall_mem_cons.mpr ⟨mk_59, fun _ h => absurd h List.not_mem_nil⟩⟩⟩⟩⟩⟩⟩⟩⟩⟩⟩⟩⟩⟩⟩⟩⟩⟩⟩⟩
theorem mb_3 : ∀ q ∈ ms_3, ab_MK cm_ms q := List.forall_mem_cons.mpr ⟨mk_60, List.forall_mem_cons.mpr ⟨mk_61, List.forall_mem_cons.mpr ⟨mk_62, List.forall_mem_cons.mpr ⟨mk_63, List.forall_mem_cons.mpr ⟨mk_64, List.forall_mem_cons.mpr ⟨mk_65, List.forall_mem_cons.mpr ⟨mk_66, List.forall_mem_cons.mpr ⟨mk_67, List.forall_mem_cons.mpr ⟨mk_68, List.forall_mem_cons.mpr ⟨mk_69, List.forall_mem_cons.mpr ⟨mk_70, List.forall_mem_cons.mpr ⟨mk_71, List.forall_mem_cons.mpr ⟨mk_72, List.forall_mem_cons.mpr ⟨mk_73, List.forall_mem_cons.mpr ⟨mk_74, List.forall_mem_cons.mpr ⟨mk_75, List.forall_mem_cons.mpr ⟨mk_76, List.forall_mem_cons.mpr ⟨mk_77, List.forall_mem_cons.mpr ⟨mk_78, List.forall_mem_cons.mpr ⟨mk_79, fun _ h => absurd h List.not_mem_nil⟩⟩⟩⟩⟩⟩⟩⟩⟩⟩⟩⟩⟩⟩⟩⟩⟩⟩⟩⟩
theorem mb_4 : ∀ q ∈ ms_4, ab_MK cm_ms q := List.forall_mem_cons.mpr ⟨mk_80, List.forall_mem_cons.mpr ⟨mk_81, List.forall_mem_cons.mpr ⟨mk_82, List.forall_mem_cons.mpr ⟨mk_83, List.forall_mem_cons.mpr ⟨mk_84, List.forall_mem_cons.mpr ⟨mk_85, List.forall_mem_cons.mpr ⟨mk_86, List.forall_mem_cons.mpr ⟨mk_87, List.forall_mem_cons.mpr ⟨mk_88, List.forall_mem_cons.mpr ⟨mk_89, List.forall_mem_cons.mpr ⟨mk_90, List.forall_mem_cons.mpr ⟨mk_91, List.forall_mem_cons.mpr ⟨mk_92, List.forall_mem_cons.mpr ⟨mk_93, List.forall_mem_cons.mpr ⟨mk_94, List.forall_mem_cons.mpr ⟨mk_95, List.forall_mem_cons.mpr ⟨mk_96, List.forall_mem_cons.mpr ⟨mk_97, List.forall_mem_cons.mpr ⟨mk_98, List.forall_mem_cons.mpr ⟨mk_99, fun _ h => absurd h List.not_mem_nil⟩⟩⟩⟩⟩⟩⟩⟩⟩⟩⟩⟩⟩⟩⟩⟩⟩⟩⟩⟩
theorem mb_5 : ∀ q ∈ ms_5, ab_MK cm_ms q := List.forall_mem_cons.mpr ⟨mk_100, List.forall_mem_cons.mpr ⟨mk_101, List.forall_mem_cons.mpr ⟨mk_102, List.forall_mem_cons.mpr ⟨mk_103, List.forall_mem_cons.mpr ⟨mk_104, List.forall_mem_cons.mpr ⟨mk_105, List.forall_mem_cons.mpr ⟨mk_106, List.forall_mem_cons.mpr ⟨mk_107, List.forall_mem_cons.mpr ⟨mk_108, List.forall_mem_cons.mpr ⟨mk_109, List.forall_mem_cons.mpr ⟨mk_110, List.forall_mem_cons.mpr ⟨mk_111, List.forall_mem_cons.mpr ⟨mk_112, List.forall_mem_cons.mpr ⟨mk_113, List.forall_mem_cons.mpr ⟨mk_114, List.forall_mem_cons.mpr ⟨mk_115, List.forall_mem_cons.mpr ⟨mk_116, List.forall_mem_cons.mpr ⟨mk_117, List.forall_mem_cons.mpr ⟨mk_118, List.forall_mem_cons.mpr ⟨mk_119, fun _ h => absurd h List.not_mem_nil⟩⟩⟩⟩⟩⟩⟩⟩⟩⟩⟩⟩⟩⟩⟩⟩⟩⟩⟩⟩
theorem mb_6 : ∀ q ∈ ms_6, ab_MK cm_ms q := List.forall_mem_cons.mpr ⟨mk_120, List.forall_mem_cons.mpr ⟨mk_121, List.forall_mem_cons.mpr ⟨mk_122, List.forall_mem_cons.mpr ⟨mk_123, List.forall_mem_cons.mpr ⟨mk_124, List.forall_mem_cons.mpr ⟨mk_125, List.forall_mem_cons.mpr ⟨mk_126, List.forall_mem_cons.mpr ⟨mk_127, List.forall_mem_cons.mpr ⟨mk_128, List.forall_mem_cons.mpr ⟨mk_129, List.forall_mem_cons.mpr ⟨mk_130, List.forall_mem_cons.mpr ⟨mk_131, List.forall_mem_cons.mpr ⟨mk_132, List.forall_mem_cons.mpr ⟨mk_133, List.forall_mem_cons.mpr ⟨mk_134, List.forall_mem_cons.mpr ⟨mk_135, List.forall_mem_cons.mpr ⟨mk_136, List.forall_mem_cons.mpr ⟨mk_137, List.forall_mem_cons.mpr ⟨mk_138, List.forall_mem_cons.mpr ⟨mk_139, fun _ h => absurd h List.not_mem_nil⟩⟩⟩⟩⟩⟩⟩⟩⟩⟩⟩⟩⟩⟩⟩⟩⟩⟩⟩⟩
theorem mb_7 : ∀ q ∈ ms_7, ab_MK cm_ms q := List.forall_mem_cons.mpr ⟨mk_140, List.forall_mem_cons.mpr ⟨mk_141, List.forall_mem_cons.mpr ⟨mk_142, List.forall_mem_cons.mpr ⟨mk_143, List.forall_mem_cons.mpr ⟨mk_144, List.forall_mem_cons.mpr ⟨mk_145, List.forall_mem_cons.mpr ⟨mk_146, List.forall_mem_cons.mpr ⟨mk_147, List.forall_mem_cons.mpr ⟨mk_148, List.forall_mem_cons.mpr ⟨mk_149, List.forall_mem_cons.mpr ⟨mk_150, List.forall_mem_cons.mpr ⟨mk_151, List.forall_mem_cons.mpr ⟨mk_152, List.forall_mem_cons.mpr ⟨mk_153, List.forall_mem_cons.mpr ⟨mk_154, List.forall_mem_cons.mpr ⟨mk_155, List.forall_mem_cons.mpr ⟨mk_156, List.forall_mem_cons.mpr ⟨mk_157, List.forall_mem_cons.mpr ⟨mk_158, List.forall_mem_cons.mpr ⟨mk_159, fun _ h => absurd h List.not_mem_nil⟩⟩⟩⟩⟩⟩⟩⟩⟩⟩⟩⟩⟩⟩⟩⟩⟩⟩⟩⟩
theorem mb_8 : ∀ q ∈ ms_8, ab_MK cm_ms q := List.forall_mem_cons.mpr ⟨mk_160, List.forall_mem_cons.mpr ⟨mk_161, List.forall_mem_cons.mpr ⟨mk_162, List.forall_mem_cons.mpr ⟨mk_163, List.forall_mem_cons.mpr ⟨mk_164, List.forall_mem_cons.mpr ⟨mk_165, List.forall_mem_cons.mpr ⟨mk_166, List.forall_mem_cons.mpr ⟨mk_167, List.forall_mem_cons.mpr ⟨mk_168, List.forall_mem_cons.mpr ⟨mk_169, List.forall_mem_cons.mpr ⟨mk_170, List.forall_mem_cons.mpr ⟨mk_171, List.forall_mem_cons.mpr ⟨mk_172, List.forall_mem_cons.mpr ⟨mk_173, List.forall_mem_cons.mpr ⟨mk_174, List.forall_mem_cons.mpr ⟨mk_175, List.forall_mem_cons.mpr ⟨mk_176, List.forall_mem_cons.mpr ⟨mk_177, List.forall_mem_cons.mpr ⟨mk_178, List.forall_mem_cons.mpr ⟨mk_179, fun _ h => absurd h List.not_mem_nil⟩⟩⟩⟩⟩⟩⟩⟩⟩⟩⟩⟩⟩⟩⟩⟩⟩⟩⟩⟩
theorem mb_9 : ∀ q ∈ ms_9, ab_MK cm_ms q := List.forall_mem_cons.mpr ⟨mk_180, List.forall_mem_cons.mpr ⟨mk_181, List.forall_mem_cons.mpr ⟨mk_182, List.forall_mem_cons.mpr ⟨mk_183, List.forall_mem_cons.mpr ⟨mk_184, List.forall_mem_cons.mpr ⟨mk_185, List.forall_mem_cons.mpr ⟨mk_186, List.forall_mem_cons.mpr ⟨mk_187, List.forall_mem_cons.mpr ⟨mk_188, List.forall_mem_cons.mpr ⟨mk_189, List.forall_mem_cons.mpr ⟨mk_190, List.forall_mem_cons.mpr ⟨mk_191, List.forall_mem_cons.mpr ⟨mk_192, List.forall_mem_cons.mpr ⟨mk_193, List.forall_mem_cons.mpr ⟨mk_194, List.forall_mem_cons.mpr ⟨mk_195, List.forall_mem_cons.mpr ⟨mk_196, List.forall_mem_cons.mpr ⟨mk_197, List.forall_mem_cons.mpr ⟨mk_198, List.forall_mem_cons.mpr ⟨mk_199, fun _ h => absurd h List.not_mem_nil⟩⟩⟩⟩⟩⟩⟩⟩⟩⟩⟩⟩⟩⟩⟩⟩⟩⟩⟩⟩
theorem mb_10 : ∀ q ∈ ms_10, ab_MK cm_ms q := List.forall_mem_cons.mpr ⟨mk_200, List.forall_mem_cons.mpr ⟨mk_201, List.forall_mem_cons.mpr ⟨mk_202, List.forall_mem_cons.mpr ⟨mk_203, List.forall_mem_cons.mpr ⟨mk_204, List.forall_mem_cons.mpr ⟨mk_205, List.forall_mem_cons.mpr ⟨mk_206, List.forall_mem_cons.mpr ⟨mk_207, List.forall_mem_cons.mpr ⟨mk_208, List.forall_mem_cons.mpr ⟨mk_209, List.forall_mem_cons.mpr ⟨mk_210, List.forall_mem_cons.mpr ⟨mk_211, List.forall_mem_cons.mpr ⟨mk_212, List.forall_mem_cons.mpr ⟨mk_213, List.forall_mem_cons.mpr ⟨mk_214, List.forall_mem_cons.mpr ⟨mk_215, List.forall_mem_cons.mpr ⟨mk_216, List.forall_mem_cons.mpr ⟨mk_217, List.forall_mem_cons.mpr ⟨mk_218, List.forall_mem_cons.mpr ⟨mk_219, fun _ h => absurd h List.not_mem_nil⟩⟩⟩⟩⟩⟩⟩⟩⟩⟩⟩⟩⟩⟩⟩⟩⟩⟩⟩⟩
theorem mb_11 : ∀ q ∈ ms_11, ab_MK cm_ms q := List.forall_mem_cons.mpr ⟨mk_220, List.forall_mem_cons.mpr ⟨mk_221, List.forall_mem_cons.mpr ⟨mk_222, List.forall_mem_cons.mpr ⟨mk_223, List.forall_mem_cons.mpr ⟨mk_224, List.forall_mem_cons.mpr ⟨mk_225, List.forall_mem_cons.mpr ⟨mk_226, List.forall_mem_cons.mpr ⟨mk_227, List.forall_mem_cons.mpr ⟨mk_228, List.forall_mem_cons.mpr ⟨mk_229, List.forall_mem_cons.mpr ⟨mk_230, List.forall_mem_cons.mpr ⟨mk_231, List.forall_mem_cons.mpr ⟨mk_232, List.forall_mem_cons.mpr ⟨mk_233, List.forall_mem_cons.mpr ⟨mk_234, List.forall_mem_cons.mpr ⟨mk_235, List.forall_mem_cons.mpr ⟨mk_236, List.forall_mem_cons.mpr ⟨mk_237, List.forall_mem_cons.mpr ⟨mk_238, List.forall_mem_cons.mpr ⟨mk_239, fun _ h => absurd h List.not_mem_nil⟩⟩⟩⟩⟩⟩⟩⟩⟩⟩⟩⟩⟩⟩⟩⟩⟩⟩⟩⟩
theorem mb_12 : ∀ q ∈ ms_12, ab_MK cm_ms q := List.forall_mem_cons.mpr ⟨mk_240, List.forall_mem_cons.mpr ⟨mk_241, List.forall_mem_cons.mpr ⟨mk_242, List.forall_mem_cons.mpr ⟨mk_243, List.forall_mem_cons.mpr ⟨mk_244, List.forall_mem_cons.mpr ⟨mk_245, List.forall_mem_cons.mpr ⟨mk_246, List.forall_mem_cons.mpr ⟨mk_247, List.forall_mem_cons.mpr ⟨mk_248, List.forall_mem_cons.mpr ⟨mk_249, List.forall_mem_cons.mpr ⟨mk_250, List.forall_mem_cons.mpr ⟨mk_251, List.forall_mem_cons.mpr ⟨mk_252, List.forall_mem_cons.mpr ⟨mk_253, List.forall_mem_cons.mpr ⟨mk_254, List.forall_mem_cons.mpr ⟨mk_255, List.forall_mem_cons.mpr ⟨mk_256, List.forall_mem_cons.mpr ⟨mk_257, List.forall_mem_cons.mpr ⟨mk_258, List.forall_mem_cons.mpr ⟨mk_259, fun _ h => absurd h List.not_mem_nil⟩⟩⟩⟩⟩⟩⟩⟩⟩⟩⟩⟩⟩⟩⟩⟩⟩⟩⟩⟩
theorem mb_13 : ∀ q ∈ ms_13, ab_MK cm_ms q := List.forall_mem_cons.mpr ⟨mk_260, List.forall_mem_cons.mpr ⟨mk_261, List.forall_mem_cons.mpr ⟨mk_262, List.forall_mem_cons.mpr ⟨mk_263, List.forall_mem_cons.mpr ⟨mk_264, List.forall_mem_cons.mpr ⟨mk_265, List.forall_mem_cons.mpr ⟨mk_266, List.forall_mem_cons.mpr ⟨mk_267, List.forall_mem_cons.mpr ⟨mk_268, List.forall_mem_cons.mpr ⟨mk_269, List.forall_mem_cons.mpr ⟨mk_270, List.forall_mem_cons.mpr ⟨mk_271, List.forall_mem_cons.mpr ⟨mk_272, List.forall_mem_cons.mpr ⟨mk_273, List.forall_mem_cons.mpr ⟨mk_274, List.forall_mem_cons.mpr ⟨mk_275, List.forall_mem_cons.mpr ⟨mk_276, List.forall_mem_cons.mpr ⟨mk_277, List.forall_mem_cons.mpr ⟨mk_278, List.forall_mem_cons.mpr ⟨mk_279, fun _ h => absurd h List.not_mem_nil⟩⟩⟩⟩⟩⟩⟩⟩⟩⟩⟩⟩⟩⟩⟩⟩⟩⟩⟩⟩
theorem mb_14 : ∀ q ∈ ms_14, ab_MK cm_ms q := List.forall_mem_cons.mpr ⟨mk_280, List.forall_mem_cons.mpr ⟨mk_281, List.forall_mem_cons.mpr ⟨mk_282, List.forall_mem_cons.mpr ⟨mk_283, List.forall_mem_cons.mpr ⟨mk_284, List.forall_mem_cons.mpr ⟨mk_285, List.forall_mem_cons.mpr ⟨mk_286, List.forall_mem_cons.mpr ⟨mk_287, List.forall_mem_cons.mpr ⟨mk_288, List.forall_mem_cons.mpr ⟨mk_289, List.forall_mem_cons.mpr ⟨mk_290, List.forall_mem_cons.mpr ⟨mk_291, List.forall_mem_cons.mpr ⟨mk_292, List.forall_mem_cons.mpr ⟨mk_293, List.forall_mem_cons.mpr ⟨mk_294, List.forall_mem_cons.mpr ⟨mk_295, List.forall_mem_cons.mpr ⟨mk_296, fun _ h => absurd h List.not_mem_nil⟩⟩⟩⟩⟩⟩⟩⟩⟩⟩⟩⟩⟩⟩⟩⟩⟩
theorem cm_ms_all : ∀ q ∈ cm_ms, ab_MK cm_ms q := List.forall_mem_append.mpr ⟨mb_0, List.forall_mem_append.mpr ⟨mb_1, List.forall_mem_append.mpr ⟨mb_2, List.forall_mem_append.mpr ⟨mb_3, List.forall_mem_append.mpr ⟨mb_4, List.forall_mem_append.mpr ⟨mb_5, List.forall_mem_append.mpr ⟨mb_6, List.forall_mem_append.mpr ⟨mb_7, List.forall_mem_append.mpr ⟨mb_8, List.forall_mem_append.mpr ⟨mb_9, List.forall_mem_append.mpr ⟨mb_10, List.forall_mem_append.mpr ⟨mb_11, List.forall_mem_append.mpr ⟨mb_12, List.forall_mem_append.mpr ⟨mb_13, mb_14⟩⟩⟩⟩⟩⟩⟩⟩⟩⟩⟩⟩⟩⟩
theorem cm_ms_ok : ∀ (k : Nat) (mi : ev_MI), cm_ms[k]? = some mi → cm_MOK cm_ms mi := fun k mi h => (cm_ms_all mi (List.mem_of_getElem? h)).1
theorem cm_ms_rc : ∀ (k : Nat) (mi : ev_MI), cm_ms[k]? = some mi → ∀ q ∈ mi.2.2.2.2.2.2, ab_RC cm_ms q := fun k mi h => (cm_ms_all mi (List.mem_of_getElem? h)).2
noncomputable abbrev ab_A : Type := Nat × Int × List Nat
/-- a variable: its bounds, and the operation on two values that it is (0: none) -/
noncomputable abbrev ab_Ke : Type := Int × Int × Nat × ab_A × ab_A
noncomputable abbrev ab_K : Type := List ab_Ke
/-- what is known of places of the memory -/
noncomputable abbrev ab_Ca : Type := List (Nat × Nat × ab_A)
noncomputable abbrev ab_S : Type := Nat × List (Nat × ab_A) × List ab_A × ab_K × ab_Ca
noncomputable def ab_c (n : Int) : ab_A := (0, n, [])
noncomputable def ab_x (k : Nat) : ab_A := (3, (k : Int), [])
noncomputable def ab_i (ρ : List Int32) (a : ab_A) : Option Int32 := match a.1 with
  | 0 => some (Int32.ofInt a.2.1)
  | 3 => ρ[a.2.1.toNat]?
  | _ => none
noncomputable def ab_v (ρ : List Int32) (a : ab_A) (v : Value) : Prop := match a.1 with
  | 0 => v = .int (Int32.ofInt a.2.1)
  | 1 => ∃ c, c ∈ a.2.2 ∧ v = .ref c
  | 2 => v = .null
  | 3 => ∃ x, ρ[a.2.1.toNat]? = some x ∧ v = .int x
  | 6 => ∃ x, v = .long x
  | 7 => v = .null ∨ ∃ c, c ∈ a.2.2 ∧ v = .ref c
  | _ => False
noncomputable def ab_isI (a : ab_A) : Bool := Nat.beq a.1 0 || Nat.beq a.1 3
theorem ab_vi {ρ : List Int32} {a : ab_A} {v : Value} (h : ab_isI a = true) (hv : ab_v ρ a v) : ∃ x, ab_i ρ a = some x ∧ v = .int x := by
  obtain ⟨t, n, cs⟩ := a
  simp only [ab_isI, Bool.or_eq_true, Nat.beq_eq] at h
  rcases h with rfl | rfl
  · exact ⟨_, rfl, hv⟩
  · exact hv
theorem ab_iv {ρ : List Int32} {a : ab_A} {x : Int32} (h : ab_i ρ a = some x) : ab_v ρ a (.int x) := by
  obtain ⟨t, n, cs⟩ := a
  unfold ab_i at h
  split at h
  · rename_i e
    dsimp only at e
    subst e
    cases h
    rfl
  · rename_i e
    dsimp only at e
    subst e
    exact ⟨x, h, rfl⟩
  · cases h
theorem ab_ivI {ρ : List Int32} {a : ab_A} {x : Int32} (h : ab_i ρ a = some x) : ab_isI a = true := by
  obtain ⟨t, n, cs⟩ := a
  unfold ab_i at h
  split at h
  · rename_i e
    dsimp only at e
    subst e
    rfl
  · rename_i e
    dsimp only at e
    subst e
    rfl
  · cases h
theorem ab_vint {ρ : List Int32} {a : ab_A} {x : Int32} (h : ab_v ρ a (.int x)) : ab_i ρ a = some x := by
  obtain ⟨t, n, cs⟩ := a
  unfold ab_v at h
  split at h
  · rename_i e
    dsimp only at e
    subst e
    cases h
    rfl
  · obtain ⟨c, -, h⟩ := h
    cases h
  · cases h
  · rename_i e
    dsimp only at e
    subst e
    obtain ⟨y, h1, h2⟩ := h
    cases h2
    exact h1
  · obtain ⟨c, h⟩ := h
    cases h
  · rcases h with h | ⟨c, -, h⟩ <;> cases h
  · exact h.elim
/-- the category of a value by its tag -/
theorem ab_cat {ρ : List Int32} {a : ab_A} {v : Value} (hv : ab_v ρ a v) : (a.1 = 6 ∧ v.category = 2) ∨ (a.1 ≠ 6 ∧ v.category = 1) := by
  obtain ⟨t, n, cs⟩ := a
  unfold ab_v at hv
  split at hv
  · rename_i e; dsimp only at e; subst e; subst hv; exact Or.inr ⟨(by dsimp only; omega), rfl⟩
  · rename_i e; dsimp only at e; subst e; obtain ⟨c, -, rfl⟩ := hv; exact Or.inr ⟨(by dsimp only; omega), rfl⟩
  · rename_i e; dsimp only at e; subst e; subst hv; exact Or.inr ⟨(by dsimp only; omega), rfl⟩
  · rename_i e; dsimp only at e; subst e; obtain ⟨c, -, rfl⟩ := hv; exact Or.inr ⟨(by dsimp only; omega), rfl⟩
  · rename_i e; dsimp only at e; subst e; obtain ⟨c, rfl⟩ := hv; exact Or.inl ⟨rfl, rfl⟩
  · rename_i e
    dsimp only at e
    subst e
    rcases hv with rfl | ⟨c, -, rfl⟩
    · exact Or.inr ⟨(by dsimp only; omega), rfl⟩
    · exact Or.inr ⟨(by dsimp only; omega), rfl⟩
  · exact hv.elim
/-- variables are added behind -/
theorem ab_i_ap {ρ ext : List Int32} {a : ab_A} {x : Int32} (h : ab_i ρ a = some x) : ab_i (ρ ++ ext) a = some x := by
  unfold ab_i at h ⊢
  split at h
  · exact h
  · exact ev_ap h
  · cases h
theorem ab_v_ap {ρ ext : List Int32} {a : ab_A} {v : Value} (h : ab_v ρ a v) : ab_v (ρ ++ ext) a v := by
  unfold ab_v at h ⊢
  split at h
  · exact h
  · exact h
  · exact h
  · obtain ⟨x, h1, h2⟩ := h
    exact ⟨x, ev_ap h1, h2⟩
  · exact h
  · exact h
  · exact h
noncomputable def ab_e (ρ : List Int32) (r : ab_Ke) (x : Int32) : Prop := ev_inb (r.1, r.2.1) x ∧ (r.2.2.1 = 0 ∨ ∃ y z, ab_i ρ r.2.2.2.1 = some y ∧ ab_i ρ r.2.2.2.2 = some z ∧ x = ev_f r.2.2.1 y z)
noncomputable def ab_k (ρ : List Int32) (K : ab_K) : Prop := K.length = ρ.length ∧ ∀ (j : Nat) (r : ab_Ke) (x : Int32), K[j]? = some r → ρ[j]? = some x → ab_e ρ r x
theorem ab_e_ap {ρ ext : List Int32} {r : ab_Ke} {x : Int32} (h : ab_e ρ r x) : ab_e (ρ ++ ext) r x := by
  refine ⟨h.1, ?_⟩
  rcases h.2 with h | ⟨y, z, h1, h2, h3⟩
  · exact Or.inl h
  · exact Or.inr ⟨y, z, ab_i_ap h1, ab_i_ap h2, h3⟩
/-- the bounds of an int -/
noncomputable def ab_bd (K : ab_K) (a : ab_A) : Int × Int := match a.1 with
  | 0 => ((Int32.ofInt a.2.1).toInt, (Int32.ofInt a.2.1).toInt)
  | 3 => (match K[a.2.1.toNat]? with
    | some r => (r.1, r.2.1)
    | none => ev_ful)
  | _ => ev_ful
theorem ab_bd_in {ρ : List Int32} {K : ab_K} {a : ab_A} {x : Int32} (hk : ab_k ρ K) (h : ab_i ρ a = some x) : ev_inb (ab_bd K a) x := by
  unfold ab_i at h
  unfold ab_bd
  split at h
  · cases h
    exact ⟨Int.le_refl _, Int.le_refl _⟩
  · split
    · rename_i r hr
      exact (hk.2 _ r x hr h).1
    · exact ev_ful_in x
  · cases h
/-- a new variable, or a number where both are numbers -/
noncomputable def ab_new (K : ab_K) (op : Nat) (a b : ab_A) : ab_A × ab_K :=
  if a.1 == 0 && b.1 == 0 then (ab_c (ev_f op (Int32.ofInt a.2.1) (Int32.ofInt b.2.1)).toInt, K)
  else (ab_x K.length, K ++ [((ev_bd op (ab_bd K a) (ab_bd K b)).1, (ev_bd op (ab_bd K a) (ab_bd K b)).2, op, a, b)])
noncomputable def ab_any (K : ab_K) (b : Int × Int) : ab_A × ab_K := (ab_x K.length, K ++ [(b.1, b.2, 0, ab_c 0, ab_c 0)])
theorem ab_push {ρ : List Int32} {K : ab_K} {r : ab_Ke} {x : Int32} (hk : ab_k ρ K) (hr : ab_e ρ r x) : ab_k (ρ ++ [x]) (K ++ [r]) := by
  refine ⟨by simp [hk.1], fun j q y h1 h2 => ?_⟩
  by_cases hj : j < K.length
  · rw [List.getElem?_append_left hj] at h1
    rw [List.getElem?_append_left (by rw [← hk.1]; exact hj)] at h2
    exact ab_e_ap (hk.2 j q y h1 h2)
  · rw [List.getElem?_append_right (by omega)] at h1
    rw [List.getElem?_append_right (by rw [← hk.1]; omega)] at h2
    have h3 : j - K.length < 1 := (List.getElem?_eq_some_iff.mp h1).1
    have h4 : j - K.length = 0 := by omega
    have h5 : j - ρ.length = 0 := by rw [← hk.1]; omega
    rw [h4] at h1
    rw [h5] at h2
    cases h1
    cases h2
    exact ab_e_ap hr
theorem ab_x_at {ρ : List Int32} {K : ab_K} (hk : ab_k ρ K) (x : Int32) : ab_i (ρ ++ [x]) (ab_x K.length) = some x := by
  show (ρ ++ [x])[((K.length : Int)).toNat]? = some x
  rw [Int.toNat_natCast, hk.1]
  simp
theorem ab_c_at (ρ : List Int32) (x : Int32) : ab_i ρ (ab_c x.toInt) = some x := by
  show some (Int32.ofInt x.toInt) = some x
  rw [Int32.ofInt_toInt]
theorem ab_new_ok {ρ : List Int32} {K K' : ab_K} {op : Nat} {a b c : ab_A} {x y : Int32} (hk : ab_k ρ K) (ha : ab_i ρ a = some x) (hb : ab_i ρ b = some y) (h : ab_new K op a b = (c, K')) : ∃ ext, ab_k (ρ ++ ext) K' ∧ ab_i (ρ ++ ext) c = some (ev_f op x y) := by
  unfold ab_new at h
  split at h
  · rename_i hz
    cases h
    simp only [Bool.and_eq_true, beq_iff_eq] at hz
    obtain ⟨ta, na, ca⟩ := a
    obtain ⟨tb, nb, cb⟩ := b
    obtain ⟨rfl, rfl⟩ := hz
    cases ha
    cases hb
    exact ⟨[], by simpa using hk, by rw [List.append_nil]; exact ab_c_at _ _⟩
  · cases h
    exact ⟨[ev_f op x y], ab_push hk ⟨ev_bd_in (ab_bd_in hk ha) (ab_bd_in hk hb), Or.inr ⟨x, y, ha, hb, rfl⟩⟩, ab_x_at hk _⟩
theorem ab_any_ok {ρ : List Int32} {K K' : ab_K} {b : Int × Int} {c : ab_A} {x : Int32} (hk : ab_k ρ K) (hx : ev_inb b x) (h : ab_any K b = (c, K')) : ∃ ext, ab_k (ρ ++ ext) K' ∧ ab_i (ρ ++ ext) c = some x := by
  cases h
  exact ⟨[x], ab_push hk ⟨hx, Or.inl rfl⟩, ab_x_at hk _⟩
noncomputable def ab_set1 (K : ab_K) (a : ab_A) (b : Int × Int) : ab_K := if a.1 == 3 then (match K[a.2.1.toNat]? with
    | some r => K.set a.2.1.toNat (b.1, b.2, r.2.2)
    | none => K) else K
theorem ab_set1_ok {ρ : List Int32} {K : ab_K} {a : ab_A} {b : Int × Int} {x : Int32} (hk : ab_k ρ K) (ha : ab_i ρ a = some x) (hb : ev_inb b x) : ab_k ρ (ab_set1 K a b) := by
  unfold ab_set1
  split
  · rename_i h3
    split
    · rename_i r hr
      have hl := (List.getElem?_eq_some_iff.mp hr).1
      refine ⟨by rw [List.length_set]; exact hk.1, fun j q y h1 h2 => ?_⟩
      by_cases hj : j = a.2.1.toNat
      · subst hj
        rw [List.getElem?_set_self hl] at h1
        cases h1
        have h4 : a.1 = 3 := beq_iff_eq.mp h3
        unfold ab_i at ha
        rw [h4] at ha
        have ha : ρ[a.2.1.toNat]? = some x := ha
        rw [ha] at h2
        cases h2
        exact ⟨hb, (hk.2 _ r x hr ha).2⟩
      · rw [List.getElem?_set_ne (Ne.symm hj)] at h1
        exact hk.2 j q y h1 h2
    · exact hk
  · exact hk
/-- the bounds of x when x r y holds -/
noncomputable def ab_nar (r : Nat) (x y : Int × Int) : Int × Int := match r with
  | 0 => (max x.1 y.1, min x.2 y.2)
  | 1 => if y.1 = y.2 then (if x.1 = y.1 then (x.1 + 1, x.2) else if x.2 = y.1 then (x.1, x.2 - 1) else x) else x
  | 2 => (x.1, min x.2 (y.2 - 1))
  | 3 => (max x.1 y.1, x.2)
  | 4 => (max x.1 (y.1 + 1), x.2)
  | _ => (x.1, min x.2 y.2)
theorem ab_nar_in {r : Nat} {b d : Int × Int} {x y : Int32} (hx : ev_inb b x) (hy : ev_inb d y) (h : ev_cmp r x y = true) : ev_inb (ab_nar r b d) x := by
  obtain ⟨x1, x2⟩ := hx
  obtain ⟨y1, y2⟩ := hy
  unfold ab_nar
  unfold ev_cmp at h
  split
  · have h : x = y := of_decide_eq_true h
    subst h
    exact ⟨by dsimp only; omega, by dsimp only; omega⟩
  · have h : ¬ x = y := by simpa using h
    have h : x.toInt ≠ y.toInt := fun q => h (Int32.toInt_inj.mp q)
    split
    · split
      · exact ⟨by dsimp only; omega, by dsimp only; omega⟩
      · split
        · exact ⟨by dsimp only; omega, by dsimp only; omega⟩
        · exact ⟨x1, x2⟩
    · exact ⟨x1, x2⟩
  · have h := Int32.lt_iff_toInt_lt.mp (of_decide_eq_true h)
    exact ⟨by dsimp only; omega, by dsimp only; omega⟩
  · have h := Int32.le_iff_toInt_le.mp (of_decide_eq_true h)
    exact ⟨by dsimp only; omega, by dsimp only; omega⟩
  · have h := Int32.lt_iff_toInt_lt.mp (of_decide_eq_true h)
    exact ⟨by dsimp only; omega, by dsimp only; omega⟩
  · rename_i n0 n1 n2 n3 n4
    have h : x ≤ y := by
      rcases r with _ | _ | _ | _ | _ | r
      · exact absurd rfl n0
      · exact absurd rfl n1
      · exact absurd rfl n2
      · exact absurd rfl n3
      · exact absurd rfl n4
      · exact of_decide_eq_true h
    have h := Int32.le_iff_toInt_le.mp h
    exact ⟨by dsimp only; omega, by dsimp only; omega⟩
noncomputable def ab_swp (r : Nat) : Nat := match r with
  | 0 => 0
  | 1 => 1
  | 2 => 4
  | 3 => 5
  | 4 => 2
  | _ => 3
theorem ab_swp_ok {r : Nat} {x y : Int32} (h : ev_cmp r x y = true) : ev_cmp (ab_swp r) y x = true := by
  rcases r with _ | _ | _ | _ | _ | r
  · simp only [ev_cmp, ab_swp, decide_eq_true_eq] at h ⊢
    exact h.symm
  · simp only [ev_cmp, ab_swp, Bool.not_eq_true', decide_eq_false_iff_not] at h ⊢
    exact fun q => h q.symm
  · simpa [ev_cmp, ab_swp] using h
  · simpa [ev_cmp, ab_swp] using h
  · simpa [ev_cmp, ab_swp] using h
  · simpa [ev_cmp, ab_swp] using h
noncomputable def ab_ngt (r : Nat) : Nat := match r with
  | 0 => 1
  | 1 => 0
  | 2 => 3
  | 3 => 2
  | 4 => 5
  | _ => 4
theorem ab_ngt_ok {r : Nat} {x y : Int32} (h : ev_cmp r x y = false) : ev_cmp (ab_ngt r) x y = true := by
  rcases r with _ | _ | _ | _ | _ | r
  · simpa [ev_cmp, ab_ngt] using h
  · simpa [ev_cmp, ab_ngt] using h
  · simpa [ev_cmp, ab_ngt] using h
  · simpa [ev_cmp, ab_ngt] using h
  · simpa [ev_cmp, ab_ngt] using h
  · simpa [ev_cmp, ab_ngt] using h
/-- back through a sum: x + c within bounds, so x -/
noncomputable def ab_back (K : ab_K) (a : ab_A) : ab_K := if a.1 == 3 then (match K[a.2.1.toNat]? with
    | some r => (match r.2.2.2.2.1 with
      | 0 =>
        let u := r.2.2.2.1
        let c := (Int32.ofInt r.2.2.2.2.2.1).toInt
        let b := ab_bd K u
        if r.2.2.1 = 1 ∧ -2147483648 ≤ b.1 + c ∧ b.2 + c ≤ 2147483647 then ab_set1 K u (max b.1 (r.1 - c), min b.2 (r.2.1 - c))
        else if r.2.2.1 = 2 ∧ -2147483648 ≤ b.1 - c ∧ b.2 - c ≤ 2147483647 then ab_set1 K u (max b.1 (r.1 + c), min b.2 (r.2.1 + c))
        else K
      | _ => K)
    | none => K) else K
theorem ab_back_ok {ρ : List Int32} {K : ab_K} {a : ab_A} {x : Int32} (hk : ab_k ρ K) (ha : ab_i ρ a = some x) : ab_k ρ (ab_back K a) := by
  unfold ab_back
  split
  · rename_i h3
    split
    · rename_i r hr
      split
      · rename_i h0
        have h4 : a.1 = 3 := beq_iff_eq.mp h3
        unfold ab_i at ha
        rw [h4] at ha
        have ha : ρ[a.2.1.toNat]? = some x := ha
        obtain ⟨⟨b1, b2⟩, hd⟩ := hk.2 _ r x hr ha
        dsimp only at b1 b2 ⊢
        have hc : ab_i ρ r.2.2.2.2 = some (Int32.ofInt r.2.2.2.2.2.1) := by
          unfold ab_i
          rw [h0]
          rfl
        split
        · rename_i hc1
          rcases hd with hd | ⟨y, z, hy, hz, e⟩
          · omega
          · rw [hc] at hz
            cases hz
            obtain ⟨y1, y2⟩ := ab_bd_in hk hy
            rw [hc1.1] at e
            have e : x = y + Int32.ofInt r.2.2.2.2.2.1 := e
            have e2 : x.toInt = y.toInt + (Int32.ofInt r.2.2.2.2.2.1).toInt := by
              rw [e, Int32.toInt_add]
              exact ev_bm (by omega) (by omega)
            exact ab_set1_ok hk hy ⟨by dsimp only; omega, by dsimp only; omega⟩
        · split
          · rename_i hc1
            rcases hd with hd | ⟨y, z, hy, hz, e⟩
            · omega
            · rw [hc] at hz
              cases hz
              obtain ⟨y1, y2⟩ := ab_bd_in hk hy
              rw [hc1.1] at e
              have e : x = y - Int32.ofInt r.2.2.2.2.2.1 := e
              have e2 : x.toInt = y.toInt - (Int32.ofInt r.2.2.2.2.2.1).toInt := by
                rw [e, Int32.toInt_sub]
                exact ev_bm (by omega) (by omega)
              exact ab_set1_ok hk hy ⟨by dsimp only; omega, by dsimp only; omega⟩
          · exact hk
      · exact hk
    · exact hk
  · exact hk
/-- a relation: r is y - x within bounds, so x is at most y's highest less r's lowest -/
noncomputable def ab_rel1 (K : ab_K) (r : ab_Ke) : ab_K := if -2147483648 ≤ (ab_bd K r.2.2.2.1).1 - (ab_bd K r.2.2.2.2).2 ∧ (ab_bd K r.2.2.2.1).2 - (ab_bd K r.2.2.2.2).1 ≤ 2147483647 then ab_set1 K r.2.2.2.2 ((ab_bd K r.2.2.2.2).1, min (ab_bd K r.2.2.2.2).2 ((ab_bd K r.2.2.2.1).2 - r.1)) else K
noncomputable def ab_rel : List ab_Ke → ab_K → ab_K
  | [], K => K
  | r :: l, K => ab_rel l (if r.2.2.1 = 22 then ab_rel1 K r else K)
theorem ab_rel1_ok {ρ : List Int32} {K : ab_K} {r : ab_Ke} {w : Int32} (hk : ab_k ρ K) (h22 : r.2.2.1 = 22) (hr : ab_e ρ r w) : ab_k ρ (ab_rel1 K r) := by
  unfold ab_rel1
  split
  · rename_i hc
    rcases hr.2 with hz | ⟨y, x, hy, hx, e⟩
    · omega
    · obtain ⟨y1, y2⟩ := ab_bd_in hk hy
      obtain ⟨x1, x2⟩ := ab_bd_in hk hx
      obtain ⟨w1, w2⟩ := hr.1
      rw [h22] at e
      have e : w = y - x := e
      have e2 : w.toInt = y.toInt - x.toInt := by
        rw [e, Int32.toInt_sub]
        exact ev_bm (by omega) (by omega)
      dsimp only at w1 w2
      exact ab_set1_ok hk hx ⟨by dsimp only; omega, by dsimp only; omega⟩
  · exact hk
theorem ab_rel_ok {ρ : List Int32} : ∀ (l : List ab_Ke) {K : ab_K}, (∀ r ∈ l, ∃ w, ab_e ρ r w) → ab_k ρ K → ab_k ρ (ab_rel l K)
  | [], K, _, hk => hk
  | r :: l, K, hl, hk => by
    unfold ab_rel
    refine ab_rel_ok l (fun q hq => hl q (List.mem_cons_of_mem _ hq)) ?_
    split
    · rename_i h22
      obtain ⟨w, hw⟩ := hl r List.mem_cons_self
      exact ab_rel1_ok hk h22 hw
    · exact hk
theorem ab_k_all {ρ : List Int32} {K : ab_K} (hk : ab_k ρ K) : ∀ r ∈ K, ∃ w, ab_e ρ r w := by
  intro r hr
  obtain ⟨j, hj⟩ := List.getElem?_of_mem hr
  have hl : j < ρ.length := by rw [← hk.1]; exact (List.getElem?_eq_some_iff.mp hj).1
  exact ⟨ρ[j], hk.2 j r _ hj (List.getElem?_eq_getElem hl)⟩
/-- what is known when a r b holds: none if it can't -/
noncomputable def ab_br (r : Nat) (a b : ab_A) (K : ab_K) : Option ab_K :=
  let x := ab_bd K a
  let y := ab_bd K b
  let x' := ab_nar r x y
  let y' := ab_nar (ab_swp r) y x
  if x'.1 ≤ x'.2 ∧ y'.1 ≤ y'.2 then some (ab_rel K (ab_back (ab_back (ab_set1 (ab_set1 K a x') b y') a) b)) else none
theorem ab_br_ok {ρ : List Int32} {K : ab_K} {r : Nat} {a b : ab_A} {x y : Int32} (hk : ab_k ρ K) (ha : ab_i ρ a = some x) (hb : ab_i ρ b = some y) (h : ev_cmp r x y = true) : ∃ K', ab_br r a b K = some K' ∧ ab_k ρ K' := by
  have hx := ab_bd_in hk ha
  have hy := ab_bd_in hk hb
  have h1 := ab_nar_in hx hy h
  have h2 := ab_nar_in hy hx (ab_swp_ok h)
  unfold ab_br
  dsimp only
  rw [if_pos ⟨Int.le_trans h1.1 h1.2, Int.le_trans h2.1 h2.2⟩]
  exact ⟨_, rfl, ab_rel_ok K (ab_k_all hk) (ab_back_ok (ab_back_ok (ab_set1_ok (ab_set1_ok hk ha h1) hb h2) ha) hb)⟩
/-- bounds; references; places that only proofs by hand write; bounds of a place (c, i) where (c', i') is v -/
noncomputable abbrev ab_H : Type := List (Nat × List (Nat × Int × Int)) × List (Nat × List (Nat × Bool × List Nat)) × List (Nat × Nat) × List (Nat × Nat × Nat × Nat × Int × Int × Int)
noncomputable def ab_hl (h : ab_H) (c : Nat) : List (Nat × Int × Int) := match ev_at h.1 c with
  | some l => l
  | none => []
noncomputable def ab_hi (h : ab_H) (c i : Nat) : Int × Int := match ev_at (ab_hl h c) i with
  | some b => b
  | none => ev_ful
noncomputable def ab_hr (h : ab_H) (c i : Nat) : Option (Bool × List Nat) := match ev_at h.2.1 c with
  | some l => ev_at l i
  | none => none
noncomputable def ab_rok (q : Option (Bool × List Nat)) (r : Option Nat) : Prop := match q, r with
  | none, _ => True
  | some q, none => q.1 = true
  | some q, some c => c ∈ q.2
noncomputable def ab_ok (h : ab_H) (N : cm_M → Prop) (M : cm_M) : Prop := (∀ c i, ev_inb (ab_hi h c i) (M.1 c i)) ∧ (∀ c i, ab_rok (ab_hr h c i) (M.2.2 c i)) ∧ N M
/-- what holds of protected cells stays if they aren't written -/
noncomputable def ab_NP (h : ab_H) (N : cm_M → Prop) : Prop := (∀ M M' : cm_M, (∀ q ∈ h.2.2.1, M'.1 q.1 q.2 = M.1 q.1 q.2 ∧ M'.2.1 q.1 q.2 = M.2.1 q.1 q.2 ∧ M'.2.2 q.1 q.2 = M.2.2 q.1 q.2) → N M → N M') ∧ ∀ M : cm_M, N M → ∀ e ∈ h.2.2.2, M.1 e.2.2.1 e.2.2.2.1 = Int32.ofInt e.2.2.2.2.1 → ev_inb e.2.2.2.2.2 (M.1 e.1 e.2.1)
/-- what may be written: cells with places ([]: all) -/
noncomputable abbrev ab_Md : Type := List (Nat × List Nat)
noncomputable def ab_inM (md : ab_Md) (c i : Nat) : Bool := match ev_at md c with
  | some l => l.isEmpty || l.contains i
  | none => false
noncomputable def ab_allM (md : ab_Md) (c : Nat) : Bool := match ev_at md c with
  | some l => l.isEmpty
  | none => false
theorem ab_allM_in {md : ab_Md} {c : Nat} (h : ab_allM md c = true) (i : Nat) : ab_inM md c i = true := by
  unfold ab_allM at h
  unfold ab_inM
  split at h
  · simp [h]
  · cases h
noncomputable def ab_fr (md : ab_Md) (M0 M : cm_M) : Prop := ∀ c i, ab_inM md c i = false → M.1 c i = M0.1 c i ∧ M.2.1 c i = M0.2.1 c i ∧ M.2.2 c i = M0.2.2 c i
theorem ab_fr_rf (md : ab_Md) (M : cm_M) : ab_fr md M M := fun c i _ => ⟨rfl, rfl, rfl⟩
noncomputable def ab_ce (ρ : List Int32) (M : cm_M) (q : Nat × Nat × ab_A) : Prop := if ab_isI q.2.2 = true then ab_i ρ q.2.2 = some (M.1 q.1 q.2.1) else ab_v ρ q.2.2 (cm_rq (M.2.2 q.1 q.2.1))
noncomputable def ab_ca (ρ : List Int32) (M : cm_M) (Ca : ab_Ca) : Prop := ∀ q ∈ Ca, ab_ce ρ M q
theorem ab_ce_ap {ρ ext : List Int32} {M : cm_M} {q : Nat × Nat × ab_A} (h : ab_ce ρ M q) : ab_ce (ρ ++ ext) M q := by
  unfold ab_ce at h ⊢
  split
  · rename_i hi
    rw [if_pos hi] at h
    exact ab_i_ap h
  · rename_i hi
    rw [if_neg hi] at h
    exact ab_v_ap h
theorem ab_ca_ap {ρ ext : List Int32} {M : cm_M} {Ca : ab_Ca} (h : ab_ca ρ M Ca) : ab_ca (ρ ++ ext) M Ca := fun q hq => ab_ce_ap (h q hq)
/-- an entry at a place that wasn't written -/
theorem ab_ce_ne {ρ : List Int32} {M M' : cm_M} {q : Nat × Nat × ab_A} (h1 : M'.1 q.1 q.2.1 = M.1 q.1 q.2.1) (h2 : M'.2.2 q.1 q.2.1 = M.2.2 q.1 q.2.1) (h : ab_ce ρ M q) : ab_ce ρ M' q := by
  unfold ab_ce at h ⊢
  rw [h1, h2]
  exact h
noncomputable def ab_m (h : ab_H) (N : cm_M → Prop) (M0 : cm_M) (md : ab_Md) (ρ : List Int32) (Ca : ab_Ca) (M : cm_M) : Prop := ab_ok h N M ∧ ab_fr md M0 M ∧ ab_ca ρ M Ca
/-- which places of an array: one of these, or any -/
noncomputable abbrev ab_Ix : Type := Option (List Nat)
noncomputable def ab_ixin (ix : ab_Ix) (i : Nat) : Prop := match ix with
  | some l => i ∈ l
  | none => True
noncomputable def ab_ixc (ix : ab_Ix) (i : Nat) : Bool := match ix with
  | some l => l.contains i
  | none => true
theorem ab_ixc_ok {ix : ab_Ix} {i : Nat} (h : ab_ixin ix i) : ab_ixc ix i = true := by
  unfold ab_ixin at h
  unfold ab_ixc
  cases ix with
  | none => rfl
  | some l => exact List.contains_iff_mem.mpr h
noncomputable def ab_mdok (md : ab_Md) (c : Nat) (ix : ab_Ix) : Bool := match ix with
  | some l => l.all (fun i => ab_inM md c i)
  | none => ab_allM md c
theorem ab_mdok_in {md : ab_Md} {c : Nat} {ix : ab_Ix} {i : Nat} (h : ab_mdok md c ix = true) (hi : ab_ixin ix i) : ab_inM md c i = true := by
  unfold ab_mdok at h
  unfold ab_ixin at hi
  cases ix with
  | none => exact ab_allM_in h i
  | some l => exact List.all_eq_true.mp h i hi
noncomputable def ab_drop (Ca : ab_Ca) (cs : List Nat) (ix : ab_Ix) : ab_Ca := Ca.filter (fun q => !(cs.contains q.1 && ab_ixc ix q.2.1))
theorem ab_drop_in {Ca : ab_Ca} {cs : List Nat} {ix : ab_Ix} {q : Nat × Nat × ab_A} (h : q ∈ ab_drop Ca cs ix) {c i : Nat} (hc : c ∈ cs) (hi : ab_ixin ix i) : q ∈ Ca ∧ ¬ (q.1 = c ∧ q.2.1 = i) := by
  obtain ⟨h1, h2⟩ := List.mem_filter.mp h
  refine ⟨h1, fun e => ?_⟩
  obtain ⟨e1, e2⟩ := e
  rw [e1, e2, List.contains_iff_mem.mpr hc, ab_ixc_ok hi] at h2
  simp at h2
/-- a cache behind a store of a -/
noncomputable def ab_keep (Ca : ab_Ca) (cs : List Nat) (ix : ab_Ix) (a : ab_A) : ab_Ca := match cs, ix with
  | [c], some [i] => (c, i, a) :: ab_drop Ca cs ix
  | _, _ => ab_drop Ca cs ix
theorem ab_keep_in {Ca : ab_Ca} {cs : List Nat} {ix : ab_Ix} {a : ab_A} {q : Nat × Nat × ab_A} (h : q ∈ ab_keep Ca cs ix a) {c i : Nat} (hc : c ∈ cs) (hi : ab_ixin ix i) : (q = (c, i, a)) ∨ (q ∈ Ca ∧ ¬ (q.1 = c ∧ q.2.1 = i)) := by
  unfold ab_keep at h
  split at h
  · rename_i c' i'
    have e1 : c = c' := List.mem_singleton.mp hc
    have e2 : i = i' := List.mem_singleton.mp hi
    subst e1
    subst e2
    rcases List.mem_cons.mp h with h | h
    · exact Or.inl h
    · exact Or.inr (ab_drop_in h hc hi)
  · exact Or.inr (ab_drop_in h hc hi)
/-- none of these places is protected -/
noncomputable def ab_pr (h : ab_H) (c : Nat) (ix : ab_Ix) : Bool := h.2.2.1.all (fun q => cond (Nat.beq q.1 c) (!(ab_ixc ix q.2)) true)
theorem ab_pr_ok {h : ab_H} {c : Nat} {ix : ab_Ix} {i : Nat} (hp : ab_pr h c ix = true) (hi : ab_ixin ix i) {q : Nat × Nat} (hq : q ∈ h.2.2.1) : ¬ (q.1 = c ∧ q.2 = i) := by
  intro e
  have h1 := List.all_eq_true.mp hp q hq
  rw [e.1, e.2, ab_ixc_ok hi, Nat.beq_refl] at h1
  exact absurd h1 (by decide)
/-- may an int be stored there -/
noncomputable def ab_stI (h : ab_H) (md : ab_Md) (b : Int × Int) (cs : List Nat) (ix : ab_Ix) : Bool :=
  cs.all (fun c => ab_pr h c ix && (ab_mdok md c ix && (ab_hl h c).all (fun e => !(ab_ixc ix e.1) || (decide (e.2.1 ≤ b.1) && decide (b.2 ≤ e.2.2)))))
theorem ab_hi_in {h : ab_H} {b : Int × Int} {c : Nat} {ix : ab_Ix} {i : Nat} {x : Int32} (ha : (ab_hl h c).all (fun e => !(ab_ixc ix e.1) || (decide (e.2.1 ≤ b.1) && decide (b.2 ≤ e.2.2))) = true) (hi : ab_ixin ix i) (hx : ev_inb b x) : ev_inb (ab_hi h c i) x := by
  unfold ab_hi
  split
  · rename_i e he
    have := List.all_eq_true.mp ha _ (ev_at_mem he)
    simp only [ab_ixc_ok hi, Bool.not_true, Bool.false_or, Bool.and_eq_true, decide_eq_true_eq] at this
    exact ⟨Int.le_trans this.1 hx.1, Int.le_trans hx.2 this.2⟩
  · exact ev_ful_in x
section ABM
variable {h : ab_H} {N : cm_M → Prop} {M0 : cm_M} {md : ab_Md} {ρ : List Int32} {Ca : ab_Ca} {M : cm_M}
theorem ab_m_ap {ext : List Int32} (hm : ab_m h N M0 md ρ Ca M) : ab_m h N M0 md (ρ ++ ext) Ca M := ⟨hm.1, hm.2.1, ab_ca_ap hm.2.2⟩
theorem ab_stI_ok (hN : ab_NP h N) (hm : ab_m h N M0 md ρ Ca M) {b : Int × Int} {cs : List Nat} {ix : ab_Ix} {a : ab_A} {x : Int32} {c i : Nat} (hs : ab_stI h md b cs ix = true) (hc : c ∈ cs) (hi : ab_ixin ix i) (ha : ab_i ρ a = some x) (hb : ev_inb b x) : ab_m h N M0 md ρ (ab_keep Ca cs ix a) (cm_wi M c i x) := by
  have h1 := List.all_eq_true.mp hs c hc
  simp only [Bool.and_eq_true] at h1
  obtain ⟨p1, p2, p3⟩ := h1
  obtain ⟨⟨o1, o2, o3⟩, fr, ca⟩ := hm
  refine ⟨⟨fun c' i' => ?_, o2, hN.1 M _ (fun q hq => ⟨?_, rfl, rfl⟩) o3⟩, fun c' i' hm' => ?_, fun q hq => ?_⟩
  · show ev_inb _ (if c' = c ∧ i' = i then x else M.1 c' i')
    split
    · rename_i e
      rw [e.1, e.2]
      exact ab_hi_in p3 hi hb
    · exact o1 c' i'
  · show (if q.1 = c ∧ q.2 = i then x else M.1 q.1 q.2) = M.1 q.1 q.2
    rw [if_neg (ab_pr_ok p1 hi hq)]
  · have hne : ¬ (c' = c ∧ i' = i) := by
      intro e
      rw [e.1, e.2, ab_mdok_in p2 hi] at hm'
      cases hm'
    obtain ⟨f1, f2, f3⟩ := fr c' i' hm'
    exact ⟨by show (if c' = c ∧ i' = i then x else M.1 c' i') = _; rw [if_neg hne]; exact f1, f2, f3⟩
  · rcases ab_keep_in hq hc hi with rfl | ⟨q1, q2⟩
    · unfold ab_ce
      rw [if_pos (ab_ivI ha)]
      show _ = some (if c = c ∧ i = i then x else M.1 c i)
      rw [if_pos ⟨rfl, rfl⟩]
      exact ha
    · exact ab_ce_ne (M := M) (by show (if q.1 = c ∧ q.2.1 = i then x else M.1 q.1 q.2.1) = _; rw [if_neg q2]) rfl (ca q q1)
/-- a long -/
noncomputable def ab_stL (h : ab_H) (md : ab_Md) (cs : List Nat) (ix : ab_Ix) : Bool := cs.all (fun c => ab_pr h c ix && ab_mdok md c ix)
theorem ab_stL_ok (hN : ab_NP h N) (hm : ab_m h N M0 md ρ Ca M) {cs : List Nat} {ix : ab_Ix} {x : Int64} {c i : Nat} (hs : ab_stL h md cs ix = true) (hc : c ∈ cs) (hi : ab_ixin ix i) : ab_m h N M0 md ρ Ca (cm_wl M c i x) := by
  have h1 := List.all_eq_true.mp hs c hc
  simp only [Bool.and_eq_true] at h1
  obtain ⟨p1, p2⟩ := h1
  obtain ⟨⟨o1, o2, o3⟩, fr, ca⟩ := hm
  refine ⟨⟨o1, o2, hN.1 M _ (fun q hq => ⟨rfl, ?_, rfl⟩) o3⟩, fun c' i' hm' => ?_, fun q hq => ab_ce_ne rfl rfl (ca q hq)⟩
  · show (if q.1 = c ∧ q.2 = i then x else M.2.1 q.1 q.2) = M.2.1 q.1 q.2
    rw [if_neg (ab_pr_ok p1 hi hq)]
  · have hne : ¬ (c' = c ∧ i' = i) := by
      intro e
      rw [e.1, e.2, ab_mdok_in p2 hi] at hm'
      cases hm'
    obtain ⟨f1, f2, f3⟩ := fr c' i' hm'
    exact ⟨f1, by show (if c' = c ∧ i' = i then x else M.2.1 c' i') = _; rw [if_neg hne]; exact f2, f3⟩
/-- a reference -/
noncomputable def ab_rfit (q : Option (Bool × List Nat)) (a : ab_A) : Bool := match q with
  | none => true
  | some q => (match a.1 with
    | 1 => a.2.2.all (fun c => q.2.contains c)
    | 2 => q.1
    | 7 => q.1 && a.2.2.all (fun c => q.2.contains c)
    | _ => false)
theorem ab_rfit_ok {q : Option (Bool × List Nat)} {a : ab_A} {r : Option Nat} (h1 : ab_rfit q a = true) (hv : ab_v ρ a (cm_rq r)) : ab_rok q r := by
  unfold ab_rfit at h1
  cases q with
  | none => exact trivial
  | some q =>
    dsimp only at h1
    unfold ab_v at hv
    split at h1
    · rename_i e
      rw [e] at hv
      obtain ⟨c, hc, e2⟩ := hv
      cases r with
      | none => cases e2
      | some r =>
        cases e2
        exact List.contains_iff_mem.mp (List.all_eq_true.mp h1 _ hc)
    · rename_i e
      rw [e] at hv
      cases r with
      | none => exact h1
      | some r => cases hv
    · rename_i e
      rw [e] at hv
      simp only [Bool.and_eq_true] at h1
      cases r with
      | none => exact h1.1
      | some r =>
        rcases hv with hv | ⟨c, hc, e2⟩
        · cases hv
        · cases e2
          exact List.contains_iff_mem.mp (List.all_eq_true.mp h1.2 _ hc)
    · cases h1
noncomputable def ab_stR (h : ab_H) (md : ab_Md) (a : ab_A) (cs : List Nat) (i : Nat) : Bool := cs.all (fun c => ab_pr h c (some [i]) && (ab_inM md c i && ab_rfit (ab_hr h c i) a))
theorem ab_stR_ok (hN : ab_NP h N) (hm : ab_m h N M0 md ρ Ca M) {cs : List Nat} {a : ab_A} {r : Option Nat} {c i : Nat} (hs : ab_stR h md a cs i = true) (hc : c ∈ cs) (hR : ab_isI a = false) (ha : ab_v ρ a (cm_rq r)) : ab_m h N M0 md ρ (ab_keep Ca cs (some [i]) a) (cm_wr M c i r) := by
  have h1 := List.all_eq_true.mp hs c hc
  simp only [Bool.and_eq_true] at h1
  obtain ⟨p1, p2, p3⟩ := h1
  obtain ⟨⟨o1, o2, o3⟩, fr, ca⟩ := hm
  refine ⟨⟨o1, fun c' i' => ?_, hN.1 M _ (fun q hq => ⟨rfl, rfl, ?_⟩) o3⟩, fun c' i' hm' => ?_, fun q hq => ?_⟩
  · show ab_rok _ (if c' = c ∧ i' = i then r else M.2.2 c' i')
    split
    · rename_i e
      rw [e.1, e.2]
      exact ab_rfit_ok p3 ha
    · exact o2 c' i'
  · show (if q.1 = c ∧ q.2 = i then r else M.2.2 q.1 q.2) = M.2.2 q.1 q.2
    rw [if_neg (ab_pr_ok p1 (show ab_ixin (some [i]) i from List.mem_singleton.mpr rfl) hq)]
  · have hne : ¬ (c' = c ∧ i' = i) := by
      intro e
      rw [e.1, e.2, p2] at hm'
      cases hm'
    obtain ⟨f1, f2, f3⟩ := fr c' i' hm'
    exact ⟨f1, f2, by show (if c' = c ∧ i' = i then r else M.2.2 c' i') = _; rw [if_neg hne]; exact f3⟩
  · rcases ab_keep_in hq hc (show ab_ixin (some [i]) i from List.mem_singleton.mpr rfl) with rfl | ⟨q1, q2⟩
    · unfold ab_ce
      rw [if_neg (by dsimp only; rw [hR]; decide)]
      show ab_v ρ a (cm_rq (if c = c ∧ i = i then r else M.2.2 c i))
      rw [if_pos ⟨rfl, rfl⟩]
      exact ha
    · exact ab_ce_ne (M := M) rfl (by show (if q.1 = c ∧ q.2.1 = i then r else M.2.2 q.1 q.2.1) = _; rw [if_neg q2]) (ca q q1)
/-- a row of ints copied: into arrays of which nothing is kept -/
noncomputable def ab_stC (h : ab_H) (md : ab_Md) (ds : List Nat) : Bool := ds.all (fun d => ab_pr h d none && (ab_allM md d && (ab_hl h d).isEmpty))
theorem ab_stC_ok (hN : ab_NP h N) (hm : ab_m h N M0 md ρ Ca M) {ds : List Nat} {c sp d dp n : Nat} (hs : ab_stC h md ds = true) (hd : d ∈ ds) : ab_m h N M0 md ρ (ab_drop Ca ds none) (cm_cp M c sp d dp n) := by
  have h1 := List.all_eq_true.mp hs d hd
  simp only [Bool.and_eq_true, List.isEmpty_iff] at h1
  obtain ⟨p1, p2, p3⟩ := h1
  obtain ⟨⟨o1, o2, o3⟩, fr, ca⟩ := hm
  refine ⟨⟨fun c' i' => ?_, o2, hN.1 M _ (fun q hq => ⟨?_, rfl, rfl⟩) o3⟩, fun c' i' hm' => ?_, fun q hq => ?_⟩
  · by_cases e : c' = d
    · subst e
      have : ab_hi h c' i' = ev_ful := by unfold ab_hi; rw [p3]; rfl
      rw [this]
      exact ev_ful_in _
    · show ev_inb _ (if c' = d ∧ dp ≤ i' ∧ i' < dp + n then M.1 c (sp + (i' - dp)) else M.1 c' i')
      rw [if_neg (fun z => e z.1)]
      exact o1 c' i'
  · show (if q.1 = d ∧ dp ≤ q.2 ∧ q.2 < dp + n then M.1 c (sp + (q.2 - dp)) else M.1 q.1 q.2) = M.1 q.1 q.2
    rw [if_neg (fun z => ab_pr_ok (i := q.2) p1 trivial hq ⟨z.1, rfl⟩)]
  · have hne : ¬ c' = d := by
      intro e
      rw [e, ab_allM_in p2] at hm'
      cases hm'
    obtain ⟨f1, f2, f3⟩ := fr c' i' hm'
    exact ⟨by show (if c' = d ∧ dp ≤ i' ∧ i' < dp + n then M.1 c (sp + (i' - dp)) else M.1 c' i') = _; rw [if_neg (fun z => hne z.1)]; exact f1, f2, f3⟩
  · obtain ⟨h1, h2⟩ := List.mem_filter.mp hq
    have hne : ¬ q.1 = d := by
      intro e
      rw [e, List.contains_iff_mem.mpr hd] at h2
      simp [ab_ixc] at h2
    exact ab_ce_ne (M := M) (by show (if q.1 = d ∧ dp ≤ q.2.1 ∧ q.2.1 < dp + n then M.1 c (sp + (q.2.1 - dp)) else M.1 q.1 q.2.1) = _; rw [if_neg (fun z => hne z.1)]) rfl (ca q h1)
end ABM
noncomputable def ab_cf (Ca : ab_Ca) (c i : Nat) : Option ab_A := List.rec (motive := fun _ => Option ab_A) none (fun q _ r => cond (Nat.beq q.1 c) (cond (Nat.beq q.2.1 i) (some q.2.2) r) r) Ca
theorem ab_cf_mem : ∀ {Ca : ab_Ca} {c i : Nat} {a : ab_A}, ab_cf Ca c i = some a → (c, i, a) ∈ Ca
  | [], c, i, a, h => by
    have h : (none : Option ab_A) = some a := h
    cases h
  | q :: r, c, i, a, h => by
    have h : cond (Nat.beq q.1 c) (cond (Nat.beq q.2.1 i) (some q.2.2) (ab_cf r c i)) (ab_cf r c i) = some a := h
    cases h1 : Nat.beq q.1 c with
    | true =>
      rw [h1] at h
      cases h2 : Nat.beq q.2.1 i with
      | true =>
        rw [h2] at h
        have h : some q.2.2 = some a := h
        cases h
        rw [← Nat.eq_of_beq_eq_true h1, ← Nat.eq_of_beq_eq_true h2]
        exact List.mem_cons_self
      | false =>
        rw [h2] at h
        exact List.mem_cons_of_mem _ (ab_cf_mem (show ab_cf r c i = some a from h))
    | false =>
      rw [h1] at h
      exact List.mem_cons_of_mem _ (ab_cf_mem (show ab_cf r c i = some a from h))
noncomputable def ab_hull (h : ab_H) (cs l : List Nat) : Int × Int := cs.foldl (fun b c => l.foldl (fun b i => (min b.1 (ab_hi h c i).1, max b.2 (ab_hi h c i).2)) b) (2147483647, -2147483648)
theorem ab_fold_mono {α : Type} (f : α → Int × Int) : ∀ (l : List α) (b : Int × Int), (l.foldl (fun b i => (min b.1 (f i).1, max b.2 (f i).2)) b).1 ≤ b.1 ∧ b.2 ≤ (l.foldl (fun b i => (min b.1 (f i).1, max b.2 (f i).2)) b).2
  | [], b => ⟨Int.le_refl _, Int.le_refl _⟩
  | a :: l, b => by
    have := ab_fold_mono f l (min b.1 (f a).1, max b.2 (f a).2)
    rw [List.foldl_cons]
    exact ⟨by have := this.1; dsimp only at this; omega, by have := this.2; dsimp only at this; omega⟩
theorem ab_fold_in {α : Type} (f : α → Int × Int) : ∀ (l : List α) (b : Int × Int) {a : α}, a ∈ l → (l.foldl (fun b i => (min b.1 (f i).1, max b.2 (f i).2)) b).1 ≤ (f a).1 ∧ (f a).2 ≤ (l.foldl (fun b i => (min b.1 (f i).1, max b.2 (f i).2)) b).2
  | [], b, a, h => by cases h
  | x :: l, b, a, h => by
    rw [List.foldl_cons]
    rcases List.mem_cons.mp h with rfl | h
    · have := ab_fold_mono f l (min b.1 (f a).1, max b.2 (f a).2)
      exact ⟨by have := this.1; dsimp only at this; omega, by have := this.2; dsimp only at this; omega⟩
    · exact ab_fold_in f l _ h
theorem ab_hull_mono {h : ab_H} {l : List Nat} : ∀ (cs : List Nat) (b : Int × Int), (cs.foldl (fun b c => l.foldl (fun b i => (min b.1 (ab_hi h c i).1, max b.2 (ab_hi h c i).2)) b) b).1 ≤ b.1 ∧ b.2 ≤ (cs.foldl (fun b c => l.foldl (fun b i => (min b.1 (ab_hi h c i).1, max b.2 (ab_hi h c i).2)) b) b).2
  | [], b => ⟨Int.le_refl _, Int.le_refl _⟩
  | c :: cs, b => by
    rw [List.foldl_cons]
    have h1 := ab_fold_mono (fun i => ab_hi h c i) l b
    have h2 := ab_hull_mono (h := h) (l := l) cs (l.foldl (fun b i => (min b.1 (ab_hi h c i).1, max b.2 (ab_hi h c i).2)) b)
    exact ⟨Int.le_trans h2.1 h1.1, Int.le_trans h1.2 h2.2⟩
theorem ab_hull_in {h : ab_H} {l : List Nat} {i : Nat} (hi : i ∈ l) : ∀ (cs : List Nat) (b : Int × Int) {c : Nat}, c ∈ cs → (cs.foldl (fun b c => l.foldl (fun b i => (min b.1 (ab_hi h c i).1, max b.2 (ab_hi h c i).2)) b) b).1 ≤ (ab_hi h c i).1 ∧ (ab_hi h c i).2 ≤ (cs.foldl (fun b c => l.foldl (fun b i => (min b.1 (ab_hi h c i).1, max b.2 (ab_hi h c i).2)) b) b).2
  | [], b, c, hc => by cases hc
  | x :: cs, b, c, hc => by
    rw [List.foldl_cons]
    rcases List.mem_cons.mp hc with rfl | hc
    · have h1 := ab_fold_in (fun i => ab_hi h c i) l b hi
      have h2 := ab_hull_mono (h := h) (l := l) cs (l.foldl (fun b i => (min b.1 (ab_hi h c i).1, max b.2 (ab_hi h c i).2)) b)
      exact ⟨Int.le_trans h2.1 h1.1, Int.le_trans h1.2 h2.2⟩
    · exact ab_hull_in hi cs _ hc
/-- the bounds of a place, by what is known of another one -/
noncomputable def ab_cd (K : ab_K) (Ca : ab_Ca) (e : Nat × Nat × Nat × Nat × Int × Int × Int) : Bool := match ab_cf Ca e.2.2.1 e.2.2.2.1 with
  | some a => ab_isI a && (decide ((ab_bd K a).1 = e.2.2.2.2.1) && decide ((ab_bd K a).2 = e.2.2.2.2.1))
  | none => false
noncomputable def ab_hc (h : ab_H) (K : ab_K) (Ca : ab_Ca) (c i : Nat) : List (Nat × Nat × Nat × Nat × Int × Int × Int) → Int × Int
  | [] => ab_hi h c i
  | e :: r => cond (Nat.beq e.1 c) (if e.2.1 = i ∧ ab_cd K Ca e = true then e.2.2.2.2.2 else ab_hc h K Ca c i r) (ab_hc h K Ca c i r)
theorem ab_hc_in {h : ab_H} {N : cm_M → Prop} {M0 : cm_M} {md : ab_Md} {ρ : List Int32} {Ca : ab_Ca} {M : cm_M} {K : ab_K} {c i : Nat} (hN : ab_NP h N) (hk : ab_k ρ K) (hm : ab_m h N M0 md ρ Ca M) : ∀ (l : List (Nat × Nat × Nat × Nat × Int × Int × Int)), (∀ e ∈ l, e ∈ h.2.2.2) → ev_inb (ab_hc h K Ca c i l) (M.1 c i)
  | [], _ => hm.1.1 c i
  | e :: r, hl => by
    show ev_inb (cond (Nat.beq e.1 c) (if e.2.1 = i ∧ ab_cd K Ca e = true then e.2.2.2.2.2 else ab_hc h K Ca c i r) (ab_hc h K Ca c i r)) (M.1 c i)
    cases hb : Nat.beq e.1 c with
    | false => exact ab_hc_in hN hk hm r (fun x hx => hl x (List.mem_cons_of_mem _ hx))
    | true =>
      have q1 := Nat.eq_of_beq_eq_true hb
      show ev_inb (if e.2.1 = i ∧ ab_cd K Ca e = true then e.2.2.2.2.2 else ab_hc h K Ca c i r) (M.1 c i)
      split
      · rename_i hq
        obtain ⟨q2, q3⟩ := hq
        unfold ab_cd at q3
        split at q3
        · rename_i a ha
          simp only [Bool.and_eq_true, decide_eq_true_eq] at q3
          have h1 := hm.2.2 _ (ab_cf_mem ha)
          unfold ab_ce at h1
          rw [if_pos q3.1] at h1
          obtain ⟨b1, b2⟩ := ab_bd_in hk h1
          dsimp only at b1 b2
          have h2 : M.1 e.2.2.1 e.2.2.2.1 = Int32.ofInt e.2.2.2.2.1 := by
            rw [← Int32.ofInt_toInt (M.1 e.2.2.1 e.2.2.2.1)]
            congr 1
            omega
          have h3 := hN.2 M hm.1.2.2 e (hl e List.mem_cons_self) h2
          rw [q1, q2] at h3
          exact h3
        · cases q3
      · exact ab_hc_in hN hk hm r (fun x hx => hl x (List.mem_cons_of_mem _ hx))
/-- an int is read -/
noncomputable def ab_ldI (h : ab_H) (K : ab_K) (Ca : ab_Ca) (cs : List Nat) (ix : ab_Ix) : ab_A × ab_K × ab_Ca := match cs, ix with
  | [c], some [i] => (match ab_cf Ca c i with
    | some a => if ab_isI a = true then (a, K, Ca) else ((ab_any K (ab_hi h c i)).1, (ab_any K (ab_hi h c i)).2, Ca)
    | none => ((ab_any K (ab_hc h K Ca c i h.2.2.2)).1, (ab_any K (ab_hc h K Ca c i h.2.2.2)).2, (c, i, (ab_any K (ab_hc h K Ca c i h.2.2.2)).1) :: Ca))
  | cs, some l => ((ab_any K (ab_hull h cs l)).1, (ab_any K (ab_hull h cs l)).2, Ca)
  | _, none => ((ab_any K ev_ful).1, (ab_any K ev_ful).2, Ca)
theorem ab_ldI_ok {h : ab_H} {N : cm_M → Prop} {M0 : cm_M} {md : ab_Md} {ρ : List Int32} {Ca Ca' : ab_Ca} {M : cm_M} {K K' : ab_K} {cs : List Nat} {ix : ab_Ix} {a : ab_A} {c i : Nat} (hN : ab_NP h N) (hk : ab_k ρ K) (hm : ab_m h N M0 md ρ Ca M) (hl : ab_ldI h K Ca cs ix = (a, K', Ca')) (hc : c ∈ cs) (hi : ab_ixin ix i) : ∃ ext, ab_k (ρ ++ ext) K' ∧ ab_i (ρ ++ ext) a = some (M.1 c i) ∧ ab_m h N M0 md (ρ ++ ext) Ca' M := by
  unfold ab_ldI at hl
  split at hl
  · rename_i c' i'
    have e1 : c = c' := List.mem_singleton.mp hc
    have e2 : i = i' := List.mem_singleton.mp hi
    subst e1
    subst e2
    split at hl
    · rename_i q hq
      split at hl
      · rename_i hI
        cases hl
        have := hm.2.2 _ (ab_cf_mem hq)
        unfold ab_ce at this
        rw [if_pos hI] at this
        exact ⟨[], by simpa using hk, by simpa using this, by simpa using hm⟩
      · cases hl
        obtain ⟨ext, k1, k2⟩ := ab_any_ok hk (hm.1.1 c i) (rfl : ab_any K (ab_hi h c i) = (_, _))
        exact ⟨ext, k1, k2, ab_m_ap hm⟩
    · cases hl
      obtain ⟨ext, k1, k2⟩ := ab_any_ok hk (ab_hc_in hN hk hm h.2.2.2 (fun _ z => z)) (rfl : ab_any K (ab_hc h K Ca c i h.2.2.2) = (_, _))
      refine ⟨ext, k1, k2, hm.1, hm.2.1, fun q hq => ?_⟩
      rcases List.mem_cons.mp hq with rfl | hq
      · unfold ab_ce
        rw [if_pos (show ab_isI (ab_any K (ab_hc h K Ca c i h.2.2.2)).1 = true from ab_ivI k2)]
        exact k2
      · exact ab_ce_ap (hm.2.2 q hq)
  · rename_i l hne
    cases hl
    have hb : ev_inb (ab_hull h cs l) (M.1 c i) := by
      have h1 := ab_hull_in (h := h) (l := l) hi cs (2147483647, -2147483648) hc
      have h2 := hm.1.1 c i
      exact ⟨Int.le_trans h1.1 h2.1, Int.le_trans h2.2 h1.2⟩
    obtain ⟨ext, k1, k2⟩ := ab_any_ok hk hb (rfl : ab_any K (ab_hull h cs l) = (_, _))
    exact ⟨ext, k1, k2, ab_m_ap hm⟩
  · cases hl
    obtain ⟨ext, k1, k2⟩ := ab_any_ok hk (ev_ful_in (M.1 c i)) (rfl : ab_any K ev_ful = (_, _))
    exact ⟨ext, k1, k2, ab_m_ap hm⟩
/-- a reference is read: which cells -/
noncomputable def ab_un (h : ab_H) : List (Nat × Nat) → Option (Bool × List Nat)
  | [] => some (false, [])
  | q :: r => match ab_hr h q.1 q.2, ab_un h r with
    | some (n, cs), some (n', cs') => some (n || n', cs ++ cs')
    | _, _ => none
theorem ab_un_ok {h : ab_H} : ∀ {l : List (Nat × Nat)} {n : Bool} {cs : List Nat}, ab_un h l = some (n, cs) → ∀ q ∈ l, ∀ r, ab_rok (ab_hr h q.1 q.2) r → ab_rok (some (n, cs)) r
  | [], n, cs, e => fun q hq => nomatch hq
  | p :: l, n, cs, e => by
    unfold ab_un at e
    split at e
    · rename_i n1 c1 n2 c2 e1 e2
      cases e
      intro q hq r hr
      rcases List.mem_cons.mp hq with rfl | hq
      · rw [e1] at hr
        cases r with
        | none => have hr : n1 = true := hr; show (n1 || n2) = true; rw [hr]; rfl
        | some x => exact List.mem_append_left _ hr
      · have := ab_un_ok e2 q hq r hr
        cases r with
        | none => have hr : n2 = true := this; show (n1 || n2) = true; rw [hr]; simp
        | some x => exact List.mem_append_right _ this
    · cases e
noncomputable def ab_ldR (h : ab_H) (Ca : ab_Ca) (cs l : List Nat) : Option ab_A := match cs, l with
  | [c], [i] => (match ab_cf Ca c i with
    | some a => if ab_isI a = false then some a else none
    | none => (match ab_hr h c i with
      | some (false, ts) => some (1, 0, ts)
      | some (true, ts) => some (7, 0, ts)
      | none => none))
  | cs, l => (match ab_un h (cs.flatMap (fun c => l.map (fun i => (c, i)))) with
    | some (false, ts) => some (1, 0, ts)
    | some (true, ts) => some (7, 0, ts)
    | none => none)
theorem ab_rokv {ρ : List Int32} {n : Bool} {ts : List Nat} {r : Option Nat} (h : ab_rok (some (n, ts)) r) : ab_v ρ (if n = true then (7, 0, ts) else (1, 0, ts)) (cm_rq r) := by
  cases n with
  | true =>
    rw [if_pos rfl]
    cases r with
    | none => exact Or.inl rfl
    | some x => exact Or.inr ⟨x, h, rfl⟩
  | false =>
    rw [if_neg (by decide)]
    cases r with
    | none => cases h
    | some x => exact ⟨x, h, rfl⟩
theorem ab_ldR_ok {h : ab_H} {N : cm_M → Prop} {M0 : cm_M} {md : ab_Md} {ρ : List Int32} {Ca : ab_Ca} {M : cm_M} {cs l : List Nat} {a : ab_A} {c i : Nat} (hm : ab_m h N M0 md ρ Ca M) (hl : ab_ldR h Ca cs l = some a) (hc : c ∈ cs) (hi : i ∈ l) : ab_v ρ a (cm_rq (M.2.2 c i)) := by
  unfold ab_ldR at hl
  have fin : ∀ {n : Bool} {ts : List Nat}, ab_rok (some (n, ts)) (M.2.2 c i) → (match (some (n, ts) : Option (Bool × List Nat)) with
      | some (false, ts) => some ((1, 0, ts) : ab_A)
      | some (true, ts) => some (7, 0, ts)
      | none => none) = some a → ab_v ρ a (cm_rq (M.2.2 c i)) := by
    intro n ts h1 h2
    have := ab_rokv (ρ := ρ) h1
    cases n with
    | true => cases h2; exact this
    | false => cases h2; exact this
  split at hl
  · rename_i c' i'
    have e1 : c = c' := List.mem_singleton.mp hc
    have e2 : i = i' := List.mem_singleton.mp hi
    subst e1
    subst e2
    split at hl
    · rename_i q hq
      split at hl
      · rename_i hI
        cases hl
        have := hm.2.2 _ (ab_cf_mem hq)
        unfold ab_ce at this
        rw [if_neg (by dsimp only; rw [hI]; decide)] at this
        exact this
      · cases hl
    · have h1 := hm.1.2.1 c i
      cases hz : ab_hr h c i with
      | none => rw [hz] at hl; cases hl
      | some q =>
        rw [hz] at hl h1
        exact fin h1 hl
  · have h1 := hm.1.2.1 c i
    cases hz : ab_un h (cs.flatMap (fun c => l.map (fun i => (c, i)))) with
    | none => rw [hz] at hl; cases hl
    | some q =>
      rw [hz] at hl
      exact fin (ab_un_ok hz (c, i) (List.mem_flatMap.mpr ⟨c, hc, List.mem_map.mpr ⟨i, hi, rfl⟩⟩) _ h1) hl
noncomputable def ab_l (ρ : List Int32) (L : List (Nat × ab_A)) (CL : List (Nat × Value)) : Prop := ∀ q ∈ L, ∃ v, cm_look CL q.1 = some v ∧ ab_v ρ q.2 v
noncomputable def ab_s (ρ : List Int32) : List ab_A → List Value → Prop
  | [], [] => True
  | a :: st, v :: sc => ab_v ρ a v ∧ ab_s ρ st sc
  | _, _ => False
theorem ab_l_ap {ρ ext : List Int32} {L : List (Nat × ab_A)} {CL : List (Nat × Value)} (h : ab_l ρ L CL) : ab_l (ρ ++ ext) L CL := fun q hq => by
  obtain ⟨v, h1, h2⟩ := h q hq
  exact ⟨v, h1, ab_v_ap h2⟩
theorem ab_s_ap {ρ ext : List Int32} : ∀ {st : List ab_A} {sc : List Value}, ab_s ρ st sc → ab_s (ρ ++ ext) st sc
  | [], [], _ => trivial
  | [], _ :: _, h => h.elim
  | _ :: _, [], h => h.elim
  | _ :: _, _ :: _, h => ⟨ab_v_ap h.1, ab_s_ap h.2⟩
theorem ab_s_cons {ρ : List Int32} {a : ab_A} {st : List ab_A} {sc : List Value} (h : ab_s ρ (a :: st) sc) : ∃ v sc', sc = v :: sc' ∧ ab_v ρ a v ∧ ab_s ρ st sc' := by
  cases sc with
  | nil => exact h.elim
  | cons v sc' => exact ⟨v, sc', rfl, h.1, h.2⟩
theorem ab_s_nil {ρ : List Int32} {sc : List Value} (h : ab_s ρ [] sc) : sc = [] := by
  cases sc with
  | nil => rfl
  | cons v sc' => exact h.elim
noncomputable def ab_G (h : ab_H) (N : cm_M → Prop) (M0 : cm_M) (md : ab_Md) (ρ : List Int32) (S : ab_S) (C : cm_S) : Prop := C.1 = S.1 ∧ ab_l ρ S.2.1 C.2.1 ∧ ab_s ρ S.2.2.1 C.2.2.1 ∧ ab_k ρ S.2.2.2.1 ∧ ab_m h N M0 md ρ S.2.2.2.2 C.2.2.2
noncomputable abbrev ab_O : Type := ab_H → ab_Md → ev_P → ev_T → ab_S → Option (List ab_S)
noncomputable def ab_Snd (o : cm_O) (a : ab_O) : Prop := ∀ (h : ab_H) (N : cm_M → Prop) (M0 : cm_M) (md : ab_Md) (E : cm_E) (P : ev_P) (t : ev_T) (S : ab_S) (Ss : List ab_S) (C : cm_S) (ρ : List Int32) (k : cm_S → Prop), ab_NP h N → a h md P t S = some Ss → ab_G h N M0 md ρ S C → (∀ S' ∈ Ss, ∀ (ext : List Int32) (C' : cm_S), ab_G h N M0 md (ρ ++ ext) S' C' → k C') → o.2 E P t C k
/-- nothing new -/
theorem ab_nil {α : Type} (l : List α) : l ++ [] = l := List.append_nil l
noncomputable def ab_adv (S : ab_S) (n : Nat) (st : List ab_A) : ab_S := (S.1 + n, S.2.1, st, S.2.2.2)
noncomputable def ab_advK (S : ab_S) (n : Nat) (st : List ab_A) (K : ab_K) : ab_S := (S.1 + n, S.2.1, st, K, S.2.2.2.2)
noncomputable def ab_no : ab_O := fun _ _ _ _ _ => none
theorem ab_no_ok (o : cm_O) : ab_Snd o ab_no := fun h N M0 md E P t S Ss C ρ k hN h1 => by cases h1
section ABO
variable {h : ab_H} {N : cm_M → Prop} {M0 : cm_M} {md : ab_Md} {ρ : List Int32} {k : cm_S → Prop} {pc : Nat} {L : List (Nat × ab_A)} {st : List ab_A} {K : ab_K} {Ca : ab_Ca} {CL : List (Nat × Value)} {M : cm_M}
/-- a new value on the stack -/
theorem ab_fin {Ss : List ab_S} (hk : ∀ S' ∈ Ss, ∀ (ext : List Int32) (C' : cm_S), ab_G h N M0 md (ρ ++ ext) S' C' → k C') (S1 : ab_S) (hS : S1 ∈ Ss) (C1 : cm_S) (hG : ab_G h N M0 md ρ S1 C1) : k C1 := hk S1 hS [] C1 (by rw [ab_nil]; exact hG)
end ABO
theorem ab_look_fl {f : Nat × Value → Bool} : ∀ {CL : List (Nat × Value)} {j : Nat} {v : Value}, cm_look CL j = some v → f (j, v) = true → cm_look (CL.filter f) j = some v
  | [], j, v, h, _ => by cases h
  | q :: CL, j, v, h, hf => by
    unfold cm_look at h
    rw [List.filter_cons]
    split at h
    · rename_i e
      cases h
      have eq : q = (j, q.2) := Prod.ext e rfl
      rw [← eq] at hf
      rw [if_pos hf]
      unfold cm_look
      rw [if_pos e]
    · rename_i e
      have ih := ab_look_fl h hf
      split
      · unfold cm_look
        rw [if_neg e]
        exact ih
      · exact ih
noncomputable def ab_st1 (L : List (Nat × ab_A)) (i : Nat) (a : ab_A) : List (Nat × ab_A) := (i, a) :: L.filter (fun q => !(q.1 == i) && !(q.1 + 1 == i && q.2.1 == 6))
noncomputable def ab_st2 (L : List (Nat × ab_A)) (i : Nat) (a : ab_A) : List (Nat × ab_A) := (i, a) :: L.filter (fun q => !(q.1 == i) && (!(q.1 == i + 1) && !(q.1 + 1 == i && q.2.1 == 6)))
theorem ab_cat6 {ρ : List Int32} {a : ab_A} {v : Value} (hv : ab_v ρ a v) : (v.category == 2) = (a.1 == 6) := by
  rcases ab_cat hv with ⟨h1, h2⟩ | ⟨h1, h2⟩
  · rw [h1, h2]; rfl
  · rw [h2]
    have : (a.1 == 6) = false := by simpa using h1
    rw [this]
    rfl
theorem ab_st1_ok {ρ : List Int32} {L : List (Nat × ab_A)} {CL : List (Nat × Value)} {i : Nat} {a : ab_A} {v : Value} (h : ab_l ρ L CL) (hv : ab_v ρ a v) : ab_l ρ (ab_st1 L i a) (cm_st1 CL i v) := by
  intro q hq
  rcases List.mem_cons.mp hq with rfl | hq
  · exact ⟨v, by unfold cm_st1 cm_look; rw [if_pos rfl], hv⟩
  · obtain ⟨q1, q2⟩ := List.mem_filter.mp hq
    obtain ⟨x, a1, a2⟩ := h q q1
    refine ⟨x, ?_, a2⟩
    rw [← ab_cat6 a2] at q2
    unfold cm_st1 cm_look
    have hne : ¬ i = q.1 := by
      intro e
      rw [e] at q2
      simp at q2
    rw [if_neg hne]
    exact ab_look_fl a1 q2
theorem ab_st2_ok {ρ : List Int32} {L : List (Nat × ab_A)} {CL : List (Nat × Value)} {i : Nat} {a : ab_A} {v : Value} (h : ab_l ρ L CL) (hv : ab_v ρ a v) : ab_l ρ (ab_st2 L i a) (cm_st2 CL i v) := by
  intro q hq
  rcases List.mem_cons.mp hq with rfl | hq
  · exact ⟨v, by unfold cm_st2 cm_look; rw [if_pos rfl], hv⟩
  · obtain ⟨q1, q2⟩ := List.mem_filter.mp hq
    obtain ⟨x, a1, a2⟩ := h q q1
    refine ⟨x, ?_, a2⟩
    rw [← ab_cat6 a2] at q2
    unfold cm_st2 cm_look
    have hne : ¬ i = q.1 := by
      intro e
      rw [e] at q2
      simp at q2
    rw [if_neg hne]
    exact ab_look_fl a1 q2
noncomputable def ab_iconst : ab_O := fun h md P t S => some [ab_adv S 1 (ab_c (Int32.ofInt t.1).toInt :: S.2.2.1)]
theorem ab_iconst_ok : ab_Snd cm_iconst ab_iconst := by
  intro h N M0 md E P t S Ss C ρ k hN h1 hG hk
  obtain ⟨pc, L, st, K, Ca⟩ := S
  obtain ⟨cpc, CL, sc, M⟩ := C
  obtain ⟨e0, gl, gs, gk, gm⟩ := hG
  dsimp only at e0 gl gs gk gm
  subst e0
  cases h1
  exact ab_fin hk _ (List.mem_singleton.mpr rfl) (cpc + 1, CL, .int (Int32.ofInt t.1) :: sc, M) ⟨rfl, gl, ⟨ab_iv (ab_c_at ρ _), gs⟩, gk, gm⟩

noncomputable def ab_bipush : ab_O := fun h md P t S => some [ab_adv S 2 (ab_c ((Int8.ofInt t.1).toInt32).toInt :: S.2.2.1)]
theorem ab_bipush_ok : ab_Snd cm_bipush ab_bipush := by
  intro h N M0 md E P t S Ss C ρ k hN h1 hG hk
  obtain ⟨pc, L, st, K, Ca⟩ := S
  obtain ⟨cpc, CL, sc, M⟩ := C
  obtain ⟨e0, gl, gs, gk, gm⟩ := hG
  dsimp only at e0 gl gs gk gm
  subst e0
  cases h1
  exact ab_fin hk _ (List.mem_singleton.mpr rfl) (cpc + 2, CL, .int ((Int8.ofInt t.1).toInt32) :: sc, M) ⟨rfl, gl, ⟨ab_iv (ab_c_at ρ _), gs⟩, gk, gm⟩

noncomputable def ab_sipush : ab_O := fun h md P t S => some [ab_adv S 3 (ab_c ((Int16.ofInt t.1).toInt32).toInt :: S.2.2.1)]
theorem ab_sipush_ok : ab_Snd cm_sipush ab_sipush := by
  intro h N M0 md E P t S Ss C ρ k hN h1 hG hk
  obtain ⟨pc, L, st, K, Ca⟩ := S
  obtain ⟨cpc, CL, sc, M⟩ := C
  obtain ⟨e0, gl, gs, gk, gm⟩ := hG
  dsimp only at e0 gl gs gk gm
  subst e0
  cases h1
  exact ab_fin hk _ (List.mem_singleton.mpr rfl) (cpc + 3, CL, .int ((Int16.ofInt t.1).toInt32) :: sc, M) ⟨rfl, gl, ⟨ab_iv (ab_c_at ρ _), gs⟩, gk, gm⟩

noncomputable def ab_ldc : ab_O := fun h md P t S => some [ab_adv S 2 (ab_c (Int32.ofInt t.1).toInt :: S.2.2.1)]
theorem ab_ldc_ok : ab_Snd cm_ldc ab_ldc := by
  intro h N M0 md E P t S Ss C ρ k hN h1 hG hk
  obtain ⟨pc, L, st, K, Ca⟩ := S
  obtain ⟨cpc, CL, sc, M⟩ := C
  obtain ⟨e0, gl, gs, gk, gm⟩ := hG
  dsimp only at e0 gl gs gk gm
  subst e0
  cases h1
  exact ab_fin hk _ (List.mem_singleton.mpr rfl) (cpc + 2, CL, .int (Int32.ofInt t.1) :: sc, M) ⟨rfl, gl, ⟨ab_iv (ab_c_at ρ _), gs⟩, gk, gm⟩

noncomputable def ab_ldcw : ab_O := fun h md P t S => some [ab_adv S 3 (ab_c (Int32.ofInt t.1).toInt :: S.2.2.1)]
theorem ab_ldcw_ok : ab_Snd cm_ldcw ab_ldcw := by
  intro h N M0 md E P t S Ss C ρ k hN h1 hG hk
  obtain ⟨pc, L, st, K, Ca⟩ := S
  obtain ⟨cpc, CL, sc, M⟩ := C
  obtain ⟨e0, gl, gs, gk, gm⟩ := hG
  dsimp only at e0 gl gs gk gm
  subst e0
  cases h1
  exact ab_fin hk _ (List.mem_singleton.mpr rfl) (cpc + 3, CL, .int (Int32.ofInt t.1) :: sc, M) ⟨rfl, gl, ⟨ab_iv (ab_c_at ρ _), gs⟩, gk, gm⟩

noncomputable def ab_lconst : ab_O := fun h md P t S => some [ab_adv S 1 ((6, 0, []) :: S.2.2.1)]
theorem ab_lconst_ok : ab_Snd cm_lconst ab_lconst := by
  intro h N M0 md E P t S Ss C ρ k hN h1 hG hk
  obtain ⟨pc, L, st, K, Ca⟩ := S
  obtain ⟨cpc, CL, sc, M⟩ := C
  obtain ⟨e0, gl, gs, gk, gm⟩ := hG
  dsimp only at e0 gl gs gk gm
  subst e0
  cases h1
  exact ab_fin hk _ (List.mem_singleton.mpr rfl) (cpc + 1, CL, .long (Int64.ofNat t.1.toNat) :: sc, M) ⟨rfl, gl, ⟨⟨_, rfl⟩, gs⟩, gk, gm⟩

noncomputable def ab_ldc2 : ab_O := fun h md P t S => some [ab_adv S 3 ((6, 0, []) :: S.2.2.1)]
theorem ab_ldc2_ok : ab_Snd cm_ldc2 ab_ldc2 := by
  intro h N M0 md E P t S Ss C ρ k hN h1 hG hk
  obtain ⟨pc, L, st, K, Ca⟩ := S
  obtain ⟨cpc, CL, sc, M⟩ := C
  obtain ⟨e0, gl, gs, gk, gm⟩ := hG
  dsimp only at e0 gl gs gk gm
  subst e0
  cases h1
  exact ab_fin hk _ (List.mem_singleton.mpr rfl) (cpc + 3, CL, .long (Int64.ofInt t.1) :: sc, M) ⟨rfl, gl, ⟨⟨_, rfl⟩, gs⟩, gk, gm⟩

noncomputable def ab_ldcS : ab_O := fun h md P t S => some [ab_adv S 2 ((1, 0, [1001 + 2 * t.1.toNat]) :: S.2.2.1)]
theorem ab_ldcS_ok : ab_Snd cm_ldcS ab_ldcS := by
  intro h N M0 md E P t S Ss C ρ k hN h1 hG hk
  obtain ⟨pc, L, st, K, Ca⟩ := S
  obtain ⟨cpc, CL, sc, M⟩ := C
  obtain ⟨e0, gl, gs, gk, gm⟩ := hG
  dsimp only at e0 gl gs gk gm
  subst e0
  cases h1
  exact ab_fin hk _ (List.mem_singleton.mpr rfl) (cpc + 2, CL, .ref (1001 + 2 * t.1.toNat) :: sc, M) ⟨rfl, gl, ⟨⟨_, List.mem_singleton.mpr rfl, rfl⟩, gs⟩, gk, gm⟩

noncomputable def ab_getT : ab_O := fun h md P t S => some [ab_adv S 3 ((1, 0, [1100]) :: S.2.2.1)]
theorem ab_getT_ok : ab_Snd cm_getT ab_getT := by
  intro h N M0 md E P t S Ss C ρ k hN h1 hG hk
  obtain ⟨pc, L, st, K, Ca⟩ := S
  obtain ⟨cpc, CL, sc, M⟩ := C
  obtain ⟨e0, gl, gs, gk, gm⟩ := hG
  dsimp only at e0 gl gs gk gm
  subst e0
  cases h1
  exact ab_fin hk _ (List.mem_singleton.mpr rfl) (cpc + 3, CL, .ref 1100 :: sc, M) ⟨rfl, gl, ⟨⟨_, List.mem_singleton.mpr rfl, rfl⟩, gs⟩, gk, gm⟩

noncomputable def ab_gets : ab_O := fun h md P t S => some [ab_adv S 3 (ab_c 1 :: S.2.2.1)]
theorem ab_gets_ok : ab_Snd cm_gets ab_gets := by
  intro h N M0 md E P t S Ss C ρ k hN h1 hG hk
  obtain ⟨pc, L, st, K, Ca⟩ := S
  obtain ⟨cpc, CL, sc, M⟩ := C
  obtain ⟨e0, gl, gs, gk, gm⟩ := hG
  dsimp only at e0 gl gs gk gm
  subst e0
  cases h1
  exact ab_fin hk _ (List.mem_singleton.mpr rfl) (cpc + 3, CL, .int 1 :: sc, M) ⟨rfl, gl, ⟨rfl, gs⟩, gk, gm⟩

noncomputable def ab_getsF : ab_O := fun h md P t S => some [ab_adv S 3 ((7, 0, [1101]) :: S.2.2.1)]
theorem ab_getsF_ok : ab_Snd cm_getsF ab_getsF := by
  intro h N M0 md E P t S Ss C ρ k hN h1 hG hk
  obtain ⟨pc, L, st, K, Ca⟩ := S
  obtain ⟨cpc, CL, sc, M⟩ := C
  obtain ⟨e0, gl, gs, gk, gm⟩ := hG
  dsimp only at e0 gl gs gk gm
  subst e0
  cases h1
  exact ⟨ab_fin hk _ (List.mem_singleton.mpr rfl) (cpc + 3, CL, .null :: sc, M) ⟨rfl, gl, ⟨Or.inl rfl, gs⟩, gk, gm⟩, ab_fin hk _ (List.mem_singleton.mpr rfl) (cpc + 3, CL, .ref 1101 :: sc, M) ⟨rfl, gl, ⟨Or.inr ⟨_, List.mem_singleton.mpr rfl, rfl⟩, gs⟩, gk, gm⟩⟩

theorem ab_v6 {ρ : List Int32} {a : ab_A} {v : Value} (h : a.1 = 6) (hv : ab_v ρ a v) : ∃ x, v = .long x := by
  unfold ab_v at hv
  rw [h] at hv
  exact hv
theorem ab_v1 {ρ : List Int32} {a : ab_A} {v : Value} (h : a.1 = 1) (hv : ab_v ρ a v) : ∃ c, c ∈ a.2.2 ∧ v = .ref c := by
  unfold ab_v at hv
  rw [h] at hv
  exact hv
noncomputable def ab_iload : ab_O := fun h md P t S => match ev_at S.2.1 t.1.toNat with
  | some a => if ab_isI a = true then some [ab_adv S 2 (a :: S.2.2.1)] else none
  | none => none
theorem ab_iload_ok : ab_Snd cm_iload ab_iload := by
  intro h N M0 md E P t S Ss C ρ k hN h1 hG hk
  obtain ⟨pc, L, st, K, Ca⟩ := S
  obtain ⟨cpc, CL, sc, M⟩ := C
  obtain ⟨e0, gl, gs, gk, gm⟩ := hG
  dsimp only at e0 gl gs gk gm
  subst e0
  unfold ab_iload at h1
  dsimp only at h1
  split at h1
  · rename_i a ha
    split at h1
    · rename_i hc
      cases h1
      obtain ⟨v, hl, hv⟩ := gl _ (ev_at_mem ha)
      have hv0 := hv
      obtain ⟨x, hx, rfl⟩ := ab_vi hc hv
      unfold cm_iload cm_ld
      dsimp only at hl ⊢
      rw [hl]
      exact ab_fin hk _ (List.mem_singleton.mpr rfl) (cpc + 2, CL, _ :: sc, M) ⟨rfl, gl, ⟨hv0, gs⟩, gk, gm⟩
    · cases h1
  · cases h1

noncomputable def ab_istore : ab_O := fun h md P t S => match S.2.2.1 with
  | a :: st => if ab_isI a = true ∧ t.1.toNat < P.2.2.2.2.1 then some [(S.1 + 2, ab_st1 S.2.1 t.1.toNat a, st, S.2.2.2)] else none
  | [] => none
theorem ab_istore_ok : ab_Snd cm_istore ab_istore := by
  intro h N M0 md E P t S Ss C ρ k hN h1 hG hk
  obtain ⟨pc, L, st, K, Ca⟩ := S
  obtain ⟨cpc, CL, sc, M⟩ := C
  obtain ⟨e0, gl, gs, gk, gm⟩ := hG
  dsimp only at e0 gl gs gk gm
  subst e0
  unfold ab_istore at h1
  dsimp only at h1
  split at h1
  · rename_i a st'
    split at h1
    · rename_i hc0
      obtain ⟨hc, hn⟩ := hc0
      cases h1
      obtain ⟨v, sc', rfl, hv, gs'⟩ := ab_s_cons gs
      have hv0 := hv
      obtain ⟨x, hx, rfl⟩ := ab_vi hc hv
      exact ⟨hn, ab_fin hk _ (List.mem_singleton.mpr rfl) (cpc + 2, cm_st1 CL t.1.toNat _, sc', M) ⟨rfl, ab_st1_ok gl hv0, gs', gk, gm⟩⟩
    · cases h1
  · cases h1

noncomputable def ab_iloadn : ab_O := fun h md P t S => match ev_at S.2.1 t.1.toNat with
  | some a => if ab_isI a = true then some [ab_adv S 1 (a :: S.2.2.1)] else none
  | none => none
theorem ab_iloadn_ok : ab_Snd cm_iloadn ab_iloadn := by
  intro h N M0 md E P t S Ss C ρ k hN h1 hG hk
  obtain ⟨pc, L, st, K, Ca⟩ := S
  obtain ⟨cpc, CL, sc, M⟩ := C
  obtain ⟨e0, gl, gs, gk, gm⟩ := hG
  dsimp only at e0 gl gs gk gm
  subst e0
  unfold ab_iloadn at h1
  dsimp only at h1
  split at h1
  · rename_i a ha
    split at h1
    · rename_i hc
      cases h1
      obtain ⟨v, hl, hv⟩ := gl _ (ev_at_mem ha)
      have hv0 := hv
      obtain ⟨x, hx, rfl⟩ := ab_vi hc hv
      unfold cm_iloadn cm_ld
      dsimp only at hl ⊢
      rw [hl]
      exact ab_fin hk _ (List.mem_singleton.mpr rfl) (cpc + 1, CL, _ :: sc, M) ⟨rfl, gl, ⟨hv0, gs⟩, gk, gm⟩
    · cases h1
  · cases h1

noncomputable def ab_istoren : ab_O := fun h md P t S => match S.2.2.1 with
  | a :: st => if ab_isI a = true ∧ t.1.toNat < P.2.2.2.2.1 then some [(S.1 + 1, ab_st1 S.2.1 t.1.toNat a, st, S.2.2.2)] else none
  | [] => none
theorem ab_istoren_ok : ab_Snd cm_istoren ab_istoren := by
  intro h N M0 md E P t S Ss C ρ k hN h1 hG hk
  obtain ⟨pc, L, st, K, Ca⟩ := S
  obtain ⟨cpc, CL, sc, M⟩ := C
  obtain ⟨e0, gl, gs, gk, gm⟩ := hG
  dsimp only at e0 gl gs gk gm
  subst e0
  unfold ab_istoren at h1
  dsimp only at h1
  split at h1
  · rename_i a st'
    split at h1
    · rename_i hc0
      obtain ⟨hc, hn⟩ := hc0
      cases h1
      obtain ⟨v, sc', rfl, hv, gs'⟩ := ab_s_cons gs
      have hv0 := hv
      obtain ⟨x, hx, rfl⟩ := ab_vi hc hv
      exact ⟨hn, ab_fin hk _ (List.mem_singleton.mpr rfl) (cpc + 1, cm_st1 CL t.1.toNat _, sc', M) ⟨rfl, ab_st1_ok gl hv0, gs', gk, gm⟩⟩
    · cases h1
  · cases h1

noncomputable def ab_lload : ab_O := fun h md P t S => match ev_at S.2.1 t.1.toNat with
  | some a => if a.1 = 6 then some [ab_adv S 2 (a :: S.2.2.1)] else none
  | none => none
theorem ab_lload_ok : ab_Snd cm_lload ab_lload := by
  intro h N M0 md E P t S Ss C ρ k hN h1 hG hk
  obtain ⟨pc, L, st, K, Ca⟩ := S
  obtain ⟨cpc, CL, sc, M⟩ := C
  obtain ⟨e0, gl, gs, gk, gm⟩ := hG
  dsimp only at e0 gl gs gk gm
  subst e0
  unfold ab_lload at h1
  dsimp only at h1
  split at h1
  · rename_i a ha
    split at h1
    · rename_i hc
      cases h1
      obtain ⟨v, hl, hv⟩ := gl _ (ev_at_mem ha)
      have hv0 := hv
      obtain ⟨x, rfl⟩ := ab_v6 hc hv
      unfold cm_lload cm_ld
      dsimp only at hl ⊢
      rw [hl]
      exact ab_fin hk _ (List.mem_singleton.mpr rfl) (cpc + 2, CL, _ :: sc, M) ⟨rfl, gl, ⟨hv0, gs⟩, gk, gm⟩
    · cases h1
  · cases h1

noncomputable def ab_lstore : ab_O := fun h md P t S => match S.2.2.1 with
  | a :: st => if a.1 = 6 ∧ t.1.toNat + 1 < P.2.2.2.2.1 then some [(S.1 + 2, ab_st2 S.2.1 t.1.toNat a, st, S.2.2.2)] else none
  | [] => none
theorem ab_lstore_ok : ab_Snd cm_lstore ab_lstore := by
  intro h N M0 md E P t S Ss C ρ k hN h1 hG hk
  obtain ⟨pc, L, st, K, Ca⟩ := S
  obtain ⟨cpc, CL, sc, M⟩ := C
  obtain ⟨e0, gl, gs, gk, gm⟩ := hG
  dsimp only at e0 gl gs gk gm
  subst e0
  unfold ab_lstore at h1
  dsimp only at h1
  split at h1
  · rename_i a st'
    split at h1
    · rename_i hc0
      obtain ⟨hc, hn⟩ := hc0
      cases h1
      obtain ⟨v, sc', rfl, hv, gs'⟩ := ab_s_cons gs
      have hv0 := hv
      obtain ⟨x, rfl⟩ := ab_v6 hc hv
      exact ⟨hn, ab_fin hk _ (List.mem_singleton.mpr rfl) (cpc + 2, cm_st2 CL t.1.toNat _, sc', M) ⟨rfl, ab_st2_ok gl hv0, gs', gk, gm⟩⟩
    · cases h1
  · cases h1

noncomputable def ab_lloadn : ab_O := fun h md P t S => match ev_at S.2.1 t.1.toNat with
  | some a => if a.1 = 6 then some [ab_adv S 1 (a :: S.2.2.1)] else none
  | none => none
theorem ab_lloadn_ok : ab_Snd cm_lloadn ab_lloadn := by
  intro h N M0 md E P t S Ss C ρ k hN h1 hG hk
  obtain ⟨pc, L, st, K, Ca⟩ := S
  obtain ⟨cpc, CL, sc, M⟩ := C
  obtain ⟨e0, gl, gs, gk, gm⟩ := hG
  dsimp only at e0 gl gs gk gm
  subst e0
  unfold ab_lloadn at h1
  dsimp only at h1
  split at h1
  · rename_i a ha
    split at h1
    · rename_i hc
      cases h1
      obtain ⟨v, hl, hv⟩ := gl _ (ev_at_mem ha)
      have hv0 := hv
      obtain ⟨x, rfl⟩ := ab_v6 hc hv
      unfold cm_lloadn cm_ld
      dsimp only at hl ⊢
      rw [hl]
      exact ab_fin hk _ (List.mem_singleton.mpr rfl) (cpc + 1, CL, _ :: sc, M) ⟨rfl, gl, ⟨hv0, gs⟩, gk, gm⟩
    · cases h1
  · cases h1

noncomputable def ab_lstoren : ab_O := fun h md P t S => match S.2.2.1 with
  | a :: st => if a.1 = 6 ∧ t.1.toNat + 1 < P.2.2.2.2.1 then some [(S.1 + 1, ab_st2 S.2.1 t.1.toNat a, st, S.2.2.2)] else none
  | [] => none
theorem ab_lstoren_ok : ab_Snd cm_lstoren ab_lstoren := by
  intro h N M0 md E P t S Ss C ρ k hN h1 hG hk
  obtain ⟨pc, L, st, K, Ca⟩ := S
  obtain ⟨cpc, CL, sc, M⟩ := C
  obtain ⟨e0, gl, gs, gk, gm⟩ := hG
  dsimp only at e0 gl gs gk gm
  subst e0
  unfold ab_lstoren at h1
  dsimp only at h1
  split at h1
  · rename_i a st'
    split at h1
    · rename_i hc0
      obtain ⟨hc, hn⟩ := hc0
      cases h1
      obtain ⟨v, sc', rfl, hv, gs'⟩ := ab_s_cons gs
      have hv0 := hv
      obtain ⟨x, rfl⟩ := ab_v6 hc hv
      exact ⟨hn, ab_fin hk _ (List.mem_singleton.mpr rfl) (cpc + 1, cm_st2 CL t.1.toNat _, sc', M) ⟨rfl, ab_st2_ok gl hv0, gs', gk, gm⟩⟩
    · cases h1
  · cases h1

noncomputable def ab_aload : ab_O := fun h md P t S => match ev_at S.2.1 t.1.toNat with
  | some a => if a.1 = 1 then some [ab_adv S 2 (a :: S.2.2.1)] else none
  | none => none
theorem ab_aload_ok : ab_Snd cm_aload ab_aload := by
  intro h N M0 md E P t S Ss C ρ k hN h1 hG hk
  obtain ⟨pc, L, st, K, Ca⟩ := S
  obtain ⟨cpc, CL, sc, M⟩ := C
  obtain ⟨e0, gl, gs, gk, gm⟩ := hG
  dsimp only at e0 gl gs gk gm
  subst e0
  unfold ab_aload at h1
  dsimp only at h1
  split at h1
  · rename_i a ha
    split at h1
    · rename_i hc
      cases h1
      obtain ⟨v, hl, hv⟩ := gl _ (ev_at_mem ha)
      have hv0 := hv
      obtain ⟨x, hx, rfl⟩ := ab_v1 hc hv
      unfold cm_aload cm_ld
      dsimp only at hl ⊢
      rw [hl]
      exact ab_fin hk _ (List.mem_singleton.mpr rfl) (cpc + 2, CL, _ :: sc, M) ⟨rfl, gl, ⟨hv0, gs⟩, gk, gm⟩
    · cases h1
  · cases h1

noncomputable def ab_astore : ab_O := fun h md P t S => match S.2.2.1 with
  | a :: st => if a.1 = 1 ∧ t.1.toNat < P.2.2.2.2.1 then some [(S.1 + 2, ab_st1 S.2.1 t.1.toNat a, st, S.2.2.2)] else none
  | [] => none
theorem ab_astore_ok : ab_Snd cm_astore ab_astore := by
  intro h N M0 md E P t S Ss C ρ k hN h1 hG hk
  obtain ⟨pc, L, st, K, Ca⟩ := S
  obtain ⟨cpc, CL, sc, M⟩ := C
  obtain ⟨e0, gl, gs, gk, gm⟩ := hG
  dsimp only at e0 gl gs gk gm
  subst e0
  unfold ab_astore at h1
  dsimp only at h1
  split at h1
  · rename_i a st'
    split at h1
    · rename_i hc0
      obtain ⟨hc, hn⟩ := hc0
      cases h1
      obtain ⟨v, sc', rfl, hv, gs'⟩ := ab_s_cons gs
      have hv0 := hv
      obtain ⟨x, hx, rfl⟩ := ab_v1 hc hv
      exact ⟨hn, ab_fin hk _ (List.mem_singleton.mpr rfl) (cpc + 2, cm_st1 CL t.1.toNat _, sc', M) ⟨rfl, ab_st1_ok gl hv0, gs', gk, gm⟩⟩
    · cases h1
  · cases h1

noncomputable def ab_aloadn : ab_O := fun h md P t S => match ev_at S.2.1 t.1.toNat with
  | some a => if a.1 = 1 then some [ab_adv S 1 (a :: S.2.2.1)] else none
  | none => none
theorem ab_aloadn_ok : ab_Snd cm_aloadn ab_aloadn := by
  intro h N M0 md E P t S Ss C ρ k hN h1 hG hk
  obtain ⟨pc, L, st, K, Ca⟩ := S
  obtain ⟨cpc, CL, sc, M⟩ := C
  obtain ⟨e0, gl, gs, gk, gm⟩ := hG
  dsimp only at e0 gl gs gk gm
  subst e0
  unfold ab_aloadn at h1
  dsimp only at h1
  split at h1
  · rename_i a ha
    split at h1
    · rename_i hc
      cases h1
      obtain ⟨v, hl, hv⟩ := gl _ (ev_at_mem ha)
      have hv0 := hv
      obtain ⟨x, hx, rfl⟩ := ab_v1 hc hv
      unfold cm_aloadn cm_ld
      dsimp only at hl ⊢
      rw [hl]
      exact ab_fin hk _ (List.mem_singleton.mpr rfl) (cpc + 1, CL, _ :: sc, M) ⟨rfl, gl, ⟨hv0, gs⟩, gk, gm⟩
    · cases h1
  · cases h1

noncomputable def ab_astoren : ab_O := fun h md P t S => match S.2.2.1 with
  | a :: st => if a.1 = 1 ∧ t.1.toNat < P.2.2.2.2.1 then some [(S.1 + 1, ab_st1 S.2.1 t.1.toNat a, st, S.2.2.2)] else none
  | [] => none
theorem ab_astoren_ok : ab_Snd cm_astoren ab_astoren := by
  intro h N M0 md E P t S Ss C ρ k hN h1 hG hk
  obtain ⟨pc, L, st, K, Ca⟩ := S
  obtain ⟨cpc, CL, sc, M⟩ := C
  obtain ⟨e0, gl, gs, gk, gm⟩ := hG
  dsimp only at e0 gl gs gk gm
  subst e0
  unfold ab_astoren at h1
  dsimp only at h1
  split at h1
  · rename_i a st'
    split at h1
    · rename_i hc0
      obtain ⟨hc, hn⟩ := hc0
      cases h1
      obtain ⟨v, sc', rfl, hv, gs'⟩ := ab_s_cons gs
      have hv0 := hv
      obtain ⟨x, hx, rfl⟩ := ab_v1 hc hv
      exact ⟨hn, ab_fin hk _ (List.mem_singleton.mpr rfl) (cpc + 1, cm_st1 CL t.1.toNat _, sc', M) ⟨rfl, ab_st1_ok gl hv0, gs', gk, gm⟩⟩
    · cases h1
  · cases h1

noncomputable def ab_iadd : ab_O := fun h md P t S => match S.2.2.1 with
  | b :: a :: st => if ab_isI a = true ∧ ab_isI b = true then some [ab_advK S 1 ((ab_new S.2.2.2.1 1 a b).1 :: st) (ab_new S.2.2.2.1 1 a b).2] else none
  | _ => none
theorem ab_iadd_ok : ab_Snd cm_iadd ab_iadd := by
  intro h N M0 md E P t S Ss C ρ k hN h1 hG hk
  obtain ⟨pc, L, st, K, Ca⟩ := S
  obtain ⟨cpc, CL, sc, M⟩ := C
  obtain ⟨e0, gl, gs, gk, gm⟩ := hG
  dsimp only at e0 gl gs gk gm
  subst e0
  unfold ab_iadd at h1
  dsimp only at h1
  split at h1
  · rename_i b a st'
    split at h1
    · rename_i hc
      cases h1
      obtain ⟨vb, sc1, rfl, hvb, gs1⟩ := ab_s_cons gs
      obtain ⟨va, sc2, rfl, hva, gs2⟩ := ab_s_cons gs1
      obtain ⟨y, hy, rfl⟩ := ab_vi hc.2 hvb
      obtain ⟨x, hx, rfl⟩ := ab_vi hc.1 hva
      obtain ⟨ext, k1, k2⟩ := ab_new_ok (op := 1) gk hx hy rfl
      have hfin := hk _ (List.mem_singleton.mpr rfl) ext (cpc + 1, CL, .int (ev_f 1 x y) :: sc2, M) ⟨rfl, ab_l_ap gl, ⟨ab_iv k2, ab_s_ap gs2⟩, k1, ab_m_ap gm⟩
      exact hfin
    · cases h1
  · cases h1

noncomputable def ab_isub : ab_O := fun h md P t S => match S.2.2.1 with
  | b :: a :: st => if ab_isI a = true ∧ ab_isI b = true then some [ab_advK S 1 ((ab_new S.2.2.2.1 2 a b).1 :: st) (ab_new S.2.2.2.1 2 a b).2] else none
  | _ => none
theorem ab_isub_ok : ab_Snd cm_isub ab_isub := by
  intro h N M0 md E P t S Ss C ρ k hN h1 hG hk
  obtain ⟨pc, L, st, K, Ca⟩ := S
  obtain ⟨cpc, CL, sc, M⟩ := C
  obtain ⟨e0, gl, gs, gk, gm⟩ := hG
  dsimp only at e0 gl gs gk gm
  subst e0
  unfold ab_isub at h1
  dsimp only at h1
  split at h1
  · rename_i b a st'
    split at h1
    · rename_i hc
      cases h1
      obtain ⟨vb, sc1, rfl, hvb, gs1⟩ := ab_s_cons gs
      obtain ⟨va, sc2, rfl, hva, gs2⟩ := ab_s_cons gs1
      obtain ⟨y, hy, rfl⟩ := ab_vi hc.2 hvb
      obtain ⟨x, hx, rfl⟩ := ab_vi hc.1 hva
      obtain ⟨ext, k1, k2⟩ := ab_new_ok (op := 2) gk hx hy rfl
      have hfin := hk _ (List.mem_singleton.mpr rfl) ext (cpc + 1, CL, .int (ev_f 2 x y) :: sc2, M) ⟨rfl, ab_l_ap gl, ⟨ab_iv k2, ab_s_ap gs2⟩, k1, ab_m_ap gm⟩
      exact hfin
    · cases h1
  · cases h1

noncomputable def ab_imul : ab_O := fun h md P t S => match S.2.2.1 with
  | b :: a :: st => if ab_isI a = true ∧ ab_isI b = true then some [ab_advK S 1 ((ab_new S.2.2.2.1 3 a b).1 :: st) (ab_new S.2.2.2.1 3 a b).2] else none
  | _ => none
theorem ab_imul_ok : ab_Snd cm_imul ab_imul := by
  intro h N M0 md E P t S Ss C ρ k hN h1 hG hk
  obtain ⟨pc, L, st, K, Ca⟩ := S
  obtain ⟨cpc, CL, sc, M⟩ := C
  obtain ⟨e0, gl, gs, gk, gm⟩ := hG
  dsimp only at e0 gl gs gk gm
  subst e0
  unfold ab_imul at h1
  dsimp only at h1
  split at h1
  · rename_i b a st'
    split at h1
    · rename_i hc
      cases h1
      obtain ⟨vb, sc1, rfl, hvb, gs1⟩ := ab_s_cons gs
      obtain ⟨va, sc2, rfl, hva, gs2⟩ := ab_s_cons gs1
      obtain ⟨y, hy, rfl⟩ := ab_vi hc.2 hvb
      obtain ⟨x, hx, rfl⟩ := ab_vi hc.1 hva
      obtain ⟨ext, k1, k2⟩ := ab_new_ok (op := 3) gk hx hy rfl
      have hfin := hk _ (List.mem_singleton.mpr rfl) ext (cpc + 1, CL, .int (ev_f 3 x y) :: sc2, M) ⟨rfl, ab_l_ap gl, ⟨ab_iv k2, ab_s_ap gs2⟩, k1, ab_m_ap gm⟩
      exact hfin
    · cases h1
  · cases h1

noncomputable def ab_iand : ab_O := fun h md P t S => match S.2.2.1 with
  | b :: a :: st => if ab_isI a = true ∧ ab_isI b = true then some [ab_advK S 1 ((ab_new S.2.2.2.1 4 a b).1 :: st) (ab_new S.2.2.2.1 4 a b).2] else none
  | _ => none
theorem ab_iand_ok : ab_Snd cm_iand ab_iand := by
  intro h N M0 md E P t S Ss C ρ k hN h1 hG hk
  obtain ⟨pc, L, st, K, Ca⟩ := S
  obtain ⟨cpc, CL, sc, M⟩ := C
  obtain ⟨e0, gl, gs, gk, gm⟩ := hG
  dsimp only at e0 gl gs gk gm
  subst e0
  unfold ab_iand at h1
  dsimp only at h1
  split at h1
  · rename_i b a st'
    split at h1
    · rename_i hc
      cases h1
      obtain ⟨vb, sc1, rfl, hvb, gs1⟩ := ab_s_cons gs
      obtain ⟨va, sc2, rfl, hva, gs2⟩ := ab_s_cons gs1
      obtain ⟨y, hy, rfl⟩ := ab_vi hc.2 hvb
      obtain ⟨x, hx, rfl⟩ := ab_vi hc.1 hva
      obtain ⟨ext, k1, k2⟩ := ab_new_ok (op := 4) gk hx hy rfl
      have hfin := hk _ (List.mem_singleton.mpr rfl) ext (cpc + 1, CL, .int (ev_f 4 x y) :: sc2, M) ⟨rfl, ab_l_ap gl, ⟨ab_iv k2, ab_s_ap gs2⟩, k1, ab_m_ap gm⟩
      exact hfin
    · cases h1
  · cases h1

noncomputable def ab_ior : ab_O := fun h md P t S => match S.2.2.1 with
  | b :: a :: st => if ab_isI a = true ∧ ab_isI b = true then some [ab_advK S 1 ((ab_new S.2.2.2.1 5 a b).1 :: st) (ab_new S.2.2.2.1 5 a b).2] else none
  | _ => none
theorem ab_ior_ok : ab_Snd cm_ior ab_ior := by
  intro h N M0 md E P t S Ss C ρ k hN h1 hG hk
  obtain ⟨pc, L, st, K, Ca⟩ := S
  obtain ⟨cpc, CL, sc, M⟩ := C
  obtain ⟨e0, gl, gs, gk, gm⟩ := hG
  dsimp only at e0 gl gs gk gm
  subst e0
  unfold ab_ior at h1
  dsimp only at h1
  split at h1
  · rename_i b a st'
    split at h1
    · rename_i hc
      cases h1
      obtain ⟨vb, sc1, rfl, hvb, gs1⟩ := ab_s_cons gs
      obtain ⟨va, sc2, rfl, hva, gs2⟩ := ab_s_cons gs1
      obtain ⟨y, hy, rfl⟩ := ab_vi hc.2 hvb
      obtain ⟨x, hx, rfl⟩ := ab_vi hc.1 hva
      obtain ⟨ext, k1, k2⟩ := ab_new_ok (op := 5) gk hx hy rfl
      have hfin := hk _ (List.mem_singleton.mpr rfl) ext (cpc + 1, CL, .int (ev_f 5 x y) :: sc2, M) ⟨rfl, ab_l_ap gl, ⟨ab_iv k2, ab_s_ap gs2⟩, k1, ab_m_ap gm⟩
      exact hfin
    · cases h1
  · cases h1

noncomputable def ab_ixor : ab_O := fun h md P t S => match S.2.2.1 with
  | b :: a :: st => if ab_isI a = true ∧ ab_isI b = true then some [ab_advK S 1 ((ab_new S.2.2.2.1 6 a b).1 :: st) (ab_new S.2.2.2.1 6 a b).2] else none
  | _ => none
theorem ab_ixor_ok : ab_Snd cm_ixor ab_ixor := by
  intro h N M0 md E P t S Ss C ρ k hN h1 hG hk
  obtain ⟨pc, L, st, K, Ca⟩ := S
  obtain ⟨cpc, CL, sc, M⟩ := C
  obtain ⟨e0, gl, gs, gk, gm⟩ := hG
  dsimp only at e0 gl gs gk gm
  subst e0
  unfold ab_ixor at h1
  dsimp only at h1
  split at h1
  · rename_i b a st'
    split at h1
    · rename_i hc
      cases h1
      obtain ⟨vb, sc1, rfl, hvb, gs1⟩ := ab_s_cons gs
      obtain ⟨va, sc2, rfl, hva, gs2⟩ := ab_s_cons gs1
      obtain ⟨y, hy, rfl⟩ := ab_vi hc.2 hvb
      obtain ⟨x, hx, rfl⟩ := ab_vi hc.1 hva
      obtain ⟨ext, k1, k2⟩ := ab_new_ok (op := 6) gk hx hy rfl
      have hfin := hk _ (List.mem_singleton.mpr rfl) ext (cpc + 1, CL, .int (ev_f 6 x y) :: sc2, M) ⟨rfl, ab_l_ap gl, ⟨ab_iv k2, ab_s_ap gs2⟩, k1, ab_m_ap gm⟩
      exact hfin
    · cases h1
  · cases h1

noncomputable def ab_ishl : ab_O := fun h md P t S => match S.2.2.1 with
  | b :: a :: st => if ab_isI a = true ∧ ab_isI b = true then some [ab_advK S 1 ((ab_new S.2.2.2.1 7 a b).1 :: st) (ab_new S.2.2.2.1 7 a b).2] else none
  | _ => none
theorem ab_ishl_ok : ab_Snd cm_ishl ab_ishl := by
  intro h N M0 md E P t S Ss C ρ k hN h1 hG hk
  obtain ⟨pc, L, st, K, Ca⟩ := S
  obtain ⟨cpc, CL, sc, M⟩ := C
  obtain ⟨e0, gl, gs, gk, gm⟩ := hG
  dsimp only at e0 gl gs gk gm
  subst e0
  unfold ab_ishl at h1
  dsimp only at h1
  split at h1
  · rename_i b a st'
    split at h1
    · rename_i hc
      cases h1
      obtain ⟨vb, sc1, rfl, hvb, gs1⟩ := ab_s_cons gs
      obtain ⟨va, sc2, rfl, hva, gs2⟩ := ab_s_cons gs1
      obtain ⟨y, hy, rfl⟩ := ab_vi hc.2 hvb
      obtain ⟨x, hx, rfl⟩ := ab_vi hc.1 hva
      obtain ⟨ext, k1, k2⟩ := ab_new_ok (op := 7) gk hx hy rfl
      have hfin := hk _ (List.mem_singleton.mpr rfl) ext (cpc + 1, CL, .int (ev_f 7 x y) :: sc2, M) ⟨rfl, ab_l_ap gl, ⟨ab_iv k2, ab_s_ap gs2⟩, k1, ab_m_ap gm⟩
      exact hfin
    · cases h1
  · cases h1

noncomputable def ab_ishr : ab_O := fun h md P t S => match S.2.2.1 with
  | b :: a :: st => if ab_isI a = true ∧ ab_isI b = true then some [ab_advK S 1 ((ab_new S.2.2.2.1 8 a b).1 :: st) (ab_new S.2.2.2.1 8 a b).2] else none
  | _ => none
theorem ab_ishr_ok : ab_Snd cm_ishr ab_ishr := by
  intro h N M0 md E P t S Ss C ρ k hN h1 hG hk
  obtain ⟨pc, L, st, K, Ca⟩ := S
  obtain ⟨cpc, CL, sc, M⟩ := C
  obtain ⟨e0, gl, gs, gk, gm⟩ := hG
  dsimp only at e0 gl gs gk gm
  subst e0
  unfold ab_ishr at h1
  dsimp only at h1
  split at h1
  · rename_i b a st'
    split at h1
    · rename_i hc
      cases h1
      obtain ⟨vb, sc1, rfl, hvb, gs1⟩ := ab_s_cons gs
      obtain ⟨va, sc2, rfl, hva, gs2⟩ := ab_s_cons gs1
      obtain ⟨y, hy, rfl⟩ := ab_vi hc.2 hvb
      obtain ⟨x, hx, rfl⟩ := ab_vi hc.1 hva
      obtain ⟨ext, k1, k2⟩ := ab_new_ok (op := 8) gk hx hy rfl
      have hfin := hk _ (List.mem_singleton.mpr rfl) ext (cpc + 1, CL, .int (ev_f 8 x y) :: sc2, M) ⟨rfl, ab_l_ap gl, ⟨ab_iv k2, ab_s_ap gs2⟩, k1, ab_m_ap gm⟩
      exact hfin
    · cases h1
  · cases h1

noncomputable def ab_iushr : ab_O := fun h md P t S => match S.2.2.1 with
  | b :: a :: st => if ab_isI a = true ∧ ab_isI b = true then some [ab_advK S 1 ((ab_new S.2.2.2.1 9 a b).1 :: st) (ab_new S.2.2.2.1 9 a b).2] else none
  | _ => none
theorem ab_iushr_ok : ab_Snd cm_iushr ab_iushr := by
  intro h N M0 md E P t S Ss C ρ k hN h1 hG hk
  obtain ⟨pc, L, st, K, Ca⟩ := S
  obtain ⟨cpc, CL, sc, M⟩ := C
  obtain ⟨e0, gl, gs, gk, gm⟩ := hG
  dsimp only at e0 gl gs gk gm
  subst e0
  unfold ab_iushr at h1
  dsimp only at h1
  split at h1
  · rename_i b a st'
    split at h1
    · rename_i hc
      cases h1
      obtain ⟨vb, sc1, rfl, hvb, gs1⟩ := ab_s_cons gs
      obtain ⟨va, sc2, rfl, hva, gs2⟩ := ab_s_cons gs1
      obtain ⟨y, hy, rfl⟩ := ab_vi hc.2 hvb
      obtain ⟨x, hx, rfl⟩ := ab_vi hc.1 hva
      obtain ⟨ext, k1, k2⟩ := ab_new_ok (op := 9) gk hx hy rfl
      have hfin := hk _ (List.mem_singleton.mpr rfl) ext (cpc + 1, CL, .int (ev_f 9 x y) :: sc2, M) ⟨rfl, ab_l_ap gl, ⟨ab_iv k2, ab_s_ap gs2⟩, k1, ab_m_ap gm⟩
      exact hfin
    · cases h1
  · cases h1

noncomputable def ab_idiv : ab_O := fun h md P t S => match S.2.2.1 with
  | b :: a :: st => if ab_isI a = true ∧ ab_isI b = true ∧ (1 ≤ (ab_bd S.2.2.2.1 b).1 ∨ (ab_bd S.2.2.2.1 b).2 ≤ -1) then some [ab_advK S 1 ((ab_new S.2.2.2.1 10 a b).1 :: st) (ab_new S.2.2.2.1 10 a b).2] else none
  | _ => none
theorem ab_idiv_ok : ab_Snd cm_idiv ab_idiv := by
  intro h N M0 md E P t S Ss C ρ k hN h1 hG hk
  obtain ⟨pc, L, st, K, Ca⟩ := S
  obtain ⟨cpc, CL, sc, M⟩ := C
  obtain ⟨e0, gl, gs, gk, gm⟩ := hG
  dsimp only at e0 gl gs gk gm
  subst e0
  unfold ab_idiv at h1
  dsimp only at h1
  split at h1
  · rename_i b a st'
    split at h1
    · rename_i hc
      cases h1
      obtain ⟨vb, sc1, rfl, hvb, gs1⟩ := ab_s_cons gs
      obtain ⟨va, sc2, rfl, hva, gs2⟩ := ab_s_cons gs1
      obtain ⟨y, hy, rfl⟩ := ab_vi hc.2.1 hvb
      obtain ⟨x, hx, rfl⟩ := ab_vi hc.1 hva
      obtain ⟨ext, k1, k2⟩ := ab_new_ok (op := 10) gk hx hy rfl
      have hfin := hk _ (List.mem_singleton.mpr rfl) ext (cpc + 1, CL, .int (ev_f 10 x y) :: sc2, M) ⟨rfl, ab_l_ap gl, ⟨ab_iv k2, ab_s_ap gs2⟩, k1, ab_m_ap gm⟩
      refine ⟨fun e => ?_, hfin⟩
      have hb := ab_bd_in gk hy
      rw [e] at hb
      have h0 : (0 : Int32).toInt = 0 := rfl
      obtain ⟨b1, b2⟩ := hb
      have h3 := hc.2.2
      omega
    · cases h1
  · cases h1

noncomputable def ab_irem : ab_O := fun h md P t S => match S.2.2.1 with
  | b :: a :: st => if ab_isI a = true ∧ ab_isI b = true ∧ (1 ≤ (ab_bd S.2.2.2.1 b).1 ∨ (ab_bd S.2.2.2.1 b).2 ≤ -1) then some [ab_advK S 1 ((ab_new S.2.2.2.1 11 a b).1 :: st) (ab_new S.2.2.2.1 11 a b).2] else none
  | _ => none
theorem ab_irem_ok : ab_Snd cm_irem ab_irem := by
  intro h N M0 md E P t S Ss C ρ k hN h1 hG hk
  obtain ⟨pc, L, st, K, Ca⟩ := S
  obtain ⟨cpc, CL, sc, M⟩ := C
  obtain ⟨e0, gl, gs, gk, gm⟩ := hG
  dsimp only at e0 gl gs gk gm
  subst e0
  unfold ab_irem at h1
  dsimp only at h1
  split at h1
  · rename_i b a st'
    split at h1
    · rename_i hc
      cases h1
      obtain ⟨vb, sc1, rfl, hvb, gs1⟩ := ab_s_cons gs
      obtain ⟨va, sc2, rfl, hva, gs2⟩ := ab_s_cons gs1
      obtain ⟨y, hy, rfl⟩ := ab_vi hc.2.1 hvb
      obtain ⟨x, hx, rfl⟩ := ab_vi hc.1 hva
      obtain ⟨ext, k1, k2⟩ := ab_new_ok (op := 11) gk hx hy rfl
      have hfin := hk _ (List.mem_singleton.mpr rfl) ext (cpc + 1, CL, .int (ev_f 11 x y) :: sc2, M) ⟨rfl, ab_l_ap gl, ⟨ab_iv k2, ab_s_ap gs2⟩, k1, ab_m_ap gm⟩
      refine ⟨fun e => ?_, hfin⟩
      have hb := ab_bd_in gk hy
      rw [e] at hb
      have h0 : (0 : Int32).toInt = 0 := rfl
      obtain ⟨b1, b2⟩ := hb
      have h3 := hc.2.2
      omega
    · cases h1
  · cases h1

theorem ab_cs_ok {ρ : List Int32} : ∀ {st : List ab_A} {sc : List Value}, ab_s ρ st sc → cm_cs sc = (st.map (fun a => if a.1 = 6 then 2 else 1)).sum
  | [], [], _ => rfl
  | [], _ :: _, h => h.elim
  | _ :: _, [], h => h.elim
  | a :: st, v :: sc, h => by
    have ih := ab_cs_ok h.2
    unfold cm_cs at ih ⊢
    rw [List.map_cons, List.map_cons, List.sum_cons, List.sum_cons, ih]
    rcases ab_cat h.1 with ⟨h1, h2⟩ | ⟨h1, h2⟩
    · rw [h2, if_pos h1]
    · rw [h2, if_neg h1]
noncomputable def ab_cs (st : List ab_A) : Nat := (st.map (fun a => if a.1 = 6 then 2 else 1)).sum
noncomputable def ab_mmin : ab_O := fun h md P t S => match S.2.2.1 with
  | b :: a :: st => if ab_isI a = true ∧ ab_isI b = true ∧ ab_cs st ≤ 8 then some [ab_advK S 3 ((ab_new S.2.2.2.1 15 a b).1 :: st) (ab_new S.2.2.2.1 15 a b).2] else none
  | _ => none
theorem ab_mmin_ok : ab_Snd cm_mmin ab_mmin := by
  intro h N M0 md E P t S Ss C ρ k hN h1 hG hk
  obtain ⟨pc, L, st, K, Ca⟩ := S
  obtain ⟨cpc, CL, sc, M⟩ := C
  obtain ⟨e0, gl, gs, gk, gm⟩ := hG
  dsimp only at e0 gl gs gk gm
  subst e0
  unfold ab_mmin at h1
  dsimp only at h1
  split at h1
  · rename_i b a st'
    split at h1
    · rename_i hc
      cases h1
      obtain ⟨vb, sc1, rfl, hvb, gs1⟩ := ab_s_cons gs
      obtain ⟨va, sc2, rfl, hva, gs2⟩ := ab_s_cons gs1
      obtain ⟨y, hy, rfl⟩ := ab_vi hc.2.1 hvb
      obtain ⟨x, hx, rfl⟩ := ab_vi hc.1 hva
      obtain ⟨ext, k1, k2⟩ := ab_new_ok (op := 15) gk hx hy rfl
      have hfin := hk _ (List.mem_singleton.mpr rfl) ext (cpc + 3, CL, .int (ev_f 15 x y) :: sc2, M) ⟨rfl, ab_l_ap gl, ⟨ab_iv k2, ab_s_ap gs2⟩, k1, ab_m_ap gm⟩
      have hcs := ab_cs_ok gs2
      exact ⟨by rw [hcs]; exact hc.2.2, hfin⟩
    · cases h1
  · cases h1

noncomputable def ab_mmax : ab_O := fun h md P t S => match S.2.2.1 with
  | b :: a :: st => if ab_isI a = true ∧ ab_isI b = true ∧ ab_cs st ≤ 8 then some [ab_advK S 3 ((ab_new S.2.2.2.1 16 a b).1 :: st) (ab_new S.2.2.2.1 16 a b).2] else none
  | _ => none
theorem ab_mmax_ok : ab_Snd cm_mmax ab_mmax := by
  intro h N M0 md E P t S Ss C ρ k hN h1 hG hk
  obtain ⟨pc, L, st, K, Ca⟩ := S
  obtain ⟨cpc, CL, sc, M⟩ := C
  obtain ⟨e0, gl, gs, gk, gm⟩ := hG
  dsimp only at e0 gl gs gk gm
  subst e0
  unfold ab_mmax at h1
  dsimp only at h1
  split at h1
  · rename_i b a st'
    split at h1
    · rename_i hc
      cases h1
      obtain ⟨vb, sc1, rfl, hvb, gs1⟩ := ab_s_cons gs
      obtain ⟨va, sc2, rfl, hva, gs2⟩ := ab_s_cons gs1
      obtain ⟨y, hy, rfl⟩ := ab_vi hc.2.1 hvb
      obtain ⟨x, hx, rfl⟩ := ab_vi hc.1 hva
      obtain ⟨ext, k1, k2⟩ := ab_new_ok (op := 16) gk hx hy rfl
      have hfin := hk _ (List.mem_singleton.mpr rfl) ext (cpc + 3, CL, .int (ev_f 16 x y) :: sc2, M) ⟨rfl, ab_l_ap gl, ⟨ab_iv k2, ab_s_ap gs2⟩, k1, ab_m_ap gm⟩
      have hcs := ab_cs_ok gs2
      exact ⟨by rw [hcs]; exact hc.2.2, hfin⟩
    · cases h1
  · cases h1

noncomputable def ab_ineg : ab_O := fun h md P t S => match S.2.2.1 with
  | a :: st => if ab_isI a = true then some [ab_advK S 1 ((ab_new S.2.2.2.1 12 a (ab_c 0)).1 :: st) (ab_new S.2.2.2.1 12 a (ab_c 0)).2] else none
  | _ => none
theorem ab_ineg_ok : ab_Snd cm_ineg ab_ineg := by
  intro h N M0 md E P t S Ss C ρ k hN h1 hG hk
  obtain ⟨pc, L, st, K, Ca⟩ := S
  obtain ⟨cpc, CL, sc, M⟩ := C
  obtain ⟨e0, gl, gs, gk, gm⟩ := hG
  dsimp only at e0 gl gs gk gm
  subst e0
  unfold ab_ineg at h1
  dsimp only at h1
  split at h1
  · rename_i a st'
    split at h1
    · rename_i hc
      cases h1
      obtain ⟨va, sc2, rfl, hva, gs2⟩ := ab_s_cons gs
      obtain ⟨x, hx, rfl⟩ := ab_vi hc hva
      obtain ⟨ext, k1, k2⟩ := ab_new_ok (op := 12) (b := ab_c 0) gk hx rfl rfl
      have hfin := hk _ (List.mem_singleton.mpr rfl) ext (cpc + 1, CL, .int (ev_f 12 x (Int32.ofInt 0)) :: sc2, M) ⟨rfl, ab_l_ap gl, ⟨ab_iv k2, ab_s_ap gs2⟩, k1, ab_m_ap gm⟩
      exact hfin
    · cases h1
  · cases h1

noncomputable def ab_i2b : ab_O := fun h md P t S => match S.2.2.1 with
  | a :: st => if ab_isI a = true then some [ab_advK S 1 ((ab_new S.2.2.2.1 13 a (ab_c 0)).1 :: st) (ab_new S.2.2.2.1 13 a (ab_c 0)).2] else none
  | _ => none
theorem ab_i2b_ok : ab_Snd cm_i2b ab_i2b := by
  intro h N M0 md E P t S Ss C ρ k hN h1 hG hk
  obtain ⟨pc, L, st, K, Ca⟩ := S
  obtain ⟨cpc, CL, sc, M⟩ := C
  obtain ⟨e0, gl, gs, gk, gm⟩ := hG
  dsimp only at e0 gl gs gk gm
  subst e0
  unfold ab_i2b at h1
  dsimp only at h1
  split at h1
  · rename_i a st'
    split at h1
    · rename_i hc
      cases h1
      obtain ⟨va, sc2, rfl, hva, gs2⟩ := ab_s_cons gs
      obtain ⟨x, hx, rfl⟩ := ab_vi hc hva
      obtain ⟨ext, k1, k2⟩ := ab_new_ok (op := 13) (b := ab_c 0) gk hx rfl rfl
      have hfin := hk _ (List.mem_singleton.mpr rfl) ext (cpc + 1, CL, .int (ev_f 13 x (Int32.ofInt 0)) :: sc2, M) ⟨rfl, ab_l_ap gl, ⟨ab_iv k2, ab_s_ap gs2⟩, k1, ab_m_ap gm⟩
      exact hfin
    · cases h1
  · cases h1

noncomputable def ab_i2c : ab_O := fun h md P t S => match S.2.2.1 with
  | a :: st => if ab_isI a = true then some [ab_advK S 1 ((ab_new S.2.2.2.1 14 a (ab_c 0)).1 :: st) (ab_new S.2.2.2.1 14 a (ab_c 0)).2] else none
  | _ => none
theorem ab_i2c_ok : ab_Snd cm_i2c ab_i2c := by
  intro h N M0 md E P t S Ss C ρ k hN h1 hG hk
  obtain ⟨pc, L, st, K, Ca⟩ := S
  obtain ⟨cpc, CL, sc, M⟩ := C
  obtain ⟨e0, gl, gs, gk, gm⟩ := hG
  dsimp only at e0 gl gs gk gm
  subst e0
  unfold ab_i2c at h1
  dsimp only at h1
  split at h1
  · rename_i a st'
    split at h1
    · rename_i hc
      cases h1
      obtain ⟨va, sc2, rfl, hva, gs2⟩ := ab_s_cons gs
      obtain ⟨x, hx, rfl⟩ := ab_vi hc hva
      obtain ⟨ext, k1, k2⟩ := ab_new_ok (op := 14) (b := ab_c 0) gk hx rfl rfl
      have hfin := hk _ (List.mem_singleton.mpr rfl) ext (cpc + 1, CL, .int (ev_f 14 x (Int32.ofInt 0)) :: sc2, M) ⟨rfl, ab_l_ap gl, ⟨ab_iv k2, ab_s_ap gs2⟩, k1, ab_m_ap gm⟩
      exact hfin
    · cases h1
  · cases h1

noncomputable def ab_mabs : ab_O := fun h md P t S => match S.2.2.1 with
  | a :: st => if ab_isI a = true ∧ ab_cs st ≤ 8 then some [ab_advK S 3 ((ab_new S.2.2.2.1 17 a (ab_c 0)).1 :: st) (ab_new S.2.2.2.1 17 a (ab_c 0)).2] else none
  | _ => none
theorem ab_mabs_ok : ab_Snd cm_mabs ab_mabs := by
  intro h N M0 md E P t S Ss C ρ k hN h1 hG hk
  obtain ⟨pc, L, st, K, Ca⟩ := S
  obtain ⟨cpc, CL, sc, M⟩ := C
  obtain ⟨e0, gl, gs, gk, gm⟩ := hG
  dsimp only at e0 gl gs gk gm
  subst e0
  unfold ab_mabs at h1
  dsimp only at h1
  split at h1
  · rename_i a st'
    split at h1
    · rename_i hc
      cases h1
      obtain ⟨va, sc2, rfl, hva, gs2⟩ := ab_s_cons gs
      obtain ⟨x, hx, rfl⟩ := ab_vi hc.1 hva
      obtain ⟨ext, k1, k2⟩ := ab_new_ok (op := 17) (b := ab_c 0) gk hx rfl rfl
      have hfin := hk _ (List.mem_singleton.mpr rfl) ext (cpc + 3, CL, .int (ev_f 17 x (Int32.ofInt 0)) :: sc2, M) ⟨rfl, ab_l_ap gl, ⟨ab_iv k2, ab_s_ap gs2⟩, k1, ab_m_ap gm⟩
      have hcs := ab_cs_ok gs2
      exact ⟨by rw [hcs]; exact hc.2, hfin⟩
    · cases h1
  · cases h1

noncomputable def ab_i2l : ab_O := fun h md P t S => match S.2.2.1 with
  | a :: st => if ab_isI a = true then some [ab_adv S 1 ((6, 0, []) :: st)] else none
  | _ => none
theorem ab_i2l_ok : ab_Snd cm_i2l ab_i2l := by
  intro h N M0 md E P t S Ss C ρ k hN h1 hG hk
  obtain ⟨pc, L, st, K, Ca⟩ := S
  obtain ⟨cpc, CL, sc, M⟩ := C
  obtain ⟨e0, gl, gs, gk, gm⟩ := hG
  dsimp only at e0 gl gs gk gm
  subst e0
  unfold ab_i2l at h1
  dsimp only at h1
  split at h1
  · rename_i a st'
    split at h1
    · rename_i hc
      cases h1
      obtain ⟨va, sc2, rfl, hva, gs2⟩ := ab_s_cons gs
      obtain ⟨x, hx, rfl⟩ := ab_vi hc hva
      exact ab_fin hk _ (List.mem_singleton.mpr rfl) (cpc + 1, CL, .long x.toInt64 :: sc2, M) ⟨rfl, gl, ⟨⟨_, rfl⟩, gs2⟩, gk, gm⟩
    · cases h1
  · cases h1

noncomputable def ab_ladd : ab_O := fun h md P t S => match S.2.2.1 with
  | b :: a :: st => if a.1 = 6 ∧ b.1 = 6 then some [ab_adv S 1 ((6, 0, []) :: st)] else none
  | _ => none
theorem ab_ladd_ok : ab_Snd cm_ladd ab_ladd := by
  intro h N M0 md E P t S Ss C ρ k hN h1 hG hk
  obtain ⟨pc, L, st, K, Ca⟩ := S
  obtain ⟨cpc, CL, sc, M⟩ := C
  obtain ⟨e0, gl, gs, gk, gm⟩ := hG
  dsimp only at e0 gl gs gk gm
  subst e0
  unfold ab_ladd at h1
  dsimp only at h1
  split at h1
  · rename_i b a st'
    split at h1
    · rename_i hc
      cases h1
      obtain ⟨vb, sc1, rfl, hvb, gs1⟩ := ab_s_cons gs
      obtain ⟨va, sc2, rfl, hva, gs2⟩ := ab_s_cons gs1
      obtain ⟨y, rfl⟩ := ab_v6 hc.2 hvb
      obtain ⟨x, rfl⟩ := ab_v6 hc.1 hva
      exact ab_fin hk _ (List.mem_singleton.mpr rfl) (cpc + 1, CL, .long (x + y) :: sc2, M) ⟨rfl, gl, ⟨⟨_, rfl⟩, gs2⟩, gk, gm⟩
    · cases h1
  · cases h1

noncomputable def ab_lsub : ab_O := fun h md P t S => match S.2.2.1 with
  | b :: a :: st => if a.1 = 6 ∧ b.1 = 6 then some [ab_adv S 1 ((6, 0, []) :: st)] else none
  | _ => none
theorem ab_lsub_ok : ab_Snd cm_lsub ab_lsub := by
  intro h N M0 md E P t S Ss C ρ k hN h1 hG hk
  obtain ⟨pc, L, st, K, Ca⟩ := S
  obtain ⟨cpc, CL, sc, M⟩ := C
  obtain ⟨e0, gl, gs, gk, gm⟩ := hG
  dsimp only at e0 gl gs gk gm
  subst e0
  unfold ab_lsub at h1
  dsimp only at h1
  split at h1
  · rename_i b a st'
    split at h1
    · rename_i hc
      cases h1
      obtain ⟨vb, sc1, rfl, hvb, gs1⟩ := ab_s_cons gs
      obtain ⟨va, sc2, rfl, hva, gs2⟩ := ab_s_cons gs1
      obtain ⟨y, rfl⟩ := ab_v6 hc.2 hvb
      obtain ⟨x, rfl⟩ := ab_v6 hc.1 hva
      exact ab_fin hk _ (List.mem_singleton.mpr rfl) (cpc + 1, CL, .long (x - y) :: sc2, M) ⟨rfl, gl, ⟨⟨_, rfl⟩, gs2⟩, gk, gm⟩
    · cases h1
  · cases h1

noncomputable def ab_lmul : ab_O := fun h md P t S => match S.2.2.1 with
  | b :: a :: st => if a.1 = 6 ∧ b.1 = 6 then some [ab_adv S 1 ((6, 0, []) :: st)] else none
  | _ => none
theorem ab_lmul_ok : ab_Snd cm_lmul ab_lmul := by
  intro h N M0 md E P t S Ss C ρ k hN h1 hG hk
  obtain ⟨pc, L, st, K, Ca⟩ := S
  obtain ⟨cpc, CL, sc, M⟩ := C
  obtain ⟨e0, gl, gs, gk, gm⟩ := hG
  dsimp only at e0 gl gs gk gm
  subst e0
  unfold ab_lmul at h1
  dsimp only at h1
  split at h1
  · rename_i b a st'
    split at h1
    · rename_i hc
      cases h1
      obtain ⟨vb, sc1, rfl, hvb, gs1⟩ := ab_s_cons gs
      obtain ⟨va, sc2, rfl, hva, gs2⟩ := ab_s_cons gs1
      obtain ⟨y, rfl⟩ := ab_v6 hc.2 hvb
      obtain ⟨x, rfl⟩ := ab_v6 hc.1 hva
      exact ab_fin hk _ (List.mem_singleton.mpr rfl) (cpc + 1, CL, .long (x * y) :: sc2, M) ⟨rfl, gl, ⟨⟨_, rfl⟩, gs2⟩, gk, gm⟩
    · cases h1
  · cases h1

theorem ab_lcmp_in (x y : Int64) : ev_inb (-1, 1) (lg_cmp x y) := by
  unfold lg_cmp
  repeat' split
  all_goals exact ⟨by decide, by decide⟩
noncomputable def ab_lcmp : ab_O := fun h md P t S => match S.2.2.1 with
  | b :: a :: st => if a.1 = 6 ∧ b.1 = 6 then some [ab_advK S 1 ((ab_any S.2.2.2.1 (-1, 1)).1 :: st) (ab_any S.2.2.2.1 (-1, 1)).2] else none
  | _ => none
theorem ab_lcmp_ok : ab_Snd cm_lcmp ab_lcmp := by
  intro h N M0 md E P t S Ss C ρ k hN h1 hG hk
  obtain ⟨pc, L, st, K, Ca⟩ := S
  obtain ⟨cpc, CL, sc, M⟩ := C
  obtain ⟨e0, gl, gs, gk, gm⟩ := hG
  dsimp only at e0 gl gs gk gm
  subst e0
  unfold ab_lcmp at h1
  dsimp only at h1
  split at h1
  · rename_i b a st'
    split at h1
    · rename_i hc
      cases h1
      obtain ⟨vb, sc1, rfl, hvb, gs1⟩ := ab_s_cons gs
      obtain ⟨va, sc2, rfl, hva, gs2⟩ := ab_s_cons gs1
      obtain ⟨y, rfl⟩ := ab_v6 hc.2 hvb
      obtain ⟨x, rfl⟩ := ab_v6 hc.1 hva
      obtain ⟨ext, k1, k2⟩ := ab_any_ok gk (ab_lcmp_in x y) (rfl : ab_any K (-1, 1) = (_, _))
      exact hk _ (List.mem_singleton.mpr rfl) ext (cpc + 1, CL, .int (lg_cmp x y) :: sc2, M) ⟨rfl, ab_l_ap gl, ⟨ab_iv k2, ab_s_ap gs2⟩, k1, ab_m_ap gm⟩
    · cases h1
  · cases h1

noncomputable def ab_dup : ab_O := fun h md P t S => match S.2.2.1 with
  | a :: st => if a.1 ≠ 6 then some [ab_adv S 1 (a :: a :: st)] else none
  | _ => none
theorem ab_dup_ok : ab_Snd cm_dup ab_dup := by
  intro h N M0 md E P t S Ss C ρ k hN h1 hG hk
  obtain ⟨pc, L, st, K, Ca⟩ := S
  obtain ⟨cpc, CL, sc, M⟩ := C
  obtain ⟨e0, gl, gs, gk, gm⟩ := hG
  dsimp only at e0 gl gs gk gm
  subst e0
  unfold ab_dup at h1
  dsimp only at h1
  split at h1
  · rename_i a st'
    split at h1
    · rename_i hc
      cases h1
      obtain ⟨va, sc2, rfl, hva, gs2⟩ := ab_s_cons gs
      refine ⟨?_, ab_fin hk _ (List.mem_singleton.mpr rfl) (cpc + 1, CL, va :: va :: sc2, M) ⟨rfl, gl, ⟨hva, hva, gs2⟩, gk, gm⟩⟩
      rcases ab_cat hva with ⟨q1, -⟩ | ⟨-, q2⟩
      · exact absurd q1 hc
      · exact q2
    · cases h1
  · cases h1

noncomputable def ab_pop : ab_O := fun h md P t S => match S.2.2.1 with
  | a :: st => if a.1 ≠ 6 then some [ab_adv S 1 st] else none
  | _ => none
theorem ab_pop_ok : ab_Snd cm_pop ab_pop := by
  intro h N M0 md E P t S Ss C ρ k hN h1 hG hk
  obtain ⟨pc, L, st, K, Ca⟩ := S
  obtain ⟨cpc, CL, sc, M⟩ := C
  obtain ⟨e0, gl, gs, gk, gm⟩ := hG
  dsimp only at e0 gl gs gk gm
  subst e0
  unfold ab_pop at h1
  dsimp only at h1
  split at h1
  · rename_i a st'
    split at h1
    · rename_i hc
      cases h1
      obtain ⟨va, sc2, rfl, hva, gs2⟩ := ab_s_cons gs
      refine ⟨?_, ab_fin hk _ (List.mem_singleton.mpr rfl) (cpc + 1, CL, sc2, M) ⟨rfl, gl, gs2, gk, gm⟩⟩
      rcases ab_cat hva with ⟨q1, -⟩ | ⟨-, q2⟩
      · exact absurd q1 hc
      · exact q2
    · cases h1
  · cases h1

noncomputable def ab_pop2 : ab_O := fun h md P t S => match S.2.2.1 with
  | a :: st => if a.1 = 6 then some [ab_adv S 1 st] else none
  | _ => none
theorem ab_pop2_ok : ab_Snd cm_pop2 ab_pop2 := by
  intro h N M0 md E P t S Ss C ρ k hN h1 hG hk
  obtain ⟨pc, L, st, K, Ca⟩ := S
  obtain ⟨cpc, CL, sc, M⟩ := C
  obtain ⟨e0, gl, gs, gk, gm⟩ := hG
  dsimp only at e0 gl gs gk gm
  subst e0
  unfold ab_pop2 at h1
  dsimp only at h1
  split at h1
  · rename_i a st'
    split at h1
    · rename_i hc
      cases h1
      obtain ⟨va, sc2, rfl, hva, gs2⟩ := ab_s_cons gs
      obtain ⟨x, rfl⟩ := ab_v6 hc hva
      exact ab_fin hk _ (List.mem_singleton.mpr rfl) (cpc + 1, CL, sc2, M) ⟨rfl, gl, gs2, gk, gm⟩
    · cases h1
  · cases h1

noncomputable def ab_dup2 : ab_O := fun h md P t S => match S.2.2.1 with
  | a :: b :: st => if a.1 ≠ 6 ∧ b.1 ≠ 6 then some [ab_adv S 1 (a :: b :: a :: b :: st)] else none
  | _ => none
theorem ab_dup2_ok : ab_Snd cm_dup2 ab_dup2 := by
  intro h N M0 md E P t S Ss C ρ k hN h1 hG hk
  obtain ⟨pc, L, st, K, Ca⟩ := S
  obtain ⟨cpc, CL, sc, M⟩ := C
  obtain ⟨e0, gl, gs, gk, gm⟩ := hG
  dsimp only at e0 gl gs gk gm
  subst e0
  unfold ab_dup2 at h1
  dsimp only at h1
  split at h1
  · rename_i a b st'
    split at h1
    · rename_i hc
      cases h1
      obtain ⟨va, sc1, rfl, hva, gs1⟩ := ab_s_cons gs
      obtain ⟨vb, sc2, rfl, hvb, gs2⟩ := ab_s_cons gs1
      refine ⟨?_, ?_, ab_fin hk _ (List.mem_singleton.mpr rfl) (cpc + 1, CL, va :: vb :: va :: vb :: sc2, M) ⟨rfl, gl, ⟨hva, hvb, hva, hvb, gs2⟩, gk, gm⟩⟩
      · rcases ab_cat hva with ⟨q1, -⟩ | ⟨-, q2⟩
        · exact absurd q1 hc.1
        · exact q2
      · rcases ab_cat hvb with ⟨q1, -⟩ | ⟨-, q2⟩
        · exact absurd q1 hc.2
        · exact q2
    · cases h1
  · cases h1

noncomputable def ab_iinc : ab_O := fun h md P t S => match ev_at S.2.1 t.1.toNat with
  | some a => if ab_isI a = true ∧ t.1.toNat < P.2.2.2.2.1 then some [(S.1 + 3, ab_st1 S.2.1 t.1.toNat (ab_new S.2.2.2.1 1 a (ab_c t.2.1)).1, S.2.2.1, (ab_new S.2.2.2.1 1 a (ab_c t.2.1)).2, S.2.2.2.2)] else none
  | none => none
theorem ab_iinc_ok : ab_Snd cm_iinc ab_iinc := by
  intro h N M0 md E P t S Ss C ρ k hN h1 hG hk
  obtain ⟨pc, L, st, K, Ca⟩ := S
  obtain ⟨cpc, CL, sc, M⟩ := C
  obtain ⟨e0, gl, gs, gk, gm⟩ := hG
  dsimp only at e0 gl gs gk gm
  subst e0
  unfold ab_iinc at h1
  dsimp only at h1
  split at h1
  · rename_i a ha
    split at h1
    · rename_i hc
      cases h1
      obtain ⟨v, hl, hv⟩ := gl _ (ev_at_mem ha)
      obtain ⟨x, hx, rfl⟩ := ab_vi hc.1 hv
      obtain ⟨ext, k1, k2⟩ := ab_new_ok (op := 1) (b := ab_c t.2.1) gk hx rfl rfl
      unfold cm_iinc
      dsimp only at hl ⊢
      rw [hl]
      exact ⟨hc.2, hk _ (List.mem_singleton.mpr rfl) ext (cpc + 3, cm_st1 CL t.1.toNat (.int (x + Int32.ofInt t.2.1)), sc, M) ⟨rfl, ab_st1_ok (ab_l_ap gl) (ab_iv k2), ab_s_ap gs, k1, ab_m_ap gm⟩⟩
    · cases h1
  · cases h1

noncomputable def ab_fork (r : Nat) (a b : ab_A) (off : Int) (st : List ab_A) (S : ab_S) : Option (List ab_S) := if 0 ≤ (S.1 : Int) + off then some
  ((match ab_br r a b S.2.2.2.1 with
    | some K => [(((S.1 : Int) + off).toNat, S.2.1, st, K, S.2.2.2.2)]
    | none => []) ++ (match ab_br (ab_ngt r) a b S.2.2.2.1 with
    | some K => [(S.1 + 3, S.2.1, st, K, S.2.2.2.2)]
    | none => [])) else none
theorem ab_fork_ok {h : ab_H} {N : cm_M → Prop} {M0 : cm_M} {md : ab_Md} {ρ : List Int32} {k : cm_S → Prop} {pc : Nat} {L : List (Nat × ab_A)} {st st' : List ab_A} {K : ab_K} {Ca : ab_Ca} {CL : List (Nat × Value)} {sc : List Value} {M : cm_M} {r : Nat} {a b : ab_A} {off : Int} {Ss : List ab_S} (hf : ab_fork r a b off st' (pc, L, st, K, Ca) = some Ss) (hk : ∀ S' ∈ Ss, ∀ (ext : List Int32) (C' : cm_S), ab_G h N M0 md (ρ ++ ext) S' C' → k C') (gl : ab_l ρ L CL) (gs : ab_s ρ st' sc) (gk : ab_k ρ K) (gm : ab_m h N M0 md ρ Ca M) {x y : Int32} (hx : ab_i ρ a = some x) (hy : ab_i ρ b = some y) :
    0 ≤ (pc : Int) + off ∧ (ev_cmp r x y = true → k (((pc : Int) + off).toNat, CL, sc, M)) ∧ (ev_cmp r x y = false → k (pc + 3, CL, sc, M)) := by
  unfold ab_fork at hf
  split at hf
  · rename_i h0
    cases hf
    refine ⟨h0, fun hc => ?_, fun hc => ?_⟩
    · obtain ⟨K', e, hk'⟩ := ab_br_ok gk hx hy hc
      refine ab_fin hk (((pc : Int) + off).toNat, L, st', K', Ca) ?_ _ ⟨rfl, gl, gs, hk', gm⟩
      refine List.mem_append_left _ ?_
      dsimp only
      rw [e]
      exact List.mem_singleton.mpr rfl
    · obtain ⟨K', e, hk'⟩ := ab_br_ok gk hx hy (ab_ngt_ok hc)
      refine ab_fin hk (pc + 3, L, st', K', Ca) ?_ _ ⟨rfl, gl, gs, hk', gm⟩
      refine List.mem_append_right _ ?_
      dsimp only
      rw [e]
      exact List.mem_singleton.mpr rfl
  · cases hf
noncomputable def ab_icmp_eq : ab_O := fun h md P t S => match S.2.2.1 with
  | b :: a :: st => if ab_isI a = true ∧ ab_isI b = true then ab_fork 0 a b t.1 st S else none
  | _ => none
theorem ab_icmp_eq_ok : ab_Snd cm_icmp_eq ab_icmp_eq := by
  intro h N M0 md E P t S Ss C ρ k hN h1 hG hk
  obtain ⟨pc, L, st, K, Ca⟩ := S
  obtain ⟨cpc, CL, sc, M⟩ := C
  obtain ⟨e0, gl, gs, gk, gm⟩ := hG
  dsimp only at e0 gl gs gk gm
  subst e0
  unfold ab_icmp_eq at h1
  dsimp only at h1
  split at h1
  · rename_i b a st'
    split at h1
    · rename_i hc
      obtain ⟨vb, sc1, rfl, hvb, gs1⟩ := ab_s_cons gs
      obtain ⟨va, sc2, rfl, hva, gs2⟩ := ab_s_cons gs1
      obtain ⟨y, hy, rfl⟩ := ab_vi hc.2 hvb
      obtain ⟨x, hx, rfl⟩ := ab_vi hc.1 hva
      exact ab_fork_ok h1 hk gl gs2 gk gm hx hy
    · cases h1
  · cases h1

noncomputable def ab_if_eq : ab_O := fun h md P t S => match S.2.2.1 with
  | a :: st => if ab_isI a = true then ab_fork 0 a (ab_c 0) t.1 st S else none
  | _ => none
theorem ab_if_eq_ok : ab_Snd cm_if_eq ab_if_eq := by
  intro h N M0 md E P t S Ss C ρ k hN h1 hG hk
  obtain ⟨pc, L, st, K, Ca⟩ := S
  obtain ⟨cpc, CL, sc, M⟩ := C
  obtain ⟨e0, gl, gs, gk, gm⟩ := hG
  dsimp only at e0 gl gs gk gm
  subst e0
  unfold ab_if_eq at h1
  dsimp only at h1
  split at h1
  · rename_i a st'
    split at h1
    · rename_i hc
      obtain ⟨va, sc2, rfl, hva, gs2⟩ := ab_s_cons gs
      obtain ⟨x, hx, rfl⟩ := ab_vi hc hva
      exact ab_fork_ok h1 hk gl gs2 gk gm hx (show ab_i ρ (ab_c 0) = some 0 from rfl)
    · cases h1
  · cases h1

noncomputable def ab_icmp_ne : ab_O := fun h md P t S => match S.2.2.1 with
  | b :: a :: st => if ab_isI a = true ∧ ab_isI b = true then ab_fork 1 a b t.1 st S else none
  | _ => none
theorem ab_icmp_ne_ok : ab_Snd cm_icmp_ne ab_icmp_ne := by
  intro h N M0 md E P t S Ss C ρ k hN h1 hG hk
  obtain ⟨pc, L, st, K, Ca⟩ := S
  obtain ⟨cpc, CL, sc, M⟩ := C
  obtain ⟨e0, gl, gs, gk, gm⟩ := hG
  dsimp only at e0 gl gs gk gm
  subst e0
  unfold ab_icmp_ne at h1
  dsimp only at h1
  split at h1
  · rename_i b a st'
    split at h1
    · rename_i hc
      obtain ⟨vb, sc1, rfl, hvb, gs1⟩ := ab_s_cons gs
      obtain ⟨va, sc2, rfl, hva, gs2⟩ := ab_s_cons gs1
      obtain ⟨y, hy, rfl⟩ := ab_vi hc.2 hvb
      obtain ⟨x, hx, rfl⟩ := ab_vi hc.1 hva
      exact ab_fork_ok h1 hk gl gs2 gk gm hx hy
    · cases h1
  · cases h1

noncomputable def ab_if_ne : ab_O := fun h md P t S => match S.2.2.1 with
  | a :: st => if ab_isI a = true then ab_fork 1 a (ab_c 0) t.1 st S else none
  | _ => none
theorem ab_if_ne_ok : ab_Snd cm_if_ne ab_if_ne := by
  intro h N M0 md E P t S Ss C ρ k hN h1 hG hk
  obtain ⟨pc, L, st, K, Ca⟩ := S
  obtain ⟨cpc, CL, sc, M⟩ := C
  obtain ⟨e0, gl, gs, gk, gm⟩ := hG
  dsimp only at e0 gl gs gk gm
  subst e0
  unfold ab_if_ne at h1
  dsimp only at h1
  split at h1
  · rename_i a st'
    split at h1
    · rename_i hc
      obtain ⟨va, sc2, rfl, hva, gs2⟩ := ab_s_cons gs
      obtain ⟨x, hx, rfl⟩ := ab_vi hc hva
      exact ab_fork_ok h1 hk gl gs2 gk gm hx (show ab_i ρ (ab_c 0) = some 0 from rfl)
    · cases h1
  · cases h1

noncomputable def ab_icmp_lt : ab_O := fun h md P t S => match S.2.2.1 with
  | b :: a :: st => if ab_isI a = true ∧ ab_isI b = true then ab_fork 2 a b t.1 st S else none
  | _ => none
theorem ab_icmp_lt_ok : ab_Snd cm_icmp_lt ab_icmp_lt := by
  intro h N M0 md E P t S Ss C ρ k hN h1 hG hk
  obtain ⟨pc, L, st, K, Ca⟩ := S
  obtain ⟨cpc, CL, sc, M⟩ := C
  obtain ⟨e0, gl, gs, gk, gm⟩ := hG
  dsimp only at e0 gl gs gk gm
  subst e0
  unfold ab_icmp_lt at h1
  dsimp only at h1
  split at h1
  · rename_i b a st'
    split at h1
    · rename_i hc
      obtain ⟨vb, sc1, rfl, hvb, gs1⟩ := ab_s_cons gs
      obtain ⟨va, sc2, rfl, hva, gs2⟩ := ab_s_cons gs1
      obtain ⟨y, hy, rfl⟩ := ab_vi hc.2 hvb
      obtain ⟨x, hx, rfl⟩ := ab_vi hc.1 hva
      exact ab_fork_ok h1 hk gl gs2 gk gm hx hy
    · cases h1
  · cases h1

noncomputable def ab_if_lt : ab_O := fun h md P t S => match S.2.2.1 with
  | a :: st => if ab_isI a = true then ab_fork 2 a (ab_c 0) t.1 st S else none
  | _ => none
theorem ab_if_lt_ok : ab_Snd cm_if_lt ab_if_lt := by
  intro h N M0 md E P t S Ss C ρ k hN h1 hG hk
  obtain ⟨pc, L, st, K, Ca⟩ := S
  obtain ⟨cpc, CL, sc, M⟩ := C
  obtain ⟨e0, gl, gs, gk, gm⟩ := hG
  dsimp only at e0 gl gs gk gm
  subst e0
  unfold ab_if_lt at h1
  dsimp only at h1
  split at h1
  · rename_i a st'
    split at h1
    · rename_i hc
      obtain ⟨va, sc2, rfl, hva, gs2⟩ := ab_s_cons gs
      obtain ⟨x, hx, rfl⟩ := ab_vi hc hva
      exact ab_fork_ok h1 hk gl gs2 gk gm hx (show ab_i ρ (ab_c 0) = some 0 from rfl)
    · cases h1
  · cases h1

noncomputable def ab_icmp_ge : ab_O := fun h md P t S => match S.2.2.1 with
  | b :: a :: st => if ab_isI a = true ∧ ab_isI b = true then ab_fork 3 a b t.1 st S else none
  | _ => none
theorem ab_icmp_ge_ok : ab_Snd cm_icmp_ge ab_icmp_ge := by
  intro h N M0 md E P t S Ss C ρ k hN h1 hG hk
  obtain ⟨pc, L, st, K, Ca⟩ := S
  obtain ⟨cpc, CL, sc, M⟩ := C
  obtain ⟨e0, gl, gs, gk, gm⟩ := hG
  dsimp only at e0 gl gs gk gm
  subst e0
  unfold ab_icmp_ge at h1
  dsimp only at h1
  split at h1
  · rename_i b a st'
    split at h1
    · rename_i hc
      obtain ⟨vb, sc1, rfl, hvb, gs1⟩ := ab_s_cons gs
      obtain ⟨va, sc2, rfl, hva, gs2⟩ := ab_s_cons gs1
      obtain ⟨y, hy, rfl⟩ := ab_vi hc.2 hvb
      obtain ⟨x, hx, rfl⟩ := ab_vi hc.1 hva
      exact ab_fork_ok h1 hk gl gs2 gk gm hx hy
    · cases h1
  · cases h1

noncomputable def ab_if_ge : ab_O := fun h md P t S => match S.2.2.1 with
  | a :: st => if ab_isI a = true then ab_fork 3 a (ab_c 0) t.1 st S else none
  | _ => none
theorem ab_if_ge_ok : ab_Snd cm_if_ge ab_if_ge := by
  intro h N M0 md E P t S Ss C ρ k hN h1 hG hk
  obtain ⟨pc, L, st, K, Ca⟩ := S
  obtain ⟨cpc, CL, sc, M⟩ := C
  obtain ⟨e0, gl, gs, gk, gm⟩ := hG
  dsimp only at e0 gl gs gk gm
  subst e0
  unfold ab_if_ge at h1
  dsimp only at h1
  split at h1
  · rename_i a st'
    split at h1
    · rename_i hc
      obtain ⟨va, sc2, rfl, hva, gs2⟩ := ab_s_cons gs
      obtain ⟨x, hx, rfl⟩ := ab_vi hc hva
      exact ab_fork_ok h1 hk gl gs2 gk gm hx (show ab_i ρ (ab_c 0) = some 0 from rfl)
    · cases h1
  · cases h1

noncomputable def ab_icmp_gt : ab_O := fun h md P t S => match S.2.2.1 with
  | b :: a :: st => if ab_isI a = true ∧ ab_isI b = true then ab_fork 4 a b t.1 st S else none
  | _ => none
theorem ab_icmp_gt_ok : ab_Snd cm_icmp_gt ab_icmp_gt := by
  intro h N M0 md E P t S Ss C ρ k hN h1 hG hk
  obtain ⟨pc, L, st, K, Ca⟩ := S
  obtain ⟨cpc, CL, sc, M⟩ := C
  obtain ⟨e0, gl, gs, gk, gm⟩ := hG
  dsimp only at e0 gl gs gk gm
  subst e0
  unfold ab_icmp_gt at h1
  dsimp only at h1
  split at h1
  · rename_i b a st'
    split at h1
    · rename_i hc
      obtain ⟨vb, sc1, rfl, hvb, gs1⟩ := ab_s_cons gs
      obtain ⟨va, sc2, rfl, hva, gs2⟩ := ab_s_cons gs1
      obtain ⟨y, hy, rfl⟩ := ab_vi hc.2 hvb
      obtain ⟨x, hx, rfl⟩ := ab_vi hc.1 hva
      exact ab_fork_ok h1 hk gl gs2 gk gm hx hy
    · cases h1
  · cases h1

noncomputable def ab_if_gt : ab_O := fun h md P t S => match S.2.2.1 with
  | a :: st => if ab_isI a = true then ab_fork 4 a (ab_c 0) t.1 st S else none
  | _ => none
theorem ab_if_gt_ok : ab_Snd cm_if_gt ab_if_gt := by
  intro h N M0 md E P t S Ss C ρ k hN h1 hG hk
  obtain ⟨pc, L, st, K, Ca⟩ := S
  obtain ⟨cpc, CL, sc, M⟩ := C
  obtain ⟨e0, gl, gs, gk, gm⟩ := hG
  dsimp only at e0 gl gs gk gm
  subst e0
  unfold ab_if_gt at h1
  dsimp only at h1
  split at h1
  · rename_i a st'
    split at h1
    · rename_i hc
      obtain ⟨va, sc2, rfl, hva, gs2⟩ := ab_s_cons gs
      obtain ⟨x, hx, rfl⟩ := ab_vi hc hva
      exact ab_fork_ok h1 hk gl gs2 gk gm hx (show ab_i ρ (ab_c 0) = some 0 from rfl)
    · cases h1
  · cases h1

noncomputable def ab_icmp_le : ab_O := fun h md P t S => match S.2.2.1 with
  | b :: a :: st => if ab_isI a = true ∧ ab_isI b = true then ab_fork 5 a b t.1 st S else none
  | _ => none
theorem ab_icmp_le_ok : ab_Snd cm_icmp_le ab_icmp_le := by
  intro h N M0 md E P t S Ss C ρ k hN h1 hG hk
  obtain ⟨pc, L, st, K, Ca⟩ := S
  obtain ⟨cpc, CL, sc, M⟩ := C
  obtain ⟨e0, gl, gs, gk, gm⟩ := hG
  dsimp only at e0 gl gs gk gm
  subst e0
  unfold ab_icmp_le at h1
  dsimp only at h1
  split at h1
  · rename_i b a st'
    split at h1
    · rename_i hc
      obtain ⟨vb, sc1, rfl, hvb, gs1⟩ := ab_s_cons gs
      obtain ⟨va, sc2, rfl, hva, gs2⟩ := ab_s_cons gs1
      obtain ⟨y, hy, rfl⟩ := ab_vi hc.2 hvb
      obtain ⟨x, hx, rfl⟩ := ab_vi hc.1 hva
      exact ab_fork_ok h1 hk gl gs2 gk gm hx hy
    · cases h1
  · cases h1

noncomputable def ab_if_le : ab_O := fun h md P t S => match S.2.2.1 with
  | a :: st => if ab_isI a = true then ab_fork 5 a (ab_c 0) t.1 st S else none
  | _ => none
theorem ab_if_le_ok : ab_Snd cm_if_le ab_if_le := by
  intro h N M0 md E P t S Ss C ρ k hN h1 hG hk
  obtain ⟨pc, L, st, K, Ca⟩ := S
  obtain ⟨cpc, CL, sc, M⟩ := C
  obtain ⟨e0, gl, gs, gk, gm⟩ := hG
  dsimp only at e0 gl gs gk gm
  subst e0
  unfold ab_if_le at h1
  dsimp only at h1
  split at h1
  · rename_i a st'
    split at h1
    · rename_i hc
      obtain ⟨va, sc2, rfl, hva, gs2⟩ := ab_s_cons gs
      obtain ⟨x, hx, rfl⟩ := ab_vi hc hva
      exact ab_fork_ok h1 hk gl gs2 gk gm hx (show ab_i ρ (ab_c 0) = some 0 from rfl)
    · cases h1
  · cases h1

noncomputable def ab_goto : ab_O := fun h md P t S => if 0 ≤ (S.1 : Int) + t.1 then some [(((S.1 : Int) + t.1).toNat, S.2)] else none
theorem ab_goto_ok : ab_Snd cm_goto ab_goto := by
  intro h N M0 md E P t S Ss C ρ k hN h1 hG hk
  obtain ⟨pc, L, st, K, Ca⟩ := S
  obtain ⟨cpc, CL, sc, M⟩ := C
  obtain ⟨e0, gl, gs, gk, gm⟩ := hG
  dsimp only at e0 gl gs gk gm
  subst e0
  unfold ab_goto at h1
  dsimp only at h1
  split at h1
  · rename_i h0
    cases h1
    exact ⟨h0, ab_fin hk _ (List.mem_singleton.mpr rfl) (((cpc : Int) + t.1).toNat, CL, sc, M) ⟨rfl, gl, gs, gk, gm⟩⟩
  · cases h1

noncomputable def ab_swj (a : ab_A) (lo : Int) (st : List ab_A) (S : ab_S) : Nat → List Int → List ab_S
  | _, [] => []
  | j, o :: offs => (match ab_br 0 a (ab_c (Int32.ofInt (lo + (j : Int))).toInt) S.2.2.2.1 with
    | some K => [(((S.1 : Int) + o).toNat, S.2.1, st, K, S.2.2.2.2)]
    | none => []) ++ ab_swj a lo st S (j + 1) offs
theorem ab_swj_in {a : ab_A} {lo : Int} {st : List ab_A} {S : ab_S} {K : ab_K} : ∀ (offs : List Int) (i j : Nat) (o : Int), offs[j]? = some o → ab_br 0 a (ab_c (Int32.ofInt (lo + ((i + j : Nat) : Int))).toInt) S.2.2.2.1 = some K → (((S.1 : Int) + o).toNat, S.2.1, st, K, S.2.2.2.2) ∈ ab_swj a lo st S i offs
  | [], i, j, o, h, _ => by cases h
  | q :: offs, i, 0, o, h, hb => by
    cases h
    unfold ab_swj
    refine List.mem_append_left _ ?_
    rw [Nat.add_zero] at hb
    rw [hb]
    exact List.mem_singleton.mpr rfl
  | q :: offs, i, j + 1, o, h, hb => by
    unfold ab_swj
    refine List.mem_append_right _ ?_
    exact ab_swj_in offs (i + 1) j o h (by rw [show i + 1 + j = i + (j + 1) by omega]; exact hb)
noncomputable def ab_sw : ab_O := fun h md P t S => match t.2.2.2, S.2.2.1 with
  | _ :: offs, a :: st => if ab_isI a = true ∧ t.2.2.1 - t.2.1 + 1 = (offs.length : Int) ∧ 0 ≤ (S.1 : Int) + t.1 ∧ offs.all (fun o => decide (0 ≤ (S.1 : Int) + o)) = true ∧ -2147483648 ≤ t.2.1 ∧ t.2.2.1 ≤ 2147483647 ∧ t.2.1 ≤ 2147483647 ∧ -2147483648 ≤ t.2.2.1 then some (ab_swj a t.2.1 st S 0 offs ++ ((match ab_br 2 a (ab_c t.2.1) S.2.2.2.1 with
      | some K => [(((S.1 : Int) + t.1).toNat, S.2.1, st, K, S.2.2.2.2)]
      | none => []) ++ (match ab_br 4 a (ab_c t.2.2.1) S.2.2.2.1 with
      | some K => [(((S.1 : Int) + t.1).toNat, S.2.1, st, K, S.2.2.2.2)]
      | none => []))) else none
  | _, _ => none
theorem ab_sw_ok : ab_Snd cm_sw ab_sw := by
  intro h N M0 md E P t S Ss C ρ k hN h1 hG hk
  obtain ⟨pc, L, st, K, Ca⟩ := S
  obtain ⟨cpc, CL, sc, M⟩ := C
  obtain ⟨e0, gl, gs, gk, gm⟩ := hG
  dsimp only at e0 gl gs gk gm
  subst e0
  obtain ⟨dflt, lo, hi, offs0⟩ := t
  cases offs0 with
  | nil => cases h1
  | cons len offs =>
    cases st with
    | nil => cases h1
    | cons a st' =>
      unfold ab_sw at h1
      dsimp only at h1
      split at h1
      · rename_i hc
        cases h1
        obtain ⟨hI, hlen, h0, hall, hlo, hhi, hlo2, hhi2⟩ := hc
        obtain ⟨va, sc2, rfl, hva, gs2⟩ := ab_s_cons gs
        obtain ⟨x, hx, rfl⟩ := ab_vi hI hva
        have ex : ∀ n : Int, -2147483648 ≤ n → n ≤ 2147483647 → (Int32.ofInt n).toInt = n := by
          intro n q1 q2
          rw [Int32.toInt_ofInt]
          exact ev_bm q1 q2
        refine ⟨hlen, h0, hall, fun hq => ?_, fun j o ho hj => ?_⟩
        · rcases hq with hq | hq
          · obtain ⟨K', e, hk'⟩ := ab_br_ok (r := 2) (b := ab_c lo) gk hx rfl (by
              unfold ev_cmp
              refine decide_eq_true (Int32.lt_iff_toInt_lt.mpr ?_)
              show x.toInt < (Int32.ofInt lo).toInt
              dsimp only at hq hlen
              rw [ex lo hlo hlo2]
              exact hq)
            refine ab_fin hk (((cpc : Int) + dflt).toNat, L, st', K', Ca) ?_ _ ⟨rfl, gl, gs2, hk', gm⟩
            refine List.mem_append_right _ (List.mem_append_left _ ?_)
            rw [e]
            exact List.mem_singleton.mpr rfl
          · obtain ⟨K', e, hk'⟩ := ab_br_ok (r := 4) (b := ab_c hi) gk hx rfl (by
              unfold ev_cmp
              refine decide_eq_true (Int32.lt_iff_toInt_lt.mpr ?_)
              show (Int32.ofInt hi).toInt < x.toInt
              dsimp only at hq hlen
              rw [ex hi hhi2 hhi]
              exact hq)
            refine ab_fin hk (((cpc : Int) + dflt).toNat, L, st', K', Ca) ?_ _ ⟨rfl, gl, gs2, hk', gm⟩
            refine List.mem_append_right _ (List.mem_append_right _ ?_)
            rw [e]
            exact List.mem_singleton.mpr rfl
        · dsimp only at hj
          obtain ⟨K', e, hk'⟩ := ab_br_ok (r := 0) (b := ab_c (Int32.ofInt (lo + ((0 + j : Nat) : Int))).toInt) gk hx (ab_c_at ρ _) (by
            unfold ev_cmp
            refine decide_eq_true ?_
            rw [Nat.zero_add, ← hj, Int32.ofInt_toInt])
          exact ab_fin hk (((cpc : Int) + o).toNat, L, st', K', Ca) (List.mem_append_left _ (ab_swj_in (S := (cpc, L, a :: st', K, Ca)) offs 0 j o ho e)) _ ⟨rfl, gl, gs2, hk', gm⟩
      · cases h1
noncomputable def ab_fk (c : Nat) : Nat × Nat := cond (Nat.beq c 2) (4, 14) (cond (Nat.beq c 124) (9, 35) (cond (Nat.beq c 0) (8, 15) (cond (Nat.beq c 127) (100, 213) (cond (Nat.beq c 128) (100, 213) (cond (Nat.beq c 6) (7, 19) (cond (Nat.beq c 19) (7, 19) (cond (Nat.beq c 98) (0, 5) (cond (Nat.beq c 4) (100, 16) (cond (Nat.beq c 5) (100, 16) (cond (Nat.beq c 3) (102, 16) (cond (Nat.beq c 126) (100, 8) (cond (Nat.beq c 1) (101, 900) (cm_kind c)))))))))))))
theorem ab_fk_eq (c : Nat) : ab_fk c = cm_kind c := by
  unfold ab_fk
  cases h0 : Nat.beq c 2 with
  | true => exact (congrArg cm_kind (Nat.eq_of_beq_eq_true h0)).symm
  | false =>
    cases h1 : Nat.beq c 124 with
    | true => exact (congrArg cm_kind (Nat.eq_of_beq_eq_true h1)).symm
    | false =>
      cases h2 : Nat.beq c 0 with
      | true => exact (congrArg cm_kind (Nat.eq_of_beq_eq_true h2)).symm
      | false =>
        cases h3 : Nat.beq c 127 with
        | true => exact (congrArg cm_kind (Nat.eq_of_beq_eq_true h3)).symm
        | false =>
          cases h4 : Nat.beq c 128 with
          | true => exact (congrArg cm_kind (Nat.eq_of_beq_eq_true h4)).symm
          | false =>
            cases h5 : Nat.beq c 6 with
            | true => exact (congrArg cm_kind (Nat.eq_of_beq_eq_true h5)).symm
            | false =>
              cases h6 : Nat.beq c 19 with
              | true => exact (congrArg cm_kind (Nat.eq_of_beq_eq_true h6)).symm
              | false =>
                cases h7 : Nat.beq c 98 with
                | true => exact (congrArg cm_kind (Nat.eq_of_beq_eq_true h7)).symm
                | false =>
                  cases h8 : Nat.beq c 4 with
                  | true => exact (congrArg cm_kind (Nat.eq_of_beq_eq_true h8)).symm
                  | false =>
                    cases h9 : Nat.beq c 5 with
                    | true => exact (congrArg cm_kind (Nat.eq_of_beq_eq_true h9)).symm
                    | false =>
                      cases h10 : Nat.beq c 3 with
                      | true => exact (congrArg cm_kind (Nat.eq_of_beq_eq_true h10)).symm
                      | false =>
                        cases h11 : Nat.beq c 126 with
                        | true => exact (congrArg cm_kind (Nat.eq_of_beq_eq_true h11)).symm
                        | false =>
                          cases h12 : Nat.beq c 1 with
                          | true => exact (congrArg cm_kind (Nat.eq_of_beq_eq_true h12)).symm
                          | false =>
                            rfl
/-- all these cells are alike -/
noncomputable def ab_same (cs : List Nat) (kd : Nat × Nat) : Bool := cs.all (fun c => Nat.beq (ab_fk c).1 kd.1 && Nat.beq (ab_fk c).2 kd.2)
theorem ab_same_in {cs : List Nat} {kd : Nat × Nat} (h : ab_same cs kd = true) {c : Nat} (hc : c ∈ cs) : cm_kind c = kd := by
  have h1 := List.all_eq_true.mp h c hc
  rw [Bool.and_eq_true] at h1
  rw [← ab_fk_eq]
  exact Prod.ext (Nat.eq_of_beq_eq_true h1.1) (Nat.eq_of_beq_eq_true h1.2)
noncomputable def ab_kd (cs : List Nat) : Nat × Nat := match cs with
  | c :: _ => ab_fk c
  | [] => (999, 0)
/-- which numbers a value can be -/
noncomputable def ab_rl (b : Int × Int) : Option (List Int) := if b.2 - b.1 < 40 then some ((List.range (b.2 - b.1 + 1).toNat).map (fun (j : Nat) => b.1 + (j : Int))) else none
theorem ab_rl_in {b : Int × Int} {l : List Int} {x : Int32} (h : ab_rl b = some l) (hx : ev_inb b x) : x.toInt ∈ l := by
  unfold ab_rl at h
  split at h
  · cases h
    obtain ⟨h1, h2⟩ := hx
    exact List.mem_map.mpr ⟨(x.toInt - b.1).toNat, List.mem_range.mpr (by omega), by omega⟩
  · cases h
noncomputable def ab_vals : Nat → ab_K → ab_A → Option (List Int)
  | 0, K, a => ab_rl (ab_bd K a)
  | n + 1, K, a => if a.1 = 3 then (match K[a.2.1.toNat]? with
    | some r => if r.2.2.1 = 1 ∨ r.2.2.1 = 2 ∨ r.2.2.1 = 3 then (match ab_vals n K r.2.2.2.1, ab_vals n K r.2.2.2.2 with
        | some l1, some l2 => if l1.length * l2.length ≤ 200 then some (l1.flatMap (fun x => l2.map (fun y => (ev_f r.2.2.1 (Int32.ofInt x) (Int32.ofInt y)).toInt))) else ab_rl (ab_bd K a)
        | _, _ => ab_rl (ab_bd K a)) else ab_rl (ab_bd K a)
    | none => ab_rl (ab_bd K a)) else ab_rl (ab_bd K a)
theorem ab_vals_in {ρ : List Int32} {K : ab_K} (hk : ab_k ρ K) : ∀ (n : Nat) {a : ab_A} {x : Int32} {l : List Int}, ab_i ρ a = some x → ab_vals n K a = some l → x.toInt ∈ l
  | 0, a, x, l, ha, h => ab_rl_in h (ab_bd_in hk ha)
  | n + 1, a, x, l, ha, h => by
    unfold ab_vals at h
    split at h
    · rename_i h3
      split at h
      · rename_i r hr
        split at h
        · rename_i hop
          split at h
          · rename_i l1 l2 e1 e2
            split at h
            · cases h
              have hx : ρ[a.2.1.toNat]? = some x := by
                unfold ab_i at ha
                rw [h3] at ha
                exact ha
              rcases (hk.2 _ r x hr hx).2 with hz | ⟨y, z, hy, hz, e⟩
              · omega
              · have i1 := ab_vals_in hk n hy e1
                have i2 := ab_vals_in hk n hz e2
                exact List.mem_flatMap.mpr ⟨y.toInt, i1, List.mem_map.mpr ⟨z.toInt, i2, by rw [Int32.ofInt_toInt, Int32.ofInt_toInt, ← e]⟩⟩
            · exact ab_rl_in h (ab_bd_in hk ha)
          · exact ab_rl_in h (ab_bd_in hk ha)
        · exact ab_rl_in h (ab_bd_in hk ha)
      · exact ab_rl_in h (ab_bd_in hk ha)
    · exact ab_rl_in h (ab_bd_in hk ha)
/-- a number within an array: which places -/
noncomputable def ab_idx (K : ab_K) (a : ab_A) (len : Nat) : Option ab_Ix := match ab_vals 4 K a with
  | some l => if l.all (fun x => decide (0 ≤ x) && decide (x < (len : Int))) = true then some (some (l.map Int.toNat)) else (if 0 ≤ (ab_bd K a).1 ∧ (ab_bd K a).2 < (len : Int) then some (some (l.map Int.toNat)) else none)
  | none => if 0 ≤ (ab_bd K a).1 ∧ (ab_bd K a).2 < (len : Int) then some none else none
theorem ab_idx_ok {ρ : List Int32} {K : ab_K} {a : ab_A} {x : Int32} {len : Nat} {ix : ab_Ix} (hk : ab_k ρ K) (ha : ab_i ρ a = some x) (h : ab_idx K a len = some ix) : 0 ≤ x.toInt ∧ x.toInt < (len : Int) ∧ ab_ixin ix x.toNatClampNeg := by
  have hb := ab_bd_in hk ha
  unfold ab_idx at h
  split at h
  · rename_i l hl
    have hin := ab_vals_in hk 4 ha hl
    have hm : x.toNatClampNeg ∈ l.map Int.toNat := List.mem_map.mpr ⟨x.toInt, hin, rfl⟩
    split at h
    · rename_i hall
      cases h
      have := List.all_eq_true.mp hall _ hin
      simp only [Bool.and_eq_true, decide_eq_true_eq] at this
      exact ⟨this.1, this.2, hm⟩
    · split at h
      · rename_i hc
        cases h
        obtain ⟨b1, b2⟩ := hb
        exact ⟨by omega, by omega, hm⟩
      · cases h
  · split at h
    · rename_i hc
      cases h
      obtain ⟨b1, b2⟩ := hb
      exact ⟨by omega, by omega, trivial⟩
    · cases h
noncomputable def ab_get : ab_O := fun h md P t S => match S.2.2.1 with
  | x :: st => if x.1 = 1 ∧ ab_same x.2.2 (ab_kd x.2.2) = true ∧ (ab_kd x.2.2).1 = t.1.toNat ∧ t.2.1.toNat < (ab_kd x.2.2).2 then (match cm_ft t.1.toNat t.2.1.toNat with
      | 2 => some [ab_adv S 3 ((6, 0, []) :: st)]
      | 3 => (match ab_ldR h S.2.2.2.2 x.2.2 [t.2.1.toNat] with
        | some a => some [ab_adv S 3 (a :: st)]
        | none => none)
      | 0 => some [(S.1 + 3, S.2.1, (ab_ldI h S.2.2.2.1 S.2.2.2.2 x.2.2 (some [t.2.1.toNat])).1 :: st, (ab_ldI h S.2.2.2.1 S.2.2.2.2 x.2.2 (some [t.2.1.toNat])).2)]
      | _ => none) else none
  | _ => none
theorem ab_get_ok : ab_Snd cm_get ab_get := by
  intro h N M0 md E P t S Ss C ρ k hN h1 hG hk
  obtain ⟨pc, L, st, K, Ca⟩ := S
  obtain ⟨cpc, CL, sc, M⟩ := C
  obtain ⟨e0, gl, gs, gk, gm⟩ := hG
  dsimp only at e0 gl gs gk gm
  subst e0
  unfold ab_get at h1
  dsimp only at h1
  split at h1
  · rename_i x st'
    split at h1
    · rename_i hc
      obtain ⟨hx1, hsm, hk1, hk2⟩ := hc
      obtain ⟨vx, sc2, rfl, hvx, gs2⟩ := ab_s_cons gs
      obtain ⟨c, hc, rfl⟩ := ab_v1 hx1 hvx
      have hkc := ab_same_in hsm hc
      refine ⟨by rw [hkc]; exact hk1, by rw [hkc]; exact hk2, ?_⟩
      split at h1
      · rename_i e
        cases h1
        rw [e]
        exact ab_fin hk _ (List.mem_singleton.mpr rfl) (cpc + 3, CL, .long (M.2.1 c t.2.1.toNat) :: sc2, M) ⟨rfl, gl, ⟨⟨_, rfl⟩, gs2⟩, gk, gm⟩
      · rename_i e
        split at h1
        · rename_i a ha
          cases h1
          rw [e]
          exact ab_fin hk _ (List.mem_singleton.mpr rfl) (cpc + 3, CL, cm_rq (M.2.2 c t.2.1.toNat) :: sc2, M) ⟨rfl, gl, ⟨ab_ldR_ok gm ha hc (List.mem_singleton.mpr rfl), gs2⟩, gk, gm⟩
        · cases h1
      · rename_i e
        cases h1
        rw [e]
        obtain ⟨ext, k1, k2, k3⟩ := ab_ldI_ok (i := t.2.1.toNat) hN gk gm (rfl : ab_ldI h K Ca x.2.2 (some [t.2.1.toNat]) = (_, _, _)) hc (List.mem_singleton.mpr rfl)
        exact hk _ (List.mem_singleton.mpr rfl) ext (cpc + 3, CL, .int (M.1 c t.2.1.toNat) :: sc2, M) ⟨rfl, ab_l_ap gl, ⟨ab_iv k2, ab_s_ap gs2⟩, k1, k3⟩
      · cases h1
    · cases h1
  · cases h1

noncomputable def ab_put : ab_O := fun h md P t S => match S.2.2.1 with
  | a :: x :: st => if x.1 = 1 ∧ ab_same x.2.2 (ab_kd x.2.2) = true ∧ (ab_kd x.2.2).1 = t.1.toNat ∧ t.2.1.toNat < (ab_kd x.2.2).2 ∧ cm_fin t.1.toNat t.2.1.toNat = false then (match cm_ft t.1.toNat t.2.1.toNat with
      | 2 => if a.1 = 6 ∧ ab_stL h md x.2.2 (some [t.2.1.toNat]) = true then some [ab_adv S 3 st] else none
      | 3 => if a.1 = 1 ∧ ab_stR h md a x.2.2 t.2.1.toNat = true then some [(S.1 + 3, S.2.1, st, S.2.2.2.1, ab_keep S.2.2.2.2 x.2.2 (some [t.2.1.toNat]) a)] else none
      | 0 => if ab_isI a = true ∧ (cm_isB t.1.toNat t.2.1.toNat = true → 0 ≤ (ab_bd S.2.2.2.1 a).1 ∧ (ab_bd S.2.2.2.1 a).2 ≤ 1) ∧ ab_stI h md (ab_bd S.2.2.2.1 a) x.2.2 (some [t.2.1.toNat]) = true then some [(S.1 + 3, S.2.1, st, S.2.2.2.1, ab_keep S.2.2.2.2 x.2.2 (some [t.2.1.toNat]) a)] else none
      | _ => none) else none
  | _ => none
theorem ab_put_ok : ab_Snd cm_put ab_put := by
  intro h N M0 md E P t S Ss C ρ k hN h1 hG hk
  obtain ⟨pc, L, st, K, Ca⟩ := S
  obtain ⟨cpc, CL, sc, M⟩ := C
  obtain ⟨e0, gl, gs, gk, gm⟩ := hG
  dsimp only at e0 gl gs gk gm
  subst e0
  unfold ab_put at h1
  dsimp only at h1
  split at h1
  · rename_i a x st'
    split at h1
    · rename_i hc
      obtain ⟨hx1, hsm, hk1, hk2, hfin⟩ := hc
      obtain ⟨va, sc1, rfl, hva, gs1⟩ := ab_s_cons gs
      obtain ⟨vx, sc2, rfl, hvx, gs2⟩ := ab_s_cons gs1
      obtain ⟨c, hc, rfl⟩ := ab_v1 hx1 hvx
      have hkc := ab_same_in hsm hc
      split at h1
      · rename_i e
        split at h1
        · rename_i hq
          cases h1
          obtain ⟨z, rfl⟩ := ab_v6 hq.1 hva
          exact ⟨by rw [hkc]; exact hk1, by rw [hkc]; exact hk2, hfin, e, ab_fin hk _ (List.mem_singleton.mpr rfl) (cpc + 3, CL, sc2, cm_wl M c t.2.1.toNat z) ⟨rfl, gl, gs2, gk, ab_stL_ok hN gm hq.2 hc (List.mem_singleton.mpr rfl)⟩⟩
        · cases h1
      · rename_i e
        split at h1
        · rename_i hq
          cases h1
          have hva0 := hva
          obtain ⟨z, hz, rfl⟩ := ab_v1 hq.1 hva
          exact ⟨by rw [hkc]; exact hk1, by rw [hkc]; exact hk2, hfin, e, ab_fin hk _ (List.mem_singleton.mpr rfl) (cpc + 3, CL, sc2, cm_wr M c t.2.1.toNat (some z)) ⟨rfl, gl, gs2, gk, ab_stR_ok (r := some z) hN gm hq.2 hc (by unfold ab_isI; rw [hq.1]; rfl) hva0⟩⟩
        · cases h1
      · rename_i e
        split at h1
        · rename_i hq
          cases h1
          obtain ⟨z, hz, rfl⟩ := ab_vi hq.1 hva
          have hb := ab_bd_in gk hz
          refine ⟨by rw [hkc]; exact hk1, by rw [hkc]; exact hk2, hfin, ⟨e, fun hB => ?_⟩, ab_fin hk _ (List.mem_singleton.mpr rfl) (cpc + 3, CL, sc2, cm_wi M c t.2.1.toNat z) ⟨rfl, gl, gs2, gk, ab_stI_ok hN gm hq.2.2 hc (List.mem_singleton.mpr rfl) hz hb⟩⟩
          have h2 := hq.2.1 hB
          obtain ⟨b1, b2⟩ := hb
          have : z.toInt = 0 ∨ z.toInt = 1 := by omega
          rcases this with h0 | h0
          · exact Or.inl (Int32.toInt_inj.mp (by rw [h0]; rfl))
          · exact Or.inr (Int32.toInt_inj.mp (by rw [h0]; rfl))
        · cases h1
      · cases h1
    · cases h1
  · cases h1

noncomputable def ab_iaload : ab_O := fun h md P t S => match S.2.2.1 with
  | i :: x :: st => if x.1 = 1 ∧ ab_isI i = true ∧ ab_same x.2.2 (ab_kd x.2.2) = true ∧ (ab_kd x.2.2).1 = 100 + 0 then (match ab_idx S.2.2.2.1 i (ab_kd x.2.2).2 with
      | some ix => some [(S.1 + 1, S.2.1, (ab_ldI h S.2.2.2.1 S.2.2.2.2 x.2.2 ix).1 :: st, (ab_ldI h S.2.2.2.1 S.2.2.2.2 x.2.2 ix).2)]
      | none => none) else none
  | _ => none
theorem ab_iaload_ok : ab_Snd cm_iaload ab_iaload := by
  intro h N M0 md E P t S Ss C ρ k hN h1 hG hk
  obtain ⟨pc, L, st, K, Ca⟩ := S
  obtain ⟨cpc, CL, sc, M⟩ := C
  obtain ⟨e0, gl, gs, gk, gm⟩ := hG
  dsimp only at e0 gl gs gk gm
  subst e0
  unfold ab_iaload at h1
  dsimp only at h1
  split at h1
  · rename_i i x st'
    split at h1
    · rename_i hc
      obtain ⟨hx1, hi0, hsm, hk1⟩ := hc
      obtain ⟨vi, sc1, rfl, hvi, gs1⟩ := ab_s_cons gs
      obtain ⟨vx, sc2, rfl, hvx, gs2⟩ := ab_s_cons gs1
      obtain ⟨j, hj, rfl⟩ := ab_vi hi0 hvi
      obtain ⟨c, hc, rfl⟩ := ab_v1 hx1 hvx
      have hkc := ab_same_in hsm hc
      split at h1
      · rename_i ix hix
        cases h1
        obtain ⟨q1, q2, q3⟩ := ab_idx_ok gk hj hix
        obtain ⟨ext, k1, k2, k3⟩ := ab_ldI_ok (i := j.toNatClampNeg) hN gk gm (rfl : ab_ldI h K Ca x.2.2 ix = (_, _, _)) hc q3
        exact ⟨by rw [hkc]; exact hk1, q1, by rw [hkc]; exact q2, hk _ (List.mem_singleton.mpr rfl) ext (cpc + 1, CL, .int (M.1 c j.toNatClampNeg) :: sc2, M) ⟨rfl, ab_l_ap gl, ⟨ab_iv k2, ab_s_ap gs2⟩, k1, k3⟩⟩
      · cases h1
    · cases h1
  · cases h1

noncomputable def ab_baload : ab_O := fun h md P t S => match S.2.2.1 with
  | i :: x :: st => if x.1 = 1 ∧ ab_isI i = true ∧ ab_same x.2.2 (ab_kd x.2.2) = true ∧ (ab_kd x.2.2).1 = 100 + 1 then (match ab_idx S.2.2.2.1 i (ab_kd x.2.2).2 with
      | some ix => some [(S.1 + 1, S.2.1, (ab_ldI h S.2.2.2.1 S.2.2.2.2 x.2.2 ix).1 :: st, (ab_ldI h S.2.2.2.1 S.2.2.2.2 x.2.2 ix).2)]
      | none => none) else none
  | _ => none
theorem ab_baload_ok : ab_Snd cm_baload ab_baload := by
  intro h N M0 md E P t S Ss C ρ k hN h1 hG hk
  obtain ⟨pc, L, st, K, Ca⟩ := S
  obtain ⟨cpc, CL, sc, M⟩ := C
  obtain ⟨e0, gl, gs, gk, gm⟩ := hG
  dsimp only at e0 gl gs gk gm
  subst e0
  unfold ab_baload at h1
  dsimp only at h1
  split at h1
  · rename_i i x st'
    split at h1
    · rename_i hc
      obtain ⟨hx1, hi0, hsm, hk1⟩ := hc
      obtain ⟨vi, sc1, rfl, hvi, gs1⟩ := ab_s_cons gs
      obtain ⟨vx, sc2, rfl, hvx, gs2⟩ := ab_s_cons gs1
      obtain ⟨j, hj, rfl⟩ := ab_vi hi0 hvi
      obtain ⟨c, hc, rfl⟩ := ab_v1 hx1 hvx
      have hkc := ab_same_in hsm hc
      split at h1
      · rename_i ix hix
        cases h1
        obtain ⟨q1, q2, q3⟩ := ab_idx_ok gk hj hix
        obtain ⟨ext, k1, k2, k3⟩ := ab_ldI_ok (i := j.toNatClampNeg) hN gk gm (rfl : ab_ldI h K Ca x.2.2 ix = (_, _, _)) hc q3
        exact ⟨by rw [hkc]; exact hk1, q1, by rw [hkc]; exact q2, hk _ (List.mem_singleton.mpr rfl) ext (cpc + 1, CL, .int (M.1 c j.toNatClampNeg) :: sc2, M) ⟨rfl, ab_l_ap gl, ⟨ab_iv k2, ab_s_ap gs2⟩, k1, k3⟩⟩
      · cases h1
    · cases h1
  · cases h1

noncomputable def ab_laload : ab_O := fun h md P t S => match S.2.2.1 with
  | i :: x :: st => if x.1 = 1 ∧ ab_isI i = true ∧ ab_same x.2.2 (ab_kd x.2.2) = true ∧ (ab_kd x.2.2).1 = 100 + 2 then (match ab_idx S.2.2.2.1 i (ab_kd x.2.2).2 with
      | some _ => some [ab_adv S 1 ((6, 0, []) :: st)]
      | none => none) else none
  | _ => none
theorem ab_laload_ok : ab_Snd cm_laload ab_laload := by
  intro h N M0 md E P t S Ss C ρ k hN h1 hG hk
  obtain ⟨pc, L, st, K, Ca⟩ := S
  obtain ⟨cpc, CL, sc, M⟩ := C
  obtain ⟨e0, gl, gs, gk, gm⟩ := hG
  dsimp only at e0 gl gs gk gm
  subst e0
  unfold ab_laload at h1
  dsimp only at h1
  split at h1
  · rename_i i x st'
    split at h1
    · rename_i hc
      obtain ⟨hx1, hi0, hsm, hk1⟩ := hc
      obtain ⟨vi, sc1, rfl, hvi, gs1⟩ := ab_s_cons gs
      obtain ⟨vx, sc2, rfl, hvx, gs2⟩ := ab_s_cons gs1
      obtain ⟨j, hj, rfl⟩ := ab_vi hi0 hvi
      obtain ⟨c, hc, rfl⟩ := ab_v1 hx1 hvx
      have hkc := ab_same_in hsm hc
      split at h1
      · rename_i ix hix
        cases h1
        obtain ⟨q1, q2, q3⟩ := ab_idx_ok gk hj hix
        exact ⟨by rw [hkc]; exact hk1, q1, by rw [hkc]; exact q2, ab_fin hk _ (List.mem_singleton.mpr rfl) (cpc + 1, CL, .long (M.2.1 c j.toNatClampNeg) :: sc2, M) ⟨rfl, gl, ⟨⟨_, rfl⟩, gs2⟩, gk, gm⟩⟩
      · cases h1
    · cases h1
  · cases h1

noncomputable def ab_aaload : ab_O := fun h md P t S => match S.2.2.1 with
  | i :: x :: st => if x.1 = 1 ∧ ab_isI i = true ∧ ab_same x.2.2 (ab_kd x.2.2) = true ∧ (ab_kd x.2.2).1 = 100 + 3 then (match ab_idx S.2.2.2.1 i (ab_kd x.2.2).2 with
      | some (some l) => (match ab_ldR h S.2.2.2.2 x.2.2 l with
        | some a => some [ab_adv S 1 (a :: st)]
        | none => none)
      | _ => none) else none
  | _ => none
theorem ab_aaload_ok : ab_Snd cm_aaload ab_aaload := by
  intro h N M0 md E P t S Ss C ρ k hN h1 hG hk
  obtain ⟨pc, L, st, K, Ca⟩ := S
  obtain ⟨cpc, CL, sc, M⟩ := C
  obtain ⟨e0, gl, gs, gk, gm⟩ := hG
  dsimp only at e0 gl gs gk gm
  subst e0
  unfold ab_aaload at h1
  dsimp only at h1
  split at h1
  · rename_i i x st'
    split at h1
    · rename_i hc
      obtain ⟨hx1, hi0, hsm, hk1⟩ := hc
      obtain ⟨vi, sc1, rfl, hvi, gs1⟩ := ab_s_cons gs
      obtain ⟨vx, sc2, rfl, hvx, gs2⟩ := ab_s_cons gs1
      obtain ⟨j, hj, rfl⟩ := ab_vi hi0 hvi
      obtain ⟨c, hc, rfl⟩ := ab_v1 hx1 hvx
      have hkc := ab_same_in hsm hc
      split at h1
      · rename_i l hix
        split at h1
        · rename_i a ha
          cases h1
          obtain ⟨q1, q2, q3⟩ := ab_idx_ok gk hj hix
          exact ⟨by rw [hkc]; exact hk1, q1, by rw [hkc]; exact q2, ab_fin hk _ (List.mem_singleton.mpr rfl) (cpc + 1, CL, cm_rq (M.2.2 c j.toNatClampNeg) :: sc2, M) ⟨rfl, gl, ⟨ab_ldR_ok gm ha hc q3, gs2⟩, gk, gm⟩⟩
        · cases h1
      · cases h1
    · cases h1
  · cases h1

noncomputable def ab_iastore : ab_O := fun h md P t S => match S.2.2.1 with
  | a :: i :: x :: st => if x.1 = 1 ∧ ab_isI i = true ∧ ab_isI a = true ∧ ab_same x.2.2 (ab_kd x.2.2) = true ∧ (ab_kd x.2.2).1 = 100 + 0 then (match ab_idx S.2.2.2.1 i (ab_kd x.2.2).2 with
      | some ix => if ab_stI h md (ab_bd S.2.2.2.1 a) x.2.2 ix = true then some [(S.1 + 1, S.2.1, st, S.2.2.2.1, ab_keep S.2.2.2.2 x.2.2 ix a)] else none
      | none => none) else none
  | _ => none
theorem ab_iastore_ok : ab_Snd cm_iastore ab_iastore := by
  intro h N M0 md E P t S Ss C ρ k hN h1 hG hk
  obtain ⟨pc, L, st, K, Ca⟩ := S
  obtain ⟨cpc, CL, sc, M⟩ := C
  obtain ⟨e0, gl, gs, gk, gm⟩ := hG
  dsimp only at e0 gl gs gk gm
  subst e0
  unfold ab_iastore at h1
  dsimp only at h1
  split at h1
  · rename_i a i x st'
    split at h1
    · rename_i hc
      obtain ⟨hx1, hi0, ha0, hsm, hk1⟩ := hc
      obtain ⟨va, sc0, rfl, hva, gs0⟩ := ab_s_cons gs
      obtain ⟨vi, sc1, rfl, hvi, gs1⟩ := ab_s_cons gs0
      obtain ⟨vx, sc2, rfl, hvx, gs2⟩ := ab_s_cons gs1
      obtain ⟨z, hz, rfl⟩ := ab_vi ha0 hva
      obtain ⟨j, hj, rfl⟩ := ab_vi hi0 hvi
      obtain ⟨c, hc, rfl⟩ := ab_v1 hx1 hvx
      have hkc := ab_same_in hsm hc
      split at h1
      · rename_i ix hix
        split at h1
        · rename_i hs
          cases h1
          obtain ⟨q1, q2, q3⟩ := ab_idx_ok gk hj hix
          exact ⟨by rw [hkc]; exact hk1, q1, by rw [hkc]; exact q2, ab_fin hk _ (List.mem_singleton.mpr rfl) (cpc + 1, CL, sc2, cm_wi M c j.toNatClampNeg z) ⟨rfl, gl, gs2, gk, ab_stI_ok hN gm hs hc q3 hz (ab_bd_in gk hz)⟩⟩
        · cases h1
      · cases h1
    · cases h1
  · cases h1

noncomputable def ab_bastore : ab_O := fun h md P t S => match S.2.2.1 with
  | a :: i :: x :: st => if x.1 = 1 ∧ ab_isI i = true ∧ ab_isI a = true ∧ ab_same x.2.2 (ab_kd x.2.2) = true ∧ (ab_kd x.2.2).1 = 100 + 1 then (match ab_idx S.2.2.2.1 i (ab_kd x.2.2).2 with
      | some ix => if ab_stI h md ev_ful x.2.2 ix = true then some [(S.1 + 1, S.2.1, st, (ab_any S.2.2.2.1 ev_ful).2, ab_keep S.2.2.2.2 x.2.2 ix (ab_any S.2.2.2.1 ev_ful).1)] else none
      | none => none) else none
  | _ => none
theorem ab_bastore_ok : ab_Snd cm_bastore ab_bastore := by
  intro h N M0 md E P t S Ss C ρ k hN h1 hG hk
  obtain ⟨pc, L, st, K, Ca⟩ := S
  obtain ⟨cpc, CL, sc, M⟩ := C
  obtain ⟨e0, gl, gs, gk, gm⟩ := hG
  dsimp only at e0 gl gs gk gm
  subst e0
  unfold ab_bastore at h1
  dsimp only at h1
  split at h1
  · rename_i a i x st'
    split at h1
    · rename_i hc
      obtain ⟨hx1, hi0, ha0, hsm, hk1⟩ := hc
      obtain ⟨va, sc0, rfl, hva, gs0⟩ := ab_s_cons gs
      obtain ⟨vi, sc1, rfl, hvi, gs1⟩ := ab_s_cons gs0
      obtain ⟨vx, sc2, rfl, hvx, gs2⟩ := ab_s_cons gs1
      obtain ⟨z, hz, rfl⟩ := ab_vi ha0 hva
      obtain ⟨j, hj, rfl⟩ := ab_vi hi0 hvi
      obtain ⟨c, hc, rfl⟩ := ab_v1 hx1 hvx
      have hkc := ab_same_in hsm hc
      split at h1
      · rename_i ix hix
        split at h1
        · rename_i hs
          cases h1
          obtain ⟨q1, q2, q3⟩ := ab_idx_ok gk hj hix
          obtain ⟨ext, k1, k2⟩ := ab_any_ok gk (ev_ful_in (vp_nar .byte z)) (rfl : ab_any K ev_ful = (_, _))
          exact ⟨by rw [hkc]; exact hk1, q1, by rw [hkc]; exact q2, hk _ (List.mem_singleton.mpr rfl) ext (cpc + 1, CL, sc2, cm_wi M c j.toNatClampNeg (vp_nar .byte z)) ⟨rfl, ab_l_ap gl, ab_s_ap gs2, k1, ab_stI_ok hN (ab_m_ap gm) hs hc q3 k2 (ev_ful_in _)⟩⟩
        · cases h1
      · cases h1
    · cases h1
  · cases h1

noncomputable def ab_lastore : ab_O := fun h md P t S => match S.2.2.1 with
  | a :: i :: x :: st => if x.1 = 1 ∧ ab_isI i = true ∧ a.1 = 6 ∧ ab_same x.2.2 (ab_kd x.2.2) = true ∧ (ab_kd x.2.2).1 = 100 + 2 then (match ab_idx S.2.2.2.1 i (ab_kd x.2.2).2 with
      | some ix => if ab_stL h md x.2.2 ix = true then some [ab_adv S 1 st] else none
      | none => none) else none
  | _ => none
theorem ab_lastore_ok : ab_Snd cm_lastore ab_lastore := by
  intro h N M0 md E P t S Ss C ρ k hN h1 hG hk
  obtain ⟨pc, L, st, K, Ca⟩ := S
  obtain ⟨cpc, CL, sc, M⟩ := C
  obtain ⟨e0, gl, gs, gk, gm⟩ := hG
  dsimp only at e0 gl gs gk gm
  subst e0
  unfold ab_lastore at h1
  dsimp only at h1
  split at h1
  · rename_i a i x st'
    split at h1
    · rename_i hc
      obtain ⟨hx1, hi0, ha0, hsm, hk1⟩ := hc
      obtain ⟨va, sc0, rfl, hva, gs0⟩ := ab_s_cons gs
      obtain ⟨vi, sc1, rfl, hvi, gs1⟩ := ab_s_cons gs0
      obtain ⟨vx, sc2, rfl, hvx, gs2⟩ := ab_s_cons gs1
      obtain ⟨z, rfl⟩ := ab_v6 ha0 hva
      obtain ⟨j, hj, rfl⟩ := ab_vi hi0 hvi
      obtain ⟨c, hc, rfl⟩ := ab_v1 hx1 hvx
      have hkc := ab_same_in hsm hc
      split at h1
      · rename_i ix hix
        split at h1
        · rename_i hs
          cases h1
          obtain ⟨q1, q2, q3⟩ := ab_idx_ok gk hj hix
          exact ⟨by rw [hkc]; exact hk1, q1, by rw [hkc]; exact q2, ab_fin hk _ (List.mem_singleton.mpr rfl) (cpc + 1, CL, sc2, cm_wl M c j.toNatClampNeg z) ⟨rfl, gl, gs2, gk, ab_stL_ok hN gm hs hc q3⟩⟩
        · cases h1
      · cases h1
    · cases h1
  · cases h1

noncomputable def ab_alen : ab_O := fun h md P t S => match S.2.2.1 with
  | x :: st => if x.1 = 1 ∧ x.2.2.all (fun c => decide (c ≠ 1000)) = true ∧ ab_same x.2.2 (ab_kd x.2.2) = true ∧ 100 ≤ (ab_kd x.2.2).1 ∧ (ab_kd x.2.2).1 < 104 then some [ab_adv S 1 (ab_c (Int32.ofNat (ab_kd x.2.2).2).toInt :: st)] else none
  | _ => none
theorem ab_alen_ok : ab_Snd cm_alen ab_alen := by
  intro h N M0 md E P t S Ss C ρ k hN h1 hG hk
  obtain ⟨pc, L, st, K, Ca⟩ := S
  obtain ⟨cpc, CL, sc, M⟩ := C
  obtain ⟨e0, gl, gs, gk, gm⟩ := hG
  dsimp only at e0 gl gs gk gm
  subst e0
  unfold ab_alen at h1
  dsimp only at h1
  split at h1
  · rename_i x st'
    split at h1
    · rename_i hc
      cases h1
      obtain ⟨hx1, hne, hsm, hk1, hk2⟩ := hc
      obtain ⟨vx, sc2, rfl, hvx, gs2⟩ := ab_s_cons gs
      obtain ⟨c, hc, rfl⟩ := ab_v1 hx1 hvx
      have hkc := ab_same_in hsm hc
      have h0 : ¬ c = 1000 := of_decide_eq_true (List.all_eq_true.mp hne c hc)
      unfold cm_alen
      dsimp only
      rw [if_neg h0, hkc]
      exact ⟨hk1, hk2, ab_fin hk _ (List.mem_singleton.mpr rfl) (cpc + 1, CL, .int (Int32.ofNat (ab_kd x.2.2).2) :: sc2, M) ⟨rfl, gl, ⟨ab_iv (ab_c_at ρ _), gs2⟩, gk, gm⟩⟩
    · cases h1
  · cases h1

noncomputable def ab_getV : ab_O := fun h md P t S => match S.2.2.1 with
  | (1, _, [c]) :: st => if 1001 ≤ c ∧ c < 1081 ∧ c % 2 = 1 then some [ab_adv S 3 ((1, 0, [c + 1]) :: st)] else none
  | _ => none
theorem ab_getV_ok : ab_Snd cm_getV ab_getV := by
  intro h N M0 md E P t S Ss C ρ k hN h1 hG hk
  obtain ⟨pc, L, st, K, Ca⟩ := S
  obtain ⟨cpc, CL, sc, M⟩ := C
  obtain ⟨e0, gl, gs, gk, gm⟩ := hG
  dsimp only at e0 gl gs gk gm
  subst e0
  unfold ab_getV at h1
  dsimp only at h1
  split at h1
  · rename_i n c st'
    split at h1
    · rename_i hc
      cases h1
      obtain ⟨vx, sc2, rfl, ⟨c', hc', rfl⟩, gs2⟩ := ab_s_cons gs
      cases List.mem_singleton.mp hc'
      exact ⟨hc.1, hc.2.1, hc.2.2, ab_fin hk _ (List.mem_singleton.mpr rfl) (cpc + 3, CL, .ref (c + 1) :: sc2, M) ⟨rfl, gl, ⟨⟨_, List.mem_singleton.mpr rfl, rfl⟩, gs2⟩, gk, gm⟩⟩
    · cases h1
  · cases h1

noncomputable def ab_getC : ab_O := fun h md P t S => match S.2.2.1 with
  | (1, _, [c]) :: st => if 1001 ≤ c ∧ c < 1081 ∧ c % 2 = 1 then some [ab_adv S 3 (ab_c 0 :: st)] else none
  | _ => none
theorem ab_getC_ok : ab_Snd cm_getC ab_getC := by
  intro h N M0 md E P t S Ss C ρ k hN h1 hG hk
  obtain ⟨pc, L, st, K, Ca⟩ := S
  obtain ⟨cpc, CL, sc, M⟩ := C
  obtain ⟨e0, gl, gs, gk, gm⟩ := hG
  dsimp only at e0 gl gs gk gm
  subst e0
  unfold ab_getC at h1
  dsimp only at h1
  split at h1
  · rename_i n c st'
    split at h1
    · rename_i hc
      cases h1
      obtain ⟨vx, sc2, rfl, ⟨c', hc', rfl⟩, gs2⟩ := ab_s_cons gs
      cases List.mem_singleton.mp hc'
      exact ⟨hc.1, hc.2.1, hc.2.2, ab_fin hk _ (List.mem_singleton.mpr rfl) (cpc + 3, CL, .int 0 :: sc2, M) ⟨rfl, gl, ⟨rfl, gs2⟩, gk, gm⟩⟩
    · cases h1
  · cases h1

noncomputable def ab_alenS : ab_O := fun h md P t S => match S.2.2.1 with
  | (1, _, [c]) :: st => (match ev_strs[(c - 1001) / 2]? with
    | some r => if 1001 ≤ c ∧ c < 1081 ∧ c % 2 = 0 then some [ab_adv S 1 (ab_c (Int32.ofNat r.2.2.2.length).toInt :: st)] else none
    | none => none)
  | _ => none
theorem ab_alenS_ok : ab_Snd cm_alenS ab_alenS := by
  intro h N M0 md E P t S Ss C ρ k hN h1 hG hk
  obtain ⟨pc, L, st, K, Ca⟩ := S
  obtain ⟨cpc, CL, sc, M⟩ := C
  obtain ⟨e0, gl, gs, gk, gm⟩ := hG
  dsimp only at e0 gl gs gk gm
  subst e0
  unfold ab_alenS at h1
  dsimp only at h1
  split at h1
  · rename_i n c st'
    split at h1
    · rename_i r hr
      split at h1
      · rename_i hc
        cases h1
        obtain ⟨vx, sc2, rfl, ⟨c', hc', rfl⟩, gs2⟩ := ab_s_cons gs
        cases List.mem_singleton.mp hc'
        unfold cm_alenS
        dsimp only
        rw [hr]
        exact ⟨hc.1, hc.2.1, hc.2.2, ab_fin hk _ (List.mem_singleton.mpr rfl) (cpc + 1, CL, .int (Int32.ofNat r.2.2.2.length) :: sc2, M) ⟨rfl, gl, ⟨ab_iv (ab_c_at ρ _), gs2⟩, gk, gm⟩⟩
      · cases h1
    · cases h1
  · cases h1

noncomputable def ab_baloadS : ab_O := fun h md P t S => match S.2.2.1 with
  | i :: (1, _, [c]) :: st => (match ev_strs[(c - 1001) / 2]? with
    | some r => if 1001 ≤ c ∧ c < 1081 ∧ c % 2 = 0 ∧ ab_isI i = true ∧ 0 ≤ (ab_bd S.2.2.2.1 i).1 ∧ (ab_bd S.2.2.2.1 i).2 < (r.2.2.2.length : Int) then some [ab_advK S 1 ((ab_any S.2.2.2.1 ev_ful).1 :: st) (ab_any S.2.2.2.1 ev_ful).2] else none
    | none => none)
  | _ => none
theorem ab_baloadS_ok : ab_Snd cm_baloadS ab_baloadS := by
  intro h N M0 md E P t S Ss C ρ k hN h1 hG hk
  obtain ⟨pc, L, st, K, Ca⟩ := S
  obtain ⟨cpc, CL, sc, M⟩ := C
  obtain ⟨e0, gl, gs, gk, gm⟩ := hG
  dsimp only at e0 gl gs gk gm
  subst e0
  unfold ab_baloadS at h1
  dsimp only at h1
  split at h1
  · rename_i i n c st'
    split at h1
    · rename_i r hr
      split at h1
      · rename_i hc
        cases h1
        obtain ⟨vi, sc1, rfl, hvi, gs1⟩ := ab_s_cons gs
        obtain ⟨vx, sc2, rfl, ⟨c', hc', rfl⟩, gs2⟩ := ab_s_cons gs1
        cases List.mem_singleton.mp hc'
        obtain ⟨c1, c2, c3, c4, c5, c6⟩ := hc
        obtain ⟨j, hj, rfl⟩ := ab_vi c4 hvi
        obtain ⟨b1, b2⟩ := ab_bd_in gk hj
        obtain ⟨ext, k1, k2⟩ := ab_any_ok gk (ev_ful_in (r.2.2.2.getD j.toNatClampNeg 0)) (rfl : ab_any K ev_ful = (_, _))
        unfold cm_baloadS
        dsimp only
        rw [hr]
        exact ⟨c1, c2, c3, by omega, by omega, hk _ (List.mem_singleton.mpr rfl) ext (cpc + 1, CL, .int (r.2.2.2.getD j.toNatClampNeg 0) :: sc2, M) ⟨rfl, ab_l_ap gl, ⟨ab_iv k2, ab_s_ap gs2⟩, k1, ab_m_ap gm⟩⟩
      · cases h1
    · cases h1
  · cases h1

theorem ab_tens_in (j : Nat) (hj : j < 5) : ev_inb (1, 10000) (cm_tens j) := by
  have : ∀ j : Fin 5, ev_inb (1, 10000) (cm_tens j.val) := by
    unfold ev_inb
    decide
  exact this ⟨j, hj⟩
noncomputable def ab_tald : ab_O := fun h md P t S => match S.2.2.1 with
  | i :: (1, _, [c]) :: st => if c = 1100 ∧ ab_isI i = true ∧ 0 ≤ (ab_bd S.2.2.2.1 i).1 ∧ (ab_bd S.2.2.2.1 i).2 < 5 then some [ab_advK S 1 ((ab_any S.2.2.2.1 (1, 10000)).1 :: st) (ab_any S.2.2.2.1 (1, 10000)).2] else none
  | _ => none
theorem ab_tald_ok : ab_Snd cm_tald ab_tald := by
  intro h N M0 md E P t S Ss C ρ k hN h1 hG hk
  obtain ⟨pc, L, st, K, Ca⟩ := S
  obtain ⟨cpc, CL, sc, M⟩ := C
  obtain ⟨e0, gl, gs, gk, gm⟩ := hG
  dsimp only at e0 gl gs gk gm
  subst e0
  unfold ab_tald at h1
  dsimp only at h1
  split at h1
  · rename_i i n c st'
    split at h1
    · rename_i hc
      cases h1
      obtain ⟨vi, sc1, rfl, hvi, gs1⟩ := ab_s_cons gs
      obtain ⟨vx, sc2, rfl, ⟨c', hc', rfl⟩, gs2⟩ := ab_s_cons gs1
      cases List.mem_singleton.mp hc'
      obtain ⟨c1, c4, c5, c6⟩ := hc
      obtain ⟨j, hj, rfl⟩ := ab_vi c4 hvi
      obtain ⟨b1, b2⟩ := ab_bd_in gk hj
      have hj5 : j.toNatClampNeg < 5 := by
        show j.toInt.toNat < 5
        omega
      obtain ⟨ext, k1, k2⟩ := ab_any_ok gk (ab_tens_in j.toNatClampNeg hj5) (rfl : ab_any K (1, 10000) = (_, _))
      exact ⟨c1, by omega, by omega, hk _ (List.mem_singleton.mpr rfl) ext (cpc + 1, CL, .int (cm_tens j.toNatClampNeg) :: sc2, M) ⟨rfl, ab_l_ap gl, ⟨ab_iv k2, ab_s_ap gs2⟩, k1, ab_m_ap gm⟩⟩
    · cases h1
  · cases h1

noncomputable def ab_alenT : ab_O := fun h md P t S => match S.2.2.1 with
  | (1, _, [c]) :: st => if c = 1100 then some [ab_adv S 1 (ab_c 5 :: st)] else none
  | _ => none
theorem ab_alenT_ok : ab_Snd cm_alenT ab_alenT := by
  intro h N M0 md E P t S Ss C ρ k hN h1 hG hk
  obtain ⟨pc, L, st, K, Ca⟩ := S
  obtain ⟨cpc, CL, sc, M⟩ := C
  obtain ⟨e0, gl, gs, gk, gm⟩ := hG
  dsimp only at e0 gl gs gk gm
  subst e0
  unfold ab_alenT at h1
  dsimp only at h1
  split at h1
  · rename_i n c st'
    split at h1
    · rename_i hc
      cases h1
      obtain ⟨vx, sc2, rfl, ⟨c', hc', rfl⟩, gs2⟩ := ab_s_cons gs
      cases List.mem_singleton.mp hc'
      exact ⟨hc, ab_fin hk _ (List.mem_singleton.mpr rfl) (cpc + 1, CL, .int 5 :: sc2, M) ⟨rfl, gl, ⟨rfl, gs2⟩, gk, gm⟩⟩
    · cases h1
  · cases h1

noncomputable def ab_copyi : ab_O := fun h md P t S => match S.2.2.1 with
  | n :: dp :: y :: sp :: x :: st => if ab_cs st ≤ 8 ∧ x.1 = 1 ∧ y.1 = 1 ∧ ab_isI n = true ∧ ab_isI dp = true ∧ ab_isI sp = true ∧ ab_same x.2.2 (ab_kd x.2.2) = true ∧ ab_same y.2.2 (ab_kd y.2.2) = true ∧ (ab_kd x.2.2).1 = 100 ∧ (ab_kd y.2.2).1 = 100 ∧ 0 ≤ (ab_bd S.2.2.2.1 sp).1 ∧ 0 ≤ (ab_bd S.2.2.2.1 dp).1 ∧ 0 ≤ (ab_bd S.2.2.2.1 n).1 ∧ (ab_bd S.2.2.2.1 sp).2 + (ab_bd S.2.2.2.1 n).2 ≤ ((ab_kd x.2.2).2 : Int) ∧ (ab_bd S.2.2.2.1 dp).2 + (ab_bd S.2.2.2.1 n).2 ≤ ((ab_kd y.2.2).2 : Int) ∧ ab_stC h md y.2.2 = true then some [(S.1 + 3, S.2.1, st, S.2.2.2.1, ab_drop S.2.2.2.2 y.2.2 none)] else none
  | _ => none
theorem ab_copyi_ok : ab_Snd cm_copyi ab_copyi := by
  intro h N M0 md E P t S Ss C ρ k hN h1 hG hk
  obtain ⟨pc, L, st, K, Ca⟩ := S
  obtain ⟨cpc, CL, sc, M⟩ := C
  obtain ⟨e0, gl, gs, gk, gm⟩ := hG
  dsimp only at e0 gl gs gk gm
  subst e0
  unfold ab_copyi at h1
  dsimp only at h1
  split at h1
  · rename_i n dp y sp x st'
    split at h1
    · rename_i hc
      cases h1
      obtain ⟨z0, z1, z2, z3, z4, z5, z6, z7, z8, z9, y1, y2, y3, y4, y5, y6⟩ := hc
      obtain ⟨v1, sc1, rfl, h1v, gs1⟩ := ab_s_cons gs
      obtain ⟨v2, sc2, rfl, h2v, gs2⟩ := ab_s_cons gs1
      obtain ⟨v3, sc3, rfl, h3v, gs3⟩ := ab_s_cons gs2
      obtain ⟨v4, sc4, rfl, h4v, gs4⟩ := ab_s_cons gs3
      obtain ⟨v5, sc5, rfl, h5v, gs5⟩ := ab_s_cons gs4
      obtain ⟨n0, hn, rfl⟩ := ab_vi z3 h1v
      obtain ⟨dp0, hdp, rfl⟩ := ab_vi z4 h2v
      obtain ⟨d, hd, rfl⟩ := ab_v1 z2 h3v
      obtain ⟨sp0, hsp, rfl⟩ := ab_vi z5 h4v
      obtain ⟨c, hc, rfl⟩ := ab_v1 z1 h5v
      have hkc := ab_same_in z6 hc
      have hkd := ab_same_in z7 hd
      obtain ⟨a1, a2⟩ := ab_bd_in gk hn
      obtain ⟨b1, b2⟩ := ab_bd_in gk hdp
      obtain ⟨c1, c2⟩ := ab_bd_in gk hsp
      have hcs := ab_cs_ok gs5
      exact ⟨by rw [hcs]; exact z0, by rw [hkc]; exact z8, by rw [hkd]; exact z9, by omega, by omega, by omega, by rw [hkc]; omega, by rw [hkd]; omega, ab_fin hk _ (List.mem_singleton.mpr rfl) (cpc + 3, CL, sc5, cm_cp M c sp0.toNatClampNeg d dp0.toNatClampNeg n0.toNatClampNeg) ⟨rfl, gl, gs5, gk, ab_stC_ok hN gm y6 hd⟩⟩
    · cases h1
  · cases h1
noncomputable def ab_ops : List ab_O := [ab_iconst, ab_bipush, ab_sipush, ab_lconst, ab_iload, ab_iloadn, ab_lload, ab_lloadn, ab_aload, ab_aloadn, ab_istore, ab_istoren, ab_lstore, ab_lstoren, ab_astore, ab_astoren, ab_iadd, ab_isub, ab_imul, ab_iand, ab_ior, ab_ixor, ab_ishl, ab_ishr, ab_iushr, ab_idiv, ab_irem, ab_ineg, ab_i2b, ab_i2l, ab_lcmp, ab_dup, ab_pop, ab_dup2, ab_iinc, ab_icmp_eq, ab_icmp_ne, ab_icmp_lt, ab_icmp_ge, ab_icmp_gt, ab_icmp_le, ab_if_eq, ab_if_ne, ab_if_lt, ab_if_ge, ab_if_gt, ab_if_le, ab_goto, ab_sw, ab_get, ab_put, ab_no, ab_iaload, ab_baload, ab_laload, ab_aaload, ab_iastore, ab_bastore, ab_no, ab_no, ab_no, ab_no, ab_no, ab_no, ab_alen, ab_no, ab_no, ab_mmin, ab_ldc, ab_ldcS, ab_getV, ab_getC, ab_gets, ab_alenS, ab_baloadS, ab_i2c, ab_ladd, ab_lsub, ab_lmul, ab_no, ab_no, ab_ldc2, ab_getsF, ab_ldcw, ab_mmax, ab_mabs, ab_copyi, ab_getT, ab_tald, ab_alenT, ab_lastore, ab_pop2]
noncomputable def ab_All2 : List cm_O → List ab_O → Prop
  | [], [] => True
  | o :: os, a :: as => ab_Snd o a ∧ ab_All2 os as
  | _, _ => False
theorem ab_All2_at : ∀ {os : List cm_O} {as : List ab_O}, ab_All2 os as → ∀ (k : Nat) (a : ab_O), as[k]? = some a → ∃ o, os[k]? = some o ∧ ab_Snd o a
  | [], [], _, k, a, h => by cases h
  | [], _ :: _, h, _, _, _ => h.elim
  | _ :: _, [], h, _, _, _ => h.elim
  | o :: os, x :: as, h, 0, a, e => by cases e; exact ⟨o, rfl, h.1⟩
  | o :: os, x :: as, h, k + 1, a, e => ab_All2_at h.2 k a e
theorem ab_ops_ok : ab_All2 cm_ops ab_ops := ⟨ab_iconst_ok, ⟨ab_bipush_ok, ⟨ab_sipush_ok, ⟨ab_lconst_ok, ⟨ab_iload_ok, ⟨ab_iloadn_ok, ⟨ab_lload_ok, ⟨ab_lloadn_ok, ⟨ab_aload_ok, ⟨ab_aloadn_ok, ⟨ab_istore_ok, ⟨ab_istoren_ok, ⟨ab_lstore_ok, ⟨ab_lstoren_ok, ⟨ab_astore_ok, ⟨ab_astoren_ok, ⟨ab_iadd_ok, ⟨ab_isub_ok, ⟨ab_imul_ok, ⟨ab_iand_ok, ⟨ab_ior_ok, ⟨ab_ixor_ok, ⟨ab_ishl_ok, ⟨ab_ishr_ok, ⟨ab_iushr_ok, ⟨ab_idiv_ok, ⟨ab_irem_ok, ⟨ab_ineg_ok, ⟨ab_i2b_ok, ⟨ab_i2l_ok, ⟨ab_lcmp_ok, ⟨ab_dup_ok, ⟨ab_pop_ok, ⟨ab_dup2_ok, ⟨ab_iinc_ok, ⟨ab_icmp_eq_ok, ⟨ab_icmp_ne_ok, ⟨ab_icmp_lt_ok, ⟨ab_icmp_ge_ok, ⟨ab_icmp_gt_ok, ⟨ab_icmp_le_ok, ⟨ab_if_eq_ok, ⟨ab_if_ne_ok, ⟨ab_if_lt_ok, ⟨ab_if_ge_ok, ⟨ab_if_gt_ok, ⟨ab_if_le_ok, ⟨ab_goto_ok, ⟨ab_sw_ok, ⟨ab_get_ok, ⟨ab_put_ok, ⟨ab_no_ok _, ⟨ab_iaload_ok, ⟨ab_baload_ok, ⟨ab_laload_ok, ⟨ab_aaload_ok, ⟨ab_iastore_ok, ⟨ab_bastore_ok, ⟨ab_no_ok _, ⟨ab_no_ok _, ⟨ab_no_ok _, ⟨ab_no_ok _, ⟨ab_no_ok _, ⟨ab_no_ok _, ⟨ab_alen_ok, ⟨ab_no_ok _, ⟨ab_no_ok _, ⟨ab_mmin_ok, ⟨ab_ldc_ok, ⟨ab_ldcS_ok, ⟨ab_getV_ok, ⟨ab_getC_ok, ⟨ab_gets_ok, ⟨ab_alenS_ok, ⟨ab_baloadS_ok, ⟨ab_i2c_ok, ⟨ab_ladd_ok, ⟨ab_lsub_ok, ⟨ab_lmul_ok, ⟨ab_no_ok _, ⟨ab_no_ok _, ⟨ab_ldc2_ok, ⟨ab_getsF_ok, ⟨ab_ldcw_ok, ⟨ab_mmax_ok, ⟨ab_mabs_ok, ⟨ab_copyi_ok, ⟨ab_getT_ok, ⟨ab_tald_ok, ⟨ab_alenT_ok, ⟨ab_lastore_ok, ⟨ab_pop2_ok, trivial⟩⟩⟩⟩⟩⟩⟩⟩⟩⟩⟩⟩⟩⟩⟩⟩⟩⟩⟩⟩⟩⟩⟩⟩⟩⟩⟩⟩⟩⟩⟩⟩⟩⟩⟩⟩⟩⟩⟩⟩⟩⟩⟩⟩⟩⟩⟩⟩⟩⟩⟩⟩⟩⟩⟩⟩⟩⟩⟩⟩⟩⟩⟩⟩⟩⟩⟩⟩⟩⟩⟩⟩⟩⟩⟩⟩⟩⟩⟩⟩⟩⟩⟩⟩⟩⟩⟩⟩⟩⟩⟩⟩
noncomputable abbrev ab_Out : Type := List ab_A × ab_K × ab_Ca
noncomputable abbrev ab_Cl : Type := Nat → List ab_A → ab_K → ab_Ca → Option (List ab_Out)
noncomputable def ab_take (recv : Bool) (n : Nat) (st : List ab_A) : Option (List ab_A × List ab_A) :=
  if recv = true then (match st.drop n with
    | x :: rest => if (st.take n).length = n then some (x :: (st.take n).reverse, rest) else none
    | [] => none)
  else (if (st.take n).length = n then some ((st.take n).reverse, st.drop n) else none)
/-- the receiver: one of the class's cells (99: a text) -/
noncomputable def ab_recv (ci : Int) : List ab_A → Bool
  | a :: _ => decide (a.1 = 1) && a.2.2.all (fun c => if ci = 99 then decide (1001 ≤ c) && (decide (c < 1081) && decide (c % 2 = 1)) else decide ((cm_kind c).1 = ci.toNat))
  | [] => false
noncomputable def ab_rcv (r : ev_Row) (as : List ab_A) : Bool := if r.1 = 200 then (match r.2.2.2.2 with
  | [ci] => ab_recv ci as
  | _ => false) else true
noncomputable def ab_inv (cl : ab_Cl) (r : ev_Row) (S : ab_S) : Option (List ab_S) := match ab_take (!(r.1 == 201)) r.2.2.2.1.toNat S.2.2.1 with
  | some (as, rest) => if ab_cs rest ≤ 8 ∧ ab_rcv r as = true then (match cl r.2.1.toNat as S.2.2.2.1 S.2.2.2.2 with
      | some outs => some (outs.map (fun o => (S.1 + 3, S.2.1, o.1 ++ rest, o.2)))
      | none => none) else none
  | none => none
noncomputable def ab_pick (L : List (Nat × ab_A)) : List Nat → Option (List (Nat × ab_A))
  | [] => some []
  | i :: r => match ev_at L i, ab_pick L r with
    | some v, some l => some ((i, v) :: l)
    | _, _ => none
theorem ab_pick_at {L : List (Nat × ab_A)} : ∀ {live : List Nat} {L' : List (Nat × ab_A)}, ab_pick L live = some L' → ∀ q ∈ L', ev_at L q.1 = some q.2
  | [], L', h => by cases h; exact fun q hq => nomatch hq
  | i :: r, L', h => by
    unfold ab_pick at h
    split at h
    · rename_i v l h1 h2
      cases h
      intro q hq
      rcases List.mem_cons.mp hq with rfl | hq
      · exact h1
      · exact ab_pick_at h2 q hq
    · cases h
theorem ab_pick_ok {ρ : List Int32} {L : List (Nat × ab_A)} {CL : List (Nat × Value)} (hl : ab_l ρ L CL) : ∀ {live : List Nat} {L' : List (Nat × ab_A)}, ab_pick L live = some L' → ∃ CL', cm_pick CL live = some CL' ∧ ab_l ρ L' CL'
  | [], L', h => by cases h; exact ⟨[], rfl, fun q hq => nomatch hq⟩
  | i :: r, L', h => by
    unfold ab_pick at h
    split at h
    · rename_i v l h1 h2
      cases h
      obtain ⟨CL', e1, e2⟩ := ab_pick_ok hl h2
      obtain ⟨x, x1, x2⟩ := hl _ (ev_at_mem h1)
      refine ⟨(i, x) :: CL', by unfold cm_pick; rw [x1, e1], fun q hq => ?_⟩
      rcases List.mem_cons.mp hq with rfl | hq
      · exact ⟨x, by unfold cm_look; rw [if_pos rfl], x2⟩
      · by_cases e : i = q.1
        · have := ab_pick_at h2 q hq
          rw [← e, h1] at this
          cases this
          exact ⟨x, by unfold cm_look; rw [if_pos e], x2⟩
        · obtain ⟨y, y1, y2⟩ := e2 q hq
          exact ⟨y, by unfold cm_look; rw [if_neg e]; exact y1, y2⟩
    · cases h
noncomputable def ab_all {α β : Type} (f : α → Option (List β)) : List α → Option (List β)
  | [] => some []
  | S :: r => match f S, ab_all f r with
    | some a, some b => some (a ++ b)
    | _, _ => none
theorem ab_all_ok {α β : Type} {f : α → Option (List β)} : ∀ {Ss : List α} {o : List β}, ab_all f Ss = some o → ∀ S ∈ Ss, ∃ o', f S = some o' ∧ ∀ x ∈ o', x ∈ o
  | [], o, h => fun S hS => nomatch hS
  | S :: r, o, h => by
    unfold ab_all at h
    split at h
    · rename_i a b ha hb
      cases h
      intro S' hS'
      rcases List.mem_cons.mp hS' with rfl | hS'
      · exact ⟨a, ha, fun x hx => List.mem_append_left _ hx⟩
      · obtain ⟨o', h1, h2⟩ := ab_all_ok hb S' hS'
        exact ⟨o', h1, fun x hx => List.mem_append_right _ (h2 x hx)⟩
    · cases h
noncomputable def ab_stop (stops : List (Nat × List Nat)) (k : ab_S → Option (List (Bool × ab_S))) (S : ab_S) : Option (List (Bool × ab_S)) := match ev_at stops S.1 with
  | none => k S
  | some live => (match ab_pick S.2.1 live with
    | some L => some [(true, S.1, L, S.2.2)]
    | none => none)
noncomputable def ol_0 : List ab_O := [ab_iconst, ab_bipush, ab_sipush, ab_lconst, ab_iload, ab_iloadn]
noncomputable def ol_1 : List ab_O := [ab_lload, ab_lloadn, ab_aload, ab_aloadn, ab_istore, ab_istoren]
noncomputable def ol_2 : List ab_O := [ab_lstore, ab_lstoren, ab_astore, ab_astoren, ab_iadd, ab_isub]
noncomputable def ol_3 : List ab_O := [ab_imul, ab_iand, ab_ior, ab_ixor, ab_ishl, ab_ishr]
noncomputable def ol_4 : List ab_O := [ab_iushr, ab_idiv, ab_irem, ab_ineg, ab_i2b, ab_i2l]
noncomputable def ol_5 : List ab_O := [ab_lcmp, ab_dup, ab_pop, ab_dup2, ab_iinc, ab_icmp_eq]
noncomputable def ol_6 : List ab_O := [ab_icmp_ne, ab_icmp_lt, ab_icmp_ge, ab_icmp_gt, ab_icmp_le, ab_if_eq]
noncomputable def ol_7 : List ab_O := [ab_if_ne, ab_if_lt, ab_if_ge, ab_if_gt, ab_if_le, ab_goto]
noncomputable def ol_8 : List ab_O := [ab_sw, ab_get, ab_put, ab_no, ab_iaload, ab_baload]
noncomputable def ol_9 : List ab_O := [ab_laload, ab_aaload, ab_iastore, ab_bastore, ab_no, ab_no]
noncomputable def ol_10 : List ab_O := [ab_no, ab_no, ab_no, ab_no, ab_alen, ab_no]
noncomputable def ol_11 : List ab_O := [ab_no, ab_mmin, ab_ldc, ab_ldcS, ab_getV, ab_getC]
noncomputable def ol_12 : List ab_O := [ab_gets, ab_alenS, ab_baloadS, ab_i2c, ab_ladd, ab_lsub]
noncomputable def ol_13 : List ab_O := [ab_lmul, ab_no, ab_no, ab_ldc2, ab_getsF, ab_ldcw]
noncomputable def ol_14 : List ab_O := [ab_mmax, ab_mabs, ab_copyi, ab_getT, ab_tald, ab_alenT]
noncomputable def ol_15 : List ab_O := [ab_lastore, ab_pop2]
theorem ap_at {α : Type} {A B : List α} {N k : Nat} {x y : Option α} (h : A.length = N) (hb : y = B[k - N]?) (ha : x = A[k]?) : cond (Nat.ble N k) y x = (A ++ B)[k]? := by
  subst h
  cases hk : Nat.ble A.length k with
  | true => exact hb.trans (List.getElem?_append_right (Nat.le_of_ble_eq_true hk)).symm
  | false =>
    have hlt : k < A.length := Nat.lt_of_not_le (fun z => by
      have := Nat.ble_eq_true_of_le z
      rw [hk] at this
      cases this)
    exact ha.trans (List.getElem?_append_left hlt).symm
noncomputable def ab_opF (k : Nat) : Option ab_O := cond (Nat.ble 48 k) (cond (Nat.ble 24 (k - 48)) (cond (Nat.ble 12 ((k - 48) - 24)) (cond (Nat.ble 6 (((k - 48) - 24) - 12)) (ol_15[(((k - 48) - 24) - 12) - 6]?) (ol_14[((k - 48) - 24) - 12]?)) (cond (Nat.ble 6 ((k - 48) - 24)) (ol_13[((k - 48) - 24) - 6]?) (ol_12[(k - 48) - 24]?))) (cond (Nat.ble 12 (k - 48)) (cond (Nat.ble 6 ((k - 48) - 12)) (ol_11[((k - 48) - 12) - 6]?) (ol_10[(k - 48) - 12]?)) (cond (Nat.ble 6 (k - 48)) (ol_9[(k - 48) - 6]?) (ol_8[k - 48]?)))) (cond (Nat.ble 24 k) (cond (Nat.ble 12 (k - 24)) (cond (Nat.ble 6 ((k - 24) - 12)) (ol_7[((k - 24) - 12) - 6]?) (ol_6[(k - 24) - 12]?)) (cond (Nat.ble 6 (k - 24)) (ol_5[(k - 24) - 6]?) (ol_4[k - 24]?))) (cond (Nat.ble 12 k) (cond (Nat.ble 6 (k - 12)) (ol_3[(k - 12) - 6]?) (ol_2[k - 12]?)) (cond (Nat.ble 6 k) (ol_1[k - 6]?) (ol_0[k]?))))
theorem ab_opF_eq (k : Nat) : ab_opF k = ab_ops[k]? := by
  have e : ab_ops = (((ol_0 ++ ol_1) ++ (ol_2 ++ ol_3)) ++ ((ol_4 ++ ol_5) ++ (ol_6 ++ ol_7))) ++ (((ol_8 ++ ol_9) ++ (ol_10 ++ ol_11)) ++ ((ol_12 ++ ol_13) ++ (ol_14 ++ ol_15))) := rfl
  rw [e]
  unfold ab_opF
  exact ap_at rfl (ap_at rfl (ap_at rfl (ap_at rfl rfl rfl) (ap_at rfl rfl rfl)) (ap_at rfl (ap_at rfl rfl rfl) (ap_at rfl rfl rfl))) (ap_at rfl (ap_at rfl (ap_at rfl rfl rfl) (ap_at rfl rfl rfl)) (ap_at rfl (ap_at rfl rfl rfl) (ap_at rfl rfl rfl)))
/-- rows: by the tail behind the last one -/
noncomputable def ab_srt : List (Nat × ev_Row) → Bool
  | [] => true
  | q :: l => (match l with
    | [] => true
    | p :: _ => Nat.blt q.1 p.1) && ab_srt l
theorem ab_srt_tl {q : Nat × ev_Row} {l : List (Nat × ev_Row)} (h : ab_srt (q :: l) = true) : ab_srt l = true := by
  unfold ab_srt at h
  rw [Bool.and_eq_true] at h
  exact h.2
theorem ab_srt_lt : ∀ {l : List (Nat × ev_Row)} {q : Nat × ev_Row}, ab_srt (q :: l) = true → ∀ x ∈ l, q.1 < x.1
  | [], q, _ => fun x hx => nomatch hx
  | p :: l, q, h => by
    have h2 := ab_srt_tl h
    have h : (Nat.blt q.1 p.1 && ab_srt (p :: l)) = true := h
    rw [Bool.and_eq_true] at h
    have h1 : q.1 < p.1 := Nat.le_of_ble_eq_true (show Nat.ble (q.1 + 1) p.1 = true from h.1)
    intro x hx
    rcases List.mem_cons.mp hx with rfl | hx
    · exact h1
    · exact Nat.lt_trans h1 (ab_srt_lt h2 x hx)
theorem ab_at_mid : ∀ {pre : List (Nat × ev_Row)} {q : Nat × ev_Row} {tl : List (Nat × ev_Row)}, ab_srt (pre ++ q :: tl) = true → ev_at (pre ++ q :: tl) q.1 = some q.2
  | [], q, tl, _ => by
    show cond (Nat.beq q.1 q.1) (some q.2) (ev_at tl q.1) = some q.2
    exact (congrArg (fun b => cond b (some q.2) (ev_at tl q.1)) (Nat.beq_refl q.1)).trans rfl
  | p :: pre, q, tl, h => by
    have h1 : p.1 < q.1 := ab_srt_lt (show ab_srt (p :: (pre ++ q :: tl)) = true from h) q (List.mem_append_right _ List.mem_cons_self)
    have h2 : ab_srt (pre ++ q :: tl) = true := ab_srt_tl (show ab_srt (p :: (pre ++ q :: tl)) = true from h)
    show cond (Nat.beq p.1 q.1) (some p.2) (ev_at (pre ++ q :: tl) q.1) = some q.2
    cases hb : Nat.beq p.1 q.1 with
    | true =>
      have := Nat.eq_of_beq_eq_true hb
      omega
    | false => exact ab_at_mid h2
noncomputable def ab_tl (rows : List (Nat × ev_Row)) (pc : Nat) : List (Nat × ev_Row) := List.rec (motive := fun _ => List (Nat × ev_Row)) [] (fun q l r => cond (Nat.beq q.1 pc) (q :: l) r) rows
theorem ab_tl_ok : ∀ {rows : List (Nat × ev_Row)} {pc : Nat} {q : Nat × ev_Row} {tl : List (Nat × ev_Row)}, ab_tl rows pc = q :: tl → q.1 = pc ∧ ∃ pre, rows = pre ++ q :: tl
  | [], pc, q, tl, h => by
    have h : ([] : List (Nat × ev_Row)) = q :: tl := h
    cases h
  | p :: l, pc, q, tl, h => by
    have h : cond (Nat.beq p.1 pc) (p :: l) (ab_tl l pc) = q :: tl := h
    cases hb : Nat.beq p.1 pc with
    | true =>
      rw [hb] at h
      have h : p :: l = q :: tl := h
      cases h
      exact ⟨Nat.eq_of_beq_eq_true hb, [], rfl⟩
    | false =>
      rw [hb] at h
      obtain ⟨h1, pre, h2⟩ := ab_tl_ok (show ab_tl l pc = q :: tl from h)
      exact ⟨h1, p :: pre, congrArg (List.cons p) h2⟩
noncomputable def ab_nx (rows tl : List (Nat × ev_Row)) (pc : Nat) : List (Nat × ev_Row) := match tl with
  | [] => ab_tl rows pc
  | q :: l => cond (Nat.beq q.1 pc) (q :: l) (ab_tl rows pc)
theorem ab_nx_ok {rows tl : List (Nat × ev_Row)} {pc : Nat} {q : Nat × ev_Row} {tl' : List (Nat × ev_Row)} (hs : ab_srt rows = true) (ht : ∃ pre, rows = pre ++ tl) (h : ab_nx rows tl pc = q :: tl') : ev_at rows pc = some q.2 ∧ q ∈ rows ∧ ∃ pre, rows = pre ++ tl' := by
  have k : q.1 = pc ∧ ∃ pre, rows = pre ++ q :: tl' := by
    cases tl with
    | nil => exact ab_tl_ok (show ab_tl rows pc = q :: tl' from h)
    | cons p l =>
      have h : cond (Nat.beq p.1 pc) (p :: l) (ab_tl rows pc) = q :: tl' := h
      cases hb : Nat.beq p.1 pc with
      | true =>
        rw [hb] at h
        have h : p :: l = q :: tl' := h
        cases h
        exact ⟨Nat.eq_of_beq_eq_true hb, ht⟩
      | false =>
        rw [hb] at h
        exact ab_tl_ok (show ab_tl rows pc = q :: tl' from h)
  obtain ⟨k1, pre, k2⟩ := k
  subst k1
  subst k2
  exact ⟨ab_at_mid hs, List.mem_append_right _ List.mem_cons_self, pre ++ [q], by simp⟩
/-- a run to its ends: at stops (true), at returns (false) -/
noncomputable def ab_runT (cl : ab_Cl) (h : ab_H) (md : ab_Md) (P : ev_P) (rows : List (Nat × ev_Row)) (stops : List (Nat × List Nat)) : Nat → List (Nat × ev_Row) → ab_S → Option (List (Bool × ab_S))
  | 0, _, _ => none
  | n + 1, tl, S => match ab_nx rows tl S.1 with
    | [] => none
    | r :: tl' =>
      if 210 ≤ r.2.1 then some [(false, S)]
      else if 200 ≤ r.2.1 then (match ab_inv cl r.2 S with
        | some Ss => ab_all (ab_stop stops (ab_runT cl h md P rows stops n tl')) Ss
        | none => none)
      else (match ab_opF r.2.1 with
        | some o => (match o h md P r.2.2 S with
          | some Ss => ab_all (ab_stop stops (ab_runT cl h md P rows stops n tl')) Ss
          | none => none)
        | none => none)
noncomputable def ab_run (cl : ab_Cl) (h : ab_H) (md : ab_Md) (P : ev_P) (rows : List (Nat × ev_Row)) (stops : List (Nat × List Nat)) (n : Nat) (S : ab_S) : Option (List (Bool × ab_S)) := cond (ab_srt rows) (ab_runT cl h md P rows stops n rows S) none
theorem ab_s_app {ρ : List Int32} : ∀ {a b : List ab_A} {x y : List Value}, ab_s ρ a x → ab_s ρ b y → ab_s ρ (a ++ b) (x ++ y)
  | [], _, [], _, _, h => h
  | [], _, _ :: _, _, h, _ => h.elim
  | _ :: _, _, [], _, h, _ => h.elim
  | _ :: _, _, _ :: _, _, h1, h2 => ⟨h1.1, ab_s_app h1.2 h2⟩
theorem ab_s_rev {ρ : List Int32} : ∀ {a : List ab_A} {x : List Value}, ab_s ρ a x → ab_s ρ a.reverse x.reverse
  | [], [], _ => trivial
  | [], _ :: _, h => h.elim
  | _ :: _, [], h => h.elim
  | a :: as, x :: xs, h => by
    rw [List.reverse_cons, List.reverse_cons]
    exact ab_s_app (ab_s_rev h.2) ⟨h.1, trivial⟩
theorem ab_s_split {ρ : List Int32} : ∀ (n : Nat) {a : List ab_A} {x : List Value}, ab_s ρ a x → ab_s ρ (a.take n) (x.take n) ∧ ab_s ρ (a.drop n) (x.drop n)
  | 0, _, _, h => ⟨trivial, h⟩
  | _ + 1, [], [], _ => ⟨trivial, trivial⟩
  | _ + 1, [], _ :: _, h => h.elim
  | _ + 1, _ :: _, [], h => h.elim
  | n + 1, _ :: _, _ :: _, h => ⟨⟨h.1, (ab_s_split n h.2).1⟩, (ab_s_split n h.2).2⟩
theorem ab_s_len {ρ : List Int32} : ∀ {a : List ab_A} {x : List Value}, ab_s ρ a x → a.length = x.length
  | [], [], _ => rfl
  | [], _ :: _, h => h.elim
  | _ :: _, [], h => h.elim
  | _ :: _, _ :: _, h => congrArg Nat.succ (ab_s_len h.2)
theorem ab_take_ok {ρ : List Int32} {recv : Bool} {n : Nat} {st as rest : List ab_A} {sc : List Value} (h : ab_take recv n st = some (as, rest)) (hs : ab_s ρ st sc) : ∃ vs restc, cm_take recv n sc = some (vs, restc) ∧ ab_s ρ as vs ∧ ab_s ρ rest restc := by
  obtain ⟨t1, t2⟩ := ab_s_split n hs
  have hl := ab_s_len t1
  unfold ab_take at h
  unfold cm_take
  split at h
  · rename_i hr
    rw [if_pos hr]
    split at h
    · rename_i x rest' hd
      split at h
      · rename_i hn
        cases h
        rw [hd] at t2
        obtain ⟨v, sc', e1, e2, e3⟩ := ab_s_cons t2
        rw [e1]
        dsimp only
        rw [if_pos (by rw [← hl]; exact hn)]
        exact ⟨_, _, rfl, ⟨e2, ab_s_rev t1⟩, e3⟩
      · cases h
    · cases h
  · rename_i hr
    rw [if_neg hr]
    split at h
    · rename_i hn
      cases h
      rw [if_pos (by rw [← hl]; exact hn)]
      exact ⟨_, _, rfl, ab_s_rev t1, t2⟩
    · cases h
section ABR
variable {ms : List ev_MI} {h : ab_H} {N : cm_M → Prop} {M0 : cm_M} {md : ab_Md} {d : Nat} {cl : ab_Cl} {E : cm_E} {P : ev_P} {rows : List (Nat × ev_Row)} {stops : List (Nat × List Nat)} {J : cm_S → Prop} {Z : Nat → cm_S → Prop}
/-- what a call may answer -/
noncomputable def ab_Post (h : ab_H) (N : cm_M → Prop) (M0 : cm_M) (md : ab_Md) (ρ : List Int32) (outs : List ab_Out) : cm_K := fun v M' => ∃ o ∈ outs, ∃ ext, ab_s (ρ ++ ext) o.1 v.toList ∧ ab_k (ρ ++ ext) o.2.1 ∧ ab_m h N M0 md (ρ ++ ext) o.2.2 M'
noncomputable def ab_ClOk (ms : List ev_MI) (h : ab_H) (N : cm_M → Prop) (M0 : cm_M) (md : ab_Md) (d : Nat) (cl : ab_Cl) : Prop := ∀ (k : Nat) (as : List ab_A) (K : ab_K) (Ca : ab_Ca) (outs : List ab_Out) (ρ : List Int32) (vs : List Value) (M : cm_M), cl k as K Ca = some outs → ab_s ρ as vs → ab_k ρ K → ab_m h N M0 md ρ Ca M → cm_Call ms d k vs M (ab_Post h N M0 md ρ outs)
theorem ab_inv_ok (hcl : ab_ClOk ms h N M0 md d cl) {q : Nat × ev_Row} (hrc : ab_RC ms q) (h200 : 200 ≤ q.2.1) (h210 : q.2.1 < 210) {S : ab_S} {Ss : List ab_S} {C : cm_S} {ρ : List Int32} {k : cm_S → Prop} (hi : ab_inv cl q.2 S = some Ss) (hG : ab_G h N M0 md ρ S C) (hk : ∀ S' ∈ Ss, ∀ (ext : List Int32) (C' : cm_S), ab_G h N M0 md (ρ ++ ext) S' C' → k C') : cm_inv ms (cm_Call ms d) q.2 C k := by
  obtain ⟨pc, L, st, K, Ca⟩ := S
  obtain ⟨cpc, CL, sc, M⟩ := C
  obtain ⟨e0, gl, gs, gk, gm⟩ := hG
  dsimp only at e0 gl gs gk gm
  subst e0
  obtain ⟨mi, hmi, hn, hrv⟩ := hrc h200 h210
  obtain ⟨qpc, op, t1, t2, t3, t4⟩ := q
  dsimp only at hmi hn hrv h200 h210 hi ⊢
  unfold ab_inv at hi
  dsimp only at hi
  split at hi
  · rename_i as rest htk
    split at hi
    · rename_i hc
      split at hi
      · rename_i outs hcall
        cases hi
        obtain ⟨vs, restc, e1, e2, e3⟩ := ab_take_ok htk gs
        unfold cm_inv
        dsimp only
        rw [hmi]
        dsimp only
        rw [e1]
        have hcs := ab_cs_ok e3
        refine ⟨by rw [hcs]; exact hc.1, hn, fun h2 => ?_, cm_Call_up (hcl _ _ _ _ _ ρ vs M hcall e2 gk gm) (Nat.le_refl _) (fun v M' hp => ?_)⟩
        · obtain ⟨ci, hci, hrecv⟩ : ∃ ci, t4 = [ci] ∧ ab_recv ci as = true := by
            have h3 := hc.2
            unfold ab_rcv at h3
            rw [if_pos h2] at h3
            split at h3
            · rename_i ci e
              exact ⟨ci, e, h3⟩
            · cases h3
          have hrv := hrv h2 ci hci
          unfold ab_recv at hrecv
          split at hrecv
          · rename_i a as'
            simp only [Bool.and_eq_true, decide_eq_true_eq] at hrecv
            obtain ⟨v, vs', rfl, hv, -⟩ := ab_s_cons e2
            obtain ⟨c, hc1, rfl⟩ := ab_v1 hrecv.1 hv
            have hcc := List.all_eq_true.mp hrecv.2 c hc1
            rcases hrv with ⟨h99, hs⟩ | ⟨h99, hs⟩
            · rw [if_pos h99] at hcc
              simp only [Bool.and_eq_true, decide_eq_true_eq] at hcc
              exact Or.inl ⟨hcc.1, hcc.2.1, hcc.2.2, hs⟩
            · rw [if_neg h99] at hcc
              simp only [decide_eq_true_eq] at hcc
              exact Or.inr (by rw [hcc]; exact hs)
          · cases hrecv
        · obtain ⟨o, ho, ext, p1, p2, p3⟩ := hp
          exact hk _ (List.mem_map.mpr ⟨o, ho, rfl⟩) ext (cpc + 3, CL, v.toList ++ restc, M') ⟨rfl, ab_l_ap gl, ab_s_app p1 (ab_s_ap e3), p2, p3⟩
      · cases hi
    · cases hi
  · cases hi
theorem ab_runT_ok (hN : ab_NP h N) (hcl : ab_ClOk ms h N M0 md d cl) (hrc : ∀ q ∈ rows, ab_RC ms q) (hs : ab_srt rows = true) : ∀ (n : Nat) (tl : List (Nat × ev_Row)) (S : ab_S) (fs : List (Bool × ab_S)) (C : cm_S) (ρ : List Int32), (∃ pre, rows = pre ++ tl) → ab_runT cl h md P rows stops n tl S = some fs → ab_G h N M0 md ρ S C → (∀ f ∈ fs, ∀ (ext : List Int32) (C' : cm_S), ab_G h N M0 md (ρ ++ ext) f.2 C' → (f.1 = true → J C') ∧ (f.1 = false → ∀ r, ev_at rows C'.1 = some r → 210 ≤ r.1 → Z r.1 C')) → cm_wp ms (cm_Call ms d) E P rows stops J Z n C
  | 0, tl, S, fs, C, ρ, _, hr, _, _ => by cases hr
  | n + 1, tl, S, fs, C, ρ, htl, hr, hG, hf => by
    have hst : ∀ (tl' : List (Nat × ev_Row)), (∃ pre, rows = pre ++ tl') → ∀ (Ss : List ab_S), ab_all (ab_stop stops (ab_runT cl h md P rows stops n tl')) Ss = some fs → ∀ S' ∈ Ss, ∀ (ext : List Int32) (C' : cm_S), ab_G h N M0 md (ρ ++ ext) S' C' → cm_stop stops J (cm_wp ms (cm_Call ms d) E P rows stops J Z n) C' := by
      intro tl' htl' Ss hall S' hS' ext C' hG'
      obtain ⟨o', h1, h2⟩ := ab_all_ok hall S' hS'
      unfold ab_stop at h1
      unfold cm_stop
      rw [hG'.1]
      split at h1
      · rename_i e
        rw [e]
        exact ab_runT_ok hN hcl hrc hs n tl' S' o' C' (ρ ++ ext) htl' h1 hG' (fun f hf1 ext' C2 hG2 => hf f (h2 f hf1) (ext ++ ext') C2 (by rw [← List.append_assoc]; exact hG2))
      · rename_i live e
        rw [e]
        split at h1
        · rename_i L' hL'
          cases h1
          obtain ⟨CL', e1, e2⟩ := ab_pick_ok hG'.2.1 hL'
          dsimp only
          rw [e1]
          exact (hf _ (h2 _ (List.mem_singleton.mpr rfl)) ext (S'.1, CL', C'.2.2) ⟨rfl, e2, hG'.2.2⟩).1 rfl
        · cases h1
    unfold ab_runT at hr
    unfold cm_wp
    rw [hG.1]
    split at hr
    · cases hr
    · rename_i r tl' hnx
      obtain ⟨hrr, hmem, htl'⟩ := ab_nx_ok hs htl hnx
      rw [hrr]
      dsimp only
      split at hr
      · rename_i h210
        rw [if_pos h210]
        cases hr
        exact (hf _ (List.mem_singleton.mpr rfl) [] C (by rw [ab_nil]; exact hG)).2 rfl r.2 (by rw [hG.1]; exact hrr) h210
      · rename_i h210
        rw [if_neg h210]
        split at hr
        · rename_i h200
          rw [if_pos h200]
          split at hr
          · rename_i Ss hSs
            exact ab_inv_ok hcl (hrc _ (ev_at_mem hrr)) h200 (by dsimp only; omega) hSs hG (hst tl' htl' Ss hr)
          · cases hr
        · rename_i h200
          rw [if_neg h200]
          split at hr
          · rename_i o ho
            split at hr
            · rename_i Ss hSs
              rw [ab_opF_eq] at ho
              obtain ⟨co, hco, hsnd⟩ := ab_All2_at ab_ops_ok r.2.1 o ho
              rw [hco]
              exact hsnd h N M0 md E P r.2.2 S Ss C ρ _ hN hSs hG (hst tl' htl' Ss hr)
            · cases hr
          · cases hr
theorem ab_run_ok (hN : ab_NP h N) (hcl : ab_ClOk ms h N M0 md d cl) (hrc : ∀ q ∈ rows, ab_RC ms q) (n : Nat) (S : ab_S) (fs : List (Bool × ab_S)) (C : cm_S) (ρ : List Int32) (hr : ab_run cl h md P rows stops n S = some fs) (hG : ab_G h N M0 md ρ S C) (hf : ∀ f ∈ fs, ∀ (ext : List Int32) (C' : cm_S), ab_G h N M0 md (ρ ++ ext) f.2 C' → (f.1 = true → J C') ∧ (f.1 = false → ∀ r, ev_at rows C'.1 = some r → 210 ≤ r.1 → Z r.1 C')) : cm_wp ms (cm_Call ms d) E P rows stops J Z n C := by
  unfold ab_run at hr
  cases hs : ab_srt rows with
  | true =>
    rw [hs] at hr
    exact ab_runT_ok hN hcl hrc hs n rows S fs C ρ ⟨[], rfl⟩ hr hG hf
  | false =>
    rw [hs] at hr
    have hr : (none : Option (List (Bool × ab_S))) = some fs := hr
    cases hr
end ABR
noncomputable def ab_eqA (a b : ab_A) : Bool := decide (a.1 = b.1) && (decide (a.2.1 = b.2.1) && decide (a.2.2 = b.2.2))
theorem ab_eqA_ok {a b : ab_A} (h : ab_eqA a b = true) : a = b := by
  obtain ⟨a1, a2, a3⟩ := a
  obtain ⟨b1, b2, b3⟩ := b
  simp only [ab_eqA, Bool.and_eq_true, decide_eq_true_eq] at h
  obtain ⟨rfl, rfl, rfl⟩ := h
  rfl
/-- a's value is as t says, t's variables being sg -/
noncomputable def ab_sub (K : ab_K) (sg : List ab_A) (t a : ab_A) : Bool := match t.1 with
  | 0 => ab_isI a && (decide ((ab_bd K a).1 = (Int32.ofInt t.2.1).toInt) && decide ((ab_bd K a).2 = (Int32.ofInt t.2.1).toInt))
  | 1 => decide (a.1 = 1) && a.2.2.all (fun c => t.2.2.contains c)
  | 2 => decide (a.1 = 2)
  | 3 => (match sg[t.2.1.toNat]? with
    | some b => ab_eqA b a && ab_isI a
    | none => false)
  | 6 => decide (a.1 = 6)
  | 7 => (decide (a.1 = 1) || (decide (a.1 = 2) || decide (a.1 = 7))) && a.2.2.all (fun c => t.2.2.contains c)
  | _ => false
noncomputable def ab_rT (ρ : List Int32) (sg : List ab_A) : List Int32 := sg.map (fun b => (ab_i ρ b).getD 0)
theorem ab_rT_at {ρ : List Int32} {sg : List ab_A} {j : Nat} {b : ab_A} {x : Int32} (h : sg[j]? = some b) (hb : ab_i ρ b = some x) : (ab_rT ρ sg)[j]? = some x := by
  unfold ab_rT
  rw [List.getElem?_map, h]
  simp [hb]
theorem ab_sub_ok {ρ : List Int32} {K : ab_K} {sg : List ab_A} {t a : ab_A} {v : Value} (h : ab_sub K sg t a = true) (hk : ab_k ρ K) (hv : ab_v ρ a v) : ab_v (ab_rT ρ sg) t v := by
  unfold ab_sub at h
  split at h
  · rename_i e
    simp only [Bool.and_eq_true, decide_eq_true_eq] at h
    obtain ⟨h1, h2, h3⟩ := h
    obtain ⟨x, hx, rfl⟩ := ab_vi h1 hv
    obtain ⟨b1, b2⟩ := ab_bd_in hk hx
    unfold ab_v
    rw [e]
    have : x = Int32.ofInt t.2.1 := Int32.toInt_inj.mp (by omega)
    show Value.int x = .int (Int32.ofInt t.2.1)
    rw [this]
  · rename_i e
    simp only [Bool.and_eq_true, decide_eq_true_eq] at h
    obtain ⟨c, hc, rfl⟩ := ab_v1 h.1 hv
    unfold ab_v
    rw [e]
    exact ⟨c, List.contains_iff_mem.mp (List.all_eq_true.mp h.2 c hc), rfl⟩
  · rename_i e
    have h := of_decide_eq_true h
    unfold ab_v at hv ⊢
    rw [h] at hv
    rw [e]
    exact hv
  · rename_i e
    split at h
    · rename_i b hb
      simp only [Bool.and_eq_true] at h
      cases ab_eqA_ok h.1
      obtain ⟨x, hx, rfl⟩ := ab_vi h.2 hv
      unfold ab_v
      rw [e]
      exact ⟨x, ab_rT_at hb hx, rfl⟩
    · cases h
  · rename_i e
    have h := of_decide_eq_true h
    obtain ⟨x, rfl⟩ := ab_v6 h hv
    unfold ab_v
    rw [e]
    exact ⟨x, rfl⟩
  · rename_i e
    simp only [Bool.and_eq_true, Bool.or_eq_true, decide_eq_true_eq] at h
    obtain ⟨h1, h2⟩ := h
    unfold ab_v
    rw [e]
    have hin : ∀ c, c ∈ a.2.2 → c ∈ t.2.2 := fun c hc => List.contains_iff_mem.mp (List.all_eq_true.mp h2 c hc)
    unfold ab_v at hv
    rcases h1 with h1 | h1 | h1
    · rw [h1] at hv
      obtain ⟨c, hc, rfl⟩ := hv
      exact Or.inr ⟨c, hin c hc, rfl⟩
    · rw [h1] at hv
      exact Or.inl hv
    · rw [h1] at hv
      rcases hv with hv | ⟨c, hc, rfl⟩
      · exact Or.inl hv
      · exact Or.inr ⟨c, hin c hc, rfl⟩
  · cases h
/-- a value that stands -/
noncomputable def ab_def (K : ab_K) (b : ab_A) : Bool := decide (b.1 = 0) || (decide (b.1 = 3) && decide (b.2.1.toNat < K.length))
theorem ab_def_ok {ρ : List Int32} {K : ab_K} {b : ab_A} (h : ab_def K b = true) (hk : ab_k ρ K) : ∃ x, ab_i ρ b = some x := by
  simp only [ab_def, Bool.or_eq_true, Bool.and_eq_true, decide_eq_true_eq] at h
  unfold ab_i
  rcases h with h | ⟨h, h2⟩
  · rw [h]; exact ⟨_, rfl⟩
  · rw [h]; exact ⟨_, List.getElem?_eq_getElem (by rw [← hk.1]; exact h2)⟩
noncomputable def ab_sb (sg : List ab_A) (a : ab_A) : ab_A := if a.1 = 3 then (match sg[a.2.1.toNat]? with
  | some b => b
  | none => (9, 0, [])) else a
theorem ab_sb_ok {ρ : List Int32} {sg : List ab_A} {a : ab_A} {y : Int32} (h : ab_i ρ (ab_sb sg a) = some y) : ab_i (ab_rT ρ sg) a = some y := by
  unfold ab_sb at h
  split at h
  · rename_i h3
    split at h
    · rename_i b hb
      unfold ab_i
      rw [h3]
      exact ab_rT_at hb h
    · cases h
  · rename_i h3
    unfold ab_i at h ⊢
    split at h
    · rename_i e; exact h
    · rename_i e; exact absurd e h3
    · cases h
/-- the template's knowledge holds -/
noncomputable def ab_kin (K : ab_K) (sg : List ab_A) (b : ab_A) (r : ab_Ke) : Bool := ab_def K b && (decide (r.1 ≤ (ab_bd K b).1) && (decide ((ab_bd K b).2 ≤ r.2.1) && (decide (r.2.2.1 = 0) || (decide (b.1 = 3) && (match K[b.2.1.toNat]? with
  | some q => decide (q.2.2.1 = r.2.2.1) && (decide (q.2.2.1 ≠ 0) && (ab_eqA q.2.2.2.1 (ab_sb sg r.2.2.2.1) && ab_eqA q.2.2.2.2 (ab_sb sg r.2.2.2.2)))
  | none => false)))))
noncomputable def ab_kins (K : ab_K) (sg : List ab_A) : List ab_A → ab_K → Bool
  | [], [] => true
  | b :: bs, r :: rs => ab_kin K sg b r && ab_kins K sg bs rs
  | _, _ => false
theorem ab_kins_at {K : ab_K} {sg : List ab_A} : ∀ {bs : List ab_A} {rs : ab_K}, ab_kins K sg bs rs = true → bs.length = rs.length ∧ ∀ (j : Nat) (b : ab_A) (r : ab_Ke), bs[j]? = some b → rs[j]? = some r → ab_kin K sg b r = true
  | [], [], _ => ⟨rfl, fun j b r h => by cases h⟩
  | [], _ :: _, h => by cases h
  | _ :: _, [], h => by cases h
  | b :: bs, r :: rs, h => by
    unfold ab_kins at h
    simp only [Bool.and_eq_true] at h
    obtain ⟨i1, i2⟩ := ab_kins_at h.2
    refine ⟨by rw [List.length_cons, List.length_cons, i1], fun j b' r' h1 h2 => ?_⟩
    cases j with
    | zero => cases h1; cases h2; exact h.1
    | succ j => exact i2 j b' r' h1 h2
theorem ab_kins_ok {ρ : List Int32} {K TK : ab_K} {sg : List ab_A} (hk : ab_k ρ K) (h : ab_kins K sg sg TK = true) : ab_k (ab_rT ρ sg) TK ∧ ∀ b ∈ sg, ∃ x, ab_i ρ b = some x := by
  obtain ⟨hl, hat⟩ := ab_kins_at h
  have hall : ∀ b ∈ sg, ∃ x, ab_i ρ b = some x := by
    intro b hb
    obtain ⟨j, hj⟩ := List.getElem?_of_mem hb
    have hlt : j < TK.length := by rw [← hl]; exact (List.getElem?_eq_some_iff.mp hj).1
    have h1 := hat j b _ hj (List.getElem?_eq_getElem hlt)
    unfold ab_kin at h1
    simp only [Bool.and_eq_true] at h1
    exact ab_def_ok h1.1 hk
  refine ⟨⟨by unfold ab_rT; rw [List.length_map, hl], fun j r x h1 h2 => ?_⟩, hall⟩
  have hlt : j < sg.length := by rw [hl]; exact (List.getElem?_eq_some_iff.mp h1).1
  have hb := List.getElem?_eq_getElem hlt
  obtain ⟨y, hy⟩ := hall _ (List.mem_of_getElem? hb)
  rw [ab_rT_at hb hy] at h2
  cases h2
  have h3 := hat j _ r hb h1
  unfold ab_kin at h3
  simp only [Bool.and_eq_true, Bool.or_eq_true, decide_eq_true_eq] at h3
  obtain ⟨d1, d2, d3, d4⟩ := h3
  obtain ⟨b1, b2⟩ := ab_bd_in hk hy
  refine ⟨⟨Int.le_trans d2 b1, Int.le_trans b2 d3⟩, ?_⟩
  rcases d4 with d4 | ⟨d4, d5⟩
  · exact Or.inl d4
  · refine Or.inr ?_
    split at d5
    · rename_i q hq
      simp only [Bool.and_eq_true, decide_eq_true_eq] at d5
      obtain ⟨f1, f2, f3, f4⟩ := d5
      have hy2 : ρ[(sg[j]).2.1.toNat]? = some x := by
        unfold ab_i at hy
        rw [d4] at hy
        exact hy
      rcases (hk.2 _ q x hq hy2).2 with hz | ⟨u, z, hu, hz, e⟩
      · exact absurd hz f2
      · rw [ab_eqA_ok f3] at hu
        rw [ab_eqA_ok f4] at hz
        exact ⟨u, z, ab_sb_ok hu, ab_sb_ok hz, by rw [← f1]; exact e⟩
    · cases d5
/-- entries of the memory that the template tells are read -/
noncomputable def ab_fill (h : ab_H) : ab_Ca → ab_K → ab_Ca → ab_K × ab_Ca
  | [], K, Ca => (K, Ca)
  | q :: r, K, Ca => if ab_isI q.2.2 = true ∧ ab_cf Ca q.1 q.2.1 = none then ab_fill h r (ab_ldI h K Ca [q.1] (some [q.2.1])).2.1 (ab_ldI h K Ca [q.1] (some [q.2.1])).2.2 else ab_fill h r K Ca
theorem ab_fill_ok {h : ab_H} {N : cm_M → Prop} {M0 : cm_M} {md : ab_Md} {M : cm_M} (hN : ab_NP h N) : ∀ (T : ab_Ca) {K : ab_K} {Ca : ab_Ca} {ρ : List Int32}, ab_k ρ K → ab_m h N M0 md ρ Ca M → ∃ ext, ab_k (ρ ++ ext) (ab_fill h T K Ca).1 ∧ ab_m h N M0 md (ρ ++ ext) (ab_fill h T K Ca).2 M
  | [], K, Ca, ρ, hk, hm => ⟨[], by rw [ab_nil]; exact hk, by rw [ab_nil]; exact hm⟩
  | q :: r, K, Ca, ρ, hk, hm => by
    unfold ab_fill
    split
    · obtain ⟨ext, k1, k2, k3⟩ := ab_ldI_ok (c := q.1) (i := q.2.1) hN hk hm (rfl : ab_ldI h K Ca [q.1] (some [q.2.1]) = (_, _, _)) (List.mem_singleton.mpr rfl) (List.mem_singleton.mpr rfl)
      obtain ⟨ext2, e1, e2⟩ := ab_fill_ok hN r k1 k3
      exact ⟨ext ++ ext2, by rw [← List.append_assoc]; exact e1, by rw [← List.append_assoc]; exact e2⟩
    · exact ab_fill_ok hN r hk hm
noncomputable def ab_subs (K : ab_K) (sg : List ab_A) : List ab_A → List ab_A → Bool
  | [], [] => true
  | t :: ts, a :: as => ab_sub K sg t a && ab_subs K sg ts as
  | _, _ => false
theorem ab_subs_ok {ρ : List Int32} {K : ab_K} {sg : List ab_A} (hk : ab_k ρ K) : ∀ {ts as : List ab_A} {vs : List Value}, ab_subs K sg ts as = true → ab_s ρ as vs → ab_s (ab_rT ρ sg) ts vs
  | [], [], [], _, _ => trivial
  | [], [], _ :: _, _, h => h.elim
  | [], _ :: _, _, h, _ => by cases h
  | _ :: _, [], _, h, _ => by cases h
  | _ :: _, _ :: _, [], _, h => h.elim
  | t :: ts, a :: as, v :: vs, h, hs => by
    unfold ab_subs at h
    simp only [Bool.and_eq_true] at h
    exact ⟨ab_sub_ok h.1 hk hs.1, ab_subs_ok hk h.2 hs.2⟩
noncomputable def ab_subL (K : ab_K) (sg : List ab_A) (TL L : List (Nat × ab_A)) : Bool := TL.all (fun q => match ev_at L q.1 with
  | some a => ab_sub K sg q.2 a
  | none => false)
theorem ab_subL_ok {ρ : List Int32} {K : ab_K} {sg : List ab_A} {TL L : List (Nat × ab_A)} {CL : List (Nat × Value)} (hk : ab_k ρ K) (h : ab_subL K sg TL L = true) (hl : ab_l ρ L CL) : ab_l (ab_rT ρ sg) TL CL := by
  intro q hq
  have h1 := List.all_eq_true.mp h q hq
  split at h1
  · rename_i a ha
    obtain ⟨v, x1, x2⟩ := hl _ (ev_at_mem ha)
    exact ⟨v, x1, ab_sub_ok h1 hk x2⟩
  · cases h1
noncomputable def ab_subC (h : ab_H) (K : ab_K) (sg : List ab_A) (T Ca : ab_Ca) : Bool := T.all (fun q => if ab_isI q.2.2 = true then (match ab_cf Ca q.1 q.2.1 with
    | some a => ab_isI a && ab_sub K sg q.2.2 a
    | none => false) else (match ab_ldR h Ca [q.1] [q.2.1] with
    | some a => ab_sub K sg q.2.2 a
    | none => false))
theorem ab_subC_ok {h : ab_H} {N : cm_M → Prop} {M0 : cm_M} {md : ab_Md} {ρ : List Int32} {K : ab_K} {sg : List ab_A} {T Ca : ab_Ca} {M : cm_M} (hk : ab_k ρ K) (hs : ab_subC h K sg T Ca = true) (hm : ab_m h N M0 md ρ Ca M) : ab_ca (ab_rT ρ sg) M T := by
  intro q hq
  have h1 := List.all_eq_true.mp hs q hq
  unfold ab_ce
  split
  · rename_i hI
    rw [if_pos hI] at h1
    split at h1
    · rename_i a ha
      simp only [Bool.and_eq_true] at h1
      have h2 := hm.2.2 _ (ab_cf_mem ha)
      unfold ab_ce at h2
      rw [if_pos h1.1] at h2
      exact ab_vint (ab_sub_ok h1.2 hk (ab_iv h2))
    · cases h1
  · rename_i hI
    rw [if_neg hI] at h1
    split at h1
    · rename_i a ha
      exact ab_sub_ok h1 hk (ab_ldR_ok hm ha (List.mem_singleton.mpr rfl) (List.mem_singleton.mpr rfl))
    · cases h1
/-- the template's variables, found where they stand -/
noncomputable def ab_prs (T S : ab_S) : List (ab_A × ab_A) := T.2.1.filterMap (fun q => (ev_at S.2.1 q.1).map (fun a => (q.2, a))) ++ (T.2.2.1.zip S.2.2.1 ++ T.2.2.2.2.filterMap (fun q => (ab_cf S.2.2.2.2 q.1 q.2.1).map (fun a => (q.2.2, a))))
noncomputable def ab_sgf (prs : List (ab_A × ab_A)) (j : Nat) : ab_A := match prs with
  | [] => (9, 0, [])
  | p :: r => if p.1.1 = 3 ∧ p.1.2.1 = (j : Int) then p.2 else ab_sgf r j
noncomputable def ab_sig (nE : Nat) (T S : ab_S) : List ab_A := (List.range T.2.2.2.1.length).map (fun j => if j < nE then ab_x j else ab_sgf (ab_prs T S) j)
/-- a value as another one and a number -/
noncomputable def ab_un1 (K : ab_K) (a : ab_A) : ab_A × Int := if a.1 = 3 then (match K[a.2.1.toNat]? with
  | some r => if r.2.2.1 = 1 ∧ r.2.2.2.2.1 = 0 ∧ -2147483648 ≤ (ab_bd K r.2.2.2.1).1 + (Int32.ofInt r.2.2.2.2.2.1).toInt ∧ (ab_bd K r.2.2.2.1).2 + (Int32.ofInt r.2.2.2.2.2.1).toInt ≤ 2147483647 then (r.2.2.2.1, (Int32.ofInt r.2.2.2.2.2.1).toInt) else (a, 0)
  | none => (a, 0)) else (a, 0)
theorem ab_un1_ok {ρ : List Int32} {K : ab_K} {a u : ab_A} {c : Int} {x : Int32} (hk : ab_k ρ K) (ha : ab_i ρ a = some x) (h : ab_un1 K a = (u, c)) : ∃ y, ab_i ρ u = some y ∧ x.toInt = y.toInt + c := by
  unfold ab_un1 at h
  split at h
  · rename_i h3
    split at h
    · rename_i r hr
      split at h
      · rename_i hc
        cases h
        have hx : ρ[a.2.1.toNat]? = some x := by
          unfold ab_i at ha
          rw [h3] at ha
          exact ha
        have hcn : ab_i ρ r.2.2.2.2 = some (Int32.ofInt r.2.2.2.2.2.1) := by
          unfold ab_i
          rw [hc.2.1]
          rfl
        rcases (hk.2 _ r x hr hx).2 with hz | ⟨y, z, hy, hz, e⟩
        · omega
        · rw [hcn] at hz
          cases hz
          obtain ⟨y1, y2⟩ := ab_bd_in hk hy
          rw [hc.1] at e
          have e : x = y + Int32.ofInt r.2.2.2.2.2.1 := e
          refine ⟨y, hy, ?_⟩
          rw [e, Int32.toInt_add]
          exact ev_bm (by omega) (by omega)
      · cases h
        exact ⟨x, ha, by omega⟩
    · cases h
      exact ⟨x, ha, by omega⟩
  · cases h
    exact ⟨x, ha, by omega⟩
/-- bounds of y - x that a relation tells -/
noncomputable def ab_rfd (y x : ab_A) : List ab_Ke → Option (Int × Int)
  | [] => none
  | r :: l => if r.2.2.1 = 22 ∧ ab_eqA r.2.2.2.1 y = true ∧ ab_eqA r.2.2.2.2 x = true then some (r.1, r.2.1) else ab_rfd y x l
theorem ab_rfd_ok {ρ : List Int32} {y x : ab_A} {yv xv : Int32} (hy : ab_i ρ y = some yv) (hx : ab_i ρ x = some xv) : ∀ {l : List ab_Ke} {b : Int × Int}, (∀ r ∈ l, ∃ w, ab_e ρ r w) → ab_rfd y x l = some b → ev_inb b (yv - xv)
  | [], b, _, h => by cases h
  | r :: l, b, hl, h => by
    unfold ab_rfd at h
    split at h
    · rename_i hc
      cases h
      obtain ⟨w, hw⟩ := hl r List.mem_cons_self
      rcases hw.2 with hz | ⟨y', x', h1, h2, e⟩
      · omega
      · rw [ab_eqA_ok hc.2.1, hy] at h1
        rw [ab_eqA_ok hc.2.2, hx] at h2
        cases h1
        cases h2
        rw [hc.1] at e
        have e : w = yv - xv := e
        rw [← e]
        exact hw.1
    · exact ab_rfd_ok hy hx (fun q hq => hl q (List.mem_cons_of_mem _ hq)) h
noncomputable def ab_df (K : ab_K) (y x : ab_A) : Int × Int :=
  let g := ev_bd 22 (ab_bd K y) (ab_bd K x)
  let u := ab_un1 K y
  let v := ab_un1 K x
  match ab_rfd u.1 v.1 K with
  | some b => if -2147483648 ≤ (ab_bd K u.1).1 - (ab_bd K v.1).2 ∧ (ab_bd K u.1).2 - (ab_bd K v.1).1 ≤ 2147483647 ∧ -2147483648 ≤ b.1 + u.2 - v.2 ∧ b.2 + u.2 - v.2 ≤ 2147483647 then (max g.1 (b.1 + u.2 - v.2), min g.2 (b.2 + u.2 - v.2)) else g
  | none => g
theorem ab_df_in {ρ : List Int32} {K : ab_K} {y x : ab_A} {yv xv : Int32} (hk : ab_k ρ K) (hy : ab_i ρ y = some yv) (hx : ab_i ρ x = some xv) : ev_inb (ab_df K y x) (ev_f 22 yv xv) := by
  have hg : ev_inb (ev_bd 22 (ab_bd K y) (ab_bd K x)) (ev_f 22 yv xv) := ev_bd_in (ab_bd_in hk hy) (ab_bd_in hk hx)
  obtain ⟨ua, uc, hua⟩ : ∃ a b, ab_un1 K y = (a, b) := ⟨_, _, rfl⟩
  obtain ⟨va, vc, hva⟩ : ∃ a b, ab_un1 K x = (a, b) := ⟨_, _, rfl⟩
  unfold ab_df
  rw [hua, hva]
  dsimp only
  split
  · rename_i b hb
    split
    · rename_i hc
      obtain ⟨u, hu, eu⟩ := ab_un1_ok hk hy hua
      obtain ⟨v, hv, ev⟩ := ab_un1_ok hk hx hva
      obtain ⟨b1, b2⟩ := ab_rfd_ok hu hv (ab_k_all hk) hb
      obtain ⟨u1, u2⟩ := ab_bd_in hk hu
      obtain ⟨v1, v2⟩ := ab_bd_in hk hv
      have e1 : (u - v).toInt = u.toInt - v.toInt := by
        rw [Int32.toInt_sub]
        exact ev_bm (by omega) (by omega)
      have e2 : (ev_f 22 yv xv).toInt = yv.toInt - xv.toInt := by
        show (yv - xv).toInt = _
        rw [Int32.toInt_sub]
        exact ev_bm (by omega) (by omega)
      obtain ⟨g1, g2⟩ := hg
      refine ⟨?_, ?_⟩
      · dsimp only; omega
      · dsimp only; omega
    · exact hg
  · exact hg
/-- the relations of the template, made new in the state -/
noncomputable def ab_rls (sg0 : List ab_A) : ab_K → List ab_A → ab_K → ab_K × List ab_A
  | r :: TK, b :: sg, K => if r.2.2.1 = 22 then
      (let q := ab_rls sg0 TK sg (K ++ [((ab_df K (ab_sb sg0 r.2.2.2.1) (ab_sb sg0 r.2.2.2.2)).1, (ab_df K (ab_sb sg0 r.2.2.2.1) (ab_sb sg0 r.2.2.2.2)).2, 22, ab_sb sg0 r.2.2.2.1, ab_sb sg0 r.2.2.2.2)])
       if ab_def K (ab_sb sg0 r.2.2.2.1) = true ∧ ab_def K (ab_sb sg0 r.2.2.2.2) = true then (q.1, ab_x K.length :: q.2) else (K, []))
    else (let q := ab_rls sg0 TK sg K
          (q.1, b :: q.2))
  | _, _, K => (K, [])
theorem ab_rls_ok {h : ab_H} {N : cm_M → Prop} {M0 : cm_M} {md : ab_Md} {Ca : ab_Ca} {M : cm_M} {sg0 : List ab_A} : ∀ (TK : ab_K) (sg : List ab_A) {K : ab_K} {ρ : List Int32}, ab_k ρ K → ab_m h N M0 md ρ Ca M → ∃ ext, ab_k (ρ ++ ext) (ab_rls sg0 TK sg K).1 ∧ ab_m h N M0 md (ρ ++ ext) Ca M
  | [], sg, K, ρ, hk, hm => ⟨[], by rw [ab_nil]; unfold ab_rls; exact hk, by rw [ab_nil]; exact hm⟩
  | _ :: _, [], K, ρ, hk, hm => ⟨[], by rw [ab_nil]; unfold ab_rls; exact hk, by rw [ab_nil]; exact hm⟩
  | r :: TK, b :: sg, K, ρ, hk, hm => by
    unfold ab_rls
    split
    · dsimp only
      split
      · rename_i hd
        obtain ⟨y, hy⟩ := ab_def_ok hd.1 hk
        obtain ⟨x, hx⟩ := ab_def_ok hd.2 hk
        have hk2 := ab_push hk (r := ((ab_df K (ab_sb sg0 r.2.2.2.1) (ab_sb sg0 r.2.2.2.2)).1, (ab_df K (ab_sb sg0 r.2.2.2.1) (ab_sb sg0 r.2.2.2.2)).2, 22, ab_sb sg0 r.2.2.2.1, ab_sb sg0 r.2.2.2.2)) (x := ev_f 22 y x) ⟨ab_df_in hk hy hx, Or.inr ⟨y, x, hy, hx, rfl⟩⟩
        obtain ⟨ext, e1, e2⟩ := ab_rls_ok (sg0 := sg0) TK sg hk2 (ab_m_ap hm)
        exact ⟨[ev_f 22 y x] ++ ext, by rw [← List.append_assoc]; exact e1, by rw [← List.append_assoc]; exact e2⟩
      · exact ⟨[], by rw [ab_nil]; exact hk, by rw [ab_nil]; exact hm⟩
    · dsimp only
      exact ab_rls_ok (sg0 := sg0) TK sg hk hm
noncomputable def ab_in (h : ab_H) (nE : Nat) (T S : ab_S) : Option (ab_K × ab_Ca × List ab_A) :=
  let f := ab_fill h T.2.2.2.2 S.2.2.2.1 S.2.2.2.2
  let g := ab_rls (ab_sig nE T (S.1, S.2.1, S.2.2.1, f.1, f.2)) T.2.2.2.1 (ab_sig nE T (S.1, S.2.1, S.2.2.1, f.1, f.2)) f.1
  if nE ≤ g.2.length ∧ (List.range nE).all (fun j => match g.2[j]? with
      | some b => ab_eqA b (ab_x j)
      | none => false) = true ∧ ab_kins g.1 g.2 g.2 T.2.2.2.1 = true ∧ ab_subL g.1 g.2 T.2.1 S.2.1 = true ∧ ab_subs g.1 g.2 T.2.2.1 S.2.2.1 = true ∧ ab_subC h g.1 g.2 T.2.2.2.2 f.2 = true then some (g.1, f.2, g.2) else none
theorem ab_sig_pre {nE : Nat} {sg : List ab_A} {ρ0 e : List Int32} (h0 : ρ0.length = nE) (hn : nE ≤ sg.length) (hs : (List.range nE).all (fun j => match sg[j]? with
      | some b => ab_eqA b (ab_x j)
      | none => false) = true) : ∃ eT, ab_rT (ρ0 ++ e) sg = ρ0 ++ eT := by
  refine ⟨(ab_rT (ρ0 ++ e) sg).drop nE, ?_⟩
  have : (ab_rT (ρ0 ++ e) sg).take nE = ρ0 := by
    apply List.ext_getElem?
    intro j
    by_cases hj : j < nE
    · rw [List.getElem?_take_of_lt hj]
      have h1 := List.all_eq_true.mp hs j (List.mem_range.mpr hj)
      split at h1
      · rename_i b hb
        have hb2 := ab_eqA_ok h1
        subst hb2
        rw [List.getElem?_eq_getElem (show j < ρ0.length by omega)]
        refine ab_rT_at hb ?_
        show (ρ0 ++ e)[((j : Int)).toNat]? = some ρ0[j]
        rw [Int.toNat_natCast, List.getElem?_append_left (by omega), List.getElem?_eq_getElem (by omega)]
      · cases h1
    · rw [List.getElem?_eq_none (by rw [List.length_take]; omega), List.getElem?_eq_none (by omega)]
  have h1 := List.take_append_drop nE (ab_rT (ρ0 ++ e) sg)
  rw [this] at h1
  exact h1.symm
theorem ab_in_ok {h : ab_H} {N : cm_M → Prop} {M0 : cm_M} {md : ab_Md} {nE : Nat} {T S : ab_S} {K1 : ab_K} {Ca1 : ab_Ca} {sg : List ab_A} {ρ0 e : List Int32} {C : cm_S} (hN : ab_NP h N) (hin : ab_in h nE T S = some (K1, Ca1, sg)) (h0 : ρ0.length = nE) (gl : ab_l (ρ0 ++ e) S.2.1 C.2.1) (gs : ab_s (ρ0 ++ e) S.2.2.1 C.2.2.1) (gk : ab_k (ρ0 ++ e) S.2.2.2.1) (gm : ab_m h N M0 md (ρ0 ++ e) S.2.2.2.2 C.2.2.2) :
    ∃ e1 eT, ab_k (ρ0 ++ e ++ e1) K1 ∧ ab_m h N M0 md (ρ0 ++ e ++ e1) Ca1 C.2.2.2 ∧ ab_rT (ρ0 ++ e ++ e1) sg = ρ0 ++ eT ∧ (∀ b ∈ sg, ∃ x, ab_i (ρ0 ++ e ++ e1) b = some x) ∧ ab_l (ρ0 ++ eT) T.2.1 C.2.1 ∧ ab_s (ρ0 ++ eT) T.2.2.1 C.2.2.1 ∧ ab_k (ρ0 ++ eT) T.2.2.2.1 ∧ ab_m h N M0 md (ρ0 ++ eT) T.2.2.2.2 C.2.2.2 := by
  unfold ab_in at hin
  dsimp only at hin
  split at hin
  · rename_i hc
    cases hin
    obtain ⟨c0, cp, c1, c2, c3, c4⟩ := hc
    obtain ⟨e1, k1, k2⟩ := ab_fill_ok hN T.2.2.2.2 gk gm
    obtain ⟨e2, k1, k2⟩ := ab_rls_ok (sg0 := ab_sig nE T (S.1, S.2.1, S.2.2.1, (ab_fill h T.2.2.2.2 S.2.2.2.1 S.2.2.2.2).1, (ab_fill h T.2.2.2.2 S.2.2.2.1 S.2.2.2.2).2)) T.2.2.2.1 (ab_sig nE T (S.1, S.2.1, S.2.2.1, (ab_fill h T.2.2.2.2 S.2.2.2.1 S.2.2.2.2).1, (ab_fill h T.2.2.2.2 S.2.2.2.1 S.2.2.2.2).2)) k1 k2
    rw [List.append_assoc (ρ0 ++ e)] at k1 k2
    obtain ⟨r1, r2⟩ := ab_kins_ok k1 c1
    obtain ⟨eT, hT⟩ := ab_sig_pre (e := e ++ (e1 ++ e2)) h0 c0 cp
    rw [← List.append_assoc] at hT
    refine ⟨e1 ++ e2, eT, k1, k2, hT, r2, ?_, ?_, ?_, k2.1, k2.2.1, ?_⟩
    · rw [← hT]; exact ab_subL_ok k1 c2 (ab_l_ap gl)
    · rw [← hT]; exact ab_subs_ok k1 c3 (ab_s_ap gs)
    · rw [← hT]; exact r1
    · rw [← hT]; exact ab_subC_ok k1 c4 k2
  · cases hin
noncomputable abbrev ab_Ct : Type := Nat × List ab_A × ab_K × ab_Ca × ab_Md × List ab_Out
noncomputable def ab_CT (ms : List ev_MI) (h : ab_H) (N : cm_M → Prop) (d : Nat) (c : ab_Ct) : Prop := ∀ (ρ : List Int32) (vs : List Value) (M : cm_M), ab_s ρ c.2.1 vs → ab_k ρ c.2.2.1 → ab_ok h N M → ab_ca ρ M c.2.2.2.1 → cm_Call ms d c.1 vs M (ab_Post h N M c.2.2.2.2.1 ρ c.2.2.2.2.2)
noncomputable def ab_mds (a b : ab_Md) : Bool := a.all (fun q => match ev_at b q.1 with
  | some l => l.isEmpty || (!(q.2.isEmpty) && q.2.all (fun i => l.contains i))
  | none => false)
theorem ab_mds_ok {a b : ab_Md} (h : ab_mds a b = true) {c i : Nat} (hb : ab_inM b c i = false) : ab_inM a c i = false := by
  cases ha : ab_inM a c i with
  | false => rfl
  | true =>
    unfold ab_inM at ha
    split at ha
    · rename_i l hl
      have h1 := List.all_eq_true.mp h _ (ev_at_mem hl)
      dsimp only at h1
      unfold ab_inM at hb
      split at h1
      · rename_i l2 hl2
        rw [hl2] at hb
        simp only [Bool.or_eq_false_iff] at hb
        simp only [Bool.or_eq_true, Bool.and_eq_true, Bool.not_eq_true'] at h1
        rcases h1 with h1 | ⟨h1, h2⟩
        · rw [hb.1] at h1; cases h1
        · simp only [Bool.or_eq_true] at ha
          rcases ha with ha | ha
          · rw [h1] at ha; cases ha
          · have h3 := List.all_eq_true.mp h2 i (List.contains_iff_mem.mp ha)
            rw [hb.2] at h3
            cases h3
      · cases h1
    · cases ha
/-- a contract's variables at a call: those of its start by sg, new ones behind -/
noncomputable def ab_tv (sg : List ab_A) (n : Nat) (a : ab_A) : ab_A := if a.1 = 3 then (match sg[a.2.1.toNat]? with
  | some b => b
  | none => ab_x (n + (a.2.1.toNat - sg.length))) else a
noncomputable def ab_tk (sg : List ab_A) (n : Nat) (r : ab_Ke) : ab_Ke := (r.1, r.2.1, r.2.2.1, ab_tv sg n r.2.2.2.1, ab_tv sg n r.2.2.2.2)
theorem ab_tv_i {ρ ext : List Int32} {sg : List ab_A} {n : Nat} (hn : n = ρ.length) (hsg : ∀ b ∈ sg, ∃ x, ab_i ρ b = some x) {a : ab_A} {y : Int32} (h : ab_i (ab_rT ρ sg ++ ext) a = some y) : ab_i (ρ ++ ext) (ab_tv sg n a) = some y := by
  unfold ab_tv
  split
  · rename_i h3
    unfold ab_i at h
    rw [h3] at h
    have h : (ab_rT ρ sg ++ ext)[a.2.1.toNat]? = some y := h
    have hlen : (ab_rT ρ sg).length = sg.length := by unfold ab_rT; rw [List.length_map]
    split
    · rename_i b hb
      have hlt := (List.getElem?_eq_some_iff.mp hb).1
      rw [List.getElem?_append_left (by rw [hlen]; exact hlt)] at h
      obtain ⟨x, hx⟩ := hsg b (List.mem_of_getElem? hb)
      rw [ab_rT_at hb hx] at h
      cases h
      exact ab_i_ap hx
    · rename_i hb
      have hge : sg.length ≤ a.2.1.toNat := List.getElem?_eq_none_iff.mp hb
      rw [List.getElem?_append_right (by rw [hlen]; exact hge), hlen] at h
      unfold ab_x ab_i
      dsimp only
      rw [Int.toNat_natCast, List.getElem?_append_right (by omega)]
      rw [show n + (a.2.1.toNat - sg.length) - ρ.length = a.2.1.toNat - sg.length by omega]
      exact h
  · rename_i h3
    unfold ab_i at h ⊢
    split at h
    · exact h
    · rename_i e; exact absurd e h3
    · cases h
theorem ab_tv_v {ρ ext : List Int32} {sg : List ab_A} {n : Nat} (hn : n = ρ.length) (hsg : ∀ b ∈ sg, ∃ x, ab_i ρ b = some x) {a : ab_A} {v : Value} (h : ab_v (ab_rT ρ sg ++ ext) a v) : ab_v (ρ ++ ext) (ab_tv sg n a) v := by
  by_cases h3 : a.1 = 3
  · obtain ⟨x, hx, rfl⟩ := ab_vi (by unfold ab_isI; rw [h3]; rfl) h
    exact ab_iv (ab_tv_i hn hsg hx)
  · have e : ab_tv sg n a = a := by unfold ab_tv; rw [if_neg h3]
    rw [e]
    unfold ab_v at h ⊢
    split at h
    · exact h
    · exact h
    · exact h
    · rename_i e2; exact absurd e2 h3
    · exact h
    · exact h
    · exact h
theorem ab_tv_s {ρ ext : List Int32} {sg : List ab_A} {n : Nat} (hn : n = ρ.length) (hsg : ∀ b ∈ sg, ∃ x, ab_i ρ b = some x) : ∀ {st : List ab_A} {vs : List Value}, ab_s (ab_rT ρ sg ++ ext) st vs → ab_s (ρ ++ ext) (st.map (ab_tv sg n)) vs
  | [], [], _ => trivial
  | [], _ :: _, h => h.elim
  | _ :: _, [], h => h.elim
  | _ :: _, _ :: _, h => ⟨ab_tv_v hn hsg h.1, ab_tv_s hn hsg h.2⟩
theorem ab_tv_isI {ρ : List Int32} {sg : List ab_A} {n : Nat} (hsg : ∀ b ∈ sg, ∃ x, ab_i ρ b = some x) (a : ab_A) : ab_isI (ab_tv sg n a) = ab_isI a := by
  unfold ab_tv
  split
  · rename_i h3
    have e : ab_isI a = true := by unfold ab_isI; rw [h3]; rfl
    rw [e]
    split
    · rename_i b hb
      obtain ⟨x, hx⟩ := hsg b (List.mem_of_getElem? hb)
      exact ab_ivI hx
    · rfl
  · rfl
/-- an end's bounds of the start's variables are known behind the call -/
noncomputable def ab_rf : List ab_A → ab_K → ab_K → ab_K
  | b :: sg, r :: eK, K => ab_rf sg eK (ab_set1 K b (max (ab_bd K b).1 r.1, min (ab_bd K b).2 r.2.1))
  | _, _, K => K
theorem ab_set1_len (K : ab_K) (a : ab_A) (b : Int × Int) : (ab_set1 K a b).length = K.length := by
  unfold ab_set1
  split
  · split
    · rw [List.length_set]
    · rfl
  · rfl
theorem ab_rf_len : ∀ (sg : List ab_A) (eK K : ab_K), (ab_rf sg eK K).length = K.length
  | [], _, K => by unfold ab_rf; rfl
  | _ :: _, [], K => by unfold ab_rf; rfl
  | b :: sg, r :: eK, K => by
    unfold ab_rf
    rw [ab_rf_len, ab_set1_len]
theorem ab_rf_ok {ρ : List Int32} : ∀ (sg : List ab_A) (eK : ab_K) {K : ab_K}, (∀ (j : Nat) (b : ab_A) (r : ab_Ke), sg[j]? = some b → eK[j]? = some r → ∃ x, ab_i ρ b = some x ∧ ev_inb (r.1, r.2.1) x) → ab_k ρ K → ab_k ρ (ab_rf sg eK K)
  | [], _, K, _, hk => by unfold ab_rf; exact hk
  | _ :: _, [], K, _, hk => by unfold ab_rf; exact hk
  | b :: sg, r :: eK, K, hj, hk => by
    unfold ab_rf
    obtain ⟨x, hx, hb⟩ := hj 0 b r rfl rfl
    have h1 := ab_bd_in hk hx
    obtain ⟨a1, a2⟩ := h1
    obtain ⟨b1, b2⟩ := hb
    dsimp only at b1 b2
    exact ab_rf_ok sg eK (fun j b' r' e1 e2 => hj (j + 1) b' r' e1 e2) (ab_set1_ok hk hx ⟨by dsimp only; omega, by dsimp only; omega⟩)
noncomputable def ab_use (h : ab_H) (md : ab_Md) (c : ab_Ct) (as : List ab_A) (K : ab_K) (Ca : ab_Ca) : Option (List ab_Out) :=
  if ab_mds c.2.2.2.2.1 md = true then (match ab_in h 0 (0, [], c.2.1, c.2.2.1, c.2.2.2.1) (0, [], as, K, Ca) with
    | some (K1, Ca1, sg) => some (c.2.2.2.2.2.map (fun e => (e.1.map (ab_tv sg K1.length), ab_rf sg e.2.1 K1 ++ (e.2.1.drop sg.length).map (ab_tk sg K1.length), Ca1.filter (fun q => !(ab_inM c.2.2.2.2.1 q.1 q.2.1)) ++ e.2.2.map (fun q => (q.1, q.2.1, ab_tv sg K1.length q.2.2)))))
    | none => none) else none
theorem ab_use_ok {ms : List ev_MI} {h : ab_H} {N : cm_M → Prop} {M0 : cm_M} {md : ab_Md} {d : Nat} {c : ab_Ct} (hN : ab_NP h N) (hc : ab_CT ms h N d c) {as : List ab_A} {K : ab_K} {Ca : ab_Ca} {outs : List ab_Out} {ρ : List Int32} {vs : List Value} {M : cm_M} (hu : ab_use h md c as K Ca = some outs) (gs : ab_s ρ as vs) (gk : ab_k ρ K) (gm : ab_m h N M0 md ρ Ca M) : cm_Call ms d c.1 vs M (ab_Post h N M0 md ρ outs) := by
  unfold ab_use at hu
  split at hu
  · rename_i hmd
    split at hu
    · rename_i K1 Ca1 sg hin
      cases hu
      obtain ⟨e1, eT, k1, k2, k3, k4, -, k6, k7, k8⟩ := ab_in_ok (N := N) (M0 := M0) (md := md) (ρ0 := []) (e := ρ) (C := (0, [], vs, M)) hN hin rfl (fun q hq => nomatch hq) gs gk gm
      rw [List.nil_append] at k1 k2 k3 k4 k6 k7 k8
      dsimp only at k6 k7 k8 k2
      rw [List.nil_append] at k3
      rw [← k3] at k6 k7 k8
      refine cm_Call_up (hc _ vs M k6 k7 k8.1 k8.2.2) (Nat.le_refl _) (fun v M' hp => ?_)
      obtain ⟨o, ho, ext, p1, p2, p3⟩ := hp
      have hn : K1.length = (ρ ++ e1).length := k1.1
      have hlen : (ab_rT (ρ ++ e1) sg).length = sg.length := by unfold ab_rT; rw [List.length_map]
      refine ⟨_, List.mem_map.mpr ⟨o, ho, rfl⟩, e1 ++ ext, ?_, ?_, p3.1, ?_, ?_⟩
      · rw [← List.append_assoc]
        exact ab_tv_s hn k4 p1
      · rw [← List.append_assoc]
        have hol : o.2.1.length = sg.length + ext.length := by rw [p2.1, List.length_append, hlen]
        have hrf : ab_k (ρ ++ e1) (ab_rf sg o.2.1 K1) := by
          refine ab_rf_ok sg o.2.1 (fun j b r g1 g2 => ?_) k1
          obtain ⟨x, hx⟩ := k4 b (List.mem_of_getElem? g1)
          have g3 := ab_rT_at g1 hx
          exact ⟨x, hx, (p2.2 j r x g2 (ev_ap g3)).1⟩
        have hrl := ab_rf_len sg o.2.1 K1
        refine ⟨by simp only [List.length_append, List.length_map, List.length_drop]; rw [hrl, hn, hol, List.length_append]; omega, fun j r x h1 h2 => ?_⟩
        by_cases hj : j < K1.length
        · rw [List.getElem?_append_left (by rw [hrl]; exact hj)] at h1
          rw [List.getElem?_append_left (by rw [← hn]; exact hj)] at h2
          exact ab_e_ap (hrf.2 j r x h1 h2)
        · rw [List.getElem?_append_right (by rw [hrl]; omega), List.getElem?_map, List.getElem?_drop, hrl] at h1
          rw [List.getElem?_append_right (by rw [← hn]; omega)] at h2
          cases hz : o.2.1[sg.length + (j - K1.length)]? with
          | none => rw [hz] at h1; cases h1
          | some r0 =>
            rw [hz] at h1
            cases h1
            have h5 := p2.2 (sg.length + (j - K1.length)) r0 x hz (by
              rw [List.getElem?_append_right (by rw [hlen]; omega), hlen, show sg.length + (j - K1.length) - sg.length = j - (ρ ++ e1).length by omega]
              exact h2)
            refine ⟨h5.1, ?_⟩
            rcases h5.2 with h6 | ⟨y, z, hy, hz2, e⟩
            · exact Or.inl h6
            · exact Or.inr ⟨y, z, ab_tv_i hn k4 hy, ab_tv_i hn k4 hz2, e⟩
      · intro c' i' hm'
        obtain ⟨f1, f2, f3⟩ := p3.2.1 c' i' (ab_mds_ok hmd hm')
        obtain ⟨g1, g2, g3⟩ := k2.2.1 c' i' hm'
        exact ⟨f1.trans g1, f2.trans g2, f3.trans g3⟩
      · intro q hq
        rw [← List.append_assoc]
        rcases List.mem_append.mp hq with hq | hq
        · obtain ⟨q1, q2⟩ := List.mem_filter.mp hq
          have q2 : ab_inM c.2.2.2.2.1 q.1 q.2.1 = false := by simpa using q2
          obtain ⟨f1, -, f3⟩ := p3.2.1 q.1 q.2.1 q2
          exact ab_ce_ap (ab_ce_ne f1 f3 (k2.2.2 q q1))
        · obtain ⟨q0, h0, rfl⟩ := List.mem_map.mp hq
          have h1 := p3.2.2 q0 h0
          unfold ab_ce at h1 ⊢
          dsimp only
          rw [ab_tv_isI k4]
          split
          · rename_i hI
            rw [if_pos hI] at h1
            exact ab_tv_i hn k4 h1
          · rename_i hI
            rw [if_neg hI] at h1
            exact ab_tv_v hn k4 h1
    · cases hu
  · cases hu
noncomputable def ab_uses (h : ab_H) (md : ab_Md) (us : List ab_Ct) (k : Nat) (as : List ab_A) (K : ab_K) (Ca : ab_Ca) : Option (List ab_Out) := match us with
  | [] => none
  | c :: r => if c.1 = k then (match ab_use h md c as K Ca with
      | some o => some o
      | none => ab_uses h md r k as K Ca) else ab_uses h md r k as K Ca
theorem ab_uses_ok {ms : List ev_MI} {h : ab_H} {N : cm_M → Prop} {M0 : cm_M} {md : ab_Md} {d : Nat} (hN : ab_NP h N) : ∀ {us : List ab_Ct}, (∀ c ∈ us, ab_CT ms h N d c) → ab_ClOk ms h N M0 md d (ab_uses h md us)
  | [], _ => fun k as K Ca outs ρ vs M hu => by cases hu
  | c :: r, hus => fun k as K Ca outs ρ vs M hu gs gk gm => by
    have ih := ab_uses_ok hN (M0 := M0) (md := md) (us := r) (fun x hx => hus x (List.mem_cons_of_mem _ hx))
    unfold ab_uses at hu
    split at hu
    · rename_i hk
      split at hu
      · rename_i o ho
        cases hu
        rw [← hk]
        exact ab_use_ok hN (hus c List.mem_cons_self) ho gs gk gm
      · exact ih k as K Ca outs ρ vs M hu gs gk gm
    · exact ih k as K Ca outs ρ vs M hu gs gk gm
noncomputable def ab_ret (ret : Option FieldType) (rows : List (Nat × ev_Row)) (S : ab_S) : Bool := match ev_at rows S.1 with
  | some r => (match r.1, ret, S.2.2.1 with
    | 210, some .int, [a] => ab_isI a
    | 210, some .boolean, [a] => ab_isI a && (decide (0 ≤ (ab_bd S.2.2.2.1 a).1) && decide ((ab_bd S.2.2.2.1 a).2 ≤ 1))
    | 210, some .char, [a] => ab_isI a && (decide (0 ≤ (ab_bd S.2.2.2.1 a).1) && decide ((ab_bd S.2.2.2.1 a).2 ≤ 65535))
    | 210, some .byte, [a] => ab_isI a && (decide (0 ≤ (ab_bd S.2.2.2.1 a).1) && decide ((ab_bd S.2.2.2.1 a).2 ≤ 0))
    | 211, some .long, [a] => decide (a.1 = 6)
    | 212, some (.object _), [a] => decide (a.1 = 1)
    | 213, none, [] => true
    | _, _, _ => false)
  | none => false
theorem ab_ret_ok {h : ab_H} {N : cm_M → Prop} {M0 : cm_M} {md : ab_Md} {ret : Option FieldType} {rows : List (Nat × ev_Row)} {S : ab_S} {C : cm_S} {ρ : List Int32} {Post : cm_K} {r : ev_Row} (hr : ab_ret ret rows S = true) (hG : ab_G h N M0 md ρ S C) (he : ev_at rows C.1 = some r) (hp : ∀ v : Option Value, ab_s ρ S.2.2.1 v.toList → Post v C.2.2.2) : cm_ret ret Post r.1 C := by
  obtain ⟨pc, L, st, K, Ca⟩ := S
  obtain ⟨cpc, CL, sc, M⟩ := C
  obtain ⟨e0, gl, gs, gk, gm⟩ := hG
  dsimp only at e0 gl gs gk gm hp he
  subst e0
  unfold ab_ret at hr
  dsimp only at hr
  rw [he] at hr
  dsimp only at hr
  split at hr
  · rename_i a0 e1
    obtain ⟨v, sc', rfl, hv, gs'⟩ := ab_s_cons gs
    cases ab_s_nil gs'
    obtain ⟨x, hx, rfl⟩ := ab_vi hr hv
    rw [e1]
    exact hp (some (.int x)) ⟨hv, trivial⟩
  · rename_i a0 e1
    simp only [Bool.and_eq_true, decide_eq_true_eq] at hr
    obtain ⟨v, sc', rfl, hv, gs'⟩ := ab_s_cons gs
    cases ab_s_nil gs'
    obtain ⟨x, hx, rfl⟩ := ab_vi hr.1 hv
    obtain ⟨b1, b2⟩ := ab_bd_in gk hx
    rw [e1]
    refine ⟨?_, hp (some (.int x)) ⟨hv, trivial⟩⟩
    have : x.toInt = 0 ∨ x.toInt = 1 := by omega
    rcases this with h0 | h0
    · exact Or.inl (Int32.toInt_inj.mp (by rw [h0]; rfl))
    · exact Or.inr (Int32.toInt_inj.mp (by rw [h0]; rfl))
  · rename_i a0 e1
    simp only [Bool.and_eq_true, decide_eq_true_eq] at hr
    obtain ⟨v, sc', rfl, hv, gs'⟩ := ab_s_cons gs
    cases ab_s_nil gs'
    obtain ⟨x, hx, rfl⟩ := ab_vi hr.1 hv
    obtain ⟨b1, b2⟩ := ab_bd_in gk hx
    rw [e1]
    exact ⟨by omega, by omega, hp (some (.int x)) ⟨hv, trivial⟩⟩
  · rename_i a0 e1
    simp only [Bool.and_eq_true, decide_eq_true_eq] at hr
    obtain ⟨v, sc', rfl, hv, gs'⟩ := ab_s_cons gs
    cases ab_s_nil gs'
    obtain ⟨x, hx, rfl⟩ := ab_vi hr.1 hv
    obtain ⟨b1, b2⟩ := ab_bd_in gk hx
    rw [e1]
    exact ⟨Int32.toInt_inj.mp (by have : x.toInt = 0 := by omega
                                  rw [this]; rfl), hp (some (.int x)) ⟨hv, trivial⟩⟩
  · rename_i a0 e1
    obtain ⟨v, sc', rfl, hv, gs'⟩ := ab_s_cons gs
    cases ab_s_nil gs'
    obtain ⟨x, rfl⟩ := ab_v6 (of_decide_eq_true hr) hv
    rw [e1]
    exact hp (some (.long x)) ⟨hv, trivial⟩
  · rename_i a0 e1
    obtain ⟨v, sc', rfl, hv, gs'⟩ := ab_s_cons gs
    cases ab_s_nil gs'
    obtain ⟨x, -, rfl⟩ := ab_v1 (of_decide_eq_true hr) hv
    rw [e1]
    exact hp (some (.ref x)) ⟨hv, trivial⟩
  · rename_i e1
    cases ab_s_nil gs
    rw [e1]
    exact hp none trivial
  · cases hr
noncomputable def ab_args : Nat → List ab_A → List (Nat × ab_A)
  | _, [] => []
  | i, a :: as => (i, a) :: ab_args (i + if a.1 = 6 then 2 else 1) as
theorem ab_args_ge : ∀ (as : List ab_A) (i : Nat), ∀ q ∈ ab_args i as, i ≤ q.1
  | [], i, q, hq => nomatch hq
  | a :: as, i, q, hq => by
    unfold ab_args at hq
    rcases List.mem_cons.mp hq with rfl | hq
    · exact Nat.le_refl _
    · have := ab_args_ge as _ q hq
      omega
theorem ab_args_ok {ρ : List Int32} : ∀ {as : List ab_A} {vs : List Value} (i : Nat), ab_s ρ as vs → ab_l ρ (ab_args i as) (cm_args i vs)
  | [], [], i, _ => fun q hq => nomatch hq
  | [], _ :: _, _, h => h.elim
  | _ :: _, [], _, h => h.elim
  | a :: as, v :: vs, i, h => by
    intro q hq
    unfold ab_args at hq
    unfold cm_args cm_look
    rcases List.mem_cons.mp hq with rfl | hq
    · rw [if_pos rfl]
      exact ⟨v, rfl, h.1⟩
    · have hge := ab_args_ge as _ q hq
      have hne : ¬ i = q.1 := by
        have : 1 ≤ (if a.1 = 6 then 2 else 1) := by split <;> omega
        omega
      rw [if_neg hne]
      have hcat : v.category = (if a.1 = 6 then 2 else 1) := by
        rcases ab_cat h.1 with ⟨h1, h2⟩ | ⟨h1, h2⟩
        · rw [h2, if_pos h1]
        · rw [h2, if_neg h1]
      rw [hcat]
      exact ab_args_ok _ h.2 q hq
