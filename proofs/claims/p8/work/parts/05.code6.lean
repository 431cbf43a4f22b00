def xms_0 : List xR := [(xt_0, 1, 0), (xt_1, 4, 0), (xt_2, 4, 0), (xt_3, 5, 0), (xt_4, 4, 1), (xt_5, 7, 2), (xt_6, 7, 0), (xt_7, 2, 1), (xt_8, 2, 1), (xt_9, 1, 0), (xt_10, 2, 0), (xt_11, 2, 0), (xt_12, 2, 1), (xt_13, 3, 1), (xt_14, 4, 3), (xt_15, 3, 3)]
def xms_1 : List xR := [(xt_16, 4, 1), (xt_17, 3, 3), (xt_18, 3, 0), (xt_19, 3, 0), (xt_20, 4, 0), (xt_21, 2, 3), (xt_22, 3, 1), (xt_23, 1, 0), (xt_24, 2, 0), (xt_25, 1, 0), (xt_26, 2, 3), (xt_27, 2, 3), (xt_28, 1, 0), (xt_29, 1, 0), (xt_30, 1, 0), (xt_31, 6, 1)]
def xms_2 : List xR := [(xt_32, 1, 3), (xt_33, 2, 3), (xt_34, 2, 3), (xt_35, 1, 3), (xt_36, 1, 3), (xt_37, 3, 3), (xt_38, 1, 3), (xt_39, 3, 3), (xt_40, 5, 1), (xt_41, 1, 0), (xt_42, 2, 0), (xt_43, 2, 1), (xt_44, 1, 1), (xt_45, 1, 1), (xt_46, 3, 3), (xt_47, 2, 3)]
def xms_3 : List xR := [(xt_48, 5, 1), (xt_49, 4, 1), (xt_50, 2, 0), (xt_51, 5, 3), (xt_52, 2, 3), (xt_53, 2, 3), (xt_54, 3, 3), (xt_55, 1, 0), (xt_56, 3, 3), (xt_57, 3, 3), (xt_58, 3, 3), (xt_59, 5, 3), (xt_60, 4, 3), (xt_61, 1, 0), (xt_62, 6, 0), (xt_63, 4, 1)]
def xms_4 : List xR := [(xt_64, 6, 1), (xt_65, 4, 3), (xt_66, 5, 0), (xt_67, 4, 0), (xt_68, 5, 0), (xt_69, 2, 1), (xt_70, 1, 0), (xt_71, 1, 0), (xt_72, 2, 0), (xt_73, 4, 0), (xt_74, 2, 0), (xt_75, 4, 3), (xt_76, 1, 3), (xt_77, 2, 3), (xt_78, 1, 3), (xt_79, 2, 3)]
def xms_5 : List xR := [(xt_80, 1, 3), (xt_81, 1, 3), (xt_82, 2, 3), (xt_83, 3, 3), (xt_84, 3, 3), (xt_85, 1, 3), (xt_86, 3, 3), (xt_87, 3, 3), (xt_88, 3, 3), (xt_89, 2, 3), (xt_90, 1, 0), (xt_91, 2, 0), (xt_92, 4, 1), (xt_93, 5, 3), (xt_94, 4, 3), (xt_95, 1, 0)]
def xms_6 : List xR := [(xt_96, 8, 3), (xt_97, 6, 1), (xt_98, 5, 0), (xt_99, 6, 3), (xt_100, 7, 2), (xt_101, 4, 0), (xt_102, 8, 1), (xt_103, 1, 0), (xt_104, 1, 0), (xt_105, 2, 0), (xt_106, 2, 1), (xt_107, 2, 1), (xt_108, 2, 3), (xt_109, 3, 3), (xt_110, 3, 0), (xt_111, 3, 0)]
def xms_7 : List xR := [(xt_112, 2, 1), (xt_113, 4, 1), (xt_114, 1, 1), (xt_115, 3, 1), (xt_116, 3, 1), (xt_117, 2, 0), (xt_118, 1, 1), (xt_119, 1, 2), (xt_120, 1, 2), (xt_121, 2, 1), (xt_122, 2, 1), (xt_123, 1, 3), (xt_124, 2, 3), (xt_125, 2, 1), (xt_126, 12, 0), (xt_127, 3, 3)]
def xms_8 : List xR := [(xt_128, 2, 3), (xt_129, 2, 3), (xt_130, 2, 3), (xt_131, 2, 3), (xt_132, 2, 3), (xt_133, 1, 3), (xt_134, 4, 3), (xt_135, 6, 3), (xt_136, 4, 2), (xt_137, 6, 3), (xt_138, 3, 1), (xt_139, 3, 1), (xt_140, 3, 2), (xt_141, 6, 1), (xt_142, 3, 0), (xt_143, 3, 1)]
def xms_9 : List xR := [(xt_144, 3, 1), (xt_145, 1, 0), (xt_146, 2, 1), (xt_147, 3, 1), (xt_148, 3, 1), (xt_149, 3, 1), (xt_150, 5, 1), (xt_151, 3, 1), (xt_152, 4, 1), (xt_153, 2, 1), (xt_154, 2, 1), (xt_155, 2, 1), (xt_156, 4, 1), (xt_157, 3, 1), (xt_158, 4, 1), (xt_159, 4, 1)]
def xms_10 : List xR := [(xt_160, 3, 1), (xt_161, 3, 3), (xt_162, 5, 3), (xt_163, 4, 3), (xt_164, 5, 3), (xt_165, 2, 1), (xt_166, 2, 1), (xt_167, 3, 1), (xt_168, 4, 1), (xt_169, 2, 1), (xt_170, 2, 1), (xt_171, 3, 1), (xt_172, 5, 1), (xt_173, 6, 1), (xt_174, 3, 1), (xt_175, 2, 1)]
def xms_11 : List xR := [(xt_176, 5, 1), (xt_177, 5, 1), (xt_178, 5, 1), (xt_179, 5, 1), (xt_180, 4, 1), (xt_181, 4, 1), (xt_182, 2, 1), (xt_183, 8, 3), (xt_184, 2, 1), (xt_185, 5, 1), (xt_186, 3, 1), (xt_187, 5, 1), (xt_188, 6, 1), (xt_189, 5, 1), (xt_190, 4, 1), (xt_191, 6, 1)]
def xms_12 : List xR := [(xt_192, 9, 2), (xt_193, 6, 1), (xt_194, 2, 1), (xt_195, 2, 1), (xt_196, 6, 3), (xt_197, 1, 1), (xt_198, 1, 1), (xt_199, 1, 0), (xt_200, 3, 0), (xt_201, 1, 1), (xt_202, 1, 2), (xt_203, 1, 2), (xt_204, 2, 3), (xt_205, 2, 1), (xt_206, 2, 1), (xt_207, 2, 1)]
def xms_13 : List xR := [(xt_208, 11, 3), (xt_209, 1, 3), (xt_210, 3, 2), (xt_211, 5, 3), (xt_212, 3, 1), (xt_213, 6, 3), (xt_214, 3, 2), (xt_215, 8, 3), (xt_216, 6, 3), (xt_217, 6, 1), (xt_218, 3, 0), (xt_219, 2, 1), (xt_220, 1, 3), (xt_221, 1, 3), (xt_222, 2, 0), (xt_223, 2, 3)]
def xms_14 : List xR := [(xt_224, 7, 1), (xt_225, 2, 3), (xt_226, 4, 3), (xt_227, 2, 3), (xt_228, 3, 3), (xt_229, 4, 3), (xt_230, 2, 3), (xt_231, 4, 2), (xt_232, 4, 1), (xt_233, 2, 1), (xt_234, 2, 1), (xt_235, 2, 3), (xt_236, 4, 3), (xt_237, 2, 3), (xt_238, 4, 3), (xt_239, 4, 3)]
def xms_15 : List xR := [(xt_240, 2, 3), (xt_241, 2, 3), (xt_242, 2, 3), (xt_243, 3, 3), (xt_244, 4, 1), (xt_245, 4, 3), (xt_246, 2, 3), (xt_247, 3, 3), (xt_248, 3, 3), (xt_249, 6, 3), (xt_250, 4, 1), (xt_251, 1, 1), (xt_252, 1, 1), (xt_253, 3, 3), (xt_254, 2, 3), (xt_255, 2, 3)]
def xms_16 : List xR := [(xt_256, 2, 3), (xt_257, 2, 3), (xt_258, 3, 3), (xt_259, 3, 1), (xt_260, 3, 1), (xt_261, 2, 3), (xt_262, 2, 3), (xt_263, 1, 1), (xt_264, 3, 1), (xt_265, 5, 3), (xt_266, 3, 1), (xt_267, 4, 1), (xt_268, 5, 1), (xt_269, 4, 1), (xt_270, 2, 1), (xt_271, 1, 1)]
def xms_17 : List xR := [(xt_272, 2, 1), (xt_273, 3, 1), (xt_274, 3, 1), (xt_275, 4, 1), (xt_276, 3, 1), (xt_277, 4, 1), (xt_278, 2, 1), (xt_279, 2, 1), (xt_280, 2, 1), (xt_281, 2, 1), (xt_282, 5, 1), (xt_283, 5, 0), (xt_284, 2, 0), (xt_285, 3, 0), (xt_286, 3, 3), (xt_287, 4, 1)]
def xms_18 : List xR := [(xt_288, 2, 1), (xt_289, 4, 1), (xt_290, 3, 1), (xt_291, 3, 1), (xt_292, 3, 3), (xt_293, 5, 3), (xt_294, 4, 3), (xt_295, 5, 3), (xt_296, 3, 0), (xt_297, 3, 0), (xt_298, 2, 3), (xt_299, 2, 1), (xt_300, 4, 1), (xt_301, 2, 1), (xt_302, 4, 1), (xt_303, 5, 1)]
def xms_19 : List xR := [(xt_304, 3, 1), (xt_305, 3, 0), (xt_306, 3, 1), (xt_307, 2, 1), (xt_308, 3, 1), (xt_309, 5, 1), (xt_310, 6, 1), (xt_311, 4, 1), (xt_312, 4, 3), (xt_313, 3, 1), (xt_314, 6, 1), (xt_315, 3, 3), (xt_316, 4, 1), (xt_317, 7, 1), (xt_318, 4, 1), (xt_319, 3, 1)]
def xms_20 : List xR := [(xt_320, 5, 1), (xt_321, 3, 3), (xt_322, 4, 1), (xt_323, 4, 1), (xt_324, 8, 3), (xt_325, 3, 1), (xt_326, 2, 1), (xt_327, 5, 1), (xt_328, 6, 1), (xt_329, 5, 3), (xt_330, 8, 1), (xt_331, 1, 3), (xt_332, 5, 1), (xt_333, 6, 1), (xt_334, 5, 1), (xt_335, 5, 1)]
def xms_21 : List xR := [(xt_336, 11, 2), (xt_337, 7, 1), (xt_338, 2, 1), (xt_339, 5, 3), (xt_340, 2, 3), (xt_341, 4, 3), (xt_342, 3, 3), (xt_343, 5, 3), (xt_344, 5, 1), (xt_345, 4, 0), (xt_346, 3, 1), (xt_347, 2, 1), (xt_348, 6, 3), (xt_349, 4, 0), (xt_350, 1, 1), (xt_351, 1, 1)]
def xms_22 : List xR := [(xt_352, 1, 1), (xt_353, 2, 1), (xt_354, 5, 0), (xt_355, 4, 0), (xt_356, 4, 3)]
def xms : List (List xR) := [xms_0, xms_1, xms_2, xms_3, xms_4, xms_5, xms_6, xms_7, xms_8, xms_9, xms_10, xms_11, xms_12, xms_13, xms_14, xms_15, xms_16, xms_17, xms_18, xms_19, xms_20, xms_21, xms_22]
def xmeth (y : Nat) : Option xR := match xnth xms (y / 16) with
  | some l => xnth l (y % 16)
  | none => none
def xtyL : List (List FieldType) := [[(.object "LaterPrints$Folk"), (.array .int), (.array .int), (.array .long)],
  [.int, .int, (.array .long), (.array .int), (.array .int), (.array .int), (.array .int), (.array .int), (.array .int), (.array .int)],
  [(.array .byte), .int, .int, .int, .int, .int, .long, .int, .int, .int, .int],
  [.int, .int, .long],
  [(.object "LaterPrints$Runs"), (.object "LaterPrints$Reader"), (.array .int), .int],
  [.int, .int, .int, .int, .int, .boolean, (.object "LaterPrints$World"), .int, (.array .int)],
  [.boolean, .int, .int, (.array .int), (.array .int), (.array .int), (.array .int)],
  [(.object "LaterPrints$World"), (.object "LaterPrints$Reader"), .boolean, .int],
  [.int, (.array .long), (.array .int), (.array .int), (.array .int)],
  [(.array .int), (.array .int), (.array .int), .int, (.array .long), (.array .long)],
  [(.object "LaterPrints$Room"), (.object "LaterPrints$Folk"), (.object "LaterPrints$Sights"), (.object "LaterPrints$Runs"), .int, .int, .int, (.array .long), (.array .int), (.array .int)],
  [(.array (.array .long)), (.array .int), (.array .int), (.object "LaterPrints$Reader"), .int, .int, .long, .long, .int, .int, (.object "LaterPrints$World"), (.array (.object "LaterPrints$World")), .int, (.object "LaterPrints$SceneReader"), (.object "LaterPrints$RunReader"), (.object "LaterPrints$Runner"), (.array .int), .boolean, (.object "LaterPrints$Ahead"), (.object "LaterPrints$Tracks")],
  [(.array .int), (.array .long), .int, .long, .long, (.array .int), (.array .int), (.array .long), (.array .byte), (.array .byte), .int, .int, .int, .int, .int, .int, .int, .int, .int, .int, .int, (.array .int), .int, .int, (.array .int), (.array .int), (.array .int), (.array .int), (.array .long), (.array .long), .int, .int, (.array .int), (.array .int), (.array .int), .boolean, .int]]
def xdfL : List (List Value) := [[.null, .null, .null, .null],
  [.int 0, .int 0, .null, .null, .null, .null, .null, .null, .null, .null],
  [.null, .int 0, .int 0, .int 0, .int 0, .int 0, .long 0, .int 0, .int 0, .int 0, .int 0],
  [.int 0, .int 0, .long 0],
  [.null, .null, .null, .int 0],
  [.int 0, .int 0, .int 0, .int 0, .int 0, .int 0, .null, .int 0, .null],
  [.int 0, .int 0, .int 0, .null, .null, .null, .null],
  [.null, .null, .int 0, .int 0],
  [.int 0, .null, .null, .null, .null],
  [.null, .null, .null, .int 0, .null, .null],
  [.null, .null, .null, .null, .int 0, .int 0, .int 0, .null, .null, .null],
  [.null, .null, .null, .null, .int 0, .int 0, .long 0, .long 0, .int 0, .int 0, .null, .null, .int 0, .null, .null, .null, .null, .int 0, .null, .null],
  [.null, .null, .int 0, .long 0, .long 0, .null, .null, .null, .null, .null, .int 0, .int 0, .int 0, .int 0, .int 0, .int 0, .int 0, .int 0, .int 0, .int 0, .int 0, .null, .int 0, .int 0, .null, .null, .null, .null, .null, .null, .int 0, .int 0, .null, .null, .null, .int 0, .int 0]]
def xty (c k : Nat) : FieldType := match xnth xtyL c with
  | some l => (match xnth l k with
    | some t => t
    | none => .int)
  | none => .int
def xdf (c : Nat) : List Value := match xnth xdfL c with
  | some l => l
  | none => []
