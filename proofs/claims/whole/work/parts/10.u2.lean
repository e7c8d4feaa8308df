set_option maxRecDepth 100000 in
theorem im_wsX10_init_r1 : ∀ w ∈ wsX10_init_r1, w ∈ lw_tbl := by
  unfold wsX10_init_r1
  exact (List.forall_mem_cons.mpr ⟨tw_75, (List.forall_mem_cons.mpr ⟨tw_76, (List.forall_mem_cons.mpr ⟨tw_77, (List.forall_mem_cons.mpr ⟨tw_78, (List.forall_mem_cons.mpr ⟨tw_79, (List.forall_mem_cons.mpr ⟨tw_52, (List.forall_mem_cons.mpr ⟨tw_453, (List.forall_mem_cons.mpr ⟨tw_339, (List.forall_mem_cons.mpr ⟨tw_340, (List.forall_mem_cons.mpr ⟨tw_59, (List.forall_mem_cons.mpr ⟨tw_454, (List.forall_mem_cons.mpr ⟨tw_412, (List.forall_mem_cons.mpr ⟨tw_413, (List.forall_mem_cons.mpr ⟨tw_61, (List.forall_mem_cons.mpr ⟨tw_455, (List.forall_mem_cons.mpr ⟨tw_456, (List.forall_mem_cons.mpr ⟨tw_457, (List.forall_mem_cons.mpr ⟨tw_458, (List.forall_mem_cons.mpr ⟨tw_459, (List.forall_mem_cons.mpr ⟨tw_80, (List.forall_mem_cons.mpr ⟨tw_81, (List.forall_mem_cons.mpr ⟨tw_82, (List.forall_mem_cons.mpr ⟨tw_83, (List.forall_mem_cons.mpr ⟨tw_84, nil_in⟩)⟩)⟩)⟩)⟩)⟩)⟩)⟩)⟩)⟩)⟩)⟩)⟩)⟩)⟩)⟩)⟩)⟩)⟩)⟩)⟩)⟩)⟩)⟩)
set_option maxRecDepth 100000 in
theorem im_wsX10_init_r2 : ∀ w ∈ wsX10_init_r2, w ∈ lw_tbl := by
  unfold wsX10_init_r2
  exact (List.forall_mem_cons.mpr ⟨tw_308, (List.forall_mem_cons.mpr ⟨tw_86, (List.forall_mem_cons.mpr ⟨tw_311, (List.forall_mem_cons.mpr ⟨tw_88, (List.forall_mem_cons.mpr ⟨tw_314, (List.forall_mem_cons.mpr ⟨tw_130, (List.forall_mem_cons.mpr ⟨tw_317, (List.forall_mem_cons.mpr ⟨tw_90, (List.forall_mem_cons.mpr ⟨tw_91, (List.forall_mem_cons.mpr ⟨tw_53, (List.forall_mem_cons.mpr ⟨tw_319, (List.forall_mem_cons.mpr ⟨tw_322, (List.forall_mem_cons.mpr ⟨tw_200, (List.forall_mem_cons.mpr ⟨tw_56, (List.forall_mem_cons.mpr ⟨tw_247, (List.forall_mem_cons.mpr ⟨tw_57, (List.forall_mem_cons.mpr ⟨tw_263, (List.forall_mem_cons.mpr ⟨tw_58, (List.forall_mem_cons.mpr ⟨tw_92, (List.forall_mem_cons.mpr ⟨tw_93, (List.forall_mem_cons.mpr ⟨tw_94, (List.forall_mem_cons.mpr ⟨tw_95, (List.forall_mem_cons.mpr ⟨tw_96, (List.forall_mem_cons.mpr ⟨tw_97, nil_in⟩)⟩)⟩)⟩)⟩)⟩)⟩)⟩)⟩)⟩)⟩)⟩)⟩)⟩)⟩)⟩)⟩)⟩)⟩)⟩)⟩)⟩)⟩)⟩)
set_option maxRecDepth 100000 in
theorem im_wsX10_init_r3 : ∀ w ∈ wsX10_init_r3, w ∈ lw_tbl := by
  unfold wsX10_init_r3
  exact (List.forall_mem_cons.mpr ⟨tw_54, (List.forall_mem_cons.mpr ⟨tw_164, (List.forall_mem_cons.mpr ⟨tw_132, (List.forall_mem_cons.mpr ⟨tw_166, (List.forall_mem_cons.mpr ⟨tw_168, (List.forall_mem_cons.mpr ⟨tw_170, (List.forall_mem_cons.mpr ⟨tw_172, (List.forall_mem_cons.mpr ⟨tw_174, (List.forall_mem_cons.mpr ⟨tw_175, (List.forall_mem_cons.mpr ⟨tw_176, (List.forall_mem_cons.mpr ⟨tw_177, (List.forall_mem_cons.mpr ⟨tw_134, (List.forall_mem_cons.mpr ⟨tw_55, (List.forall_mem_cons.mpr ⟨tw_178, (List.forall_mem_cons.mpr ⟨tw_99, (List.forall_mem_cons.mpr ⟨tw_100, (List.forall_mem_cons.mpr ⟨tw_101, (List.forall_mem_cons.mpr ⟨tw_131, (List.forall_mem_cons.mpr ⟨tw_102, (List.forall_mem_cons.mpr ⟨tw_103, (List.forall_mem_cons.mpr ⟨tw_106, (List.forall_mem_cons.mpr ⟨tw_108, (List.forall_mem_cons.mpr ⟨tw_110, (List.forall_mem_cons.mpr ⟨tw_111, nil_in⟩)⟩)⟩)⟩)⟩)⟩)⟩)⟩)⟩)⟩)⟩)⟩)⟩)⟩)⟩)⟩)⟩)⟩)⟩)⟩)⟩)⟩)⟩)⟩)
set_option maxRecDepth 100000 in
theorem im_wsX10_init_r4 : ∀ w ∈ wsX10_init_r4, w ∈ lw_tbl := by
  unfold wsX10_init_r4
  exact (List.forall_mem_cons.mpr ⟨tw_113, (List.forall_mem_cons.mpr ⟨tw_136, (List.forall_mem_cons.mpr ⟨tw_137, (List.forall_mem_cons.mpr ⟨tw_138, (List.forall_mem_cons.mpr ⟨tw_139, (List.forall_mem_cons.mpr ⟨tw_141, (List.forall_mem_cons.mpr ⟨tw_144, (List.forall_mem_cons.mpr ⟨tw_147, (List.forall_mem_cons.mpr ⟨tw_150, (List.forall_mem_cons.mpr ⟨tw_202, (List.forall_mem_cons.mpr ⟨tw_203, (List.forall_mem_cons.mpr ⟨tw_204, (List.forall_mem_cons.mpr ⟨tw_205, (List.forall_mem_cons.mpr ⟨tw_208, (List.forall_mem_cons.mpr ⟨tw_211, (List.forall_mem_cons.mpr ⟨tw_214, (List.forall_mem_cons.mpr ⟨tw_217, (List.forall_mem_cons.mpr ⟨tw_219, (List.forall_mem_cons.mpr ⟨tw_221, (List.forall_mem_cons.mpr ⟨tw_223, (List.forall_mem_cons.mpr ⟨tw_225, (List.forall_mem_cons.mpr ⟨tw_249, (List.forall_mem_cons.mpr ⟨tw_250, (List.forall_mem_cons.mpr ⟨tw_251, nil_in⟩)⟩)⟩)⟩)⟩)⟩)⟩)⟩)⟩)⟩)⟩)⟩)⟩)⟩)⟩)⟩)⟩)⟩)⟩)⟩)⟩)⟩)⟩)⟩)
set_option maxRecDepth 100000 in
theorem im_wsX10_init_r5 : ∀ w ∈ wsX10_init_r5, w ∈ lw_tbl := by
  unfold wsX10_init_r5
  exact (List.forall_mem_cons.mpr ⟨tw_252, (List.forall_mem_cons.mpr ⟨tw_255, (List.forall_mem_cons.mpr ⟨tw_265, (List.forall_mem_cons.mpr ⟨tw_266, (List.forall_mem_cons.mpr ⟨tw_267, (List.forall_mem_cons.mpr ⟨tw_268, (List.forall_mem_cons.mpr ⟨tw_271, (List.forall_mem_cons.mpr ⟨tw_273, (List.forall_mem_cons.mpr ⟨tw_276, (List.forall_mem_cons.mpr ⟨tw_279, (List.forall_mem_cons.mpr ⟨tw_281, (List.forall_mem_cons.mpr ⟨tw_283, (List.forall_mem_cons.mpr ⟨tw_285, (List.forall_mem_cons.mpr ⟨tw_287, (List.forall_mem_cons.mpr ⟨tw_341, (List.forall_mem_cons.mpr ⟨tw_342, (List.forall_mem_cons.mpr ⟨tw_343, (List.forall_mem_cons.mpr ⟨tw_344, (List.forall_mem_cons.mpr ⟨tw_345, (List.forall_mem_cons.mpr ⟨tw_399, (List.forall_mem_cons.mpr ⟨tw_347, (List.forall_mem_cons.mpr ⟨tw_402, (List.forall_mem_cons.mpr ⟨tw_398, (List.forall_mem_cons.mpr ⟨tw_404, nil_in⟩)⟩)⟩)⟩)⟩)⟩)⟩)⟩)⟩)⟩)⟩)⟩)⟩)⟩)⟩)⟩)⟩)⟩)⟩)⟩)⟩)⟩)⟩)⟩)
set_option maxRecDepth 100000 in
theorem im_wsX10_init_r6 : ∀ w ∈ wsX10_init_r6, w ∈ lw_tbl := by
  unfold wsX10_init_r6
  exact (List.forall_mem_cons.mpr ⟨tw_349, (List.forall_mem_cons.mpr ⟨tw_60, (List.forall_mem_cons.mpr ⟨tw_351, (List.forall_mem_cons.mpr ⟨tw_352, (List.forall_mem_cons.mpr ⟨tw_353, (List.forall_mem_cons.mpr ⟨tw_354, (List.forall_mem_cons.mpr ⟨tw_356, (List.forall_mem_cons.mpr ⟨tw_358, (List.forall_mem_cons.mpr ⟨tw_362, (List.forall_mem_cons.mpr ⟨tw_364, (List.forall_mem_cons.mpr ⟨tw_367, (List.forall_mem_cons.mpr ⟨tw_369, (List.forall_mem_cons.mpr ⟨tw_371, (List.forall_mem_cons.mpr ⟨tw_373, (List.forall_mem_cons.mpr ⟨tw_375, (List.forall_mem_cons.mpr ⟨tw_415, (List.forall_mem_cons.mpr ⟨tw_416, (List.forall_mem_cons.mpr ⟨tw_417, (List.forall_mem_cons.mpr ⟨tw_418, (List.forall_mem_cons.mpr ⟨tw_419, (List.forall_mem_cons.mpr ⟨tw_420, (List.forall_mem_cons.mpr ⟨tw_452, (List.forall_mem_cons.mpr ⟨tw_421, (List.forall_mem_cons.mpr ⟨tw_422, nil_in⟩)⟩)⟩)⟩)⟩)⟩)⟩)⟩)⟩)⟩)⟩)⟩)⟩)⟩)⟩)⟩)⟩)⟩)⟩)⟩)⟩)⟩)⟩)⟩)
set_option maxRecDepth 100000 in
theorem im_wsX10_init_r7 : ∀ w ∈ wsX10_init_r7, w ∈ lw_tbl := by
  unfold wsX10_init_r7
  exact (List.forall_mem_cons.mpr ⟨tw_423, (List.forall_mem_cons.mpr ⟨tw_424, (List.forall_mem_cons.mpr ⟨tw_425, (List.forall_mem_cons.mpr ⟨tw_426, (List.forall_mem_cons.mpr ⟨tw_427, (List.forall_mem_cons.mpr ⟨tw_428, nil_in⟩)⟩)⟩)⟩)⟩)⟩)
set_option maxRecDepth 100000 in
theorem im_wsX10_init : ∀ w ∈ wsX10_init, w ∈ lw_tbl := by
  unfold wsX10_init
  exact (List.forall_mem_cons.mpr ⟨tw_74, (List.forall_mem_append.mpr ⟨(List.forall_mem_append.mpr ⟨(List.forall_mem_append.mpr ⟨(List.forall_mem_append.mpr ⟨(List.forall_mem_append.mpr ⟨(List.forall_mem_append.mpr ⟨(List.forall_mem_append.mpr ⟨(List.forall_mem_append.mpr ⟨(List.forall_mem_append.mpr ⟨(List.forall_mem_append.mpr ⟨(List.forall_mem_append.mpr ⟨(List.forall_mem_append.mpr ⟨im_wsX10_init_r1, (List.forall_mem_append.mpr ⟨im_wsX10_init_r2, (List.forall_mem_append.mpr ⟨im_wsX10_init_r3, (List.forall_mem_append.mpr ⟨im_wsX10_init_r4, (List.forall_mem_append.mpr ⟨im_wsX10_init_r5, (List.forall_mem_append.mpr ⟨im_wsX10_init_r6, im_wsX10_init_r7⟩)⟩)⟩)⟩)⟩)⟩), in_wsX90⟩), in_wsX100⟩), in_wsX30⟩), in_wsX10⟩), in_wsX20⟩), in_wsX70⟩), in_wsX00⟩), in_wsX40⟩), in_wsX80⟩), in_wsX60⟩), in_wsX50⟩)⟩)
theorem hT_X10_init : GoodIn lw_tbl wsX10_init := goodIn_sub im_wsX10_init (by decide +kernel)
set_option maxRecDepth 100000 in
theorem im_wsX11_init_r1 : ∀ w ∈ wsX11_init_r1, w ∈ lw_tbl := by
  unfold wsX11_init_r1
  exact (List.forall_mem_cons.mpr ⟨tw_871, (List.forall_mem_cons.mpr ⟨tw_76, (List.forall_mem_cons.mpr ⟨tw_77, (List.forall_mem_cons.mpr ⟨tw_130, (List.forall_mem_cons.mpr ⟨tw_875, (List.forall_mem_cons.mpr ⟨tw_876, (List.forall_mem_cons.mpr ⟨tw_877, (List.forall_mem_cons.mpr ⟨tw_878, (List.forall_mem_cons.mpr ⟨tw_879, (List.forall_mem_cons.mpr ⟨tw_880, (List.forall_mem_cons.mpr ⟨tw_452, (List.forall_mem_cons.mpr ⟨tw_881, (List.forall_mem_cons.mpr ⟨tw_398, (List.forall_mem_cons.mpr ⟨tw_882, (List.forall_mem_cons.mpr ⟨tw_883, (List.forall_mem_cons.mpr ⟨tw_884, (List.forall_mem_cons.mpr ⟨tw_885, (List.forall_mem_cons.mpr ⟨tw_886, (List.forall_mem_cons.mpr ⟨tw_887, (List.forall_mem_cons.mpr ⟨tw_889, (List.forall_mem_cons.mpr ⟨tw_898, (List.forall_mem_cons.mpr ⟨tw_901, (List.forall_mem_cons.mpr ⟨tw_902, (List.forall_mem_cons.mpr ⟨tw_903, nil_in⟩)⟩)⟩)⟩)⟩)⟩)⟩)⟩)⟩)⟩)⟩)⟩)⟩)⟩)⟩)⟩)⟩)⟩)⟩)⟩)⟩)⟩)⟩)⟩)
set_option maxRecDepth 100000 in
theorem im_wsX11_init_r2 : ∀ w ∈ wsX11_init_r2, w ∈ lw_tbl := by
  unfold wsX11_init_r2
  exact (List.forall_mem_cons.mpr ⟨tw_904, (List.forall_mem_cons.mpr ⟨tw_905, (List.forall_mem_cons.mpr ⟨tw_906, (List.forall_mem_cons.mpr ⟨tw_907, (List.forall_mem_cons.mpr ⟨tw_908, (List.forall_mem_cons.mpr ⟨tw_909, (List.forall_mem_cons.mpr ⟨tw_910, (List.forall_mem_cons.mpr ⟨tw_911, (List.forall_mem_cons.mpr ⟨tw_912, (List.forall_mem_cons.mpr ⟨tw_913, (List.forall_mem_cons.mpr ⟨tw_914, (List.forall_mem_cons.mpr ⟨tw_915, (List.forall_mem_cons.mpr ⟨tw_916, (List.forall_mem_cons.mpr ⟨tw_917, (List.forall_mem_cons.mpr ⟨tw_918, (List.forall_mem_cons.mpr ⟨tw_919, (List.forall_mem_cons.mpr ⟨tw_920, (List.forall_mem_cons.mpr ⟨tw_922, (List.forall_mem_cons.mpr ⟨tw_926, (List.forall_mem_cons.mpr ⟨tw_927, (List.forall_mem_cons.mpr ⟨tw_928, (List.forall_mem_cons.mpr ⟨tw_929, (List.forall_mem_cons.mpr ⟨tw_930, nil_in⟩)⟩)⟩)⟩)⟩)⟩)⟩)⟩)⟩)⟩)⟩)⟩)⟩)⟩)⟩)⟩)⟩)⟩)⟩)⟩)⟩)⟩)⟩)
set_option maxRecDepth 100000 in
theorem im_wsX11_init : ∀ w ∈ wsX11_init, w ∈ lw_tbl := by
  unfold wsX11_init
  exact (List.forall_mem_cons.mpr ⟨tw_870, (List.forall_mem_append.mpr ⟨(List.forall_mem_append.mpr ⟨im_wsX11_init_r1, im_wsX11_init_r2⟩), in_wsX110⟩)⟩)
theorem hT_X11_init : GoodIn lw_tbl wsX11_init := goodIn_sub im_wsX11_init (by decide +kernel)
set_option maxRecDepth 100000 in
theorem im_wsX10_spring : ∀ w ∈ wsX10_spring, w ∈ lw_tbl := by
  unfold wsX10_spring
  exact (List.forall_mem_cons.mpr ⟨tw_478, (List.forall_mem_append.mpr ⟨(List.forall_mem_append.mpr ⟨(List.forall_mem_append.mpr ⟨(List.forall_mem_cons.mpr ⟨tw_453, (List.forall_mem_cons.mpr ⟨tw_309, (List.forall_mem_cons.mpr ⟨tw_206, (List.forall_mem_cons.mpr ⟨tw_209, (List.forall_mem_cons.mpr ⟨tw_212, (List.forall_mem_cons.mpr ⟨tw_215, (List.forall_mem_cons.mpr ⟨tw_479, (List.forall_mem_cons.mpr ⟨tw_480, (List.forall_mem_cons.mpr ⟨tw_51, (List.forall_mem_cons.mpr ⟨tw_481, nil_in⟩)⟩)⟩)⟩)⟩)⟩)⟩)⟩)⟩)⟩), in_wsX100⟩), in_wsX90⟩), in_wsX70⟩)⟩)
theorem hT_X10_spring : GoodIn lw_tbl wsX10_spring := goodIn_sub im_wsX10_spring (by decide +kernel)
theorem gT_X10_spring : GoodIn lw_tbl (wsV RL 13 RX10 yX10_spring wsX10_spring) := goodIn_app (goodIn_sub (List.forall_mem_cons.mpr ⟨tw_475, List.forall_mem_cons.mpr ⟨tw_476, List.forall_mem_cons.mpr ⟨tw_477, List.forall_mem_cons.mpr ⟨tw_51, nil_in⟩⟩⟩⟩) (by decide +kernel)) hT_X10_spring
set_option maxRecDepth 100000 in
theorem im_wsX11_spring : ∀ w ∈ wsX11_spring, w ∈ lw_tbl := by
  unfold wsX11_spring
  exact (List.forall_mem_cons.mpr ⟨tw_1059, (List.forall_mem_append.mpr ⟨(List.forall_mem_cons.mpr ⟨tw_875, (List.forall_mem_cons.mpr ⟨tw_876, (List.forall_mem_cons.mpr ⟨tw_877, (List.forall_mem_cons.mpr ⟨tw_878, (List.forall_mem_cons.mpr ⟨tw_1060, (List.forall_mem_cons.mpr ⟨tw_1061, (List.forall_mem_cons.mpr ⟨tw_62, (List.forall_mem_cons.mpr ⟨tw_1062, (List.forall_mem_cons.mpr ⟨tw_1063, (List.forall_mem_cons.mpr ⟨tw_1064, (List.forall_mem_cons.mpr ⟨tw_1065, nil_in⟩)⟩)⟩)⟩)⟩)⟩)⟩)⟩)⟩)⟩)⟩), in_wsX110⟩)⟩)
theorem hT_X11_spring : GoodIn lw_tbl wsX11_spring := goodIn_sub im_wsX11_spring (by decide +kernel)
theorem gT_X11_spring : GoodIn lw_tbl (wsV RL 17 RX11 yX11_spring wsX11_spring) := goodIn_app (goodIn_sub (List.forall_mem_cons.mpr ⟨tw_1056, List.forall_mem_cons.mpr ⟨tw_1057, List.forall_mem_cons.mpr ⟨tw_1058, List.forall_mem_cons.mpr ⟨tw_62, nil_in⟩⟩⟩⟩) (by decide +kernel)) hT_X11_spring
set_option maxRecDepth 100000 in
theorem im_wsX10_bath : ∀ w ∈ wsX10_bath, w ∈ lw_tbl := by
  unfold wsX10_bath
  exact (List.forall_mem_cons.mpr ⟨tw_485, (List.forall_mem_append.mpr ⟨(List.forall_mem_append.mpr ⟨(List.forall_mem_append.mpr ⟨(List.forall_mem_cons.mpr ⟨tw_453, (List.forall_mem_cons.mpr ⟨tw_312, (List.forall_mem_cons.mpr ⟨tw_253, (List.forall_mem_cons.mpr ⟨tw_256, (List.forall_mem_cons.mpr ⟨tw_479, (List.forall_mem_cons.mpr ⟨tw_480, (List.forall_mem_cons.mpr ⟨tw_51, (List.forall_mem_cons.mpr ⟨tw_481, nil_in⟩)⟩)⟩)⟩)⟩)⟩)⟩)⟩), in_wsX100⟩), in_wsX90⟩), in_wsX00⟩)⟩)
theorem hT_X10_bath : GoodIn lw_tbl wsX10_bath := goodIn_sub im_wsX10_bath (by decide +kernel)
theorem gT_X10_bath : GoodIn lw_tbl (wsV RL 18 RX10 yX10_bath wsX10_bath) := goodIn_app (goodIn_sub (List.forall_mem_cons.mpr ⟨tw_482, List.forall_mem_cons.mpr ⟨tw_483, List.forall_mem_cons.mpr ⟨tw_484, List.forall_mem_cons.mpr ⟨tw_51, nil_in⟩⟩⟩⟩) (by decide +kernel)) hT_X10_bath
set_option maxRecDepth 100000 in
theorem im_wsX11_bath : ∀ w ∈ wsX11_bath, w ∈ lw_tbl := by
  unfold wsX11_bath
  exact (List.forall_mem_cons.mpr ⟨tw_1069, (List.forall_mem_append.mpr ⟨(List.forall_mem_cons.mpr ⟨tw_879, (List.forall_mem_cons.mpr ⟨tw_881, (List.forall_mem_cons.mpr ⟨tw_1063, (List.forall_mem_cons.mpr ⟨tw_1064, (List.forall_mem_cons.mpr ⟨tw_62, (List.forall_mem_cons.mpr ⟨tw_1065, nil_in⟩)⟩)⟩)⟩)⟩)⟩), in_wsX110⟩)⟩)
theorem hT_X11_bath : GoodIn lw_tbl wsX11_bath := goodIn_sub im_wsX11_bath (by decide +kernel)
theorem gT_X11_bath : GoodIn lw_tbl (wsV RL 22 RX11 yX11_bath wsX11_bath) := goodIn_app (goodIn_sub (List.forall_mem_cons.mpr ⟨tw_1066, List.forall_mem_cons.mpr ⟨tw_1067, List.forall_mem_cons.mpr ⟨tw_1068, List.forall_mem_cons.mpr ⟨tw_62, nil_in⟩⟩⟩⟩) (by decide +kernel)) hT_X11_bath
set_option maxRecDepth 100000 in
theorem im_wsX10_rate : ∀ w ∈ wsX10_rate, w ∈ lw_tbl := by
  unfold wsX10_rate
  exact (List.forall_mem_cons.mpr ⟨tw_489, (List.forall_mem_append.mpr ⟨(List.forall_mem_append.mpr ⟨(List.forall_mem_cons.mpr ⟨tw_453, (List.forall_mem_cons.mpr ⟨tw_318, (List.forall_mem_cons.mpr ⟨tw_479, (List.forall_mem_cons.mpr ⟨tw_480, (List.forall_mem_cons.mpr ⟨tw_51, (List.forall_mem_cons.mpr ⟨tw_481, nil_in⟩)⟩)⟩)⟩)⟩)⟩), in_wsX100⟩), in_wsX90⟩)⟩)
theorem hT_X10_rate : GoodIn lw_tbl wsX10_rate := goodIn_sub im_wsX10_rate (by decide +kernel)
theorem gT_X10_rate : GoodIn lw_tbl (wsV RL 23 RX10 yX10_rate wsX10_rate) := goodIn_app (goodIn_sub (List.forall_mem_cons.mpr ⟨tw_486, List.forall_mem_cons.mpr ⟨tw_487, List.forall_mem_cons.mpr ⟨tw_488, List.forall_mem_cons.mpr ⟨tw_51, nil_in⟩⟩⟩⟩) (by decide +kernel)) hT_X10_rate
set_option maxRecDepth 100000 in
theorem im_wsX11_rate : ∀ w ∈ wsX11_rate, w ∈ lw_tbl := by
  unfold wsX11_rate
  exact (List.forall_mem_cons.mpr ⟨tw_1073, (List.forall_mem_append.mpr ⟨(List.forall_mem_cons.mpr ⟨tw_880, (List.forall_mem_cons.mpr ⟨tw_1063, (List.forall_mem_cons.mpr ⟨tw_1064, (List.forall_mem_cons.mpr ⟨tw_62, (List.forall_mem_cons.mpr ⟨tw_1065, nil_in⟩)⟩)⟩)⟩)⟩), in_wsX110⟩)⟩)
theorem hT_X11_rate : GoodIn lw_tbl wsX11_rate := goodIn_sub im_wsX11_rate (by decide +kernel)
theorem gT_X11_rate : GoodIn lw_tbl (wsV RL 27 RX11 yX11_rate wsX11_rate) := goodIn_app (goodIn_sub (List.forall_mem_cons.mpr ⟨tw_1070, List.forall_mem_cons.mpr ⟨tw_1071, List.forall_mem_cons.mpr ⟨tw_1072, List.forall_mem_cons.mpr ⟨tw_62, nil_in⟩⟩⟩⟩) (by decide +kernel)) hT_X11_rate
set_option maxRecDepth 100000 in
theorem im_wsX10_feed : ∀ w ∈ wsX10_feed, w ∈ lw_tbl := by
  unfold wsX10_feed
  exact (List.forall_mem_cons.mpr ⟨tw_493, (List.forall_mem_append.mpr ⟨(List.forall_mem_append.mpr ⟨(List.forall_mem_append.mpr ⟨(List.forall_mem_append.mpr ⟨(List.forall_mem_cons.mpr ⟨tw_453, (List.forall_mem_cons.mpr ⟨tw_321, (List.forall_mem_cons.mpr ⟨tw_165, (List.forall_mem_cons.mpr ⟨tw_105, (List.forall_mem_cons.mpr ⟨tw_494, (List.forall_mem_cons.mpr ⟨tw_495, (List.forall_mem_cons.mpr ⟨tw_496, (List.forall_mem_cons.mpr ⟨tw_54, (List.forall_mem_cons.mpr ⟨tw_497, (List.forall_mem_cons.mpr ⟨tw_103, (List.forall_mem_cons.mpr ⟨tw_102, nil_in⟩)⟩)⟩)⟩)⟩)⟩)⟩)⟩)⟩)⟩)⟩), in_wsX100⟩), in_wsX90⟩), in_wsX20⟩), in_wsX80⟩)⟩)
theorem hT_X10_feed : GoodIn lw_tbl wsX10_feed := goodIn_sub im_wsX10_feed (by decide +kernel)
theorem gT_X10_feed : GoodIn lw_tbl (wsV RL 28 RX10 yX10_feed wsX10_feed) := goodIn_app (goodIn_sub (List.forall_mem_cons.mpr ⟨tw_490, List.forall_mem_cons.mpr ⟨tw_491, List.forall_mem_cons.mpr ⟨tw_492, List.forall_mem_cons.mpr ⟨tw_51, nil_in⟩⟩⟩⟩) (by decide +kernel)) hT_X10_feed
set_option maxRecDepth 100000 in
theorem im_wsX11_feed : ∀ w ∈ wsX11_feed, w ∈ lw_tbl := by
  unfold wsX11_feed
  exact (List.forall_mem_cons.mpr ⟨tw_1077, (List.forall_mem_append.mpr ⟨(List.forall_mem_cons.mpr ⟨tw_890, (List.forall_mem_cons.mpr ⟨tw_889, nil_in⟩)⟩), in_wsX110⟩)⟩)
theorem hT_X11_feed : GoodIn lw_tbl wsX11_feed := goodIn_sub im_wsX11_feed (by decide +kernel)
theorem gT_X11_feed : GoodIn lw_tbl (wsV RL 32 RX11 yX11_feed wsX11_feed) := goodIn_app (goodIn_sub (List.forall_mem_cons.mpr ⟨tw_1074, List.forall_mem_cons.mpr ⟨tw_1075, List.forall_mem_cons.mpr ⟨tw_1076, List.forall_mem_cons.mpr ⟨tw_62, nil_in⟩⟩⟩⟩) (by decide +kernel)) hT_X11_feed
set_option maxRecDepth 100000 in
theorem im_wsX10_end : ∀ w ∈ wsX10_end, w ∈ lw_tbl := by
  unfold wsX10_end
  exact (List.forall_mem_cons.mpr ⟨tw_501, (List.forall_mem_append.mpr ⟨(List.forall_mem_append.mpr ⟨(List.forall_mem_append.mpr ⟨(List.forall_mem_append.mpr ⟨(List.forall_mem_cons.mpr ⟨tw_453, (List.forall_mem_cons.mpr ⟨tw_321, (List.forall_mem_cons.mpr ⟨tw_165, (List.forall_mem_cons.mpr ⟨tw_105, nil_in⟩)⟩)⟩)⟩), in_wsX100⟩), in_wsX90⟩), in_wsX20⟩), in_wsX80⟩)⟩)
theorem hT_X10_end : GoodIn lw_tbl wsX10_end := goodIn_sub im_wsX10_end (by decide +kernel)
theorem gT_X10_end : GoodIn lw_tbl (wsV RL 33 RX10 yX10_end wsX10_end) := goodIn_app (goodIn_sub (List.forall_mem_cons.mpr ⟨tw_498, List.forall_mem_cons.mpr ⟨tw_499, List.forall_mem_cons.mpr ⟨tw_500, List.forall_mem_cons.mpr ⟨tw_51, nil_in⟩⟩⟩⟩) (by decide +kernel)) hT_X10_end
set_option maxRecDepth 100000 in
theorem im_wsX11_end : ∀ w ∈ wsX11_end, w ∈ lw_tbl := by
  unfold wsX11_end
  exact (List.forall_mem_cons.mpr ⟨tw_1081, (List.forall_mem_append.mpr ⟨(List.forall_mem_cons.mpr ⟨tw_890, (List.forall_mem_cons.mpr ⟨tw_1063, (List.forall_mem_cons.mpr ⟨tw_1064, (List.forall_mem_cons.mpr ⟨tw_62, (List.forall_mem_cons.mpr ⟨tw_1065, nil_in⟩)⟩)⟩)⟩)⟩), in_wsX110⟩)⟩)
theorem hT_X11_end : GoodIn lw_tbl wsX11_end := goodIn_sub im_wsX11_end (by decide +kernel)
theorem gT_X11_end : GoodIn lw_tbl (wsV RL 37 RX11 yX11_end wsX11_end) := goodIn_app (goodIn_sub (List.forall_mem_cons.mpr ⟨tw_1078, List.forall_mem_cons.mpr ⟨tw_1079, List.forall_mem_cons.mpr ⟨tw_1080, List.forall_mem_cons.mpr ⟨tw_62, nil_in⟩⟩⟩⟩) (by decide +kernel)) hT_X11_end
set_option maxRecDepth 100000 in
theorem im_wsX10_load_r1 : ∀ w ∈ wsX10_load_r1, w ∈ lw_tbl := by
  unfold wsX10_load_r1
  exact (List.forall_mem_cons.mpr ⟨tw_453, (List.forall_mem_cons.mpr ⟨tw_321, (List.forall_mem_cons.mpr ⟨tw_171, (List.forall_mem_cons.mpr ⟨tw_169, (List.forall_mem_cons.mpr ⟨tw_506, (List.forall_mem_cons.mpr ⟨tw_507, (List.forall_mem_cons.mpr ⟨tw_508, (List.forall_mem_cons.mpr ⟨tw_53, (List.forall_mem_cons.mpr ⟨tw_509, (List.forall_mem_cons.mpr ⟨tw_170, (List.forall_mem_cons.mpr ⟨tw_172, (List.forall_mem_cons.mpr ⟨tw_168, (List.forall_mem_cons.mpr ⟨tw_174, (List.forall_mem_cons.mpr ⟨tw_175, (List.forall_mem_cons.mpr ⟨tw_164, (List.forall_mem_cons.mpr ⟨tw_107, (List.forall_mem_cons.mpr ⟨tw_104, (List.forall_mem_cons.mpr ⟨tw_510, (List.forall_mem_cons.mpr ⟨tw_511, (List.forall_mem_cons.mpr ⟨tw_512, (List.forall_mem_cons.mpr ⟨tw_54, (List.forall_mem_cons.mpr ⟨tw_513, (List.forall_mem_cons.mpr ⟨tw_110, (List.forall_mem_cons.mpr ⟨tw_514, nil_in⟩)⟩)⟩)⟩)⟩)⟩)⟩)⟩)⟩)⟩)⟩)⟩)⟩)⟩)⟩)⟩)⟩)⟩)⟩)⟩)⟩)⟩)⟩)⟩)
set_option maxRecDepth 100000 in
theorem im_wsX10_load_r2 : ∀ w ∈ wsX10_load_r2, w ∈ lw_tbl := by
  unfold wsX10_load_r2
  exact (List.forall_mem_cons.mpr ⟨tw_515, (List.forall_mem_cons.mpr ⟨tw_516, (List.forall_mem_cons.mpr ⟨tw_517, (List.forall_mem_cons.mpr ⟨tw_108, (List.forall_mem_cons.mpr ⟨tw_103, (List.forall_mem_cons.mpr ⟨tw_102, (List.forall_mem_cons.mpr ⟨tw_106, (List.forall_mem_cons.mpr ⟨tw_518, (List.forall_mem_cons.mpr ⟨tw_519, (List.forall_mem_cons.mpr ⟨tw_520, (List.forall_mem_cons.mpr ⟨tw_521, (List.forall_mem_cons.mpr ⟨tw_522, (List.forall_mem_cons.mpr ⟨tw_523, (List.forall_mem_cons.mpr ⟨tw_524, (List.forall_mem_cons.mpr ⟨tw_526, (List.forall_mem_cons.mpr ⟨tw_0, (List.forall_mem_cons.mpr ⟨tw_527, (List.forall_mem_cons.mpr ⟨tw_113, (List.forall_mem_cons.mpr ⟨tw_528, (List.forall_mem_cons.mpr ⟨tw_530, (List.forall_mem_cons.mpr ⟨tw_1, (List.forall_mem_cons.mpr ⟨tw_531, (List.forall_mem_cons.mpr ⟨tw_533, (List.forall_mem_cons.mpr ⟨tw_535, nil_in⟩)⟩)⟩)⟩)⟩)⟩)⟩)⟩)⟩)⟩)⟩)⟩)⟩)⟩)⟩)⟩)⟩)⟩)⟩)⟩)⟩)⟩)⟩)⟩)
set_option maxRecDepth 100000 in
theorem im_wsX10_load_r3 : ∀ w ∈ wsX10_load_r3, w ∈ lw_tbl := by
  unfold wsX10_load_r3
  exact (List.forall_mem_cons.mpr ⟨tw_2, (List.forall_mem_cons.mpr ⟨tw_536, (List.forall_mem_cons.mpr ⟨tw_537, (List.forall_mem_cons.mpr ⟨tw_538, (List.forall_mem_cons.mpr ⟨tw_539, (List.forall_mem_cons.mpr ⟨tw_63, (List.forall_mem_cons.mpr ⟨tw_540, (List.forall_mem_cons.mpr ⟨tw_1239, (List.forall_mem_cons.mpr ⟨tw_541, (List.forall_mem_cons.mpr ⟨tw_542, (List.forall_mem_cons.mpr ⟨tw_543, (List.forall_mem_cons.mpr ⟨tw_544, (List.forall_mem_cons.mpr ⟨tw_545, (List.forall_mem_cons.mpr ⟨tw_1240, (List.forall_mem_cons.mpr ⟨tw_547, (List.forall_mem_cons.mpr ⟨tw_548, (List.forall_mem_cons.mpr ⟨tw_549, (List.forall_mem_cons.mpr ⟨tw_550, (List.forall_mem_cons.mpr ⟨tw_551, (List.forall_mem_cons.mpr ⟨tw_552, (List.forall_mem_cons.mpr ⟨tw_553, (List.forall_mem_cons.mpr ⟨tw_554, (List.forall_mem_cons.mpr ⟨tw_555, (List.forall_mem_cons.mpr ⟨tw_556, nil_in⟩)⟩)⟩)⟩)⟩)⟩)⟩)⟩)⟩)⟩)⟩)⟩)⟩)⟩)⟩)⟩)⟩)⟩)⟩)⟩)⟩)⟩)⟩)⟩)
set_option maxRecDepth 100000 in
theorem im_wsX10_load_r4 : ∀ w ∈ wsX10_load_r4, w ∈ lw_tbl := by
  unfold wsX10_load_r4
  exact (List.forall_mem_cons.mpr ⟨tw_64, (List.forall_mem_cons.mpr ⟨tw_557, (List.forall_mem_cons.mpr ⟨tw_558, (List.forall_mem_cons.mpr ⟨tw_559, (List.forall_mem_cons.mpr ⟨tw_560, (List.forall_mem_cons.mpr ⟨tw_561, (List.forall_mem_cons.mpr ⟨tw_563, (List.forall_mem_cons.mpr ⟨tw_564, (List.forall_mem_cons.mpr ⟨tw_65, (List.forall_mem_cons.mpr ⟨tw_565, (List.forall_mem_cons.mpr ⟨tw_566, (List.forall_mem_cons.mpr ⟨tw_567, (List.forall_mem_cons.mpr ⟨tw_66, (List.forall_mem_cons.mpr ⟨tw_568, (List.forall_mem_cons.mpr ⟨tw_569, (List.forall_mem_cons.mpr ⟨tw_570, (List.forall_mem_cons.mpr ⟨tw_571, (List.forall_mem_cons.mpr ⟨tw_572, (List.forall_mem_cons.mpr ⟨tw_573, (List.forall_mem_cons.mpr ⟨tw_574, (List.forall_mem_cons.mpr ⟨tw_575, (List.forall_mem_cons.mpr ⟨tw_576, (List.forall_mem_cons.mpr ⟨tw_577, (List.forall_mem_cons.mpr ⟨tw_578, nil_in⟩)⟩)⟩)⟩)⟩)⟩)⟩)⟩)⟩)⟩)⟩)⟩)⟩)⟩)⟩)⟩)⟩)⟩)⟩)⟩)⟩)⟩)⟩)⟩)
set_option maxRecDepth 100000 in
theorem im_wsX10_load_r5 : ∀ w ∈ wsX10_load_r5, w ∈ lw_tbl := by
  unfold wsX10_load_r5
  exact (List.forall_mem_cons.mpr ⟨tw_579, (List.forall_mem_cons.mpr ⟨tw_581, (List.forall_mem_cons.mpr ⟨tw_583, (List.forall_mem_cons.mpr ⟨tw_590, (List.forall_mem_cons.mpr ⟨tw_591, (List.forall_mem_cons.mpr ⟨tw_592, (List.forall_mem_cons.mpr ⟨tw_593, (List.forall_mem_cons.mpr ⟨tw_595, (List.forall_mem_cons.mpr ⟨tw_3, (List.forall_mem_cons.mpr ⟨tw_596, (List.forall_mem_cons.mpr ⟨tw_111, (List.forall_mem_cons.mpr ⟨tw_597, (List.forall_mem_cons.mpr ⟨tw_598, (List.forall_mem_cons.mpr ⟨tw_599, (List.forall_mem_cons.mpr ⟨tw_600, (List.forall_mem_cons.mpr ⟨tw_602, (List.forall_mem_cons.mpr ⟨tw_4, (List.forall_mem_cons.mpr ⟨tw_603, (List.forall_mem_cons.mpr ⟨tw_604, (List.forall_mem_cons.mpr ⟨tw_606, (List.forall_mem_cons.mpr ⟨tw_5, (List.forall_mem_cons.mpr ⟨tw_607, (List.forall_mem_cons.mpr ⟨tw_166, (List.forall_mem_cons.mpr ⟨tw_178, nil_in⟩)⟩)⟩)⟩)⟩)⟩)⟩)⟩)⟩)⟩)⟩)⟩)⟩)⟩)⟩)⟩)⟩)⟩)⟩)⟩)⟩)⟩)⟩)⟩)
set_option maxRecDepth 100000 in
theorem im_wsX10_load_r6 : ∀ w ∈ wsX10_load_r6, w ∈ lw_tbl := by
  unfold wsX10_load_r6
  exact (List.forall_mem_cons.mpr ⟨tw_608, (List.forall_mem_cons.mpr ⟨tw_610, (List.forall_mem_cons.mpr ⟨tw_6, (List.forall_mem_cons.mpr ⟨tw_611, (List.forall_mem_cons.mpr ⟨tw_109, (List.forall_mem_cons.mpr ⟨tw_612, (List.forall_mem_cons.mpr ⟨tw_614, (List.forall_mem_cons.mpr ⟨tw_7, (List.forall_mem_cons.mpr ⟨tw_615, (List.forall_mem_cons.mpr ⟨tw_114, (List.forall_mem_cons.mpr ⟨tw_616, (List.forall_mem_cons.mpr ⟨tw_618, (List.forall_mem_cons.mpr ⟨tw_8, (List.forall_mem_cons.mpr ⟨tw_619, (List.forall_mem_cons.mpr ⟨tw_140, (List.forall_mem_cons.mpr ⟨tw_620, (List.forall_mem_cons.mpr ⟨tw_621, (List.forall_mem_cons.mpr ⟨tw_622, (List.forall_mem_cons.mpr ⟨tw_55, (List.forall_mem_cons.mpr ⟨tw_623, (List.forall_mem_cons.mpr ⟨tw_139, (List.forall_mem_cons.mpr ⟨tw_141, (List.forall_mem_cons.mpr ⟨tw_624, (List.forall_mem_cons.mpr ⟨tw_626, nil_in⟩)⟩)⟩)⟩)⟩)⟩)⟩)⟩)⟩)⟩)⟩)⟩)⟩)⟩)⟩)⟩)⟩)⟩)⟩)⟩)⟩)⟩)⟩)⟩)
set_option maxRecDepth 100000 in
theorem im_wsX10_load_r7 : ∀ w ∈ wsX10_load_r7, w ∈ lw_tbl := by
  unfold wsX10_load_r7
  exact (List.forall_mem_cons.mpr ⟨tw_9, (List.forall_mem_cons.mpr ⟨tw_627, (List.forall_mem_cons.mpr ⟨tw_176, (List.forall_mem_cons.mpr ⟨tw_628, (List.forall_mem_cons.mpr ⟨tw_630, (List.forall_mem_cons.mpr ⟨tw_10, (List.forall_mem_cons.mpr ⟨tw_631, (List.forall_mem_cons.mpr ⟨tw_152, (List.forall_mem_cons.mpr ⟨tw_177, (List.forall_mem_cons.mpr ⟨tw_143, (List.forall_mem_cons.mpr ⟨tw_632, (List.forall_mem_cons.mpr ⟨tw_634, (List.forall_mem_cons.mpr ⟨tw_11, (List.forall_mem_cons.mpr ⟨tw_635, (List.forall_mem_cons.mpr ⟨tw_636, (List.forall_mem_cons.mpr ⟨tw_637, (List.forall_mem_cons.mpr ⟨tw_638, (List.forall_mem_cons.mpr ⟨tw_639, (List.forall_mem_cons.mpr ⟨tw_144, (List.forall_mem_cons.mpr ⟨tw_640, (List.forall_mem_cons.mpr ⟨tw_642, (List.forall_mem_cons.mpr ⟨tw_12, (List.forall_mem_cons.mpr ⟨tw_643, (List.forall_mem_cons.mpr ⟨tw_146, nil_in⟩)⟩)⟩)⟩)⟩)⟩)⟩)⟩)⟩)⟩)⟩)⟩)⟩)⟩)⟩)⟩)⟩)⟩)⟩)⟩)⟩)⟩)⟩)⟩)
set_option maxRecDepth 100000 in
theorem im_wsX10_load_r8 : ∀ w ∈ wsX10_load_r8, w ∈ lw_tbl := by
  unfold wsX10_load_r8
  exact (List.forall_mem_cons.mpr ⟨tw_149, (List.forall_mem_cons.mpr ⟨tw_112, (List.forall_mem_cons.mpr ⟨tw_648, (List.forall_mem_cons.mpr ⟨tw_650, (List.forall_mem_cons.mpr ⟨tw_13, (List.forall_mem_cons.mpr ⟨tw_651, (List.forall_mem_cons.mpr ⟨tw_652, (List.forall_mem_cons.mpr ⟨tw_654, (List.forall_mem_cons.mpr ⟨tw_14, (List.forall_mem_cons.mpr ⟨tw_655, (List.forall_mem_cons.mpr ⟨tw_656, (List.forall_mem_cons.mpr ⟨tw_658, (List.forall_mem_cons.mpr ⟨tw_15, (List.forall_mem_cons.mpr ⟨tw_659, nil_in⟩)⟩)⟩)⟩)⟩)⟩)⟩)⟩)⟩)⟩)⟩)⟩)⟩)⟩)
set_option maxRecDepth 100000 in
theorem im_wsX10_load : ∀ w ∈ wsX10_load, w ∈ lw_tbl := by
  unfold wsX10_load
  exact (List.forall_mem_cons.mpr ⟨tw_505, (List.forall_mem_append.mpr ⟨(List.forall_mem_append.mpr ⟨(List.forall_mem_append.mpr ⟨(List.forall_mem_append.mpr ⟨(List.forall_mem_append.mpr ⟨(List.forall_mem_append.mpr ⟨im_wsX10_load_r1, (List.forall_mem_append.mpr ⟨im_wsX10_load_r2, (List.forall_mem_append.mpr ⟨im_wsX10_load_r3, (List.forall_mem_append.mpr ⟨im_wsX10_load_r4, (List.forall_mem_append.mpr ⟨im_wsX10_load_r5, (List.forall_mem_append.mpr ⟨im_wsX10_load_r6, (List.forall_mem_append.mpr ⟨im_wsX10_load_r7, im_wsX10_load_r8⟩)⟩)⟩)⟩)⟩)⟩)⟩), in_wsX100⟩), in_wsX90⟩), in_wsX20⟩), in_wsX80⟩), in_wsX60⟩)⟩)
theorem hT_X10_load : GoodIn lw_tbl wsX10_load := goodIn_sub im_wsX10_load (by decide +kernel)
theorem gT_X10_load : GoodIn lw_tbl (wsV RL 38 RX10 yX10_load wsX10_load) := goodIn_app (goodIn_sub (List.forall_mem_cons.mpr ⟨tw_502, List.forall_mem_cons.mpr ⟨tw_503, List.forall_mem_cons.mpr ⟨tw_504, List.forall_mem_cons.mpr ⟨tw_51, nil_in⟩⟩⟩⟩) (by decide +kernel)) hT_X10_load
set_option maxRecDepth 100000 in
theorem im_wsX11_load_r1 : ∀ w ∈ wsX11_load_r1, w ∈ lw_tbl := by
  unfold wsX11_load_r1
  exact (List.forall_mem_cons.mpr ⟨tw_895, (List.forall_mem_cons.mpr ⟨tw_891, (List.forall_mem_cons.mpr ⟨tw_888, (List.forall_mem_cons.mpr ⟨tw_892, (List.forall_mem_cons.mpr ⟨tw_890, (List.forall_mem_cons.mpr ⟨tw_897, (List.forall_mem_cons.mpr ⟨tw_896, (List.forall_mem_cons.mpr ⟨tw_898, (List.forall_mem_cons.mpr ⟨tw_882, (List.forall_mem_cons.mpr ⟨tw_874, (List.forall_mem_cons.mpr ⟨tw_883, (List.forall_mem_cons.mpr ⟨tw_884, (List.forall_mem_cons.mpr ⟨tw_886, (List.forall_mem_cons.mpr ⟨tw_885, (List.forall_mem_cons.mpr ⟨tw_887, (List.forall_mem_cons.mpr ⟨tw_1086, (List.forall_mem_cons.mpr ⟨tw_1088, (List.forall_mem_cons.mpr ⟨tw_30, (List.forall_mem_cons.mpr ⟨tw_62, (List.forall_mem_cons.mpr ⟨tw_1089, (List.forall_mem_cons.mpr ⟨tw_893, (List.forall_mem_cons.mpr ⟨tw_899, (List.forall_mem_cons.mpr ⟨tw_894, (List.forall_mem_cons.mpr ⟨tw_1090, nil_in⟩)⟩)⟩)⟩)⟩)⟩)⟩)⟩)⟩)⟩)⟩)⟩)⟩)⟩)⟩)⟩)⟩)⟩)⟩)⟩)⟩)⟩)⟩)⟩)
set_option maxRecDepth 100000 in
theorem im_wsX11_load_r2 : ∀ w ∈ wsX11_load_r2, w ∈ lw_tbl := by
  unfold wsX11_load_r2
  exact (List.forall_mem_cons.mpr ⟨tw_1092, (List.forall_mem_cons.mpr ⟨tw_31, (List.forall_mem_cons.mpr ⟨tw_1093, (List.forall_mem_cons.mpr ⟨tw_889, (List.forall_mem_cons.mpr ⟨tw_1094, (List.forall_mem_cons.mpr ⟨tw_1095, (List.forall_mem_cons.mpr ⟨tw_1096, (List.forall_mem_cons.mpr ⟨tw_1097, (List.forall_mem_cons.mpr ⟨tw_1098, (List.forall_mem_cons.mpr ⟨tw_1099, (List.forall_mem_cons.mpr ⟨tw_1063, (List.forall_mem_cons.mpr ⟨tw_1064, (List.forall_mem_cons.mpr ⟨tw_1065, (List.forall_mem_cons.mpr ⟨tw_1100, (List.forall_mem_cons.mpr ⟨tw_1101, (List.forall_mem_cons.mpr ⟨tw_1102, (List.forall_mem_cons.mpr ⟨tw_1103, (List.forall_mem_cons.mpr ⟨tw_1104, (List.forall_mem_cons.mpr ⟨tw_1105, (List.forall_mem_cons.mpr ⟨tw_1106, (List.forall_mem_cons.mpr ⟨tw_1107, (List.forall_mem_cons.mpr ⟨tw_1108, (List.forall_mem_cons.mpr ⟨tw_1109, (List.forall_mem_cons.mpr ⟨tw_1110, nil_in⟩)⟩)⟩)⟩)⟩)⟩)⟩)⟩)⟩)⟩)⟩)⟩)⟩)⟩)⟩)⟩)⟩)⟩)⟩)⟩)⟩)⟩)⟩)⟩)
set_option maxRecDepth 100000 in
theorem im_wsX11_load_r3 : ∀ w ∈ wsX11_load_r3, w ∈ lw_tbl := by
  unfold wsX11_load_r3
  exact (List.forall_mem_cons.mpr ⟨tw_1111, (List.forall_mem_cons.mpr ⟨tw_1112, (List.forall_mem_cons.mpr ⟨tw_1114, (List.forall_mem_cons.mpr ⟨tw_32, (List.forall_mem_cons.mpr ⟨tw_1115, (List.forall_mem_cons.mpr ⟨tw_901, (List.forall_mem_cons.mpr ⟨tw_900, (List.forall_mem_cons.mpr ⟨tw_1116, (List.forall_mem_cons.mpr ⟨tw_1118, (List.forall_mem_cons.mpr ⟨tw_33, (List.forall_mem_cons.mpr ⟨tw_1119, (List.forall_mem_cons.mpr ⟨tw_1120, (List.forall_mem_cons.mpr ⟨tw_1122, (List.forall_mem_cons.mpr ⟨tw_34, (List.forall_mem_cons.mpr ⟨tw_1123, (List.forall_mem_cons.mpr ⟨tw_1124, (List.forall_mem_cons.mpr ⟨tw_1126, (List.forall_mem_cons.mpr ⟨tw_35, (List.forall_mem_cons.mpr ⟨tw_1127, (List.forall_mem_cons.mpr ⟨tw_1128, (List.forall_mem_cons.mpr ⟨tw_1130, (List.forall_mem_cons.mpr ⟨tw_36, (List.forall_mem_cons.mpr ⟨tw_1131, nil_in⟩)⟩)⟩)⟩)⟩)⟩)⟩)⟩)⟩)⟩)⟩)⟩)⟩)⟩)⟩)⟩)⟩)⟩)⟩)⟩)⟩)⟩)⟩)
set_option maxRecDepth 100000 in
theorem im_wsX11_load : ∀ w ∈ wsX11_load, w ∈ lw_tbl := by
  unfold wsX11_load
  exact (List.forall_mem_cons.mpr ⟨tw_1085, (List.forall_mem_append.mpr ⟨(List.forall_mem_append.mpr ⟨im_wsX11_load_r1, (List.forall_mem_append.mpr ⟨im_wsX11_load_r2, im_wsX11_load_r3⟩)⟩), in_wsX110⟩)⟩)
theorem hT_X11_load : GoodIn lw_tbl wsX11_load := goodIn_sub im_wsX11_load (by decide +kernel)
theorem gT_X11_load : GoodIn lw_tbl (wsV RL 42 RX11 yX11_load wsX11_load) := goodIn_app (goodIn_sub (List.forall_mem_cons.mpr ⟨tw_1082, List.forall_mem_cons.mpr ⟨tw_1083, List.forall_mem_cons.mpr ⟨tw_1084, List.forall_mem_cons.mpr ⟨tw_62, nil_in⟩⟩⟩⟩) (by decide +kernel)) hT_X11_load
set_option maxRecDepth 100000 in
theorem im_wsX10_fault : ∀ w ∈ wsX10_fault, w ∈ lw_tbl := by
  unfold wsX10_fault
  exact (List.forall_mem_cons.mpr ⟨tw_663, (List.forall_mem_append.mpr ⟨(List.forall_mem_append.mpr ⟨(List.forall_mem_append.mpr ⟨(List.forall_mem_cons.mpr ⟨tw_453, (List.forall_mem_cons.mpr ⟨tw_321, (List.forall_mem_cons.mpr ⟨tw_171, (List.forall_mem_cons.mpr ⟨tw_173, nil_in⟩)⟩)⟩)⟩), in_wsX100⟩), in_wsX90⟩), in_wsX20⟩)⟩)
theorem hT_X10_fault : GoodIn lw_tbl wsX10_fault := goodIn_sub im_wsX10_fault (by decide +kernel)
theorem gT_X10_fault : GoodIn lw_tbl (wsV RL 43 RX10 yX10_fault wsX10_fault) := goodIn_app (goodIn_sub (List.forall_mem_cons.mpr ⟨tw_660, List.forall_mem_cons.mpr ⟨tw_661, List.forall_mem_cons.mpr ⟨tw_662, List.forall_mem_cons.mpr ⟨tw_51, nil_in⟩⟩⟩⟩) (by decide +kernel)) hT_X10_fault
set_option maxRecDepth 100000 in
theorem im_wsX11_fault : ∀ w ∈ wsX11_fault, w ∈ lw_tbl := by
  unfold wsX11_fault
  exact (List.forall_mem_cons.mpr ⟨tw_1135, (List.forall_mem_append.mpr ⟨(List.forall_mem_cons.mpr ⟨tw_897, (List.forall_mem_cons.mpr ⟨tw_898, nil_in⟩)⟩), in_wsX110⟩)⟩)
theorem hT_X11_fault : GoodIn lw_tbl wsX11_fault := goodIn_sub im_wsX11_fault (by decide +kernel)
theorem gT_X11_fault : GoodIn lw_tbl (wsV RL 47 RX11 yX11_fault wsX11_fault) := goodIn_app (goodIn_sub (List.forall_mem_cons.mpr ⟨tw_1132, List.forall_mem_cons.mpr ⟨tw_1133, List.forall_mem_cons.mpr ⟨tw_1134, List.forall_mem_cons.mpr ⟨tw_62, nil_in⟩⟩⟩⟩) (by decide +kernel)) hT_X11_fault
set_option maxRecDepth 100000 in
theorem im_wsX10_guest : ∀ w ∈ wsX10_guest, w ∈ lw_tbl := by
  unfold wsX10_guest
  exact (List.forall_mem_cons.mpr ⟨tw_667, (List.forall_mem_append.mpr ⟨(List.forall_mem_append.mpr ⟨(List.forall_mem_append.mpr ⟨(List.forall_mem_append.mpr ⟨(List.forall_mem_cons.mpr ⟨tw_453, (List.forall_mem_cons.mpr ⟨tw_321, (List.forall_mem_cons.mpr ⟨tw_169, (List.forall_mem_cons.mpr ⟨tw_456, (List.forall_mem_cons.mpr ⟨tw_325, (List.forall_mem_cons.mpr ⟨tw_316, (List.forall_mem_cons.mpr ⟨tw_479, (List.forall_mem_cons.mpr ⟨tw_480, (List.forall_mem_cons.mpr ⟨tw_51, (List.forall_mem_cons.mpr ⟨tw_481, (List.forall_mem_cons.mpr ⟨tw_668, (List.forall_mem_cons.mpr ⟨tw_669, (List.forall_mem_cons.mpr ⟨tw_670, (List.forall_mem_cons.mpr ⟨tw_58, (List.forall_mem_cons.mpr ⟨tw_671, (List.forall_mem_cons.mpr ⟨tw_268, (List.forall_mem_cons.mpr ⟨tw_271, (List.forall_mem_cons.mpr ⟨tw_273, (List.forall_mem_cons.mpr ⟨tw_276, (List.forall_mem_cons.mpr ⟨tw_279, nil_in⟩)⟩)⟩)⟩)⟩)⟩)⟩)⟩)⟩)⟩)⟩)⟩)⟩)⟩)⟩)⟩)⟩)⟩)⟩)⟩), in_wsX100⟩), in_wsX90⟩), in_wsX20⟩), in_wsX40⟩)⟩)
theorem hT_X10_guest : GoodIn lw_tbl wsX10_guest := goodIn_sub im_wsX10_guest (by decide +kernel)
theorem gT_X10_guest : GoodIn lw_tbl (wsV RL 48 RX10 yX10_guest wsX10_guest) := goodIn_app (goodIn_sub (List.forall_mem_cons.mpr ⟨tw_664, List.forall_mem_cons.mpr ⟨tw_665, List.forall_mem_cons.mpr ⟨tw_666, List.forall_mem_cons.mpr ⟨tw_51, nil_in⟩⟩⟩⟩) (by decide +kernel)) hT_X10_guest
set_option maxRecDepth 100000 in
theorem im_wsX11_guest : ∀ w ∈ wsX11_guest, w ∈ lw_tbl := by
  unfold wsX11_guest
  exact (List.forall_mem_cons.mpr ⟨tw_1139, (List.forall_mem_append.mpr ⟨(List.forall_mem_cons.mpr ⟨tw_874, (List.forall_mem_cons.mpr ⟨tw_872, (List.forall_mem_cons.mpr ⟨tw_873, (List.forall_mem_cons.mpr ⟨tw_902, (List.forall_mem_cons.mpr ⟨tw_903, (List.forall_mem_cons.mpr ⟨tw_904, (List.forall_mem_cons.mpr ⟨tw_905, (List.forall_mem_cons.mpr ⟨tw_906, (List.forall_mem_cons.mpr ⟨tw_1063, (List.forall_mem_cons.mpr ⟨tw_1064, (List.forall_mem_cons.mpr ⟨tw_62, (List.forall_mem_cons.mpr ⟨tw_1065, nil_in⟩)⟩)⟩)⟩)⟩)⟩)⟩)⟩)⟩)⟩)⟩)⟩), in_wsX110⟩)⟩)
theorem hT_X11_guest : GoodIn lw_tbl wsX11_guest := goodIn_sub im_wsX11_guest (by decide +kernel)
theorem gT_X11_guest : GoodIn lw_tbl (wsV RL 51 RX11 yX11_guest wsX11_guest) := goodIn_app (goodIn_sub (List.forall_mem_cons.mpr ⟨tw_1136, List.forall_mem_cons.mpr ⟨tw_1137, List.forall_mem_cons.mpr ⟨tw_1138, List.forall_mem_cons.mpr ⟨tw_62, nil_in⟩⟩⟩⟩) (by decide +kernel)) hT_X11_guest
set_option maxRecDepth 100000 in
theorem im_wsX10_leave : ∀ w ∈ wsX10_leave, w ∈ lw_tbl := by
  unfold wsX10_leave
  exact (List.forall_mem_cons.mpr ⟨tw_675, (List.forall_mem_append.mpr ⟨(List.forall_mem_append.mpr ⟨(List.forall_mem_append.mpr ⟨(List.forall_mem_cons.mpr ⟨tw_453, (List.forall_mem_cons.mpr ⟨tw_325, (List.forall_mem_cons.mpr ⟨tw_316, (List.forall_mem_cons.mpr ⟨tw_456, (List.forall_mem_cons.mpr ⟨tw_275, (List.forall_mem_cons.mpr ⟨tw_278, (List.forall_mem_cons.mpr ⟨tw_479, (List.forall_mem_cons.mpr ⟨tw_480, (List.forall_mem_cons.mpr ⟨tw_51, (List.forall_mem_cons.mpr ⟨tw_481, nil_in⟩)⟩)⟩)⟩)⟩)⟩)⟩)⟩)⟩)⟩), in_wsX100⟩), in_wsX90⟩), in_wsX40⟩)⟩)
theorem hT_X10_leave : GoodIn lw_tbl wsX10_leave := goodIn_sub im_wsX10_leave (by decide +kernel)
theorem gT_X10_leave : GoodIn lw_tbl (wsV RL 52 RX10 yX10_leave wsX10_leave) := goodIn_app (goodIn_sub (List.forall_mem_cons.mpr ⟨tw_672, List.forall_mem_cons.mpr ⟨tw_673, List.forall_mem_cons.mpr ⟨tw_674, List.forall_mem_cons.mpr ⟨tw_51, nil_in⟩⟩⟩⟩) (by decide +kernel)) hT_X10_leave
set_option maxRecDepth 100000 in
theorem im_wsX11_leave : ∀ w ∈ wsX11_leave, w ∈ lw_tbl := by
  unfold wsX11_leave
  exact (List.forall_mem_cons.mpr ⟨tw_1143, (List.forall_mem_append.mpr ⟨(List.forall_mem_cons.mpr ⟨tw_873, (List.forall_mem_cons.mpr ⟨tw_872, (List.forall_mem_cons.mpr ⟨tw_904, (List.forall_mem_cons.mpr ⟨tw_905, (List.forall_mem_cons.mpr ⟨tw_1063, (List.forall_mem_cons.mpr ⟨tw_1064, (List.forall_mem_cons.mpr ⟨tw_62, (List.forall_mem_cons.mpr ⟨tw_1065, nil_in⟩)⟩)⟩)⟩)⟩)⟩)⟩)⟩), in_wsX110⟩)⟩)
theorem hT_X11_leave : GoodIn lw_tbl wsX11_leave := goodIn_sub im_wsX11_leave (by decide +kernel)
theorem gT_X11_leave : GoodIn lw_tbl (wsV RL 55 RX11 yX11_leave wsX11_leave) := goodIn_app (goodIn_sub (List.forall_mem_cons.mpr ⟨tw_1140, List.forall_mem_cons.mpr ⟨tw_1141, List.forall_mem_cons.mpr ⟨tw_1142, List.forall_mem_cons.mpr ⟨tw_62, nil_in⟩⟩⟩⟩) (by decide +kernel)) hT_X11_leave
set_option maxRecDepth 100000 in
theorem im_wsX10_look_r1 : ∀ w ∈ wsX10_look_r1, w ∈ lw_tbl := by
  unfold wsX10_look_r1
  exact (List.forall_mem_cons.mpr ⟨tw_456, (List.forall_mem_cons.mpr ⟨tw_453, (List.forall_mem_cons.mpr ⟨tw_321, (List.forall_mem_cons.mpr ⟨tw_169, (List.forall_mem_cons.mpr ⟨tw_325, (List.forall_mem_cons.mpr ⟨tw_458, (List.forall_mem_cons.mpr ⟨tw_459, (List.forall_mem_cons.mpr ⟨tw_680, (List.forall_mem_cons.mpr ⟨tw_681, (List.forall_mem_cons.mpr ⟨tw_682, (List.forall_mem_cons.mpr ⟨tw_52, (List.forall_mem_cons.mpr ⟨tw_683, (List.forall_mem_cons.mpr ⟨tw_322, (List.forall_mem_cons.mpr ⟨tw_684, (List.forall_mem_cons.mpr ⟨tw_685, (List.forall_mem_cons.mpr ⟨tw_686, (List.forall_mem_cons.mpr ⟨tw_687, (List.forall_mem_cons.mpr ⟨tw_314, (List.forall_mem_cons.mpr ⟨tw_274, (List.forall_mem_cons.mpr ⟨tw_277, (List.forall_mem_cons.mpr ⟨tw_480, (List.forall_mem_cons.mpr ⟨tw_51, (List.forall_mem_cons.mpr ⟨tw_481, (List.forall_mem_cons.mpr ⟨tw_689, nil_in⟩)⟩)⟩)⟩)⟩)⟩)⟩)⟩)⟩)⟩)⟩)⟩)⟩)⟩)⟩)⟩)⟩)⟩)⟩)⟩)⟩)⟩)⟩)⟩)
set_option maxRecDepth 100000 in
theorem im_wsX10_look_r2 : ∀ w ∈ wsX10_look_r2, w ∈ lw_tbl := by
  unfold wsX10_look_r2
  exact (List.forall_mem_cons.mpr ⟨tw_690, (List.forall_mem_cons.mpr ⟨tw_691, (List.forall_mem_cons.mpr ⟨tw_692, (List.forall_mem_cons.mpr ⟨tw_308, (List.forall_mem_cons.mpr ⟨tw_226, nil_in⟩)⟩)⟩)⟩)⟩)
set_option maxRecDepth 100000 in
theorem im_wsX10_look : ∀ w ∈ wsX10_look, w ∈ lw_tbl := by
  unfold wsX10_look
  exact (List.forall_mem_cons.mpr ⟨tw_679, (List.forall_mem_append.mpr ⟨(List.forall_mem_append.mpr ⟨(List.forall_mem_append.mpr ⟨(List.forall_mem_append.mpr ⟨(List.forall_mem_append.mpr ⟨(List.forall_mem_append.mpr ⟨im_wsX10_look_r1, im_wsX10_look_r2⟩), in_wsX100⟩), in_wsX90⟩), in_wsX20⟩), in_wsX40⟩), in_wsX70⟩)⟩)
theorem hT_X10_look : GoodIn lw_tbl wsX10_look := goodIn_sub im_wsX10_look (by decide +kernel)
theorem gT_X10_look : GoodIn lw_tbl (wsV RL 56 RX10 yX10_look wsX10_look) := goodIn_app (goodIn_sub (List.forall_mem_cons.mpr ⟨tw_676, List.forall_mem_cons.mpr ⟨tw_677, List.forall_mem_cons.mpr ⟨tw_678, List.forall_mem_cons.mpr ⟨tw_51, nil_in⟩⟩⟩⟩) (by decide +kernel)) hT_X10_look
set_option maxRecDepth 100000 in
theorem im_wsX11_look : ∀ w ∈ wsX11_look, w ∈ lw_tbl := by
  unfold wsX11_look
  exact (List.forall_mem_cons.mpr ⟨tw_1238, (List.forall_mem_append.mpr ⟨(List.forall_mem_cons.mpr ⟨tw_872, (List.forall_mem_cons.mpr ⟨tw_874, (List.forall_mem_cons.mpr ⟨tw_873, (List.forall_mem_cons.mpr ⟨tw_926, (List.forall_mem_cons.mpr ⟨tw_931, (List.forall_mem_cons.mpr ⟨tw_932, (List.forall_mem_cons.mpr ⟨tw_1167, (List.forall_mem_cons.mpr ⟨tw_1169, (List.forall_mem_cons.mpr ⟨tw_41, (List.forall_mem_cons.mpr ⟨tw_62, (List.forall_mem_cons.mpr ⟨tw_1170, (List.forall_mem_cons.mpr ⟨tw_1151, (List.forall_mem_cons.mpr ⟨tw_1153, (List.forall_mem_cons.mpr ⟨tw_37, (List.forall_mem_cons.mpr ⟨tw_1154, (List.forall_mem_cons.mpr ⟨tw_904, (List.forall_mem_cons.mpr ⟨tw_905, (List.forall_mem_cons.mpr ⟨tw_1063, (List.forall_mem_cons.mpr ⟨tw_1064, (List.forall_mem_cons.mpr ⟨tw_1065, nil_in⟩)⟩)⟩)⟩)⟩)⟩)⟩)⟩)⟩)⟩)⟩)⟩)⟩)⟩)⟩)⟩)⟩)⟩)⟩)⟩), in_wsX110⟩)⟩)
theorem hT_X11_look : GoodIn lw_tbl wsX11_look := goodIn_sub im_wsX11_look (by decide +kernel)
theorem gT_X11_look : GoodIn lw_tbl (wsV RL 59 RX11 yX11_look wsX11_look) := goodIn_app (goodIn_sub (List.forall_mem_cons.mpr ⟨tw_1235, List.forall_mem_cons.mpr ⟨tw_1236, List.forall_mem_cons.mpr ⟨tw_1237, List.forall_mem_cons.mpr ⟨tw_62, nil_in⟩⟩⟩⟩) (by decide +kernel)) hT_X11_look
set_option maxRecDepth 100000 in
theorem im_wsX10_plan_r1 : ∀ w ∈ wsX10_plan_r1, w ∈ lw_tbl := by
  unfold wsX10_plan_r1
  exact (List.forall_mem_cons.mpr ⟨tw_453, (List.forall_mem_cons.mpr ⟨tw_454, (List.forall_mem_cons.mpr ⟨tw_401, (List.forall_mem_cons.mpr ⟨tw_697, (List.forall_mem_cons.mpr ⟨tw_699, (List.forall_mem_cons.mpr ⟨tw_16, (List.forall_mem_cons.mpr ⟨tw_51, (List.forall_mem_cons.mpr ⟨tw_700, (List.forall_mem_cons.mpr ⟨tw_456, (List.forall_mem_cons.mpr ⟨tw_701, (List.forall_mem_cons.mpr ⟨tw_685, (List.forall_mem_cons.mpr ⟨tw_686, (List.forall_mem_cons.mpr ⟨tw_52, (List.forall_mem_cons.mpr ⟨tw_687, (List.forall_mem_cons.mpr ⟨tw_322, (List.forall_mem_cons.mpr ⟨tw_314, (List.forall_mem_cons.mpr ⟨tw_274, (List.forall_mem_cons.mpr ⟨tw_277, (List.forall_mem_cons.mpr ⟨tw_480, (List.forall_mem_cons.mpr ⟨tw_481, (List.forall_mem_cons.mpr ⟨tw_702, (List.forall_mem_cons.mpr ⟨tw_703, (List.forall_mem_cons.mpr ⟨tw_704, (List.forall_mem_cons.mpr ⟨tw_59, nil_in⟩)⟩)⟩)⟩)⟩)⟩)⟩)⟩)⟩)⟩)⟩)⟩)⟩)⟩)⟩)⟩)⟩)⟩)⟩)⟩)⟩)⟩)⟩)⟩)
set_option maxRecDepth 100000 in
theorem im_wsX10_plan_r2 : ∀ w ∈ wsX10_plan_r2, w ∈ lw_tbl := by
  unfold wsX10_plan_r2
  exact (List.forall_mem_cons.mpr ⟨tw_705, (List.forall_mem_cons.mpr ⟨tw_323, (List.forall_mem_cons.mpr ⟨tw_315, (List.forall_mem_cons.mpr ⟨tw_269, (List.forall_mem_cons.mpr ⟨tw_706, (List.forall_mem_cons.mpr ⟨tw_707, (List.forall_mem_cons.mpr ⟨tw_708, (List.forall_mem_cons.mpr ⟨tw_709, (List.forall_mem_cons.mpr ⟨tw_402, (List.forall_mem_cons.mpr ⟨tw_404, (List.forall_mem_cons.mpr ⟨tw_710, (List.forall_mem_cons.mpr ⟨tw_711, (List.forall_mem_cons.mpr ⟨tw_67, (List.forall_mem_cons.mpr ⟨tw_712, (List.forall_mem_cons.mpr ⟨tw_713, (List.forall_mem_cons.mpr ⟨tw_714, (List.forall_mem_cons.mpr ⟨tw_715, (List.forall_mem_cons.mpr ⟨tw_716, (List.forall_mem_cons.mpr ⟨tw_717, (List.forall_mem_cons.mpr ⟨tw_718, (List.forall_mem_cons.mpr ⟨tw_719, (List.forall_mem_cons.mpr ⟨tw_720, (List.forall_mem_cons.mpr ⟨tw_320, (List.forall_mem_cons.mpr ⟨tw_167, nil_in⟩)⟩)⟩)⟩)⟩)⟩)⟩)⟩)⟩)⟩)⟩)⟩)⟩)⟩)⟩)⟩)⟩)⟩)⟩)⟩)⟩)⟩)⟩)⟩)
set_option maxRecDepth 100000 in
theorem im_wsX10_plan_r3 : ∀ w ∈ wsX10_plan_r3, w ∈ lw_tbl := by
  unfold wsX10_plan_r3
  exact (List.forall_mem_cons.mpr ⟨tw_272, (List.forall_mem_cons.mpr ⟨tw_399, (List.forall_mem_cons.mpr ⟨tw_142, (List.forall_mem_cons.mpr ⟨tw_368, (List.forall_mem_cons.mpr ⟨tw_145, (List.forall_mem_cons.mpr ⟨tw_148, (List.forall_mem_cons.mpr ⟨tw_151, (List.forall_mem_cons.mpr ⟨tw_280, (List.forall_mem_cons.mpr ⟨tw_721, (List.forall_mem_cons.mpr ⟨tw_722, (List.forall_mem_cons.mpr ⟨tw_723, (List.forall_mem_cons.mpr ⟨tw_60, (List.forall_mem_cons.mpr ⟨tw_724, (List.forall_mem_cons.mpr ⟨tw_354, (List.forall_mem_cons.mpr ⟨tw_356, (List.forall_mem_cons.mpr ⟨tw_358, (List.forall_mem_cons.mpr ⟨tw_362, (List.forall_mem_cons.mpr ⟨tw_364, (List.forall_mem_cons.mpr ⟨tw_367, (List.forall_mem_cons.mpr ⟨tw_725, (List.forall_mem_cons.mpr ⟨tw_726, (List.forall_mem_cons.mpr ⟨tw_727, (List.forall_mem_cons.mpr ⟨tw_728, (List.forall_mem_cons.mpr ⟨tw_730, nil_in⟩)⟩)⟩)⟩)⟩)⟩)⟩)⟩)⟩)⟩)⟩)⟩)⟩)⟩)⟩)⟩)⟩)⟩)⟩)⟩)⟩)⟩)⟩)⟩)
set_option maxRecDepth 100000 in
theorem im_wsX10_plan_r4 : ∀ w ∈ wsX10_plan_r4, w ∈ lw_tbl := by
  unfold wsX10_plan_r4
  exact (List.forall_mem_cons.mpr ⟨tw_17, (List.forall_mem_cons.mpr ⟨tw_731, (List.forall_mem_cons.mpr ⟨tw_310, (List.forall_mem_cons.mpr ⟨tw_313, (List.forall_mem_cons.mpr ⟨tw_355, (List.forall_mem_cons.mpr ⟨tw_736, (List.forall_mem_cons.mpr ⟨tw_737, (List.forall_mem_cons.mpr ⟨tw_68, (List.forall_mem_cons.mpr ⟨tw_738, (List.forall_mem_cons.mpr ⟨tw_732, (List.forall_mem_cons.mpr ⟨tw_734, (List.forall_mem_cons.mpr ⟨tw_18, (List.forall_mem_cons.mpr ⟨tw_735, (List.forall_mem_cons.mpr ⟨tw_357, (List.forall_mem_cons.mpr ⟨tw_216, (List.forall_mem_cons.mpr ⟨tw_210, (List.forall_mem_cons.mpr ⟨tw_213, (List.forall_mem_cons.mpr ⟨tw_207, (List.forall_mem_cons.mpr ⟨tw_365, (List.forall_mem_cons.mpr ⟨tw_739, (List.forall_mem_cons.mpr ⟨tw_740, (List.forall_mem_cons.mpr ⟨tw_741, (List.forall_mem_cons.mpr ⟨tw_742, (List.forall_mem_cons.mpr ⟨tw_373, nil_in⟩)⟩)⟩)⟩)⟩)⟩)⟩)⟩)⟩)⟩)⟩)⟩)⟩)⟩)⟩)⟩)⟩)⟩)⟩)⟩)⟩)⟩)⟩)⟩)
set_option maxRecDepth 100000 in
theorem im_wsX10_plan_r5 : ∀ w ∈ wsX10_plan_r5, w ∈ lw_tbl := by
  unfold wsX10_plan_r5
  exact (List.forall_mem_cons.mpr ⟨tw_369, (List.forall_mem_cons.mpr ⟨tw_371, (List.forall_mem_cons.mpr ⟨tw_375, (List.forall_mem_cons.mpr ⟨tw_743, (List.forall_mem_cons.mpr ⟨tw_745, (List.forall_mem_cons.mpr ⟨tw_19, (List.forall_mem_cons.mpr ⟨tw_746, (List.forall_mem_cons.mpr ⟨tw_747, (List.forall_mem_cons.mpr ⟨tw_748, (List.forall_mem_cons.mpr ⟨tw_749, (List.forall_mem_cons.mpr ⟨tw_750, (List.forall_mem_cons.mpr ⟨tw_752, (List.forall_mem_cons.mpr ⟨tw_20, (List.forall_mem_cons.mpr ⟨tw_753, (List.forall_mem_cons.mpr ⟨tw_257, (List.forall_mem_cons.mpr ⟨tw_254, (List.forall_mem_cons.mpr ⟨tw_754, (List.forall_mem_cons.mpr ⟨tw_755, (List.forall_mem_cons.mpr ⟨tw_756, (List.forall_mem_cons.mpr ⟨tw_757, (List.forall_mem_cons.mpr ⟨tw_758, (List.forall_mem_cons.mpr ⟨tw_759, (List.forall_mem_cons.mpr ⟨tw_760, (List.forall_mem_cons.mpr ⟨tw_761, nil_in⟩)⟩)⟩)⟩)⟩)⟩)⟩)⟩)⟩)⟩)⟩)⟩)⟩)⟩)⟩)⟩)⟩)⟩)⟩)⟩)⟩)⟩)⟩)⟩)
set_option maxRecDepth 100000 in
theorem im_wsX10_plan_r6 : ∀ w ∈ wsX10_plan_r6, w ∈ lw_tbl := by
  unfold wsX10_plan_r6
  exact (List.forall_mem_cons.mpr ⟨tw_763, (List.forall_mem_cons.mpr ⟨tw_21, (List.forall_mem_cons.mpr ⟨tw_764, nil_in⟩)⟩)⟩)
set_option maxRecDepth 100000 in
theorem im_wsX10_plan : ∀ w ∈ wsX10_plan, w ∈ lw_tbl := by
  unfold wsX10_plan
  exact (List.forall_mem_cons.mpr ⟨tw_696, (List.forall_mem_append.mpr ⟨(List.forall_mem_append.mpr ⟨(List.forall_mem_append.mpr ⟨(List.forall_mem_append.mpr ⟨(List.forall_mem_append.mpr ⟨(List.forall_mem_append.mpr ⟨(List.forall_mem_append.mpr ⟨(List.forall_mem_append.mpr ⟨(List.forall_mem_append.mpr ⟨(List.forall_mem_append.mpr ⟨im_wsX10_plan_r1, (List.forall_mem_append.mpr ⟨im_wsX10_plan_r2, (List.forall_mem_append.mpr ⟨im_wsX10_plan_r3, (List.forall_mem_append.mpr ⟨im_wsX10_plan_r4, (List.forall_mem_append.mpr ⟨im_wsX10_plan_r5, im_wsX10_plan_r6⟩)⟩)⟩)⟩)⟩), in_wsX100⟩), in_wsX30⟩), in_wsX90⟩), in_wsX40⟩), in_wsX20⟩), in_wsX60⟩), in_wsX50⟩), in_wsX70⟩), in_wsX00⟩)⟩)
theorem hT_X10_plan : GoodIn lw_tbl wsX10_plan := goodIn_sub im_wsX10_plan (by decide +kernel)
theorem gT_X10_plan : GoodIn lw_tbl (wsV RL 60 RX10 yX10_plan wsX10_plan) := goodIn_app (goodIn_sub (List.forall_mem_cons.mpr ⟨tw_693, List.forall_mem_cons.mpr ⟨tw_694, List.forall_mem_cons.mpr ⟨tw_695, List.forall_mem_cons.mpr ⟨tw_51, nil_in⟩⟩⟩⟩) (by decide +kernel)) hT_X10_plan
set_option maxRecDepth 100000 in
theorem im_wsX11_plan_r1 : ∀ w ∈ wsX11_plan_r1, w ∈ lw_tbl := by
  unfold wsX11_plan_r1
  exact (List.forall_mem_cons.mpr ⟨tw_872, (List.forall_mem_cons.mpr ⟨tw_913, (List.forall_mem_cons.mpr ⟨tw_914, (List.forall_mem_cons.mpr ⟨tw_915, (List.forall_mem_cons.mpr ⟨tw_916, (List.forall_mem_cons.mpr ⟨tw_918, (List.forall_mem_cons.mpr ⟨tw_919, (List.forall_mem_cons.mpr ⟨tw_920, (List.forall_mem_cons.mpr ⟨tw_1148, (List.forall_mem_cons.mpr ⟨tw_1149, (List.forall_mem_cons.mpr ⟨tw_62, (List.forall_mem_cons.mpr ⟨tw_1150, (List.forall_mem_cons.mpr ⟨tw_1063, (List.forall_mem_cons.mpr ⟨tw_1064, (List.forall_mem_cons.mpr ⟨tw_1065, (List.forall_mem_cons.mpr ⟨tw_1151, (List.forall_mem_cons.mpr ⟨tw_1153, (List.forall_mem_cons.mpr ⟨tw_37, (List.forall_mem_cons.mpr ⟨tw_1154, (List.forall_mem_cons.mpr ⟨tw_873, (List.forall_mem_cons.mpr ⟨tw_904, (List.forall_mem_cons.mpr ⟨tw_905, (List.forall_mem_cons.mpr ⟨tw_1155, (List.forall_mem_cons.mpr ⟨tw_1157, nil_in⟩)⟩)⟩)⟩)⟩)⟩)⟩)⟩)⟩)⟩)⟩)⟩)⟩)⟩)⟩)⟩)⟩)⟩)⟩)⟩)⟩)⟩)⟩)⟩)
set_option maxRecDepth 100000 in
theorem im_wsX11_plan_r2 : ∀ w ∈ wsX11_plan_r2, w ∈ lw_tbl := by
  unfold wsX11_plan_r2
  exact (List.forall_mem_cons.mpr ⟨tw_38, (List.forall_mem_cons.mpr ⟨tw_1158, (List.forall_mem_cons.mpr ⟨tw_902, (List.forall_mem_cons.mpr ⟨tw_912, (List.forall_mem_cons.mpr ⟨tw_1159, (List.forall_mem_cons.mpr ⟨tw_1161, (List.forall_mem_cons.mpr ⟨tw_39, (List.forall_mem_cons.mpr ⟨tw_1162, (List.forall_mem_cons.mpr ⟨tw_1163, (List.forall_mem_cons.mpr ⟨tw_1165, (List.forall_mem_cons.mpr ⟨tw_40, (List.forall_mem_cons.mpr ⟨tw_1166, (List.forall_mem_cons.mpr ⟨tw_911, (List.forall_mem_cons.mpr ⟨tw_917, (List.forall_mem_cons.mpr ⟨tw_1167, (List.forall_mem_cons.mpr ⟨tw_1169, (List.forall_mem_cons.mpr ⟨tw_41, (List.forall_mem_cons.mpr ⟨tw_1170, (List.forall_mem_cons.mpr ⟨tw_1171, (List.forall_mem_cons.mpr ⟨tw_1173, (List.forall_mem_cons.mpr ⟨tw_42, (List.forall_mem_cons.mpr ⟨tw_1174, (List.forall_mem_cons.mpr ⟨tw_921, (List.forall_mem_cons.mpr ⟨tw_884, nil_in⟩)⟩)⟩)⟩)⟩)⟩)⟩)⟩)⟩)⟩)⟩)⟩)⟩)⟩)⟩)⟩)⟩)⟩)⟩)⟩)⟩)⟩)⟩)⟩)
set_option maxRecDepth 100000 in
theorem im_wsX11_plan_r3 : ∀ w ∈ wsX11_plan_r3, w ∈ lw_tbl := by
  unfold wsX11_plan_r3
  exact (List.forall_mem_cons.mpr ⟨tw_903, (List.forall_mem_cons.mpr ⟨tw_885, (List.forall_mem_cons.mpr ⟨tw_878, (List.forall_mem_cons.mpr ⟨tw_906, (List.forall_mem_cons.mpr ⟨tw_1175, (List.forall_mem_cons.mpr ⟨tw_1177, (List.forall_mem_cons.mpr ⟨tw_43, (List.forall_mem_cons.mpr ⟨tw_1178, (List.forall_mem_cons.mpr ⟨tw_1179, (List.forall_mem_cons.mpr ⟨tw_1181, (List.forall_mem_cons.mpr ⟨tw_44, (List.forall_mem_cons.mpr ⟨tw_1182, (List.forall_mem_cons.mpr ⟨tw_876, (List.forall_mem_cons.mpr ⟨tw_877, (List.forall_mem_cons.mpr ⟨tw_875, (List.forall_mem_cons.mpr ⟨tw_1183, (List.forall_mem_cons.mpr ⟨tw_1185, (List.forall_mem_cons.mpr ⟨tw_45, (List.forall_mem_cons.mpr ⟨tw_1186, (List.forall_mem_cons.mpr ⟨tw_1187, (List.forall_mem_cons.mpr ⟨tw_1189, (List.forall_mem_cons.mpr ⟨tw_46, (List.forall_mem_cons.mpr ⟨tw_1190, (List.forall_mem_cons.mpr ⟨tw_1191, nil_in⟩)⟩)⟩)⟩)⟩)⟩)⟩)⟩)⟩)⟩)⟩)⟩)⟩)⟩)⟩)⟩)⟩)⟩)⟩)⟩)⟩)⟩)⟩)⟩)
set_option maxRecDepth 100000 in
theorem im_wsX11_plan_r4 : ∀ w ∈ wsX11_plan_r4, w ∈ lw_tbl := by
  unfold wsX11_plan_r4
  exact (List.forall_mem_cons.mpr ⟨tw_1193, (List.forall_mem_cons.mpr ⟨tw_47, (List.forall_mem_cons.mpr ⟨tw_1194, (List.forall_mem_cons.mpr ⟨tw_881, (List.forall_mem_cons.mpr ⟨tw_879, nil_in⟩)⟩)⟩)⟩)⟩)
set_option maxRecDepth 100000 in
theorem im_wsX11_plan : ∀ w ∈ wsX11_plan, w ∈ lw_tbl := by
  unfold wsX11_plan
  exact (List.forall_mem_cons.mpr ⟨tw_1147, (List.forall_mem_append.mpr ⟨(List.forall_mem_append.mpr ⟨im_wsX11_plan_r1, (List.forall_mem_append.mpr ⟨im_wsX11_plan_r2, (List.forall_mem_append.mpr ⟨im_wsX11_plan_r3, im_wsX11_plan_r4⟩)⟩)⟩), in_wsX110⟩)⟩)
theorem hT_X11_plan : GoodIn lw_tbl wsX11_plan := goodIn_sub im_wsX11_plan (by decide +kernel)
theorem gT_X11_plan : GoodIn lw_tbl (wsV RL 64 RX11 yX11_plan wsX11_plan) := goodIn_app (goodIn_sub (List.forall_mem_cons.mpr ⟨tw_1144, List.forall_mem_cons.mpr ⟨tw_1145, List.forall_mem_cons.mpr ⟨tw_1146, List.forall_mem_cons.mpr ⟨tw_62, nil_in⟩⟩⟩⟩) (by decide +kernel)) hT_X11_plan
set_option maxRecDepth 100000 in
theorem im_wsX10_taken_r1 : ∀ w ∈ wsX10_taken_r1, w ∈ lw_tbl := by
  unfold wsX10_taken_r1
  exact (List.forall_mem_cons.mpr ⟨tw_454, (List.forall_mem_cons.mpr ⟨tw_453, (List.forall_mem_cons.mpr ⟨tw_403, (List.forall_mem_cons.mpr ⟨tw_697, (List.forall_mem_cons.mpr ⟨tw_699, (List.forall_mem_cons.mpr ⟨tw_16, (List.forall_mem_cons.mpr ⟨tw_51, (List.forall_mem_cons.mpr ⟨tw_700, (List.forall_mem_cons.mpr ⟨tw_456, (List.forall_mem_cons.mpr ⟨tw_479, (List.forall_mem_cons.mpr ⟨tw_480, (List.forall_mem_cons.mpr ⟨tw_481, (List.forall_mem_cons.mpr ⟨tw_702, (List.forall_mem_cons.mpr ⟨tw_703, (List.forall_mem_cons.mpr ⟨tw_704, (List.forall_mem_cons.mpr ⟨tw_59, (List.forall_mem_cons.mpr ⟨tw_705, (List.forall_mem_cons.mpr ⟨tw_323, (List.forall_mem_cons.mpr ⟨tw_315, (List.forall_mem_cons.mpr ⟨tw_269, (List.forall_mem_cons.mpr ⟨tw_706, (List.forall_mem_cons.mpr ⟨tw_707, (List.forall_mem_cons.mpr ⟨tw_708, (List.forall_mem_cons.mpr ⟨tw_709, nil_in⟩)⟩)⟩)⟩)⟩)⟩)⟩)⟩)⟩)⟩)⟩)⟩)⟩)⟩)⟩)⟩)⟩)⟩)⟩)⟩)⟩)⟩)⟩)⟩)
set_option maxRecDepth 100000 in
theorem im_wsX10_taken_r2 : ∀ w ∈ wsX10_taken_r2, w ∈ lw_tbl := by
  unfold wsX10_taken_r2
  exact (List.forall_mem_cons.mpr ⟨tw_402, (List.forall_mem_cons.mpr ⟨tw_404, (List.forall_mem_cons.mpr ⟨tw_710, (List.forall_mem_cons.mpr ⟨tw_711, (List.forall_mem_cons.mpr ⟨tw_67, (List.forall_mem_cons.mpr ⟨tw_712, (List.forall_mem_cons.mpr ⟨tw_713, (List.forall_mem_cons.mpr ⟨tw_714, (List.forall_mem_cons.mpr ⟨tw_715, (List.forall_mem_cons.mpr ⟨tw_716, (List.forall_mem_cons.mpr ⟨tw_685, (List.forall_mem_cons.mpr ⟨tw_686, (List.forall_mem_cons.mpr ⟨tw_52, (List.forall_mem_cons.mpr ⟨tw_687, (List.forall_mem_cons.mpr ⟨tw_322, (List.forall_mem_cons.mpr ⟨tw_314, (List.forall_mem_cons.mpr ⟨tw_274, (List.forall_mem_cons.mpr ⟨tw_277, (List.forall_mem_cons.mpr ⟨tw_717, (List.forall_mem_cons.mpr ⟨tw_718, (List.forall_mem_cons.mpr ⟨tw_719, (List.forall_mem_cons.mpr ⟨tw_720, (List.forall_mem_cons.mpr ⟨tw_320, (List.forall_mem_cons.mpr ⟨tw_167, nil_in⟩)⟩)⟩)⟩)⟩)⟩)⟩)⟩)⟩)⟩)⟩)⟩)⟩)⟩)⟩)⟩)⟩)⟩)⟩)⟩)⟩)⟩)⟩)⟩)
set_option maxRecDepth 100000 in
theorem im_wsX10_taken_r3 : ∀ w ∈ wsX10_taken_r3, w ∈ lw_tbl := by
  unfold wsX10_taken_r3
  exact (List.forall_mem_cons.mpr ⟨tw_272, (List.forall_mem_cons.mpr ⟨tw_399, (List.forall_mem_cons.mpr ⟨tw_142, (List.forall_mem_cons.mpr ⟨tw_368, (List.forall_mem_cons.mpr ⟨tw_145, (List.forall_mem_cons.mpr ⟨tw_148, (List.forall_mem_cons.mpr ⟨tw_151, (List.forall_mem_cons.mpr ⟨tw_280, (List.forall_mem_cons.mpr ⟨tw_721, (List.forall_mem_cons.mpr ⟨tw_722, (List.forall_mem_cons.mpr ⟨tw_723, (List.forall_mem_cons.mpr ⟨tw_60, (List.forall_mem_cons.mpr ⟨tw_724, (List.forall_mem_cons.mpr ⟨tw_354, (List.forall_mem_cons.mpr ⟨tw_356, (List.forall_mem_cons.mpr ⟨tw_358, (List.forall_mem_cons.mpr ⟨tw_362, (List.forall_mem_cons.mpr ⟨tw_364, (List.forall_mem_cons.mpr ⟨tw_367, (List.forall_mem_cons.mpr ⟨tw_725, (List.forall_mem_cons.mpr ⟨tw_726, (List.forall_mem_cons.mpr ⟨tw_727, (List.forall_mem_cons.mpr ⟨tw_728, (List.forall_mem_cons.mpr ⟨tw_730, nil_in⟩)⟩)⟩)⟩)⟩)⟩)⟩)⟩)⟩)⟩)⟩)⟩)⟩)⟩)⟩)⟩)⟩)⟩)⟩)⟩)⟩)⟩)⟩)⟩)
set_option maxRecDepth 100000 in
theorem im_wsX10_taken_r4 : ∀ w ∈ wsX10_taken_r4, w ∈ lw_tbl := by
  unfold wsX10_taken_r4
  exact (List.forall_mem_cons.mpr ⟨tw_17, (List.forall_mem_cons.mpr ⟨tw_731, (List.forall_mem_cons.mpr ⟨tw_310, (List.forall_mem_cons.mpr ⟨tw_313, (List.forall_mem_cons.mpr ⟨tw_355, (List.forall_mem_cons.mpr ⟨tw_736, (List.forall_mem_cons.mpr ⟨tw_737, (List.forall_mem_cons.mpr ⟨tw_68, (List.forall_mem_cons.mpr ⟨tw_738, (List.forall_mem_cons.mpr ⟨tw_732, (List.forall_mem_cons.mpr ⟨tw_734, (List.forall_mem_cons.mpr ⟨tw_18, (List.forall_mem_cons.mpr ⟨tw_735, (List.forall_mem_cons.mpr ⟨tw_357, (List.forall_mem_cons.mpr ⟨tw_216, (List.forall_mem_cons.mpr ⟨tw_210, (List.forall_mem_cons.mpr ⟨tw_213, (List.forall_mem_cons.mpr ⟨tw_207, (List.forall_mem_cons.mpr ⟨tw_365, (List.forall_mem_cons.mpr ⟨tw_739, (List.forall_mem_cons.mpr ⟨tw_740, (List.forall_mem_cons.mpr ⟨tw_741, (List.forall_mem_cons.mpr ⟨tw_742, (List.forall_mem_cons.mpr ⟨tw_373, nil_in⟩)⟩)⟩)⟩)⟩)⟩)⟩)⟩)⟩)⟩)⟩)⟩)⟩)⟩)⟩)⟩)⟩)⟩)⟩)⟩)⟩)⟩)⟩)⟩)
set_option maxRecDepth 100000 in
theorem im_wsX10_taken_r5 : ∀ w ∈ wsX10_taken_r5, w ∈ lw_tbl := by
  unfold wsX10_taken_r5
  exact (List.forall_mem_cons.mpr ⟨tw_369, (List.forall_mem_cons.mpr ⟨tw_371, (List.forall_mem_cons.mpr ⟨tw_375, (List.forall_mem_cons.mpr ⟨tw_743, (List.forall_mem_cons.mpr ⟨tw_745, (List.forall_mem_cons.mpr ⟨tw_19, (List.forall_mem_cons.mpr ⟨tw_746, (List.forall_mem_cons.mpr ⟨tw_747, (List.forall_mem_cons.mpr ⟨tw_748, (List.forall_mem_cons.mpr ⟨tw_749, (List.forall_mem_cons.mpr ⟨tw_750, (List.forall_mem_cons.mpr ⟨tw_752, (List.forall_mem_cons.mpr ⟨tw_20, (List.forall_mem_cons.mpr ⟨tw_753, (List.forall_mem_cons.mpr ⟨tw_257, (List.forall_mem_cons.mpr ⟨tw_254, (List.forall_mem_cons.mpr ⟨tw_754, (List.forall_mem_cons.mpr ⟨tw_755, (List.forall_mem_cons.mpr ⟨tw_756, nil_in⟩)⟩)⟩)⟩)⟩)⟩)⟩)⟩)⟩)⟩)⟩)⟩)⟩)⟩)⟩)⟩)⟩)⟩)⟩)
set_option maxRecDepth 100000 in
theorem im_wsX10_taken : ∀ w ∈ wsX10_taken, w ∈ lw_tbl := by
  unfold wsX10_taken
  exact (List.forall_mem_cons.mpr ⟨tw_768, (List.forall_mem_append.mpr ⟨(List.forall_mem_append.mpr ⟨(List.forall_mem_append.mpr ⟨(List.forall_mem_append.mpr ⟨(List.forall_mem_append.mpr ⟨(List.forall_mem_append.mpr ⟨(List.forall_mem_append.mpr ⟨(List.forall_mem_append.mpr ⟨(List.forall_mem_append.mpr ⟨(List.forall_mem_append.mpr ⟨im_wsX10_taken_r1, (List.forall_mem_append.mpr ⟨im_wsX10_taken_r2, (List.forall_mem_append.mpr ⟨im_wsX10_taken_r3, (List.forall_mem_append.mpr ⟨im_wsX10_taken_r4, im_wsX10_taken_r5⟩)⟩)⟩)⟩), in_wsX100⟩), in_wsX30⟩), in_wsX90⟩), in_wsX40⟩), in_wsX20⟩), in_wsX60⟩), in_wsX50⟩), in_wsX70⟩), in_wsX00⟩)⟩)
theorem hT_X10_taken : GoodIn lw_tbl wsX10_taken := goodIn_sub im_wsX10_taken (by decide +kernel)
theorem gT_X10_taken : GoodIn lw_tbl (wsV RL 65 RX10 yX10_taken wsX10_taken) := goodIn_app (goodIn_sub (List.forall_mem_cons.mpr ⟨tw_765, List.forall_mem_cons.mpr ⟨tw_766, List.forall_mem_cons.mpr ⟨tw_767, List.forall_mem_cons.mpr ⟨tw_51, nil_in⟩⟩⟩⟩) (by decide +kernel)) hT_X10_taken
set_option maxRecDepth 100000 in
theorem im_wsX11_taken_r1 : ∀ w ∈ wsX11_taken_r1, w ∈ lw_tbl := by
  unfold wsX11_taken_r1
  exact (List.forall_mem_cons.mpr ⟨tw_872, (List.forall_mem_cons.mpr ⟨tw_911, (List.forall_mem_cons.mpr ⟨tw_1148, (List.forall_mem_cons.mpr ⟨tw_1149, (List.forall_mem_cons.mpr ⟨tw_62, (List.forall_mem_cons.mpr ⟨tw_1150, (List.forall_mem_cons.mpr ⟨tw_1063, (List.forall_mem_cons.mpr ⟨tw_1064, (List.forall_mem_cons.mpr ⟨tw_1065, (List.forall_mem_cons.mpr ⟨tw_1060, (List.forall_mem_cons.mpr ⟨tw_1061, (List.forall_mem_cons.mpr ⟨tw_1062, (List.forall_mem_cons.mpr ⟨tw_1155, (List.forall_mem_cons.mpr ⟨tw_1157, (List.forall_mem_cons.mpr ⟨tw_38, (List.forall_mem_cons.mpr ⟨tw_1158, (List.forall_mem_cons.mpr ⟨tw_873, (List.forall_mem_cons.mpr ⟨tw_902, (List.forall_mem_cons.mpr ⟨tw_912, (List.forall_mem_cons.mpr ⟨tw_1151, (List.forall_mem_cons.mpr ⟨tw_1153, (List.forall_mem_cons.mpr ⟨tw_37, (List.forall_mem_cons.mpr ⟨tw_1154, (List.forall_mem_cons.mpr ⟨tw_904, nil_in⟩)⟩)⟩)⟩)⟩)⟩)⟩)⟩)⟩)⟩)⟩)⟩)⟩)⟩)⟩)⟩)⟩)⟩)⟩)⟩)⟩)⟩)⟩)⟩)
set_option maxRecDepth 100000 in
theorem im_wsX11_taken_r2 : ∀ w ∈ wsX11_taken_r2, w ∈ lw_tbl := by
  unfold wsX11_taken_r2
  exact (List.forall_mem_cons.mpr ⟨tw_905, (List.forall_mem_cons.mpr ⟨tw_1159, (List.forall_mem_cons.mpr ⟨tw_1161, (List.forall_mem_cons.mpr ⟨tw_39, (List.forall_mem_cons.mpr ⟨tw_1162, (List.forall_mem_cons.mpr ⟨tw_1163, (List.forall_mem_cons.mpr ⟨tw_1165, (List.forall_mem_cons.mpr ⟨tw_40, (List.forall_mem_cons.mpr ⟨tw_1166, (List.forall_mem_cons.mpr ⟨tw_917, (List.forall_mem_cons.mpr ⟨tw_1167, (List.forall_mem_cons.mpr ⟨tw_1169, (List.forall_mem_cons.mpr ⟨tw_41, (List.forall_mem_cons.mpr ⟨tw_1170, (List.forall_mem_cons.mpr ⟨tw_1171, (List.forall_mem_cons.mpr ⟨tw_1173, (List.forall_mem_cons.mpr ⟨tw_42, (List.forall_mem_cons.mpr ⟨tw_1174, (List.forall_mem_cons.mpr ⟨tw_913, (List.forall_mem_cons.mpr ⟨tw_914, (List.forall_mem_cons.mpr ⟨tw_915, (List.forall_mem_cons.mpr ⟨tw_916, (List.forall_mem_cons.mpr ⟨tw_921, (List.forall_mem_cons.mpr ⟨tw_884, nil_in⟩)⟩)⟩)⟩)⟩)⟩)⟩)⟩)⟩)⟩)⟩)⟩)⟩)⟩)⟩)⟩)⟩)⟩)⟩)⟩)⟩)⟩)⟩)⟩)
set_option maxRecDepth 100000 in
theorem im_wsX11_taken_r3 : ∀ w ∈ wsX11_taken_r3, w ∈ lw_tbl := by
  unfold wsX11_taken_r3
  exact (List.forall_mem_cons.mpr ⟨tw_903, (List.forall_mem_cons.mpr ⟨tw_885, (List.forall_mem_cons.mpr ⟨tw_878, (List.forall_mem_cons.mpr ⟨tw_906, (List.forall_mem_cons.mpr ⟨tw_1175, (List.forall_mem_cons.mpr ⟨tw_1177, (List.forall_mem_cons.mpr ⟨tw_43, (List.forall_mem_cons.mpr ⟨tw_1178, (List.forall_mem_cons.mpr ⟨tw_1179, (List.forall_mem_cons.mpr ⟨tw_1181, (List.forall_mem_cons.mpr ⟨tw_44, (List.forall_mem_cons.mpr ⟨tw_1182, (List.forall_mem_cons.mpr ⟨tw_876, (List.forall_mem_cons.mpr ⟨tw_877, (List.forall_mem_cons.mpr ⟨tw_875, (List.forall_mem_cons.mpr ⟨tw_1183, (List.forall_mem_cons.mpr ⟨tw_1185, (List.forall_mem_cons.mpr ⟨tw_45, (List.forall_mem_cons.mpr ⟨tw_1186, (List.forall_mem_cons.mpr ⟨tw_918, (List.forall_mem_cons.mpr ⟨tw_919, (List.forall_mem_cons.mpr ⟨tw_920, (List.forall_mem_cons.mpr ⟨tw_1187, (List.forall_mem_cons.mpr ⟨tw_1189, nil_in⟩)⟩)⟩)⟩)⟩)⟩)⟩)⟩)⟩)⟩)⟩)⟩)⟩)⟩)⟩)⟩)⟩)⟩)⟩)⟩)⟩)⟩)⟩)⟩)
set_option maxRecDepth 100000 in
theorem im_wsX11_taken_r4 : ∀ w ∈ wsX11_taken_r4, w ∈ lw_tbl := by
  unfold wsX11_taken_r4
  exact (List.forall_mem_cons.mpr ⟨tw_46, (List.forall_mem_cons.mpr ⟨tw_1190, (List.forall_mem_cons.mpr ⟨tw_1191, (List.forall_mem_cons.mpr ⟨tw_1193, (List.forall_mem_cons.mpr ⟨tw_47, (List.forall_mem_cons.mpr ⟨tw_1194, (List.forall_mem_cons.mpr ⟨tw_881, (List.forall_mem_cons.mpr ⟨tw_879, nil_in⟩)⟩)⟩)⟩)⟩)⟩)⟩)⟩)
set_option maxRecDepth 100000 in
theorem im_wsX11_taken : ∀ w ∈ wsX11_taken, w ∈ lw_tbl := by
  unfold wsX11_taken
  exact (List.forall_mem_cons.mpr ⟨tw_1198, (List.forall_mem_append.mpr ⟨(List.forall_mem_append.mpr ⟨im_wsX11_taken_r1, (List.forall_mem_append.mpr ⟨im_wsX11_taken_r2, (List.forall_mem_append.mpr ⟨im_wsX11_taken_r3, im_wsX11_taken_r4⟩)⟩)⟩), in_wsX110⟩)⟩)
theorem hT_X11_taken : GoodIn lw_tbl wsX11_taken := goodIn_sub im_wsX11_taken (by decide +kernel)
theorem gT_X11_taken : GoodIn lw_tbl (wsV RL 68 RX11 yX11_taken wsX11_taken) := goodIn_app (goodIn_sub (List.forall_mem_cons.mpr ⟨tw_1195, List.forall_mem_cons.mpr ⟨tw_1196, List.forall_mem_cons.mpr ⟨tw_1197, List.forall_mem_cons.mpr ⟨tw_62, nil_in⟩⟩⟩⟩) (by decide +kernel)) hT_X11_taken
set_option maxRecDepth 100000 in
theorem im_wsX10_best_r1 : ∀ w ∈ wsX10_best_r1, w ∈ lw_tbl := by
  unfold wsX10_best_r1
  exact (List.forall_mem_cons.mpr ⟨tw_453, (List.forall_mem_cons.mpr ⟨tw_455, (List.forall_mem_cons.mpr ⟨tw_454, (List.forall_mem_cons.mpr ⟨tw_697, (List.forall_mem_cons.mpr ⟨tw_699, (List.forall_mem_cons.mpr ⟨tw_16, (List.forall_mem_cons.mpr ⟨tw_51, (List.forall_mem_cons.mpr ⟨tw_700, (List.forall_mem_cons.mpr ⟨tw_456, (List.forall_mem_cons.mpr ⟨tw_680, (List.forall_mem_cons.mpr ⟨tw_681, (List.forall_mem_cons.mpr ⟨tw_682, (List.forall_mem_cons.mpr ⟨tw_52, (List.forall_mem_cons.mpr ⟨tw_683, (List.forall_mem_cons.mpr ⟨tw_322, (List.forall_mem_cons.mpr ⟨tw_684, (List.forall_mem_cons.mpr ⟨tw_685, (List.forall_mem_cons.mpr ⟨tw_686, (List.forall_mem_cons.mpr ⟨tw_687, (List.forall_mem_cons.mpr ⟨tw_314, (List.forall_mem_cons.mpr ⟨tw_274, (List.forall_mem_cons.mpr ⟨tw_277, (List.forall_mem_cons.mpr ⟨tw_480, (List.forall_mem_cons.mpr ⟨tw_481, nil_in⟩)⟩)⟩)⟩)⟩)⟩)⟩)⟩)⟩)⟩)⟩)⟩)⟩)⟩)⟩)⟩)⟩)⟩)⟩)⟩)⟩)⟩)⟩)⟩)
set_option maxRecDepth 100000 in
theorem im_wsX10_best_r2 : ∀ w ∈ wsX10_best_r2, w ∈ lw_tbl := by
  unfold wsX10_best_r2
  exact (List.forall_mem_cons.mpr ⟨tw_773, (List.forall_mem_cons.mpr ⟨tw_774, (List.forall_mem_cons.mpr ⟨tw_775, (List.forall_mem_cons.mpr ⟨tw_61, (List.forall_mem_cons.mpr ⟨tw_776, (List.forall_mem_cons.mpr ⟨tw_425, (List.forall_mem_cons.mpr ⟨tw_426, (List.forall_mem_cons.mpr ⟨tw_427, (List.forall_mem_cons.mpr ⟨tw_428, (List.forall_mem_cons.mpr ⟨tw_777, (List.forall_mem_cons.mpr ⟨tw_707, (List.forall_mem_cons.mpr ⟨tw_708, (List.forall_mem_cons.mpr ⟨tw_59, (List.forall_mem_cons.mpr ⟨tw_709, (List.forall_mem_cons.mpr ⟨tw_402, (List.forall_mem_cons.mpr ⟨tw_404, (List.forall_mem_cons.mpr ⟨tw_710, (List.forall_mem_cons.mpr ⟨tw_711, (List.forall_mem_cons.mpr ⟨tw_67, (List.forall_mem_cons.mpr ⟨tw_712, (List.forall_mem_cons.mpr ⟨tw_713, (List.forall_mem_cons.mpr ⟨tw_714, (List.forall_mem_cons.mpr ⟨tw_715, (List.forall_mem_cons.mpr ⟨tw_778, nil_in⟩)⟩)⟩)⟩)⟩)⟩)⟩)⟩)⟩)⟩)⟩)⟩)⟩)⟩)⟩)⟩)⟩)⟩)⟩)⟩)⟩)⟩)⟩)⟩)
set_option maxRecDepth 100000 in
theorem im_wsX10_best_r3 : ∀ w ∈ wsX10_best_r3, w ∈ lw_tbl := by
  unfold wsX10_best_r3
  exact (List.forall_mem_cons.mpr ⟨tw_780, (List.forall_mem_cons.mpr ⟨tw_22, (List.forall_mem_cons.mpr ⟨tw_781, (List.forall_mem_cons.mpr ⟨tw_424, (List.forall_mem_cons.mpr ⟨tw_324, (List.forall_mem_cons.mpr ⟨tw_418, (List.forall_mem_cons.mpr ⟨tw_419, (List.forall_mem_cons.mpr ⟨tw_400, (List.forall_mem_cons.mpr ⟨tw_360, (List.forall_mem_cons.mpr ⟨tw_420, (List.forall_mem_cons.mpr ⟨tw_363, (List.forall_mem_cons.mpr ⟨tw_421, (List.forall_mem_cons.mpr ⟨tw_782, (List.forall_mem_cons.mpr ⟨tw_783, (List.forall_mem_cons.mpr ⟨tw_718, (List.forall_mem_cons.mpr ⟨tw_719, (List.forall_mem_cons.mpr ⟨tw_720, (List.forall_mem_cons.mpr ⟨tw_315, (List.forall_mem_cons.mpr ⟨tw_320, (List.forall_mem_cons.mpr ⟨tw_167, (List.forall_mem_cons.mpr ⟨tw_272, (List.forall_mem_cons.mpr ⟨tw_399, (List.forall_mem_cons.mpr ⟨tw_142, (List.forall_mem_cons.mpr ⟨tw_368, nil_in⟩)⟩)⟩)⟩)⟩)⟩)⟩)⟩)⟩)⟩)⟩)⟩)⟩)⟩)⟩)⟩)⟩)⟩)⟩)⟩)⟩)⟩)⟩)⟩)
set_option maxRecDepth 100000 in
theorem im_wsX10_best_r4 : ∀ w ∈ wsX10_best_r4, w ∈ lw_tbl := by
  unfold wsX10_best_r4
  exact (List.forall_mem_cons.mpr ⟨tw_145, (List.forall_mem_cons.mpr ⟨tw_148, (List.forall_mem_cons.mpr ⟨tw_151, (List.forall_mem_cons.mpr ⟨tw_280, (List.forall_mem_cons.mpr ⟨tw_721, (List.forall_mem_cons.mpr ⟨tw_722, (List.forall_mem_cons.mpr ⟨tw_723, (List.forall_mem_cons.mpr ⟨tw_60, (List.forall_mem_cons.mpr ⟨tw_724, (List.forall_mem_cons.mpr ⟨tw_354, (List.forall_mem_cons.mpr ⟨tw_356, (List.forall_mem_cons.mpr ⟨tw_358, (List.forall_mem_cons.mpr ⟨tw_362, (List.forall_mem_cons.mpr ⟨tw_364, (List.forall_mem_cons.mpr ⟨tw_367, (List.forall_mem_cons.mpr ⟨tw_725, (List.forall_mem_cons.mpr ⟨tw_726, (List.forall_mem_cons.mpr ⟨tw_727, (List.forall_mem_cons.mpr ⟨tw_728, (List.forall_mem_cons.mpr ⟨tw_730, (List.forall_mem_cons.mpr ⟨tw_17, (List.forall_mem_cons.mpr ⟨tw_731, (List.forall_mem_cons.mpr ⟨tw_310, (List.forall_mem_cons.mpr ⟨tw_313, nil_in⟩)⟩)⟩)⟩)⟩)⟩)⟩)⟩)⟩)⟩)⟩)⟩)⟩)⟩)⟩)⟩)⟩)⟩)⟩)⟩)⟩)⟩)⟩)⟩)
set_option maxRecDepth 100000 in
theorem im_wsX10_best_r5 : ∀ w ∈ wsX10_best_r5, w ∈ lw_tbl := by
  unfold wsX10_best_r5
  exact (List.forall_mem_cons.mpr ⟨tw_355, (List.forall_mem_cons.mpr ⟨tw_736, (List.forall_mem_cons.mpr ⟨tw_737, (List.forall_mem_cons.mpr ⟨tw_68, (List.forall_mem_cons.mpr ⟨tw_738, (List.forall_mem_cons.mpr ⟨tw_732, (List.forall_mem_cons.mpr ⟨tw_734, (List.forall_mem_cons.mpr ⟨tw_18, (List.forall_mem_cons.mpr ⟨tw_735, (List.forall_mem_cons.mpr ⟨tw_357, (List.forall_mem_cons.mpr ⟨tw_216, (List.forall_mem_cons.mpr ⟨tw_210, (List.forall_mem_cons.mpr ⟨tw_213, (List.forall_mem_cons.mpr ⟨tw_207, (List.forall_mem_cons.mpr ⟨tw_365, (List.forall_mem_cons.mpr ⟨tw_739, (List.forall_mem_cons.mpr ⟨tw_740, (List.forall_mem_cons.mpr ⟨tw_741, (List.forall_mem_cons.mpr ⟨tw_742, (List.forall_mem_cons.mpr ⟨tw_373, (List.forall_mem_cons.mpr ⟨tw_369, (List.forall_mem_cons.mpr ⟨tw_371, (List.forall_mem_cons.mpr ⟨tw_375, (List.forall_mem_cons.mpr ⟨tw_743, nil_in⟩)⟩)⟩)⟩)⟩)⟩)⟩)⟩)⟩)⟩)⟩)⟩)⟩)⟩)⟩)⟩)⟩)⟩)⟩)⟩)⟩)⟩)⟩)⟩)
set_option maxRecDepth 100000 in
theorem im_wsX10_best_r6 : ∀ w ∈ wsX10_best_r6, w ∈ lw_tbl := by
  unfold wsX10_best_r6
  exact (List.forall_mem_cons.mpr ⟨tw_745, (List.forall_mem_cons.mpr ⟨tw_19, (List.forall_mem_cons.mpr ⟨tw_746, (List.forall_mem_cons.mpr ⟨tw_747, (List.forall_mem_cons.mpr ⟨tw_748, (List.forall_mem_cons.mpr ⟨tw_749, (List.forall_mem_cons.mpr ⟨tw_750, (List.forall_mem_cons.mpr ⟨tw_752, (List.forall_mem_cons.mpr ⟨tw_20, (List.forall_mem_cons.mpr ⟨tw_753, (List.forall_mem_cons.mpr ⟨tw_257, (List.forall_mem_cons.mpr ⟨tw_254, (List.forall_mem_cons.mpr ⟨tw_754, (List.forall_mem_cons.mpr ⟨tw_755, (List.forall_mem_cons.mpr ⟨tw_756, (List.forall_mem_cons.mpr ⟨tw_784, (List.forall_mem_cons.mpr ⟨tw_785, (List.forall_mem_cons.mpr ⟨tw_786, (List.forall_mem_cons.mpr ⟨tw_787, (List.forall_mem_cons.mpr ⟨tw_359, (List.forall_mem_cons.mpr ⟨tw_374, (List.forall_mem_cons.mpr ⟨tw_376, (List.forall_mem_cons.mpr ⟨tw_370, (List.forall_mem_cons.mpr ⟨tw_372, nil_in⟩)⟩)⟩)⟩)⟩)⟩)⟩)⟩)⟩)⟩)⟩)⟩)⟩)⟩)⟩)⟩)⟩)⟩)⟩)⟩)⟩)⟩)⟩)⟩)
set_option maxRecDepth 100000 in
theorem im_wsX10_best_r7 : ∀ w ∈ wsX10_best_r7, w ∈ lw_tbl := by
  unfold wsX10_best_r7
  exact (List.forall_mem_cons.mpr ⟨tw_788, (List.forall_mem_cons.mpr ⟨tw_789, (List.forall_mem_cons.mpr ⟨tw_790, (List.forall_mem_cons.mpr ⟨tw_791, (List.forall_mem_cons.mpr ⟨tw_792, (List.forall_mem_cons.mpr ⟨tw_794, (List.forall_mem_cons.mpr ⟨tw_23, (List.forall_mem_cons.mpr ⟨tw_795, (List.forall_mem_cons.mpr ⟨tw_796, (List.forall_mem_cons.mpr ⟨tw_798, (List.forall_mem_cons.mpr ⟨tw_24, (List.forall_mem_cons.mpr ⟨tw_799, (List.forall_mem_cons.mpr ⟨tw_422, (List.forall_mem_cons.mpr ⟨tw_423, (List.forall_mem_cons.mpr ⟨tw_800, (List.forall_mem_cons.mpr ⟨tw_802, (List.forall_mem_cons.mpr ⟨tw_801, (List.forall_mem_cons.mpr ⟨tw_69, (List.forall_mem_cons.mpr ⟨tw_803, (List.forall_mem_cons.mpr ⟨tw_805, (List.forall_mem_cons.mpr ⟨tw_25, (List.forall_mem_cons.mpr ⟨tw_806, (List.forall_mem_cons.mpr ⟨tw_807, (List.forall_mem_cons.mpr ⟨tw_809, nil_in⟩)⟩)⟩)⟩)⟩)⟩)⟩)⟩)⟩)⟩)⟩)⟩)⟩)⟩)⟩)⟩)⟩)⟩)⟩)⟩)⟩)⟩)⟩)⟩)
set_option maxRecDepth 100000 in
theorem im_wsX10_best_r8 : ∀ w ∈ wsX10_best_r8, w ∈ lw_tbl := by
  unfold wsX10_best_r8
  exact (List.forall_mem_cons.mpr ⟨tw_26, (List.forall_mem_cons.mpr ⟨tw_810, (List.forall_mem_cons.mpr ⟨tw_811, (List.forall_mem_cons.mpr ⟨tw_812, (List.forall_mem_cons.mpr ⟨tw_813, (List.forall_mem_cons.mpr ⟨tw_814, nil_in⟩)⟩)⟩)⟩)⟩)⟩)
set_option maxRecDepth 100000 in
theorem im_wsX10_best : ∀ w ∈ wsX10_best, w ∈ lw_tbl := by
  unfold wsX10_best
  exact (List.forall_mem_cons.mpr ⟨tw_772, (List.forall_mem_append.mpr ⟨(List.forall_mem_append.mpr ⟨(List.forall_mem_append.mpr ⟨(List.forall_mem_append.mpr ⟨(List.forall_mem_append.mpr ⟨(List.forall_mem_append.mpr ⟨(List.forall_mem_append.mpr ⟨(List.forall_mem_append.mpr ⟨(List.forall_mem_append.mpr ⟨(List.forall_mem_append.mpr ⟨(List.forall_mem_append.mpr ⟨im_wsX10_best_r1, (List.forall_mem_append.mpr ⟨im_wsX10_best_r2, (List.forall_mem_append.mpr ⟨im_wsX10_best_r3, (List.forall_mem_append.mpr ⟨im_wsX10_best_r4, (List.forall_mem_append.mpr ⟨im_wsX10_best_r5, (List.forall_mem_append.mpr ⟨im_wsX10_best_r6, (List.forall_mem_append.mpr ⟨im_wsX10_best_r7, im_wsX10_best_r8⟩)⟩)⟩)⟩)⟩)⟩)⟩), in_wsX100⟩), in_wsX90⟩), in_wsX40⟩), in_wsX10⟩), in_wsX30⟩), in_wsX50⟩), in_wsX20⟩), in_wsX60⟩), in_wsX70⟩), in_wsX00⟩)⟩)
theorem hT_X10_best : GoodIn lw_tbl wsX10_best := goodIn_sub im_wsX10_best (by decide +kernel)
theorem gT_X10_best : GoodIn lw_tbl (wsV RL 69 RX10 yX10_best wsX10_best) := goodIn_app (goodIn_sub (List.forall_mem_cons.mpr ⟨tw_769, List.forall_mem_cons.mpr ⟨tw_770, List.forall_mem_cons.mpr ⟨tw_771, List.forall_mem_cons.mpr ⟨tw_51, nil_in⟩⟩⟩⟩) (by decide +kernel)) hT_X10_best
set_option maxRecDepth 100000 in
theorem im_wsX11_best_r1 : ∀ w ∈ wsX11_best_r1, w ∈ lw_tbl := by
  unfold wsX11_best_r1
  exact (List.forall_mem_cons.mpr ⟨tw_872, (List.forall_mem_cons.mpr ⟨tw_923, (List.forall_mem_cons.mpr ⟨tw_924, (List.forall_mem_cons.mpr ⟨tw_922, (List.forall_mem_cons.mpr ⟨tw_1148, (List.forall_mem_cons.mpr ⟨tw_1149, (List.forall_mem_cons.mpr ⟨tw_62, (List.forall_mem_cons.mpr ⟨tw_1150, (List.forall_mem_cons.mpr ⟨tw_1063, (List.forall_mem_cons.mpr ⟨tw_1064, (List.forall_mem_cons.mpr ⟨tw_1065, (List.forall_mem_cons.mpr ⟨tw_1167, (List.forall_mem_cons.mpr ⟨tw_1169, (List.forall_mem_cons.mpr ⟨tw_41, (List.forall_mem_cons.mpr ⟨tw_1170, (List.forall_mem_cons.mpr ⟨tw_873, (List.forall_mem_cons.mpr ⟨tw_1151, (List.forall_mem_cons.mpr ⟨tw_1153, (List.forall_mem_cons.mpr ⟨tw_37, (List.forall_mem_cons.mpr ⟨tw_1154, (List.forall_mem_cons.mpr ⟨tw_904, (List.forall_mem_cons.mpr ⟨tw_905, (List.forall_mem_cons.mpr ⟨tw_1203, (List.forall_mem_cons.mpr ⟨tw_1205, nil_in⟩)⟩)⟩)⟩)⟩)⟩)⟩)⟩)⟩)⟩)⟩)⟩)⟩)⟩)⟩)⟩)⟩)⟩)⟩)⟩)⟩)⟩)⟩)⟩)
set_option maxRecDepth 100000 in
theorem im_wsX11_best_r2 : ∀ w ∈ wsX11_best_r2, w ∈ lw_tbl := by
  unfold wsX11_best_r2
  exact (List.forall_mem_cons.mpr ⟨tw_48, (List.forall_mem_cons.mpr ⟨tw_1206, (List.forall_mem_cons.mpr ⟨tw_912, (List.forall_mem_cons.mpr ⟨tw_913, (List.forall_mem_cons.mpr ⟨tw_914, (List.forall_mem_cons.mpr ⟨tw_1159, (List.forall_mem_cons.mpr ⟨tw_1161, (List.forall_mem_cons.mpr ⟨tw_39, (List.forall_mem_cons.mpr ⟨tw_1162, (List.forall_mem_cons.mpr ⟨tw_1163, (List.forall_mem_cons.mpr ⟨tw_1165, (List.forall_mem_cons.mpr ⟨tw_40, (List.forall_mem_cons.mpr ⟨tw_1166, (List.forall_mem_cons.mpr ⟨tw_911, (List.forall_mem_cons.mpr ⟨tw_917, (List.forall_mem_cons.mpr ⟨tw_1171, (List.forall_mem_cons.mpr ⟨tw_1173, (List.forall_mem_cons.mpr ⟨tw_42, (List.forall_mem_cons.mpr ⟨tw_1174, (List.forall_mem_cons.mpr ⟨tw_915, (List.forall_mem_cons.mpr ⟨tw_916, (List.forall_mem_cons.mpr ⟨tw_921, (List.forall_mem_cons.mpr ⟨tw_884, (List.forall_mem_cons.mpr ⟨tw_903, nil_in⟩)⟩)⟩)⟩)⟩)⟩)⟩)⟩)⟩)⟩)⟩)⟩)⟩)⟩)⟩)⟩)⟩)⟩)⟩)⟩)⟩)⟩)⟩)⟩)
set_option maxRecDepth 100000 in
theorem im_wsX11_best_r3 : ∀ w ∈ wsX11_best_r3, w ∈ lw_tbl := by
  unfold wsX11_best_r3
  exact (List.forall_mem_cons.mpr ⟨tw_885, (List.forall_mem_cons.mpr ⟨tw_878, (List.forall_mem_cons.mpr ⟨tw_906, (List.forall_mem_cons.mpr ⟨tw_1175, (List.forall_mem_cons.mpr ⟨tw_1177, (List.forall_mem_cons.mpr ⟨tw_43, (List.forall_mem_cons.mpr ⟨tw_1178, (List.forall_mem_cons.mpr ⟨tw_1179, (List.forall_mem_cons.mpr ⟨tw_1181, (List.forall_mem_cons.mpr ⟨tw_44, (List.forall_mem_cons.mpr ⟨tw_1182, (List.forall_mem_cons.mpr ⟨tw_876, (List.forall_mem_cons.mpr ⟨tw_877, (List.forall_mem_cons.mpr ⟨tw_875, (List.forall_mem_cons.mpr ⟨tw_1183, (List.forall_mem_cons.mpr ⟨tw_1185, (List.forall_mem_cons.mpr ⟨tw_45, (List.forall_mem_cons.mpr ⟨tw_1186, (List.forall_mem_cons.mpr ⟨tw_918, (List.forall_mem_cons.mpr ⟨tw_919, (List.forall_mem_cons.mpr ⟨tw_920, (List.forall_mem_cons.mpr ⟨tw_1187, (List.forall_mem_cons.mpr ⟨tw_1189, (List.forall_mem_cons.mpr ⟨tw_46, nil_in⟩)⟩)⟩)⟩)⟩)⟩)⟩)⟩)⟩)⟩)⟩)⟩)⟩)⟩)⟩)⟩)⟩)⟩)⟩)⟩)⟩)⟩)⟩)⟩)
set_option maxRecDepth 100000 in
theorem im_wsX11_best_r4 : ∀ w ∈ wsX11_best_r4, w ∈ lw_tbl := by
  unfold wsX11_best_r4
  exact (List.forall_mem_cons.mpr ⟨tw_1190, (List.forall_mem_cons.mpr ⟨tw_1191, (List.forall_mem_cons.mpr ⟨tw_1193, (List.forall_mem_cons.mpr ⟨tw_47, (List.forall_mem_cons.mpr ⟨tw_1194, (List.forall_mem_cons.mpr ⟨tw_881, (List.forall_mem_cons.mpr ⟨tw_879, (List.forall_mem_cons.mpr ⟨tw_1207, (List.forall_mem_cons.mpr ⟨tw_1209, (List.forall_mem_cons.mpr ⟨tw_49, (List.forall_mem_cons.mpr ⟨tw_1210, nil_in⟩)⟩)⟩)⟩)⟩)⟩)⟩)⟩)⟩)⟩)⟩)
set_option maxRecDepth 100000 in
theorem im_wsX11_best : ∀ w ∈ wsX11_best, w ∈ lw_tbl := by
  unfold wsX11_best
  exact (List.forall_mem_cons.mpr ⟨tw_1202, (List.forall_mem_append.mpr ⟨(List.forall_mem_append.mpr ⟨im_wsX11_best_r1, (List.forall_mem_append.mpr ⟨im_wsX11_best_r2, (List.forall_mem_append.mpr ⟨im_wsX11_best_r3, im_wsX11_best_r4⟩)⟩)⟩), in_wsX110⟩)⟩)
theorem hT_X11_best : GoodIn lw_tbl wsX11_best := goodIn_sub im_wsX11_best (by decide +kernel)
theorem gT_X11_best : GoodIn lw_tbl (wsV RL 73 RX11 yX11_best wsX11_best) := goodIn_app (goodIn_sub (List.forall_mem_cons.mpr ⟨tw_1199, List.forall_mem_cons.mpr ⟨tw_1200, List.forall_mem_cons.mpr ⟨tw_1201, List.forall_mem_cons.mpr ⟨tw_62, nil_in⟩⟩⟩⟩) (by decide +kernel)) hT_X11_best
set_option maxRecDepth 100000 in
theorem im_wsX10_keep : ∀ w ∈ wsX10_keep, w ∈ lw_tbl := by
  unfold wsX10_keep
  exact (List.forall_mem_cons.mpr ⟨tw_818, (List.forall_mem_append.mpr ⟨(List.forall_mem_append.mpr ⟨(List.forall_mem_append.mpr ⟨(List.forall_mem_cons.mpr ⟨tw_453, (List.forall_mem_cons.mpr ⟨tw_456, (List.forall_mem_cons.mpr ⟨tw_457, (List.forall_mem_cons.mpr ⟨tw_680, (List.forall_mem_cons.mpr ⟨tw_681, (List.forall_mem_cons.mpr ⟨tw_682, (List.forall_mem_cons.mpr ⟨tw_52, (List.forall_mem_cons.mpr ⟨tw_683, (List.forall_mem_cons.mpr ⟨tw_322, (List.forall_mem_cons.mpr ⟨tw_684, (List.forall_mem_cons.mpr ⟨tw_685, (List.forall_mem_cons.mpr ⟨tw_686, (List.forall_mem_cons.mpr ⟨tw_687, (List.forall_mem_cons.mpr ⟨tw_314, (List.forall_mem_cons.mpr ⟨tw_274, (List.forall_mem_cons.mpr ⟨tw_277, (List.forall_mem_cons.mpr ⟨tw_480, (List.forall_mem_cons.mpr ⟨tw_51, (List.forall_mem_cons.mpr ⟨tw_481, nil_in⟩)⟩)⟩)⟩)⟩)⟩)⟩)⟩)⟩)⟩)⟩)⟩)⟩)⟩)⟩)⟩)⟩)⟩)⟩), in_wsX100⟩), in_wsX90⟩), in_wsX40⟩)⟩)
theorem hT_X10_keep : GoodIn lw_tbl wsX10_keep := goodIn_sub im_wsX10_keep (by decide +kernel)
theorem gT_X10_keep : GoodIn lw_tbl (wsV RL 74 RX10 yX10_keep wsX10_keep) := goodIn_app (goodIn_sub (List.forall_mem_cons.mpr ⟨tw_815, List.forall_mem_cons.mpr ⟨tw_816, List.forall_mem_cons.mpr ⟨tw_817, List.forall_mem_cons.mpr ⟨tw_51, nil_in⟩⟩⟩⟩) (by decide +kernel)) hT_X10_keep
set_option maxRecDepth 100000 in
theorem im_wsX11_keep : ∀ w ∈ wsX11_keep, w ∈ lw_tbl := by
  unfold wsX11_keep
  exact (List.forall_mem_cons.mpr ⟨tw_1214, (List.forall_mem_append.mpr ⟨(List.forall_mem_cons.mpr ⟨tw_872, (List.forall_mem_cons.mpr ⟨tw_925, (List.forall_mem_cons.mpr ⟨tw_1167, (List.forall_mem_cons.mpr ⟨tw_1169, (List.forall_mem_cons.mpr ⟨tw_41, (List.forall_mem_cons.mpr ⟨tw_62, (List.forall_mem_cons.mpr ⟨tw_1170, (List.forall_mem_cons.mpr ⟨tw_873, (List.forall_mem_cons.mpr ⟨tw_1151, (List.forall_mem_cons.mpr ⟨tw_1153, (List.forall_mem_cons.mpr ⟨tw_37, (List.forall_mem_cons.mpr ⟨tw_1154, (List.forall_mem_cons.mpr ⟨tw_904, (List.forall_mem_cons.mpr ⟨tw_905, (List.forall_mem_cons.mpr ⟨tw_1063, (List.forall_mem_cons.mpr ⟨tw_1064, (List.forall_mem_cons.mpr ⟨tw_1065, nil_in⟩)⟩)⟩)⟩)⟩)⟩)⟩)⟩)⟩)⟩)⟩)⟩)⟩)⟩)⟩)⟩)⟩), in_wsX110⟩)⟩)
theorem hT_X11_keep : GoodIn lw_tbl wsX11_keep := goodIn_sub im_wsX11_keep (by decide +kernel)
theorem gT_X11_keep : GoodIn lw_tbl (wsV RL 78 RX11 yX11_keep wsX11_keep) := goodIn_app (goodIn_sub (List.forall_mem_cons.mpr ⟨tw_1211, List.forall_mem_cons.mpr ⟨tw_1212, List.forall_mem_cons.mpr ⟨tw_1213, List.forall_mem_cons.mpr ⟨tw_62, nil_in⟩⟩⟩⟩) (by decide +kernel)) hT_X11_keep
set_option maxRecDepth 100000 in
theorem im_wsX10_next_r1 : ∀ w ∈ wsX10_next_r1, w ∈ lw_tbl := by
  unfold wsX10_next_r1
  exact (List.forall_mem_cons.mpr ⟨tw_456, (List.forall_mem_cons.mpr ⟨tw_457, (List.forall_mem_cons.mpr ⟨tw_453, (List.forall_mem_cons.mpr ⟨tw_455, (List.forall_mem_cons.mpr ⟨tw_454, (List.forall_mem_cons.mpr ⟨tw_680, (List.forall_mem_cons.mpr ⟨tw_681, (List.forall_mem_cons.mpr ⟨tw_682, (List.forall_mem_cons.mpr ⟨tw_52, (List.forall_mem_cons.mpr ⟨tw_683, (List.forall_mem_cons.mpr ⟨tw_322, (List.forall_mem_cons.mpr ⟨tw_684, (List.forall_mem_cons.mpr ⟨tw_685, (List.forall_mem_cons.mpr ⟨tw_686, (List.forall_mem_cons.mpr ⟨tw_687, (List.forall_mem_cons.mpr ⟨tw_314, (List.forall_mem_cons.mpr ⟨tw_274, (List.forall_mem_cons.mpr ⟨tw_277, (List.forall_mem_cons.mpr ⟨tw_480, (List.forall_mem_cons.mpr ⟨tw_51, (List.forall_mem_cons.mpr ⟨tw_481, (List.forall_mem_cons.mpr ⟨tw_773, (List.forall_mem_cons.mpr ⟨tw_774, (List.forall_mem_cons.mpr ⟨tw_775, nil_in⟩)⟩)⟩)⟩)⟩)⟩)⟩)⟩)⟩)⟩)⟩)⟩)⟩)⟩)⟩)⟩)⟩)⟩)⟩)⟩)⟩)⟩)⟩)⟩)
set_option maxRecDepth 100000 in
theorem im_wsX10_next_r2 : ∀ w ∈ wsX10_next_r2, w ∈ lw_tbl := by
  unfold wsX10_next_r2
  exact (List.forall_mem_cons.mpr ⟨tw_61, (List.forall_mem_cons.mpr ⟨tw_776, (List.forall_mem_cons.mpr ⟨tw_425, (List.forall_mem_cons.mpr ⟨tw_426, (List.forall_mem_cons.mpr ⟨tw_427, (List.forall_mem_cons.mpr ⟨tw_428, (List.forall_mem_cons.mpr ⟨tw_777, (List.forall_mem_cons.mpr ⟨tw_707, (List.forall_mem_cons.mpr ⟨tw_708, (List.forall_mem_cons.mpr ⟨tw_59, (List.forall_mem_cons.mpr ⟨tw_709, (List.forall_mem_cons.mpr ⟨tw_402, (List.forall_mem_cons.mpr ⟨tw_404, (List.forall_mem_cons.mpr ⟨tw_710, (List.forall_mem_cons.mpr ⟨tw_711, (List.forall_mem_cons.mpr ⟨tw_67, (List.forall_mem_cons.mpr ⟨tw_712, (List.forall_mem_cons.mpr ⟨tw_713, (List.forall_mem_cons.mpr ⟨tw_714, (List.forall_mem_cons.mpr ⟨tw_715, (List.forall_mem_cons.mpr ⟨tw_778, (List.forall_mem_cons.mpr ⟨tw_780, (List.forall_mem_cons.mpr ⟨tw_22, (List.forall_mem_cons.mpr ⟨tw_781, nil_in⟩)⟩)⟩)⟩)⟩)⟩)⟩)⟩)⟩)⟩)⟩)⟩)⟩)⟩)⟩)⟩)⟩)⟩)⟩)⟩)⟩)⟩)⟩)⟩)
set_option maxRecDepth 100000 in
theorem im_wsX10_next_r3 : ∀ w ∈ wsX10_next_r3, w ∈ lw_tbl := by
  unfold wsX10_next_r3
  exact (List.forall_mem_cons.mpr ⟨tw_424, (List.forall_mem_cons.mpr ⟨tw_324, (List.forall_mem_cons.mpr ⟨tw_418, (List.forall_mem_cons.mpr ⟨tw_419, (List.forall_mem_cons.mpr ⟨tw_400, (List.forall_mem_cons.mpr ⟨tw_360, (List.forall_mem_cons.mpr ⟨tw_420, (List.forall_mem_cons.mpr ⟨tw_363, (List.forall_mem_cons.mpr ⟨tw_421, (List.forall_mem_cons.mpr ⟨tw_782, (List.forall_mem_cons.mpr ⟨tw_783, (List.forall_mem_cons.mpr ⟨tw_718, (List.forall_mem_cons.mpr ⟨tw_719, (List.forall_mem_cons.mpr ⟨tw_720, (List.forall_mem_cons.mpr ⟨tw_315, (List.forall_mem_cons.mpr ⟨tw_320, (List.forall_mem_cons.mpr ⟨tw_167, (List.forall_mem_cons.mpr ⟨tw_272, (List.forall_mem_cons.mpr ⟨tw_399, (List.forall_mem_cons.mpr ⟨tw_142, (List.forall_mem_cons.mpr ⟨tw_368, (List.forall_mem_cons.mpr ⟨tw_145, (List.forall_mem_cons.mpr ⟨tw_148, (List.forall_mem_cons.mpr ⟨tw_151, nil_in⟩)⟩)⟩)⟩)⟩)⟩)⟩)⟩)⟩)⟩)⟩)⟩)⟩)⟩)⟩)⟩)⟩)⟩)⟩)⟩)⟩)⟩)⟩)⟩)
set_option maxRecDepth 100000 in
theorem im_wsX10_next_r4 : ∀ w ∈ wsX10_next_r4, w ∈ lw_tbl := by
  unfold wsX10_next_r4
  exact (List.forall_mem_cons.mpr ⟨tw_280, (List.forall_mem_cons.mpr ⟨tw_721, (List.forall_mem_cons.mpr ⟨tw_722, (List.forall_mem_cons.mpr ⟨tw_723, (List.forall_mem_cons.mpr ⟨tw_60, (List.forall_mem_cons.mpr ⟨tw_724, (List.forall_mem_cons.mpr ⟨tw_354, (List.forall_mem_cons.mpr ⟨tw_356, (List.forall_mem_cons.mpr ⟨tw_358, (List.forall_mem_cons.mpr ⟨tw_362, (List.forall_mem_cons.mpr ⟨tw_364, (List.forall_mem_cons.mpr ⟨tw_367, (List.forall_mem_cons.mpr ⟨tw_725, (List.forall_mem_cons.mpr ⟨tw_726, (List.forall_mem_cons.mpr ⟨tw_727, (List.forall_mem_cons.mpr ⟨tw_728, (List.forall_mem_cons.mpr ⟨tw_730, (List.forall_mem_cons.mpr ⟨tw_17, (List.forall_mem_cons.mpr ⟨tw_731, (List.forall_mem_cons.mpr ⟨tw_310, (List.forall_mem_cons.mpr ⟨tw_313, (List.forall_mem_cons.mpr ⟨tw_355, (List.forall_mem_cons.mpr ⟨tw_736, (List.forall_mem_cons.mpr ⟨tw_737, nil_in⟩)⟩)⟩)⟩)⟩)⟩)⟩)⟩)⟩)⟩)⟩)⟩)⟩)⟩)⟩)⟩)⟩)⟩)⟩)⟩)⟩)⟩)⟩)⟩)
set_option maxRecDepth 100000 in
theorem im_wsX10_next_r5 : ∀ w ∈ wsX10_next_r5, w ∈ lw_tbl := by
  unfold wsX10_next_r5
  exact (List.forall_mem_cons.mpr ⟨tw_68, (List.forall_mem_cons.mpr ⟨tw_738, (List.forall_mem_cons.mpr ⟨tw_732, (List.forall_mem_cons.mpr ⟨tw_734, (List.forall_mem_cons.mpr ⟨tw_18, (List.forall_mem_cons.mpr ⟨tw_735, (List.forall_mem_cons.mpr ⟨tw_357, (List.forall_mem_cons.mpr ⟨tw_216, (List.forall_mem_cons.mpr ⟨tw_210, (List.forall_mem_cons.mpr ⟨tw_213, (List.forall_mem_cons.mpr ⟨tw_207, (List.forall_mem_cons.mpr ⟨tw_365, (List.forall_mem_cons.mpr ⟨tw_739, (List.forall_mem_cons.mpr ⟨tw_740, (List.forall_mem_cons.mpr ⟨tw_741, (List.forall_mem_cons.mpr ⟨tw_742, (List.forall_mem_cons.mpr ⟨tw_373, (List.forall_mem_cons.mpr ⟨tw_369, (List.forall_mem_cons.mpr ⟨tw_371, (List.forall_mem_cons.mpr ⟨tw_375, (List.forall_mem_cons.mpr ⟨tw_743, (List.forall_mem_cons.mpr ⟨tw_745, (List.forall_mem_cons.mpr ⟨tw_19, (List.forall_mem_cons.mpr ⟨tw_746, nil_in⟩)⟩)⟩)⟩)⟩)⟩)⟩)⟩)⟩)⟩)⟩)⟩)⟩)⟩)⟩)⟩)⟩)⟩)⟩)⟩)⟩)⟩)⟩)⟩)
set_option maxRecDepth 100000 in
theorem im_wsX10_next_r6 : ∀ w ∈ wsX10_next_r6, w ∈ lw_tbl := by
  unfold wsX10_next_r6
  exact (List.forall_mem_cons.mpr ⟨tw_747, (List.forall_mem_cons.mpr ⟨tw_748, (List.forall_mem_cons.mpr ⟨tw_749, (List.forall_mem_cons.mpr ⟨tw_750, (List.forall_mem_cons.mpr ⟨tw_752, (List.forall_mem_cons.mpr ⟨tw_20, (List.forall_mem_cons.mpr ⟨tw_753, (List.forall_mem_cons.mpr ⟨tw_257, (List.forall_mem_cons.mpr ⟨tw_254, (List.forall_mem_cons.mpr ⟨tw_754, (List.forall_mem_cons.mpr ⟨tw_755, (List.forall_mem_cons.mpr ⟨tw_756, (List.forall_mem_cons.mpr ⟨tw_784, (List.forall_mem_cons.mpr ⟨tw_785, (List.forall_mem_cons.mpr ⟨tw_786, (List.forall_mem_cons.mpr ⟨tw_787, (List.forall_mem_cons.mpr ⟨tw_359, (List.forall_mem_cons.mpr ⟨tw_374, (List.forall_mem_cons.mpr ⟨tw_376, (List.forall_mem_cons.mpr ⟨tw_370, (List.forall_mem_cons.mpr ⟨tw_372, (List.forall_mem_cons.mpr ⟨tw_788, (List.forall_mem_cons.mpr ⟨tw_789, (List.forall_mem_cons.mpr ⟨tw_790, nil_in⟩)⟩)⟩)⟩)⟩)⟩)⟩)⟩)⟩)⟩)⟩)⟩)⟩)⟩)⟩)⟩)⟩)⟩)⟩)⟩)⟩)⟩)⟩)⟩)
set_option maxRecDepth 100000 in
theorem im_wsX10_next_r7 : ∀ w ∈ wsX10_next_r7, w ∈ lw_tbl := by
  unfold wsX10_next_r7
  exact (List.forall_mem_cons.mpr ⟨tw_791, (List.forall_mem_cons.mpr ⟨tw_792, (List.forall_mem_cons.mpr ⟨tw_794, (List.forall_mem_cons.mpr ⟨tw_23, (List.forall_mem_cons.mpr ⟨tw_795, (List.forall_mem_cons.mpr ⟨tw_796, (List.forall_mem_cons.mpr ⟨tw_798, (List.forall_mem_cons.mpr ⟨tw_24, (List.forall_mem_cons.mpr ⟨tw_799, (List.forall_mem_cons.mpr ⟨tw_422, (List.forall_mem_cons.mpr ⟨tw_423, (List.forall_mem_cons.mpr ⟨tw_800, (List.forall_mem_cons.mpr ⟨tw_802, (List.forall_mem_cons.mpr ⟨tw_801, (List.forall_mem_cons.mpr ⟨tw_69, (List.forall_mem_cons.mpr ⟨tw_803, (List.forall_mem_cons.mpr ⟨tw_805, (List.forall_mem_cons.mpr ⟨tw_25, (List.forall_mem_cons.mpr ⟨tw_806, (List.forall_mem_cons.mpr ⟨tw_807, (List.forall_mem_cons.mpr ⟨tw_809, (List.forall_mem_cons.mpr ⟨tw_26, (List.forall_mem_cons.mpr ⟨tw_810, (List.forall_mem_cons.mpr ⟨tw_823, nil_in⟩)⟩)⟩)⟩)⟩)⟩)⟩)⟩)⟩)⟩)⟩)⟩)⟩)⟩)⟩)⟩)⟩)⟩)⟩)⟩)⟩)⟩)⟩)⟩)
set_option maxRecDepth 100000 in
theorem im_wsX10_next_r8 : ∀ w ∈ wsX10_next_r8, w ∈ lw_tbl := by
  unfold wsX10_next_r8
  exact (List.forall_mem_cons.mpr ⟨tw_824, (List.forall_mem_cons.mpr ⟨tw_825, (List.forall_mem_cons.mpr ⟨tw_826, (List.forall_mem_cons.mpr ⟨tw_702, (List.forall_mem_cons.mpr ⟨tw_703, (List.forall_mem_cons.mpr ⟨tw_704, (List.forall_mem_cons.mpr ⟨tw_705, (List.forall_mem_cons.mpr ⟨tw_323, (List.forall_mem_cons.mpr ⟨tw_269, (List.forall_mem_cons.mpr ⟨tw_706, (List.forall_mem_cons.mpr ⟨tw_716, (List.forall_mem_cons.mpr ⟨tw_717, (List.forall_mem_cons.mpr ⟨tw_827, (List.forall_mem_cons.mpr ⟨tw_829, (List.forall_mem_cons.mpr ⟨tw_27, (List.forall_mem_cons.mpr ⟨tw_830, (List.forall_mem_cons.mpr ⟨tw_325, (List.forall_mem_cons.mpr ⟨tw_316, (List.forall_mem_cons.mpr ⟨tw_282, (List.forall_mem_cons.mpr ⟨tw_284, (List.forall_mem_cons.mpr ⟨tw_318, (List.forall_mem_cons.mpr ⟨tw_270, (List.forall_mem_cons.mpr ⟨tw_286, (List.forall_mem_cons.mpr ⟨tw_401, nil_in⟩)⟩)⟩)⟩)⟩)⟩)⟩)⟩)⟩)⟩)⟩)⟩)⟩)⟩)⟩)⟩)⟩)⟩)⟩)⟩)⟩)⟩)⟩)⟩)
set_option maxRecDepth 100000 in
theorem im_wsX10_next_r9 : ∀ w ∈ wsX10_next_r9, w ∈ lw_tbl := by
  unfold wsX10_next_r9
  exact (List.forall_mem_cons.mpr ⟨tw_366, (List.forall_mem_cons.mpr ⟨tw_288, (List.forall_mem_cons.mpr ⟨tw_361, (List.forall_mem_cons.mpr ⟨tw_701, (List.forall_mem_cons.mpr ⟨tw_831, (List.forall_mem_cons.mpr ⟨tw_833, (List.forall_mem_cons.mpr ⟨tw_28, (List.forall_mem_cons.mpr ⟨tw_834, (List.forall_mem_cons.mpr ⟨tw_309, (List.forall_mem_cons.mpr ⟨tw_835, (List.forall_mem_cons.mpr ⟨tw_836, (List.forall_mem_cons.mpr ⟨tw_837, (List.forall_mem_cons.mpr ⟨tw_838, (List.forall_mem_cons.mpr ⟨tw_839, (List.forall_mem_cons.mpr ⟨tw_840, (List.forall_mem_cons.mpr ⟨tw_841, (List.forall_mem_cons.mpr ⟨tw_56, (List.forall_mem_cons.mpr ⟨tw_842, (List.forall_mem_cons.mpr ⟨tw_205, (List.forall_mem_cons.mpr ⟨tw_211, (List.forall_mem_cons.mpr ⟨tw_208, (List.forall_mem_cons.mpr ⟨tw_217, (List.forall_mem_cons.mpr ⟨tw_219, (List.forall_mem_cons.mpr ⟨tw_221, nil_in⟩)⟩)⟩)⟩)⟩)⟩)⟩)⟩)⟩)⟩)⟩)⟩)⟩)⟩)⟩)⟩)⟩)⟩)⟩)⟩)⟩)⟩)⟩)⟩)
set_option maxRecDepth 100000 in
theorem im_wsX10_next_r10 : ∀ w ∈ wsX10_next_r10, w ∈ lw_tbl := by
  unfold wsX10_next_r10
  exact (List.forall_mem_cons.mpr ⟨tw_223, (List.forall_mem_cons.mpr ⟨tw_225, (List.forall_mem_cons.mpr ⟨tw_843, (List.forall_mem_cons.mpr ⟨tw_845, (List.forall_mem_cons.mpr ⟨tw_29, (List.forall_mem_cons.mpr ⟨tw_846, (List.forall_mem_cons.mpr ⟨tw_459, (List.forall_mem_cons.mpr ⟨tw_227, nil_in⟩)⟩)⟩)⟩)⟩)⟩)⟩)⟩)
set_option maxRecDepth 100000 in
theorem im_wsX10_next : ∀ w ∈ wsX10_next, w ∈ lw_tbl := by
  unfold wsX10_next
  exact (List.forall_mem_cons.mpr ⟨tw_822, (List.forall_mem_append.mpr ⟨(List.forall_mem_append.mpr ⟨(List.forall_mem_append.mpr ⟨(List.forall_mem_append.mpr ⟨(List.forall_mem_append.mpr ⟨(List.forall_mem_append.mpr ⟨(List.forall_mem_append.mpr ⟨(List.forall_mem_append.mpr ⟨(List.forall_mem_append.mpr ⟨(List.forall_mem_append.mpr ⟨(List.forall_mem_append.mpr ⟨im_wsX10_next_r1, (List.forall_mem_append.mpr ⟨im_wsX10_next_r2, (List.forall_mem_append.mpr ⟨im_wsX10_next_r3, (List.forall_mem_append.mpr ⟨im_wsX10_next_r4, (List.forall_mem_append.mpr ⟨im_wsX10_next_r5, (List.forall_mem_append.mpr ⟨im_wsX10_next_r6, (List.forall_mem_append.mpr ⟨im_wsX10_next_r7, (List.forall_mem_append.mpr ⟨im_wsX10_next_r8, (List.forall_mem_append.mpr ⟨im_wsX10_next_r9, im_wsX10_next_r10⟩)⟩)⟩)⟩)⟩)⟩)⟩)⟩)⟩), in_wsX100⟩), in_wsX90⟩), in_wsX40⟩), in_wsX10⟩), in_wsX30⟩), in_wsX50⟩), in_wsX20⟩), in_wsX60⟩), in_wsX70⟩), in_wsX00⟩)⟩)
theorem hT_X10_next : GoodIn lw_tbl wsX10_next := goodIn_sub im_wsX10_next (by decide +kernel)
theorem gT_X10_next : GoodIn lw_tbl (wsV RL 79 RX10 yX10_next wsX10_next) := goodIn_app (goodIn_sub (List.forall_mem_cons.mpr ⟨tw_819, List.forall_mem_cons.mpr ⟨tw_820, List.forall_mem_cons.mpr ⟨tw_821, List.forall_mem_cons.mpr ⟨tw_51, nil_in⟩⟩⟩⟩) (by decide +kernel)) hT_X10_next
set_option maxRecDepth 100000 in
theorem im_wsX11_next_r1 : ∀ w ∈ wsX11_next_r1, w ∈ lw_tbl := by
  unfold wsX11_next_r1
  exact (List.forall_mem_cons.mpr ⟨tw_872, (List.forall_mem_cons.mpr ⟨tw_925, (List.forall_mem_cons.mpr ⟨tw_912, (List.forall_mem_cons.mpr ⟨tw_922, (List.forall_mem_cons.mpr ⟨tw_875, (List.forall_mem_cons.mpr ⟨tw_877, (List.forall_mem_cons.mpr ⟨tw_876, (List.forall_mem_cons.mpr ⟨tw_911, (List.forall_mem_cons.mpr ⟨tw_927, (List.forall_mem_cons.mpr ⟨tw_928, (List.forall_mem_cons.mpr ⟨tw_926, (List.forall_mem_cons.mpr ⟨tw_929, (List.forall_mem_cons.mpr ⟨tw_930, (List.forall_mem_cons.mpr ⟨tw_873, (List.forall_mem_cons.mpr ⟨tw_907, (List.forall_mem_cons.mpr ⟨tw_908, (List.forall_mem_cons.mpr ⟨tw_880, (List.forall_mem_cons.mpr ⟨tw_902, (List.forall_mem_cons.mpr ⟨tw_909, (List.forall_mem_cons.mpr ⟨tw_915, (List.forall_mem_cons.mpr ⟨tw_910, (List.forall_mem_cons.mpr ⟨tw_913, (List.forall_mem_cons.mpr ⟨tw_932, (List.forall_mem_cons.mpr ⟨tw_1155, nil_in⟩)⟩)⟩)⟩)⟩)⟩)⟩)⟩)⟩)⟩)⟩)⟩)⟩)⟩)⟩)⟩)⟩)⟩)⟩)⟩)⟩)⟩)⟩)⟩)
set_option maxRecDepth 100000 in
theorem im_wsX11_next_r2 : ∀ w ∈ wsX11_next_r2, w ∈ lw_tbl := by
  unfold wsX11_next_r2
  exact (List.forall_mem_cons.mpr ⟨tw_1157, (List.forall_mem_cons.mpr ⟨tw_38, (List.forall_mem_cons.mpr ⟨tw_62, (List.forall_mem_cons.mpr ⟨tw_1158, (List.forall_mem_cons.mpr ⟨tw_1151, (List.forall_mem_cons.mpr ⟨tw_1153, (List.forall_mem_cons.mpr ⟨tw_37, (List.forall_mem_cons.mpr ⟨tw_1154, (List.forall_mem_cons.mpr ⟨tw_904, (List.forall_mem_cons.mpr ⟨tw_905, (List.forall_mem_cons.mpr ⟨tw_1063, (List.forall_mem_cons.mpr ⟨tw_1064, (List.forall_mem_cons.mpr ⟨tw_1065, (List.forall_mem_cons.mpr ⟨tw_1167, (List.forall_mem_cons.mpr ⟨tw_1169, (List.forall_mem_cons.mpr ⟨tw_41, (List.forall_mem_cons.mpr ⟨tw_1170, (List.forall_mem_cons.mpr ⟨tw_1203, (List.forall_mem_cons.mpr ⟨tw_1205, (List.forall_mem_cons.mpr ⟨tw_48, (List.forall_mem_cons.mpr ⟨tw_1206, (List.forall_mem_cons.mpr ⟨tw_923, (List.forall_mem_cons.mpr ⟨tw_914, (List.forall_mem_cons.mpr ⟨tw_924, nil_in⟩)⟩)⟩)⟩)⟩)⟩)⟩)⟩)⟩)⟩)⟩)⟩)⟩)⟩)⟩)⟩)⟩)⟩)⟩)⟩)⟩)⟩)⟩)⟩)
set_option maxRecDepth 100000 in
theorem im_wsX11_next_r3 : ∀ w ∈ wsX11_next_r3, w ∈ lw_tbl := by
  unfold wsX11_next_r3
  exact (List.forall_mem_cons.mpr ⟨tw_1159, (List.forall_mem_cons.mpr ⟨tw_1161, (List.forall_mem_cons.mpr ⟨tw_39, (List.forall_mem_cons.mpr ⟨tw_1162, (List.forall_mem_cons.mpr ⟨tw_1163, (List.forall_mem_cons.mpr ⟨tw_1165, (List.forall_mem_cons.mpr ⟨tw_40, (List.forall_mem_cons.mpr ⟨tw_1166, (List.forall_mem_cons.mpr ⟨tw_917, (List.forall_mem_cons.mpr ⟨tw_1171, (List.forall_mem_cons.mpr ⟨tw_1173, (List.forall_mem_cons.mpr ⟨tw_42, (List.forall_mem_cons.mpr ⟨tw_1174, (List.forall_mem_cons.mpr ⟨tw_916, (List.forall_mem_cons.mpr ⟨tw_921, (List.forall_mem_cons.mpr ⟨tw_884, (List.forall_mem_cons.mpr ⟨tw_903, (List.forall_mem_cons.mpr ⟨tw_885, (List.forall_mem_cons.mpr ⟨tw_878, (List.forall_mem_cons.mpr ⟨tw_906, (List.forall_mem_cons.mpr ⟨tw_1175, (List.forall_mem_cons.mpr ⟨tw_1177, (List.forall_mem_cons.mpr ⟨tw_43, (List.forall_mem_cons.mpr ⟨tw_1178, nil_in⟩)⟩)⟩)⟩)⟩)⟩)⟩)⟩)⟩)⟩)⟩)⟩)⟩)⟩)⟩)⟩)⟩)⟩)⟩)⟩)⟩)⟩)⟩)⟩)
set_option maxRecDepth 100000 in
theorem im_wsX11_next_r4 : ∀ w ∈ wsX11_next_r4, w ∈ lw_tbl := by
  unfold wsX11_next_r4
  exact (List.forall_mem_cons.mpr ⟨tw_1179, (List.forall_mem_cons.mpr ⟨tw_1181, (List.forall_mem_cons.mpr ⟨tw_44, (List.forall_mem_cons.mpr ⟨tw_1182, (List.forall_mem_cons.mpr ⟨tw_1183, (List.forall_mem_cons.mpr ⟨tw_1185, (List.forall_mem_cons.mpr ⟨tw_45, (List.forall_mem_cons.mpr ⟨tw_1186, (List.forall_mem_cons.mpr ⟨tw_918, (List.forall_mem_cons.mpr ⟨tw_919, (List.forall_mem_cons.mpr ⟨tw_920, (List.forall_mem_cons.mpr ⟨tw_1187, (List.forall_mem_cons.mpr ⟨tw_1189, (List.forall_mem_cons.mpr ⟨tw_46, (List.forall_mem_cons.mpr ⟨tw_1190, (List.forall_mem_cons.mpr ⟨tw_1191, (List.forall_mem_cons.mpr ⟨tw_1193, (List.forall_mem_cons.mpr ⟨tw_47, (List.forall_mem_cons.mpr ⟨tw_1194, (List.forall_mem_cons.mpr ⟨tw_881, (List.forall_mem_cons.mpr ⟨tw_879, (List.forall_mem_cons.mpr ⟨tw_1207, (List.forall_mem_cons.mpr ⟨tw_1209, (List.forall_mem_cons.mpr ⟨tw_49, nil_in⟩)⟩)⟩)⟩)⟩)⟩)⟩)⟩)⟩)⟩)⟩)⟩)⟩)⟩)⟩)⟩)⟩)⟩)⟩)⟩)⟩)⟩)⟩)⟩)
set_option maxRecDepth 100000 in
theorem im_wsX11_next_r5 : ∀ w ∈ wsX11_next_r5, w ∈ lw_tbl := by
  unfold wsX11_next_r5
  exact (List.forall_mem_cons.mpr ⟨tw_1210, nil_in⟩)
set_option maxRecDepth 100000 in
theorem im_wsX11_next : ∀ w ∈ wsX11_next, w ∈ lw_tbl := by
  unfold wsX11_next
  exact (List.forall_mem_cons.mpr ⟨tw_1218, (List.forall_mem_append.mpr ⟨(List.forall_mem_append.mpr ⟨im_wsX11_next_r1, (List.forall_mem_append.mpr ⟨im_wsX11_next_r2, (List.forall_mem_append.mpr ⟨im_wsX11_next_r3, (List.forall_mem_append.mpr ⟨im_wsX11_next_r4, im_wsX11_next_r5⟩)⟩)⟩)⟩), in_wsX110⟩)⟩)
theorem hT_X11_next : GoodIn lw_tbl wsX11_next := goodIn_sub im_wsX11_next (by decide +kernel)
theorem gT_X11_next : GoodIn lw_tbl (wsV RL 82 RX11 yX11_next wsX11_next) := goodIn_app (goodIn_sub (List.forall_mem_cons.mpr ⟨tw_1215, List.forall_mem_cons.mpr ⟨tw_1216, List.forall_mem_cons.mpr ⟨tw_1217, List.forall_mem_cons.mpr ⟨tw_62, nil_in⟩⟩⟩⟩) (by decide +kernel)) hT_X11_next
set_option maxRecDepth 100000 in
theorem im_wsX10_water : ∀ w ∈ wsX10_water, w ∈ lw_tbl := by
  unfold wsX10_water
  exact (List.forall_mem_cons.mpr ⟨tw_850, (List.forall_mem_append.mpr ⟨(List.forall_mem_append.mpr ⟨(List.forall_mem_append.mpr ⟨(List.forall_mem_cons.mpr ⟨tw_453, (List.forall_mem_cons.mpr ⟨tw_309, (List.forall_mem_cons.mpr ⟨tw_218, (List.forall_mem_cons.mpr ⟨tw_220, (List.forall_mem_cons.mpr ⟨tw_222, (List.forall_mem_cons.mpr ⟨tw_224, (List.forall_mem_cons.mpr ⟨tw_479, (List.forall_mem_cons.mpr ⟨tw_480, (List.forall_mem_cons.mpr ⟨tw_51, (List.forall_mem_cons.mpr ⟨tw_481, nil_in⟩)⟩)⟩)⟩)⟩)⟩)⟩)⟩)⟩)⟩), in_wsX100⟩), in_wsX90⟩), in_wsX70⟩)⟩)
theorem hT_X10_water : GoodIn lw_tbl wsX10_water := goodIn_sub im_wsX10_water (by decide +kernel)
theorem gT_X10_water : GoodIn lw_tbl (wsV RL 83 RX10 yX10_water wsX10_water) := goodIn_app (goodIn_sub (List.forall_mem_cons.mpr ⟨tw_847, List.forall_mem_cons.mpr ⟨tw_848, List.forall_mem_cons.mpr ⟨tw_849, List.forall_mem_cons.mpr ⟨tw_51, nil_in⟩⟩⟩⟩) (by decide +kernel)) hT_X10_water
set_option maxRecDepth 100000 in
theorem im_wsX11_water : ∀ w ∈ wsX11_water, w ∈ lw_tbl := by
  unfold wsX11_water
  exact (List.forall_mem_cons.mpr ⟨tw_1222, (List.forall_mem_append.mpr ⟨(List.forall_mem_cons.mpr ⟨tw_927, (List.forall_mem_cons.mpr ⟨tw_928, (List.forall_mem_cons.mpr ⟨tw_929, (List.forall_mem_cons.mpr ⟨tw_930, (List.forall_mem_cons.mpr ⟨tw_1060, (List.forall_mem_cons.mpr ⟨tw_1061, (List.forall_mem_cons.mpr ⟨tw_62, (List.forall_mem_cons.mpr ⟨tw_1062, (List.forall_mem_cons.mpr ⟨tw_1063, (List.forall_mem_cons.mpr ⟨tw_1064, (List.forall_mem_cons.mpr ⟨tw_1065, nil_in⟩)⟩)⟩)⟩)⟩)⟩)⟩)⟩)⟩)⟩)⟩), in_wsX110⟩)⟩)
theorem hT_X11_water : GoodIn lw_tbl wsX11_water := goodIn_sub im_wsX11_water (by decide +kernel)
theorem gT_X11_water : GoodIn lw_tbl (wsV RL 86 RX11 yX11_water wsX11_water) := goodIn_app (goodIn_sub (List.forall_mem_cons.mpr ⟨tw_1219, List.forall_mem_cons.mpr ⟨tw_1220, List.forall_mem_cons.mpr ⟨tw_1221, List.forall_mem_cons.mpr ⟨tw_62, nil_in⟩⟩⟩⟩) (by decide +kernel)) hT_X11_water
set_option maxRecDepth 100000 in
theorem im_wsX10_bottles : ∀ w ∈ wsX10_bottles, w ∈ lw_tbl := by
  unfold wsX10_bottles
  exact (List.forall_mem_cons.mpr ⟨tw_854, (List.forall_mem_append.mpr ⟨(List.forall_mem_append.mpr ⟨(List.forall_mem_append.mpr ⟨(List.forall_mem_cons.mpr ⟨tw_453, (List.forall_mem_cons.mpr ⟨tw_309, (List.forall_mem_cons.mpr ⟨tw_227, (List.forall_mem_cons.mpr ⟨tw_479, (List.forall_mem_cons.mpr ⟨tw_480, (List.forall_mem_cons.mpr ⟨tw_51, (List.forall_mem_cons.mpr ⟨tw_481, nil_in⟩)⟩)⟩)⟩)⟩)⟩)⟩), in_wsX100⟩), in_wsX90⟩), in_wsX70⟩)⟩)
theorem hT_X10_bottles : GoodIn lw_tbl wsX10_bottles := goodIn_sub im_wsX10_bottles (by decide +kernel)
theorem gT_X10_bottles : GoodIn lw_tbl (wsV RL 87 RX10 yX10_bottles wsX10_bottles) := goodIn_app (goodIn_sub (List.forall_mem_cons.mpr ⟨tw_851, List.forall_mem_cons.mpr ⟨tw_852, List.forall_mem_cons.mpr ⟨tw_853, List.forall_mem_cons.mpr ⟨tw_51, nil_in⟩⟩⟩⟩) (by decide +kernel)) hT_X10_bottles
set_option maxRecDepth 100000 in
theorem im_wsX11_bottles : ∀ w ∈ wsX11_bottles, w ∈ lw_tbl := by
  unfold wsX11_bottles
  exact (List.forall_mem_cons.mpr ⟨tw_1226, (List.forall_mem_append.mpr ⟨(List.forall_mem_cons.mpr ⟨tw_926, (List.forall_mem_cons.mpr ⟨tw_1060, (List.forall_mem_cons.mpr ⟨tw_1061, (List.forall_mem_cons.mpr ⟨tw_62, (List.forall_mem_cons.mpr ⟨tw_1062, (List.forall_mem_cons.mpr ⟨tw_1063, (List.forall_mem_cons.mpr ⟨tw_1064, (List.forall_mem_cons.mpr ⟨tw_1065, (List.forall_mem_cons.mpr ⟨tw_1148, (List.forall_mem_cons.mpr ⟨tw_1149, (List.forall_mem_cons.mpr ⟨tw_1150, nil_in⟩)⟩)⟩)⟩)⟩)⟩)⟩)⟩)⟩)⟩)⟩), in_wsX110⟩)⟩)
theorem hT_X11_bottles : GoodIn lw_tbl wsX11_bottles := goodIn_sub im_wsX11_bottles (by decide +kernel)
theorem gT_X11_bottles : GoodIn lw_tbl (wsV RL 90 RX11 yX11_bottles wsX11_bottles) := goodIn_app (goodIn_sub (List.forall_mem_cons.mpr ⟨tw_1223, List.forall_mem_cons.mpr ⟨tw_1224, List.forall_mem_cons.mpr ⟨tw_1225, List.forall_mem_cons.mpr ⟨tw_62, nil_in⟩⟩⟩⟩) (by decide +kernel)) hT_X11_bottles
set_option maxRecDepth 100000 in
theorem im_wsX10_sell : ∀ w ∈ wsX10_sell, w ∈ lw_tbl := by
  unfold wsX10_sell
  exact (List.forall_mem_cons.mpr ⟨tw_858, (List.forall_mem_append.mpr ⟨(List.forall_mem_append.mpr ⟨(List.forall_mem_append.mpr ⟨(List.forall_mem_cons.mpr ⟨tw_453, (List.forall_mem_cons.mpr ⟨tw_309, (List.forall_mem_cons.mpr ⟨tw_227, (List.forall_mem_cons.mpr ⟨tw_859, (List.forall_mem_cons.mpr ⟨tw_860, (List.forall_mem_cons.mpr ⟨tw_68, (List.forall_mem_cons.mpr ⟨tw_861, (List.forall_mem_cons.mpr ⟨tw_458, nil_in⟩)⟩)⟩)⟩)⟩)⟩)⟩)⟩), in_wsX100⟩), in_wsX90⟩), in_wsX70⟩)⟩)
theorem hT_X10_sell : GoodIn lw_tbl wsX10_sell := goodIn_sub im_wsX10_sell (by decide +kernel)
theorem gT_X10_sell : GoodIn lw_tbl (wsV RL 91 RX10 yX10_sell wsX10_sell) := goodIn_app (goodIn_sub (List.forall_mem_cons.mpr ⟨tw_855, List.forall_mem_cons.mpr ⟨tw_856, List.forall_mem_cons.mpr ⟨tw_857, List.forall_mem_cons.mpr ⟨tw_51, nil_in⟩⟩⟩⟩) (by decide +kernel)) hT_X10_sell
set_option maxRecDepth 100000 in
theorem im_wsX11_sell : ∀ w ∈ wsX11_sell, w ∈ lw_tbl := by
  unfold wsX11_sell
  exact (List.forall_mem_cons.mpr ⟨tw_1230, (List.forall_mem_append.mpr ⟨(List.forall_mem_cons.mpr ⟨tw_926, (List.forall_mem_cons.mpr ⟨tw_931, (List.forall_mem_cons.mpr ⟨tw_1063, (List.forall_mem_cons.mpr ⟨tw_1064, (List.forall_mem_cons.mpr ⟨tw_62, (List.forall_mem_cons.mpr ⟨tw_1065, nil_in⟩)⟩)⟩)⟩)⟩)⟩), in_wsX110⟩)⟩)
theorem hT_X11_sell : GoodIn lw_tbl wsX11_sell := goodIn_sub im_wsX11_sell (by decide +kernel)
theorem gT_X11_sell : GoodIn lw_tbl (wsV RL 94 RX11 yX11_sell wsX11_sell) := goodIn_app (goodIn_sub (List.forall_mem_cons.mpr ⟨tw_1227, List.forall_mem_cons.mpr ⟨tw_1228, List.forall_mem_cons.mpr ⟨tw_1229, List.forall_mem_cons.mpr ⟨tw_62, nil_in⟩⟩⟩⟩) (by decide +kernel)) hT_X11_sell
set_option maxRecDepth 100000 in
theorem im_wsX10_bill : ∀ w ∈ wsX10_bill, w ∈ lw_tbl := by
  unfold wsX10_bill
  exact (List.forall_mem_cons.mpr ⟨tw_865, (List.forall_mem_append.mpr ⟨(List.forall_mem_append.mpr ⟨(List.forall_mem_append.mpr ⟨(List.forall_mem_cons.mpr ⟨tw_453, (List.forall_mem_cons.mpr ⟨tw_325, (List.forall_mem_cons.mpr ⟨tw_316, (List.forall_mem_cons.mpr ⟨tw_282, (List.forall_mem_cons.mpr ⟨tw_284, (List.forall_mem_cons.mpr ⟨tw_286, (List.forall_mem_cons.mpr ⟨tw_288, (List.forall_mem_cons.mpr ⟨tw_479, (List.forall_mem_cons.mpr ⟨tw_480, (List.forall_mem_cons.mpr ⟨tw_51, (List.forall_mem_cons.mpr ⟨tw_481, nil_in⟩)⟩)⟩)⟩)⟩)⟩)⟩)⟩)⟩)⟩)⟩), in_wsX100⟩), in_wsX90⟩), in_wsX40⟩)⟩)
theorem hT_X10_bill : GoodIn lw_tbl wsX10_bill := goodIn_sub im_wsX10_bill (by decide +kernel)
theorem gT_X10_bill : GoodIn lw_tbl (wsV RL 95 RX10 yX10_bill wsX10_bill) := goodIn_app (goodIn_sub (List.forall_mem_cons.mpr ⟨tw_862, List.forall_mem_cons.mpr ⟨tw_863, List.forall_mem_cons.mpr ⟨tw_864, List.forall_mem_cons.mpr ⟨tw_51, nil_in⟩⟩⟩⟩) (by decide +kernel)) hT_X10_bill
set_option maxRecDepth 100000 in
theorem im_wsX11_bill : ∀ w ∈ wsX11_bill, w ∈ lw_tbl := by
  unfold wsX11_bill
  exact (List.forall_mem_cons.mpr ⟨tw_1234, (List.forall_mem_append.mpr ⟨(List.forall_mem_cons.mpr ⟨tw_873, (List.forall_mem_cons.mpr ⟨tw_907, (List.forall_mem_cons.mpr ⟨tw_908, (List.forall_mem_cons.mpr ⟨tw_909, (List.forall_mem_cons.mpr ⟨tw_910, (List.forall_mem_cons.mpr ⟨tw_1063, (List.forall_mem_cons.mpr ⟨tw_1064, (List.forall_mem_cons.mpr ⟨tw_62, (List.forall_mem_cons.mpr ⟨tw_1065, nil_in⟩)⟩)⟩)⟩)⟩)⟩)⟩)⟩)⟩), in_wsX110⟩)⟩)
theorem hT_X11_bill : GoodIn lw_tbl wsX11_bill := goodIn_sub im_wsX11_bill (by decide +kernel)
theorem gT_X11_bill : GoodIn lw_tbl (wsV RL 98 RX11 yX11_bill wsX11_bill) := goodIn_app (goodIn_sub (List.forall_mem_cons.mpr ⟨tw_1231, List.forall_mem_cons.mpr ⟨tw_1232, List.forall_mem_cons.mpr ⟨tw_1233, List.forall_mem_cons.mpr ⟨tw_62, nil_in⟩⟩⟩⟩) (by decide +kernel)) hT_X11_bill
