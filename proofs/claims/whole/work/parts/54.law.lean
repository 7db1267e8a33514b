/-! the law: its cases, its loop -/
theorem lg_self (x : Int64) : lg_cmp x x = 0 := by
  unfold lg_cmp
  simp
section LAW
variable {sc : List Int32} {σ : z_G} {i x1 x2 x3 : Int32}
theorem lw_c0 (hI : INV σ) (h1 : ∀ K : Int32 → Option z_O, z_sl sc (i + 1) K = K x1) : ∃ τ, z_r sc 87 1102 0 160 [some (.retAddr 0), some (.ref 0), some (.ref 76), some (.int i)] [] (z_enc σ) = z_r sc 87 1102 0 915 [some (.retAddr 0), some (.ref 0), some (.ref 76), some (.int i)] [] (z_enc τ) ∧ INV τ := by
  obtain ⟨x, τ1, τ2, e1, e2, hI2⟩ := st0 hI x1
  refine ⟨τ2, ?_, hI2⟩
  simp only [e0_160, e0_161, e0_162, e0_163, e0_164, e0_165, e0_166, e0_169, e0_170, e0_171, e0_172, e0_173, e0_174, e0_175, e0_178, e0_181, e0_182, h1, v0, v76, e1, e2, z_bd_i, z_bd_l, z_bd_v, List.cons_append, List.nil_append, z_nk_i, z_nk_r, z_nk_n, v0, v1, v3, v19, v61, v71, v76, eq_self, if_true]
theorem lw_c1 (hI : INV σ) : ∃ τ, z_r sc 87 1102 0 183 [some (.retAddr 0), some (.ref 0), some (.ref 76), some (.int i)] [] (z_enc σ) = z_r sc 87 1102 0 915 [some (.retAddr 0), some (.ref 0), some (.ref 76), some (.int i)] [] (z_enc τ) ∧ INV τ := by
  obtain ⟨x, τ1, τ2, e1, e2, hI2⟩ := st1 hI
  refine ⟨τ2, ?_, hI2⟩
  simp only [e0_183, e0_184, e0_187, e0_188, e0_191, e0_194, e0_195, v0, v76, e1, e2, z_bd_i, z_bd_l, z_bd_v, List.cons_append, List.nil_append, z_nk_i, z_nk_r, z_nk_n, v0, v1, v3, v19, v61, v71, v76, eq_self, if_true]
theorem lw_c2 (hI : INV σ) : ∃ τ, z_r sc 87 1102 0 196 [some (.retAddr 0), some (.ref 0), some (.ref 76), some (.int i)] [] (z_enc σ) = z_r sc 87 1102 0 915 [some (.retAddr 0), some (.ref 0), some (.ref 76), some (.int i)] [] (z_enc τ) ∧ INV τ := by
  obtain ⟨x, τ1, τ2, e1, e2, hI2⟩ := st2 hI
  refine ⟨τ2, ?_, hI2⟩
  simp only [e0_196, e0_197, e0_200, e0_201, e0_204, e0_207, e0_208, v0, v76, e1, e2, z_bd_i, z_bd_l, z_bd_v, List.cons_append, List.nil_append, z_nk_i, z_nk_r, z_nk_n, v0, v1, v3, v19, v61, v71, v76, eq_self, if_true]
theorem lw_c3 (hI : INV σ) (h1 : ∀ K : Int32 → Option z_O, z_sl sc (i + 1) K = K x1) (h2 : ∀ K : Int32 → Option z_O, z_sl sc (i + 2) K = K x2) : ∃ τ, z_r sc 87 1102 0 209 [some (.retAddr 0), some (.ref 0), some (.ref 76), some (.int i)] [] (z_enc σ) = z_r sc 87 1102 0 915 [some (.retAddr 0), some (.ref 0), some (.ref 76), some (.int i)] [] (z_enc τ) ∧ INV τ := by
  obtain ⟨x, τ1, τ2, e1, e2, hI2⟩ := st3 hI x1 x2
  refine ⟨τ2, ?_, hI2⟩
  simp only [e0_209, e0_210, e0_211, e0_212, e0_213, e0_214, e0_215, e0_216, e0_217, e0_218, e0_219, e0_220, e0_223, e0_224, e0_225, e0_226, e0_227, e0_228, e0_229, e0_230, e0_231, e0_232, e0_233, e0_234, e0_237, e0_240, e0_241, h1, h2, v0, v76, e1, e2, z_bd_i, z_bd_l, z_bd_v, List.cons_append, List.nil_append, z_nk_i, z_nk_r, z_nk_n, v0, v1, v3, v19, v61, v71, v76, eq_self, if_true]
theorem lw_c4 (hI : INV σ) (h1 : ∀ K : Int32 → Option z_O, z_sl sc (i + 1) K = K x1) (h2 : ∀ K : Int32 → Option z_O, z_sl sc (i + 2) K = K x2) : ∃ τ, z_r sc 87 1102 0 242 [some (.retAddr 0), some (.ref 0), some (.ref 76), some (.int i)] [] (z_enc σ) = z_r sc 87 1102 0 915 [some (.retAddr 0), some (.ref 0), some (.ref 76), some (.int i)] [] (z_enc τ) ∧ INV τ := by
  obtain ⟨x, τ1, τ2, e1, e2, hI2⟩ := st4 hI x1 x2
  refine ⟨τ2, ?_, hI2⟩
  simp only [e0_242, e0_243, e0_244, e0_245, e0_246, e0_247, e0_248, e0_249, e0_250, e0_251, e0_252, e0_253, e0_256, e0_257, e0_258, e0_259, e0_260, e0_261, e0_262, e0_263, e0_264, e0_265, e0_266, e0_267, e0_270, e0_273, e0_274, h1, h2, v0, v76, e1, e2, z_bd_i, z_bd_l, z_bd_v, List.cons_append, List.nil_append, z_nk_i, z_nk_r, z_nk_n, v0, v1, v3, v19, v61, v71, v76, eq_self, if_true]
theorem lw_c5 (hI : INV σ) (h1 : ∀ K : Int32 → Option z_O, z_sl sc (i + 1) K = K x1) (h2 : ∀ K : Int32 → Option z_O, z_sl sc (i + 2) K = K x2) : ∃ τ, z_r sc 87 1102 0 275 [some (.retAddr 0), some (.ref 0), some (.ref 76), some (.int i)] [] (z_enc σ) = z_r sc 87 1102 0 915 [some (.retAddr 0), some (.ref 0), some (.ref 76), some (.int i)] [] (z_enc τ) ∧ INV τ := by
  obtain ⟨x, τ1, τ2, e1, e2, hI2⟩ := st5 hI x1 x2
  refine ⟨τ2, ?_, hI2⟩
  simp only [e0_275, e0_276, e0_277, e0_278, e0_279, e0_280, e0_281, e0_282, e0_283, e0_284, e0_285, e0_286, e0_289, e0_290, e0_291, e0_292, e0_293, e0_294, e0_295, e0_296, e0_297, e0_298, e0_299, e0_300, e0_303, e0_306, e0_307, h1, h2, v0, v76, e1, e2, z_bd_i, z_bd_l, z_bd_v, List.cons_append, List.nil_append, z_nk_i, z_nk_r, z_nk_n, v0, v1, v3, v19, v61, v71, v76, eq_self, if_true]
theorem lw_c6 (hI : INV σ) (h1 : ∀ K : Int32 → Option z_O, z_sl sc (i + 1) K = K x1) : ∃ τ, z_r sc 87 1102 0 308 [some (.retAddr 0), some (.ref 0), some (.ref 76), some (.int i)] [] (z_enc σ) = z_r sc 87 1102 0 915 [some (.retAddr 0), some (.ref 0), some (.ref 76), some (.int i)] [] (z_enc τ) ∧ INV τ := by
  obtain ⟨x, τ1, τ2, e1, e2, hI2⟩ := st6 hI x1
  refine ⟨τ2, ?_, hI2⟩
  simp only [e0_308, e0_309, e0_310, e0_311, e0_312, e0_313, e0_314, e0_317, e0_318, e0_319, e0_320, e0_321, e0_322, e0_323, e0_326, e0_329, e0_330, h1, v0, v76, e1, e2, z_bd_i, z_bd_l, z_bd_v, List.cons_append, List.nil_append, z_nk_i, z_nk_r, z_nk_n, v0, v1, v3, v19, v61, v71, v76, eq_self, if_true]
theorem lw_c7 (hI : INV σ) : ∃ τ, z_r sc 87 1102 0 331 [some (.retAddr 0), some (.ref 0), some (.ref 76), some (.int i)] [] (z_enc σ) = z_r sc 87 1102 0 915 [some (.retAddr 0), some (.ref 0), some (.ref 76), some (.int i)] [] (z_enc τ) ∧ INV τ := by
  obtain ⟨x, τ1, τ2, e1, e2, hI2⟩ := st7 hI
  refine ⟨τ2, ?_, hI2⟩
  simp only [e0_331, e0_332, e0_335, e0_336, e0_339, e0_342, e0_343, v0, v76, e1, e2, z_bd_i, z_bd_l, z_bd_v, List.cons_append, List.nil_append, z_nk_i, z_nk_r, z_nk_n, v0, v1, v3, v19, v61, v71, v76, eq_self, if_true]
theorem lw_c8 (hI : INV σ) (h1 : ∀ K : Int32 → Option z_O, z_sl sc (i + 1) K = K x1) (h2 : ∀ K : Int32 → Option z_O, z_sl sc (i + 2) K = K x2) : ∃ τ, z_r sc 87 1102 0 344 [some (.retAddr 0), some (.ref 0), some (.ref 76), some (.int i)] [] (z_enc σ) = z_r sc 87 1102 0 915 [some (.retAddr 0), some (.ref 0), some (.ref 76), some (.int i)] [] (z_enc τ) ∧ INV τ := by
  obtain ⟨x, τ1, τ2, e1, e2, hI2⟩ := st8 hI x1 x2
  refine ⟨τ2, ?_, hI2⟩
  simp only [e0_344, e0_345, e0_346, e0_347, e0_348, e0_349, e0_350, e0_351, e0_352, e0_353, e0_354, e0_355, e0_358, e0_359, e0_360, e0_361, e0_362, e0_363, e0_364, e0_365, e0_366, e0_367, e0_368, e0_369, e0_372, e0_375, e0_376, h1, h2, v0, v76, e1, e2, z_bd_i, z_bd_l, z_bd_v, List.cons_append, List.nil_append, z_nk_i, z_nk_r, z_nk_n, v0, v1, v3, v19, v61, v71, v76, eq_self, if_true]
theorem lw_c9 (hI : INV σ) (h1 : ∀ K : Int32 → Option z_O, z_sl sc (i + 1) K = K x1) (h2 : ∀ K : Int32 → Option z_O, z_sl sc (i + 2) K = K x2) : ∃ τ, z_r sc 87 1102 0 377 [some (.retAddr 0), some (.ref 0), some (.ref 76), some (.int i)] [] (z_enc σ) = z_r sc 87 1102 0 915 [some (.retAddr 0), some (.ref 0), some (.ref 76), some (.int i)] [] (z_enc τ) ∧ INV τ := by
  obtain ⟨x, τ1, τ2, e1, e2, hI2⟩ := st9 hI x1 x2
  refine ⟨τ2, ?_, hI2⟩
  simp only [e0_377, e0_378, e0_379, e0_380, e0_381, e0_382, e0_383, e0_384, e0_385, e0_386, e0_387, e0_388, e0_391, e0_392, e0_393, e0_394, e0_395, e0_396, e0_397, e0_398, e0_399, e0_400, e0_401, e0_402, e0_405, e0_408, e0_409, h1, h2, v0, v76, e1, e2, z_bd_i, z_bd_l, z_bd_v, List.cons_append, List.nil_append, z_nk_i, z_nk_r, z_nk_n, v0, v1, v3, v19, v61, v71, v76, eq_self, if_true]
theorem lw_c10 (hI : INV σ) (h1 : ∀ K : Int32 → Option z_O, z_sl sc (i + 1) K = K x1) (h2 : ∀ K : Int32 → Option z_O, z_sl sc (i + 2) K = K x2) : ∃ τ, z_r sc 87 1102 0 410 [some (.retAddr 0), some (.ref 0), some (.ref 76), some (.int i)] [] (z_enc σ) = z_r sc 87 1102 0 915 [some (.retAddr 0), some (.ref 0), some (.ref 76), some (.int i)] [] (z_enc τ) ∧ INV τ := by
  obtain ⟨x, τ1, τ2, e1, e2, hI2⟩ := st10 hI x1 x2
  refine ⟨τ2, ?_, hI2⟩
  simp only [e0_410, e0_411, e0_412, e0_413, e0_414, e0_415, e0_416, e0_417, e0_418, e0_419, e0_420, e0_421, e0_424, e0_425, e0_426, e0_427, e0_428, e0_429, e0_430, e0_431, e0_432, e0_433, e0_434, e0_435, e0_438, e0_441, e0_442, h1, h2, v0, v76, e1, e2, z_bd_i, z_bd_l, z_bd_v, List.cons_append, List.nil_append, z_nk_i, z_nk_r, z_nk_n, v0, v1, v3, v19, v61, v71, v76, eq_self, if_true]
theorem lw_c11 (hI : INV σ) (h1 : ∀ K : Int32 → Option z_O, z_sl sc (i + 1) K = K x1) (h2 : ∀ K : Int32 → Option z_O, z_sl sc (i + 2) K = K x2) : ∃ τ, z_r sc 87 1102 0 443 [some (.retAddr 0), some (.ref 0), some (.ref 76), some (.int i)] [] (z_enc σ) = z_r sc 87 1102 0 915 [some (.retAddr 0), some (.ref 0), some (.ref 76), some (.int i)] [] (z_enc τ) ∧ INV τ := by
  obtain ⟨x, τ1, τ2, e1, e2, hI2⟩ := st11 hI x1 x2
  refine ⟨τ2, ?_, hI2⟩
  simp only [e0_443, e0_444, e0_445, e0_446, e0_447, e0_448, e0_449, e0_450, e0_451, e0_452, e0_453, e0_454, e0_457, e0_458, e0_459, e0_460, e0_461, e0_462, e0_463, e0_464, e0_465, e0_466, e0_467, e0_468, e0_471, e0_474, e0_475, h1, h2, v0, v76, e1, e2, z_bd_i, z_bd_l, z_bd_v, List.cons_append, List.nil_append, z_nk_i, z_nk_r, z_nk_n, v0, v1, v3, v19, v61, v71, v76, eq_self, if_true]
theorem lw_c12 (hI : INV σ) : ∃ τ, z_r sc 87 1102 0 476 [some (.retAddr 0), some (.ref 0), some (.ref 76), some (.int i)] [] (z_enc σ) = z_r sc 87 1102 0 915 [some (.retAddr 0), some (.ref 0), some (.ref 76), some (.int i)] [] (z_enc τ) ∧ INV τ := by
  obtain ⟨x, τ1, τ2, e1, e2, hI2⟩ := st12 hI
  refine ⟨τ2, ?_, hI2⟩
  simp only [e0_476, e0_477, e0_480, e0_481, e0_484, e0_487, e0_488, v0, v76, e1, e2, z_bd_i, z_bd_l, z_bd_v, List.cons_append, List.nil_append, z_nk_i, z_nk_r, z_nk_n, v0, v1, v3, v19, v61, v71, v76, eq_self, if_true]
theorem lw_c13 (hI : INV σ) (h1 : ∀ K : Int32 → Option z_O, z_sl sc (i + 1) K = K x1) (h2 : ∀ K : Int32 → Option z_O, z_sl sc (i + 2) K = K x2) : ∃ τ, z_r sc 87 1102 0 489 [some (.retAddr 0), some (.ref 0), some (.ref 76), some (.int i)] [] (z_enc σ) = z_r sc 87 1102 0 915 [some (.retAddr 0), some (.ref 0), some (.ref 76), some (.int i)] [] (z_enc τ) ∧ INV τ := by
  obtain ⟨x, τ1, τ2, e1, e2, hI2⟩ := st13 hI x1 x2
  refine ⟨τ2, ?_, hI2⟩
  simp only [e0_489, e0_490, e0_491, e0_492, e0_493, e0_494, e0_495, e0_496, e0_497, e0_498, e0_499, e0_500, e0_503, e0_504, e0_505, e0_506, e0_507, e0_508, e0_509, e0_510, e0_511, e0_512, e0_513, e0_514, e0_517, e0_520, e0_521, h1, h2, v0, v76, e1, e2, z_bd_i, z_bd_l, z_bd_v, List.cons_append, List.nil_append, z_nk_i, z_nk_r, z_nk_n, v0, v1, v3, v19, v61, v71, v76, eq_self, if_true]
theorem lw_c14 (hI : INV σ) (h1 : ∀ K : Int32 → Option z_O, z_sl sc (i + 1) K = K x1) : ∃ τ, z_r sc 87 1102 0 522 [some (.retAddr 0), some (.ref 0), some (.ref 76), some (.int i)] [] (z_enc σ) = z_r sc 87 1102 0 915 [some (.retAddr 0), some (.ref 0), some (.ref 76), some (.int i)] [] (z_enc τ) ∧ INV τ := by
  obtain ⟨x, τ1, τ2, e1, e2, hI2⟩ := st14 hI x1
  refine ⟨τ2, ?_, hI2⟩
  simp only [e0_522, e0_523, e0_524, e0_525, e0_526, e0_527, e0_528, e0_531, e0_532, e0_533, e0_534, e0_535, e0_536, e0_537, e0_540, e0_543, e0_544, h1, v0, v76, e1, e2, z_bd_i, z_bd_l, z_bd_v, List.cons_append, List.nil_append, z_nk_i, z_nk_r, z_nk_n, v0, v1, v3, v19, v61, v71, v76, eq_self, if_true]
theorem lw_c15 (hI : INV σ) (h1 : ∀ K : Int32 → Option z_O, z_sl sc (i + 1) K = K x1) (h2 : ∀ K : Int32 → Option z_O, z_sl sc (i + 2) K = K x2) : ∃ τ, z_r sc 87 1102 0 545 [some (.retAddr 0), some (.ref 0), some (.ref 76), some (.int i)] [] (z_enc σ) = z_r sc 87 1102 0 915 [some (.retAddr 0), some (.ref 0), some (.ref 76), some (.int i)] [] (z_enc τ) ∧ INV τ := by
  obtain ⟨x, τ1, τ2, e1, e2, hI2⟩ := st15 hI x1 x2
  refine ⟨τ2, ?_, hI2⟩
  simp only [e0_545, e0_546, e0_547, e0_548, e0_549, e0_550, e0_551, e0_552, e0_553, e0_554, e0_555, e0_556, e0_559, e0_560, e0_561, e0_562, e0_563, e0_564, e0_565, e0_566, e0_567, e0_568, e0_569, e0_570, e0_573, e0_576, e0_577, h1, h2, v0, v76, e1, e2, z_bd_i, z_bd_l, z_bd_v, List.cons_append, List.nil_append, z_nk_i, z_nk_r, z_nk_n, v0, v1, v3, v19, v61, v71, v76, eq_self, if_true]
theorem lw_c16 (hI : INV σ) (h1 : ∀ K : Int32 → Option z_O, z_sl sc (i + 1) K = K x1) (h2 : ∀ K : Int32 → Option z_O, z_sl sc (i + 2) K = K x2) (h3 : ∀ K : Int32 → Option z_O, z_sl sc (i + 3) K = K x3) : ∃ τ, z_r sc 87 1102 0 578 [some (.retAddr 0), some (.ref 0), some (.ref 76), some (.int i)] [] (z_enc σ) = z_r sc 87 1102 0 915 [some (.retAddr 0), some (.ref 0), some (.ref 76), some (.int i)] [] (z_enc τ) ∧ INV τ := by
  obtain ⟨x, τ1, τ2, e1, e2, hI2⟩ := st16 hI x1 x2 x3
  refine ⟨τ2, ?_, hI2⟩
  simp only [e0_578, e0_579, e0_580, e0_581, e0_582, e0_583, e0_584, e0_585, e0_586, e0_587, e0_588, e0_589, e0_590, e0_591, e0_592, e0_593, e0_594, e0_597, e0_598, e0_599, e0_600, e0_601, e0_602, e0_603, e0_604, e0_605, e0_606, e0_607, e0_608, e0_609, e0_610, e0_611, e0_612, e0_613, e0_616, e0_619, e0_620, h1, h2, h3, v0, v76, e1, e2, z_bd_i, z_bd_l, z_bd_v, List.cons_append, List.nil_append, z_nk_i, z_nk_r, z_nk_n, v0, v1, v3, v19, v61, v71, v76, eq_self, if_true]
theorem lw_c17 (hI : INV σ) (h1 : ∀ K : Int32 → Option z_O, z_sl sc (i + 1) K = K x1) (h2 : ∀ K : Int32 → Option z_O, z_sl sc (i + 2) K = K x2) : ∃ τ, z_r sc 87 1102 0 621 [some (.retAddr 0), some (.ref 0), some (.ref 76), some (.int i)] [] (z_enc σ) = z_r sc 87 1102 0 915 [some (.retAddr 0), some (.ref 0), some (.ref 76), some (.int i)] [] (z_enc τ) ∧ INV τ := by
  obtain ⟨x, τ1, τ2, e1, e2, hI2⟩ := st17 hI x1 x2
  refine ⟨τ2, ?_, hI2⟩
  simp only [e0_621, e0_622, e0_623, e0_624, e0_625, e0_626, e0_627, e0_628, e0_629, e0_630, e0_631, e0_632, e0_635, e0_636, e0_637, e0_638, e0_639, e0_640, e0_641, e0_642, e0_643, e0_644, e0_645, e0_646, e0_649, e0_652, e0_653, h1, h2, v0, v76, e1, e2, z_bd_i, z_bd_l, z_bd_v, List.cons_append, List.nil_append, z_nk_i, z_nk_r, z_nk_n, v0, v1, v3, v19, v61, v71, v76, eq_self, if_true]
theorem lw_c18 (hI : INV σ) (h1 : ∀ K : Int32 → Option z_O, z_sl sc (i + 1) K = K x1) (h2 : ∀ K : Int32 → Option z_O, z_sl sc (i + 2) K = K x2) (h3 : ∀ K : Int32 → Option z_O, z_sl sc (i + 3) K = K x3) : ∃ τ, z_r sc 87 1102 0 654 [some (.retAddr 0), some (.ref 0), some (.ref 76), some (.int i)] [] (z_enc σ) = z_r sc 87 1102 0 915 [some (.retAddr 0), some (.ref 0), some (.ref 76), some (.int i)] [] (z_enc τ) ∧ INV τ := by
  obtain ⟨x, τ1, τ2, e1, e2, hI2⟩ := st18 hI x1 x2 x3
  refine ⟨τ2, ?_, hI2⟩
  simp only [e0_654, e0_655, e0_656, e0_657, e0_658, e0_659, e0_660, e0_661, e0_662, e0_663, e0_664, e0_665, e0_666, e0_667, e0_668, e0_669, e0_670, e0_673, e0_674, e0_675, e0_676, e0_677, e0_678, e0_679, e0_680, e0_681, e0_682, e0_683, e0_684, e0_685, e0_686, e0_687, e0_688, e0_689, e0_692, e0_695, e0_696, h1, h2, h3, v0, v76, e1, e2, z_bd_i, z_bd_l, z_bd_v, List.cons_append, List.nil_append, z_nk_i, z_nk_r, z_nk_n, v0, v1, v3, v19, v61, v71, v76, eq_self, if_true]
theorem lw_c19 (hI : INV σ) (h1 : ∀ K : Int32 → Option z_O, z_sl sc (i + 1) K = K x1) (h2 : ∀ K : Int32 → Option z_O, z_sl sc (i + 2) K = K x2) (h3 : ∀ K : Int32 → Option z_O, z_sl sc (i + 3) K = K x3) : ∃ τ, z_r sc 87 1102 0 697 [some (.retAddr 0), some (.ref 0), some (.ref 76), some (.int i)] [] (z_enc σ) = z_r sc 87 1102 0 915 [some (.retAddr 0), some (.ref 0), some (.ref 76), some (.int i)] [] (z_enc τ) ∧ INV τ := by
  obtain ⟨x, τ1, τ2, e1, e2, hI2⟩ := st19 hI x1 x2 x3
  refine ⟨τ2, ?_, hI2⟩
  simp only [e0_697, e0_698, e0_699, e0_700, e0_701, e0_702, e0_703, e0_704, e0_705, e0_706, e0_707, e0_708, e0_709, e0_710, e0_711, e0_712, e0_713, e0_716, e0_717, e0_718, e0_719, e0_720, e0_721, e0_722, e0_723, e0_724, e0_725, e0_726, e0_727, e0_728, e0_729, e0_730, e0_731, e0_732, e0_735, e0_738, e0_739, h1, h2, h3, v0, v76, e1, e2, z_bd_i, z_bd_l, z_bd_v, List.cons_append, List.nil_append, z_nk_i, z_nk_r, z_nk_n, v0, v1, v3, v19, v61, v71, v76, eq_self, if_true]
theorem lw_c20 (hI : INV σ) : ∃ τ, z_r sc 87 1102 0 740 [some (.retAddr 0), some (.ref 0), some (.ref 76), some (.int i)] [] (z_enc σ) = z_r sc 87 1102 0 915 [some (.retAddr 0), some (.ref 0), some (.ref 76), some (.int i)] [] (z_enc τ) ∧ INV τ := by
  obtain ⟨x, τ1, τ2, e1, e2, hI2⟩ := st20 hI
  refine ⟨τ2, ?_, hI2⟩
  simp only [e0_740, e0_741, e0_744, e0_745, e0_748, e0_751, e0_752, v0, v76, e1, e2, z_bd_i, z_bd_l, z_bd_v, List.cons_append, List.nil_append, z_nk_i, z_nk_r, z_nk_n, v0, v1, v3, v19, v61, v71, v76, eq_self, if_true]
theorem lw_c21 (hI : INV σ) (h1 : ∀ K : Int32 → Option z_O, z_sl sc (i + 1) K = K x1) : ∃ τ, z_r sc 87 1102 0 753 [some (.retAddr 0), some (.ref 0), some (.ref 76), some (.int i)] [] (z_enc σ) = z_r sc 87 1102 0 915 [some (.retAddr 0), some (.ref 0), some (.ref 76), some (.int i)] [] (z_enc τ) ∧ INV τ := by
  obtain ⟨x, τ1, τ2, e1, e2, hI2⟩ := st21 hI x1
  refine ⟨τ2, ?_, hI2⟩
  simp only [e0_753, e0_754, e0_755, e0_756, e0_757, e0_758, e0_759, e0_762, e0_763, e0_764, e0_765, e0_766, e0_767, e0_768, e0_771, e0_774, e0_775, h1, v0, v76, e1, e2, z_bd_i, z_bd_l, z_bd_v, List.cons_append, List.nil_append, z_nk_i, z_nk_r, z_nk_n, v0, v1, v3, v19, v61, v71, v76, eq_self, if_true]
theorem lw_c22 (hI : INV σ) (h1 : ∀ K : Int32 → Option z_O, z_sl sc (i + 1) K = K x1) : ∃ τ, z_r sc 87 1102 0 776 [some (.retAddr 0), some (.ref 0), some (.ref 76), some (.int i)] [] (z_enc σ) = z_r sc 87 1102 0 915 [some (.retAddr 0), some (.ref 0), some (.ref 76), some (.int i)] [] (z_enc τ) ∧ INV τ := by
  obtain ⟨x, τ1, τ2, e1, e2, hI2⟩ := st22 hI x1
  refine ⟨τ2, ?_, hI2⟩
  simp only [e0_776, e0_777, e0_778, e0_779, e0_780, e0_781, e0_782, e0_785, e0_786, e0_787, e0_788, e0_789, e0_790, e0_791, e0_794, e0_797, e0_798, h1, v0, v76, e1, e2, z_bd_i, z_bd_l, z_bd_v, List.cons_append, List.nil_append, z_nk_i, z_nk_r, z_nk_n, v0, v1, v3, v19, v61, v71, v76, eq_self, if_true]
theorem lw_c23 (hI : INV σ) (h1 : ∀ K : Int32 → Option z_O, z_sl sc (i + 1) K = K x1) (h2 : ∀ K : Int32 → Option z_O, z_sl sc (i + 2) K = K x2) : ∃ τ, z_r sc 87 1102 0 799 [some (.retAddr 0), some (.ref 0), some (.ref 76), some (.int i)] [] (z_enc σ) = z_r sc 87 1102 0 915 [some (.retAddr 0), some (.ref 0), some (.ref 76), some (.int i)] [] (z_enc τ) ∧ INV τ := by
  obtain ⟨x, τ1, τ2, e1, e2, hI2⟩ := st23 hI x1 x2
  refine ⟨τ2, ?_, hI2⟩
  simp only [e0_799, e0_800, e0_801, e0_802, e0_803, e0_804, e0_805, e0_806, e0_807, e0_808, e0_809, e0_810, e0_813, e0_814, e0_815, e0_816, e0_817, e0_818, e0_819, e0_820, e0_821, e0_822, e0_823, e0_824, e0_827, e0_830, e0_831, h1, h2, v0, v76, e1, e2, z_bd_i, z_bd_l, z_bd_v, List.cons_append, List.nil_append, z_nk_i, z_nk_r, z_nk_n, v0, v1, v3, v19, v61, v71, v76, eq_self, if_true]
theorem lw_c24 (hI : INV σ) (h1 : ∀ K : Int32 → Option z_O, z_sl sc (i + 1) K = K x1) : ∃ τ, z_r sc 87 1102 0 832 [some (.retAddr 0), some (.ref 0), some (.ref 76), some (.int i)] [] (z_enc σ) = z_r sc 87 1102 0 915 [some (.retAddr 0), some (.ref 0), some (.ref 76), some (.int i)] [] (z_enc τ) ∧ INV τ := by
  obtain ⟨x, τ1, τ2, e1, e2, hI2⟩ := st24 hI x1
  refine ⟨τ2, ?_, hI2⟩
  simp only [e0_832, e0_833, e0_834, e0_835, e0_836, e0_837, e0_838, e0_841, e0_842, e0_843, e0_844, e0_845, e0_846, e0_847, e0_850, e0_853, e0_854, h1, v0, v76, e1, e2, z_bd_i, z_bd_l, z_bd_v, List.cons_append, List.nil_append, z_nk_i, z_nk_r, z_nk_n, v0, v1, v3, v19, v61, v71, v76, eq_self, if_true]
theorem lw_c25 (hI : INV σ) (h1 : ∀ K : Int32 → Option z_O, z_sl sc (i + 1) K = K x1) : ∃ τ, z_r sc 87 1102 0 855 [some (.retAddr 0), some (.ref 0), some (.ref 76), some (.int i)] [] (z_enc σ) = z_r sc 87 1102 0 915 [some (.retAddr 0), some (.ref 0), some (.ref 76), some (.int i)] [] (z_enc τ) ∧ INV τ := by
  obtain ⟨x, τ1, τ2, e1, e2, hI2⟩ := st25 hI x1
  refine ⟨τ2, ?_, hI2⟩
  simp only [e0_855, e0_856, e0_857, e0_858, e0_859, e0_860, e0_861, e0_864, e0_865, e0_866, e0_867, e0_868, e0_869, e0_870, e0_873, e0_876, e0_877, h1, v0, v76, e1, e2, z_bd_i, z_bd_l, z_bd_v, List.cons_append, List.nil_append, z_nk_i, z_nk_r, z_nk_n, v0, v1, v3, v19, v61, v71, v76, eq_self, if_true]
theorem lw_c26 (hI : INV σ) (h1 : ∀ K : Int32 → Option z_O, z_sl sc (i + 1) K = K x1) : ∃ τ, z_r sc 87 1102 0 878 [some (.retAddr 0), some (.ref 0), some (.ref 76), some (.int i)] [] (z_enc σ) = z_r sc 87 1102 0 915 [some (.retAddr 0), some (.ref 0), some (.ref 76), some (.int i)] [] (z_enc τ) ∧ INV τ := by
  obtain ⟨x, τ1, τ2, e1, e2, hI2⟩ := st26 hI x1
  refine ⟨τ2, ?_, hI2⟩
  simp only [e0_878, e0_879, e0_880, e0_881, e0_882, e0_883, e0_884, e0_887, e0_888, e0_889, e0_890, e0_891, e0_892, e0_893, e0_896, e0_899, e0_900, h1, v0, v76, e1, e2, z_bd_i, z_bd_l, z_bd_v, List.cons_append, List.nil_append, z_nk_i, z_nk_r, z_nk_n, v0, v1, v3, v19, v61, v71, v76, eq_self, if_true]
theorem lw_c27 (hI : INV σ) : ∃ τ, z_r sc 87 1102 0 901 [some (.retAddr 0), some (.ref 0), some (.ref 76), some (.int i)] [] (z_enc σ) = z_r sc 87 1102 0 915 [some (.retAddr 0), some (.ref 0), some (.ref 76), some (.int i)] [] (z_enc τ) ∧ INV τ := by
  obtain ⟨x, e1, e2⟩ := st27 hI
  refine ⟨σ, ?_, hI⟩
  simp only [e0_901, e0_902, e0_905, e0_906, e0_909, e0_910, e0_913, e0_914, v0, v76, e1, e2, z_bd_i, z_bd_l, z_bd_v, List.cons_append, List.nil_append, z_nk_i, z_nk_r, z_nk_n, v0, v1, v3, v19, v61, v71, v76, lg_self, eq_self, if_true]
theorem lw_sw (hI : INV σ) (h1 : ∀ K : Int32 → Option z_O, z_sl sc (i + 1) K = K x1) (h2 : ∀ K : Int32 → Option z_O, z_sl sc (i + 2) K = K x2) (h3 : ∀ K : Int32 → Option z_O, z_sl sc (i + 3) K = K x3) (x : Int32) : ∃ τ, z_r sc 87 1102 0 32 [some (.retAddr 0), some (.ref 0), some (.ref 76), some (.int i)] [.int x] (z_enc σ) = z_r sc 87 1102 0 915 [some (.retAddr 0), some (.ref 0), some (.ref 76), some (.int i)] [] (z_enc τ) ∧ INV τ := by
  rw [e0_32]
  by_cases q0 : x = 0
  · rw [if_pos q0]
    exact lw_c0 hI h1
  rw [if_neg q0]
  by_cases q1 : x = 1
  · rw [if_pos q1]
    exact lw_c1 hI
  rw [if_neg q1]
  by_cases q2 : x = 2
  · rw [if_pos q2]
    exact lw_c2 hI
  rw [if_neg q2]
  by_cases q3 : x = 3
  · rw [if_pos q3]
    exact lw_c3 hI h1 h2
  rw [if_neg q3]
  by_cases q4 : x = 4
  · rw [if_pos q4]
    exact lw_c4 hI h1 h2
  rw [if_neg q4]
  by_cases q5 : x = 5
  · rw [if_pos q5]
    exact lw_c5 hI h1 h2
  rw [if_neg q5]
  by_cases q6 : x = 6
  · rw [if_pos q6]
    exact lw_c6 hI h1
  rw [if_neg q6]
  by_cases q7 : x = 7
  · rw [if_pos q7]
    exact lw_c7 hI
  rw [if_neg q7]
  by_cases q8 : x = 8
  · rw [if_pos q8]
    exact lw_c8 hI h1 h2
  rw [if_neg q8]
  by_cases q9 : x = 9
  · rw [if_pos q9]
    exact lw_c9 hI h1 h2
  rw [if_neg q9]
  by_cases q10 : x = 10
  · rw [if_pos q10]
    exact lw_c10 hI h1 h2
  rw [if_neg q10]
  by_cases q11 : x = 11
  · rw [if_pos q11]
    exact lw_c11 hI h1 h2
  rw [if_neg q11]
  by_cases q12 : x = 12
  · rw [if_pos q12]
    exact lw_c12 hI
  rw [if_neg q12]
  by_cases q13 : x = 13
  · rw [if_pos q13]
    exact lw_c13 hI h1 h2
  rw [if_neg q13]
  by_cases q14 : x = 14
  · rw [if_pos q14]
    exact lw_c14 hI h1
  rw [if_neg q14]
  by_cases q15 : x = 15
  · rw [if_pos q15]
    exact lw_c15 hI h1 h2
  rw [if_neg q15]
  by_cases q16 : x = 16
  · rw [if_pos q16]
    exact lw_c16 hI h1 h2 h3
  rw [if_neg q16]
  by_cases q17 : x = 17
  · rw [if_pos q17]
    exact lw_c17 hI h1 h2
  rw [if_neg q17]
  by_cases q18 : x = 18
  · rw [if_pos q18]
    exact lw_c18 hI h1 h2 h3
  rw [if_neg q18]
  by_cases q19 : x = 19
  · rw [if_pos q19]
    exact lw_c19 hI h1 h2 h3
  rw [if_neg q19]
  by_cases q20 : x = 20
  · rw [if_pos q20]
    exact lw_c20 hI
  rw [if_neg q20]
  by_cases q21 : x = 21
  · rw [if_pos q21]
    exact lw_c21 hI h1
  rw [if_neg q21]
  by_cases q22 : x = 22
  · rw [if_pos q22]
    exact lw_c22 hI h1
  rw [if_neg q22]
  by_cases q23 : x = 23
  · rw [if_pos q23]
    exact lw_c23 hI h1 h2
  rw [if_neg q23]
  by_cases q24 : x = 24
  · rw [if_pos q24]
    exact lw_c24 hI h1
  rw [if_neg q24]
  by_cases q25 : x = 25
  · rw [if_pos q25]
    exact lw_c25 hI h1
  rw [if_neg q25]
  by_cases q26 : x = 26
  · rw [if_pos q26]
    exact lw_c26 hI h1
  rw [if_neg q26]
  by_cases q27 : x = 27
  · rw [if_pos q27]
    exact lw_c27 hI
  rw [if_neg q27]
  exact ⟨σ, rfl, hI⟩
theorem zsl_ok {k : Nat} (hk : k < sc.length) (hl : sc.length ≤ 2048) (K : Int32 → Option z_O) : z_sl sc (nI k) K = K (sc.getD k 0) := by
  unfold z_sl
  rw [if_pos (z_in_nI hk (by omega)), nI_clamp (by omega)]
theorem lt_cond {l k : Nat} (hl : l ≤ 2048) (hk : k ≤ 4096) : (nI l - 4 < nI k) = (l < k + 4) := by
  have e1 : (nI l - 4).toInt = (l : Int) - 4 := by
    rw [show (4 : Int32) = nI 4 from rfl, pk_sub_toInt (by omega) (by decide)]
    rfl
  have e2 : (nI k).toInt = k := nI_toInt (by omega)
  rw [Int32.lt_iff_toInt_lt, e1, e2]
  apply propext
  omega
theorem lw_loop (hl : sc.length ≤ 2048) : ∀ d k (σ : z_G), sc.length < k + 4 + 4 * d → k ≤ 4096 → INV σ → ∃ ph, z_r sc 87 1102 0 18 [some (.retAddr 0), some (.ref 0), some (.ref 76), some (.int (nI k))] [] (z_enc σ) = some (some (.int 1), ph) := by
  intro d
  induction d with
  | zero =>
    intro k σ h1 h2 hI
    have b : (Int32.ofNat sc.length - 4 < nI k) = True := eq_true (by
      have := lt_cond hl h2
      rw [show Int32.ofNat sc.length = nI sc.length from rfl, this]
      omega)
    refine ⟨z_enc σ, ?_⟩
    simp only [e0_18, e0_19, e0_20, e0_21, e0_22, e0_23, e0_921, e0_922, b, if_true, z_b_ok1]
  | succ d ih =>
    intro k σ h1 h2 hI
    have hc := lt_cond hl h2
    by_cases q : sc.length < k + 4
    · have b : (Int32.ofNat sc.length - 4 < nI k) = True := eq_true (by
        rw [show Int32.ofNat sc.length = nI sc.length from rfl, hc]
        exact q)
      refine ⟨z_enc σ, ?_⟩
      simp only [e0_18, e0_19, e0_20, e0_21, e0_22, e0_23, e0_921, e0_922, b, if_true, z_b_ok1]
    · have b : (Int32.ofNat sc.length - 4 < nI k) = False := eq_false (by
        rw [show Int32.ofNat sc.length = nI sc.length from rfl, hc]
        exact q)
      have h0 : ∀ K : Int32 → Option z_O, z_sl sc (nI k) K = K (sc.getD k 0) := fun K => zsl_ok (by omega) hl K
      have h1' : ∀ K : Int32 → Option z_O, z_sl sc (nI k + 1) K = K (sc.getD (k + 1) 0) := fun K => by
        rw [nI_1]
        exact zsl_ok (by omega) hl K
      have h2' : ∀ K : Int32 → Option z_O, z_sl sc (nI k + 2) K = K (sc.getD (k + 2) 0) := fun K => by
        rw [l_2, nI_add]
        exact zsl_ok (by omega) hl K
      have h3' : ∀ K : Int32 → Option z_O, z_sl sc (nI k + 3) K = K (sc.getD (k + 3) 0) := fun K => by
        rw [l_3, nI_add]
        exact zsl_ok (by omega) hl K
      obtain ⟨τ, e, hI2⟩ := lw_sw hI h1' h2' h3' (sc.getD k 0 &&& 31)
      obtain ⟨ph, e2⟩ := ih (k + 4) τ (by omega) (by omega) hI2
      refine ⟨ph, ?_⟩
      rw [← e2]
      have a1 : z_r sc 87 1102 0 18 [some (.retAddr 0), some (.ref 0), some (.ref 76), some (.int (nI k))] [] (z_enc σ) = z_r sc 87 1102 0 32 [some (.retAddr 0), some (.ref 0), some (.ref 76), some (.int (nI k))] [.int (sc.getD k 0 &&& 31)] (z_enc σ) := by
        simp only [e0_18, e0_19, e0_20, e0_21, e0_22, e0_23, e0_26, e0_27, e0_28, e0_29, e0_31, b, if_false, h0]
      rw [a1, e, e0_915, e0_918, l_4, nI_add]
end LAW
def S_i : t_S := (fun _ => 0, fun _ => 0, fun _ => 0, 0, 0, 0)
theorem INV_0 : INV z_σ0 := by
  refine ⟨0, fun _ => 0, L_0, S_i, 0, fun _ => S_i, 0, fun _ => S_i, 0, fun _ => (0, 0, 0), 0, ?_, ?_, ?_⟩
  · refine ⟨⟨by omega, rfl, fun k hk => absurd hk (by omega)⟩, ⟨rfl, rfl, rfl, rfl, rfl, rfl⟩, ⟨fun k _ => ?_, fun k _ => ?_, fun k _ => ?_, rfl, rfl, rfl⟩, ⟨0, by omega, by omega, rfl, rfl, fun j hj => absurd hj (by omega)⟩, ⟨by omega, rfl, fun i _ hb => absurd hb (by simp)⟩, ⟨by omega, rfl, fun k hk => absurd hk (by omega)⟩, rfl⟩
    · refine Eq.trans (b := 0) ?_ (show (0 : Int32) = nI (tn 0) by decide)
      show (if (12 = 4 ∨ 12 = 10 ∨ 12 = 78 ∨ 12 = 79) ∧ (k = 0 ∨ k = 1) then (8 : Int32) else 0) = 0
      rw [if_neg (by omega)]
    · refine Eq.trans (b := 0) ?_ (show (0 : Int32) = nI (tn 0) by decide)
      show (if (13 = 4 ∨ 13 = 10 ∨ 13 = 78 ∨ 13 = 79) ∧ (k = 0 ∨ k = 1) then (8 : Int32) else 0) = 0
      rw [if_neg (by omega)]
    · show (if (14 = 4 ∨ 14 = 10 ∨ 14 = 78 ∨ 14 = 79) ∧ (k = 0 ∨ k = 1) then (8 : Int32) else 0) = 0
      rw [if_neg (by omega)]
  · refine ⟨⟨by omega, rfl, fun k hk => absurd hk (by omega)⟩, ⟨⟨rfl, rfl, rfl, rfl, fun c hc => ?_⟩, ?_, ⟨by omega, rfl, fun j hj => absurd hj (by omega)⟩⟩, ⟨by omega, rfl, fun i _ hb => absurd hb (by simp)⟩, ⟨by omega, rfl, fun k hk => absurd hk (by omega)⟩, rfl⟩
    · have e : kindF L_0 c = 0 := by unfold kindF wallF foldF L_0; simp
      rw [e]
      show (if (78 = 4 ∨ 78 = 10 ∨ 78 = 78 ∨ 78 = 79) ∧ (4 + c = 0 ∨ 4 + c = 1) then (8 : Int32) else 0) = 0
      rw [if_neg (by omega)]
    · have h : ∀ j, z_σ0.1 81 j = 0 := fun j => by
        show (if (81 = 4 ∨ 81 = 10 ∨ 81 = 78 ∨ 81 = 79) ∧ (j = 0 ∨ j = 1) then (8 : Int32) else 0) = 0
        rw [if_neg (by omega)]
      exact R0_mk (fun k _ => h k) (fun k hk => absurd hk (Nat.not_lt_zero k)) (h 8) (h 9) (h 10) (h 11) (fun k _ => h _)
  · refine ⟨G_0.1, ⟨⟨fun k _ => ?_, fun k _ => ?_, fun k _ => Or.inl ?_, ?_, ?_, ?_⟩, ?_⟩, fun j hj => absurd hj (by omega), fun i _ hb => absurd hb (by simp)⟩
    · show 0 < 64; omega
    · show 0 < 64; omega
    · show 0 < 4; omega
    · show 0 < 16; omega
    · show 0 < 16; omega
    · show 0 < 2 ^ 64; decide
    · show 0 < 2 ^ 0; decide
theorem z_law (sc : List Int32) (hl : sc.length ≤ 2048) : ∃ (n : Nat) (ph : z_H), z_ex sc n 0 0 (z_init 0 [.retAddr 0]) [] [] 0 0 = some (some (.int 1), ph) := by
  obtain ⟨ph, e⟩ := lw_loop hl 513 0 z_σ0 (by omega) (by omega) INV_0
  have p := z_prefix sc
  rw [show (0 : Int32) = nI 0 from rfl, e] at p
  obtain ⟨n, hn⟩ := z_r_some.mp p
  exact ⟨n, ph, hn⟩
