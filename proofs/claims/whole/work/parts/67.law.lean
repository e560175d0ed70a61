/-! ===== the law ===== -/
theorem a57 {I : Nat → Nat → Int32} {J : Nat → Nat → Int64} {j : Nat} : hr_ai (I, J) 57 j = I 57 j := ai_lt (by decide)
theorem ad2 (i : Nat) : nI i + 2 = nI (i + 2) := nI_add i 2
theorem ad3 (i : Nat) : nI i + 3 = nI (i + 3) := nI_add i 3
theorem ad4 (i : Nat) : nI i + 4 = nI (i + 4) := nI_add i 4
theorem ad5 (i : Nat) : nI i + 5 = nI (i + 5) := nI_add i 5
theorem ad6 (i : Nat) : nI i + 6 = nI (i + 6) := nI_add i 6
def lwV (a b : Int32) : Int64 := (a.toInt64 <<< ((32 : Int32).toInt64 &&& 63)) ||| (b.toInt64 &&& 4294967295)
section
variable {I I' : Nat → Nat → Int32} {J J' : Nat → Nat → Int64} {S i : Nat}
theorem lw_al (hJ : J 57 0 = lN S) (hS : S ≤ 3072) : hr_al (I, J) 57 = S := by
  show (J 57 0).toNatClampNeg = S
  rw [hJ]
  show (lN S).toInt.toNat = S
  rw [lN_toInt (by omega)]
  rfl
theorem lw_gt (hS : S ≤ 3072) (hi : i ≤ 3072) : (nI S - 6 < nI i) = ¬ (i + 6 ≤ S) := by
  apply propext
  rw [Int32.lt_iff_toInt_lt, show (nI S - 6).toInt = (S : Int) - 6 from pk_sub_toInt (a := S) (b := 6) (by omega) (by decide), nI_toInt (by omega)]
  omega
theorem lc_ship (hS : S ≤ 3072) (hw : Wd I J) (hJ : J 57 0 = lN S) (hi : i + 6 ≤ S) : ∃ I' J', den nL_law (188, [some (.ref 57), some (.ref 0), some (.ref 44), some (.int (nI i))], [], (I, J)) = den nL_law (1134, [some (.ref 57), some (.ref 0), some (.ref 44), some (.int (nI i))], [], (I', J')) ∧ Wd I' J' ∧ frS I I' J J' := by
  obtain ⟨v, I1, J1, I2, J2, e1, e2, w2, f1, f2⟩ := B_ship (a1 := I 57 (i + 1)) (a2 := I 57 (i + 2)) I J hw
  refine ⟨I2, J2, ?_, w2, f1.trans f2⟩
  have al0 : hr_al (I, J) 57 = S := lw_al hJ hS
  have al1 : hr_al (I1, J1) 57 = S := lw_al ((f1 57 (by decide) 0).2.trans hJ) hS
  have r : ∀ j, I1 57 j = I 57 j := fun j => (f1 57 (by decide) j).1
  simp only [eL_law_188, eL_law_189, eL_law_190, eL_law_191, eL_law_192, eL_law_193, eL_law_194, eL_law_195, eL_law_196, eL_law_197, eL_law_198, eL_law_199, eL_law_202, eL_law_203, eL_law_204, eL_law_205, eL_law_206, eL_law_207, eL_law_208, eL_law_209, eL_law_210, eL_law_211, eL_law_212, eL_law_213, eL_law_216, eL_law_219, eL_law_220, eq_self, hr_k_some, Option.toList, List.cons_append, List.nil_append, is2k_n, is2k_i, is2k_r, is2k_0, oc_0, oc_44, ak_57, al0, al1, a57, r, nI_1, ad2, in_k (show i + 1 < S by omega) (show S < 2 ^ 31 by omega), cl_nI (show i + 1 < 100000 by omega), in_k (show i + 2 < S by omega) (show S < 2 ^ 31 by omega), cl_nI (show i + 2 < 100000 by omega), e1, e2, if_true]
theorem lc_now (hS : S ≤ 3072) (hw : Wd I J) (hJ : J 57 0 = lN S) (hi : i + 6 ≤ S) : ∃ I' J', den nL_law (221, [some (.ref 57), some (.ref 0), some (.ref 44), some (.int (nI i))], [], (I, J)) = den nL_law (1134, [some (.ref 57), some (.ref 0), some (.ref 44), some (.int (nI i))], [], (I', J')) ∧ Wd I' J' ∧ frS I I' J J' := by
  obtain ⟨v, I1, J1, I2, J2, e1, e2, w2, f1, f2⟩ := B_now (a1 := I 57 (i + 1)) I J hw
  refine ⟨I2, J2, ?_, w2, f1.trans f2⟩
  have al0 : hr_al (I, J) 57 = S := lw_al hJ hS
  have al1 : hr_al (I1, J1) 57 = S := lw_al ((f1 57 (by decide) 0).2.trans hJ) hS
  have r : ∀ j, I1 57 j = I 57 j := fun j => (f1 57 (by decide) j).1
  simp only [eL_law_221, eL_law_222, eL_law_223, eL_law_224, eL_law_225, eL_law_226, eL_law_227, eL_law_230, eL_law_231, eL_law_232, eL_law_233, eL_law_234, eL_law_235, eL_law_236, eL_law_239, eL_law_242, eL_law_243, eq_self, hr_k_some, Option.toList, List.cons_append, List.nil_append, is2k_n, is2k_i, is2k_r, is2k_0, oc_0, oc_44, ak_57, al0, al1, a57, r, nI_1, in_k (show i + 1 < S by omega) (show S < 2 ^ 31 by omega), cl_nI (show i + 1 < 100000 by omega), e1, e2, if_true]
theorem lc_rock (hS : S ≤ 3072) (hw : Wd I J) (hJ : J 57 0 = lN S) (hi : i + 6 ≤ S) : ∃ I' J', den nL_law (244, [some (.ref 57), some (.ref 0), some (.ref 44), some (.int (nI i))], [], (I, J)) = den nL_law (1134, [some (.ref 57), some (.ref 0), some (.ref 44), some (.int (nI i))], [], (I', J')) ∧ Wd I' J' ∧ frS I I' J J' := by
  obtain ⟨v, I1, J1, I2, J2, e1, e2, w2, f1, f2⟩ := B_rock (a1 := I 57 (i + 1)) (a2 := I 57 (i + 2)) I J hw
  refine ⟨I2, J2, ?_, w2, f1.trans f2⟩
  have al0 : hr_al (I, J) 57 = S := lw_al hJ hS
  have al1 : hr_al (I1, J1) 57 = S := lw_al ((f1 57 (by decide) 0).2.trans hJ) hS
  have r : ∀ j, I1 57 j = I 57 j := fun j => (f1 57 (by decide) j).1
  simp only [eL_law_244, eL_law_245, eL_law_246, eL_law_247, eL_law_248, eL_law_249, eL_law_250, eL_law_251, eL_law_252, eL_law_253, eL_law_254, eL_law_255, eL_law_258, eL_law_259, eL_law_260, eL_law_261, eL_law_262, eL_law_263, eL_law_264, eL_law_265, eL_law_266, eL_law_267, eL_law_268, eL_law_269, eL_law_272, eL_law_275, eL_law_276, eq_self, hr_k_some, Option.toList, List.cons_append, List.nil_append, is2k_n, is2k_i, is2k_r, is2k_0, oc_0, oc_44, ak_57, al0, al1, a57, r, nI_1, ad2, in_k (show i + 1 < S by omega) (show S < 2 ^ 31 by omega), cl_nI (show i + 1 < 100000 by omega), in_k (show i + 2 < S by omega) (show S < 2 ^ 31 by omega), cl_nI (show i + 2 < 100000 by omega), e1, e2, if_true]
theorem lc_of (hS : S ≤ 3072) (hw : Wd I J) (hJ : J 57 0 = lN S) (hi : i + 6 ≤ S) : ∃ I' J', den nL_law (277, [some (.ref 57), some (.ref 0), some (.ref 44), some (.int (nI i))], [], (I, J)) = den nL_law (1134, [some (.ref 57), some (.ref 0), some (.ref 44), some (.int (nI i))], [], (I', J')) ∧ Wd I' J' ∧ frS I I' J J' := by
  obtain ⟨v, I1, J1, I2, J2, e1, e2, w2, f1, f2⟩ := B_of (a1 := I 57 (i + 1)) (a2 := I 57 (i + 2)) I J hw
  refine ⟨I2, J2, ?_, w2, f1.trans f2⟩
  have al0 : hr_al (I, J) 57 = S := lw_al hJ hS
  have al1 : hr_al (I1, J1) 57 = S := lw_al ((f1 57 (by decide) 0).2.trans hJ) hS
  have r : ∀ j, I1 57 j = I 57 j := fun j => (f1 57 (by decide) j).1
  simp only [eL_law_277, eL_law_278, eL_law_279, eL_law_280, eL_law_281, eL_law_282, eL_law_283, eL_law_284, eL_law_285, eL_law_286, eL_law_287, eL_law_288, eL_law_291, eL_law_292, eL_law_293, eL_law_294, eL_law_295, eL_law_296, eL_law_297, eL_law_298, eL_law_299, eL_law_300, eL_law_301, eL_law_302, eL_law_305, eL_law_308, eL_law_309, eq_self, hr_k_some, Option.toList, List.cons_append, List.nil_append, is2k_n, is2k_i, is2k_r, is2k_0, oc_0, oc_44, ak_57, al0, al1, a57, r, nI_1, ad2, in_k (show i + 1 < S by omega) (show S < 2 ^ 31 by omega), cl_nI (show i + 1 < 100000 by omega), in_k (show i + 2 < S by omega) (show S < 2 ^ 31 by omega), cl_nI (show i + 2 < 100000 by omega), e1, e2, if_true]
theorem lc_set (hS : S ≤ 3072) (hw : Wd I J) (hJ : J 57 0 = lN S) (hi : i + 6 ≤ S) : ∃ I' J', den nL_law (310, [some (.ref 57), some (.ref 0), some (.ref 44), some (.int (nI i))], [], (I, J)) = den nL_law (1134, [some (.ref 57), some (.ref 0), some (.ref 44), some (.int (nI i))], [], (I', J')) ∧ Wd I' J' ∧ frS I I' J J' := by
  obtain ⟨v, I1, J1, I2, J2, e1, e2, w2, f1, f2⟩ := B_set (a1 := I 57 (i + 1)) (a2 := I 57 (i + 2)) (a3 := I 57 (i + 3)) I J hw
  refine ⟨I2, J2, ?_, w2, f1.trans f2⟩
  have al0 : hr_al (I, J) 57 = S := lw_al hJ hS
  have al1 : hr_al (I1, J1) 57 = S := lw_al ((f1 57 (by decide) 0).2.trans hJ) hS
  have r : ∀ j, I1 57 j = I 57 j := fun j => (f1 57 (by decide) j).1
  simp only [eL_law_310, eL_law_311, eL_law_312, eL_law_313, eL_law_314, eL_law_315, eL_law_316, eL_law_317, eL_law_318, eL_law_319, eL_law_320, eL_law_321, eL_law_322, eL_law_323, eL_law_324, eL_law_325, eL_law_326, eL_law_329, eL_law_330, eL_law_331, eL_law_332, eL_law_333, eL_law_334, eL_law_335, eL_law_336, eL_law_337, eL_law_338, eL_law_339, eL_law_340, eL_law_341, eL_law_342, eL_law_343, eL_law_344, eL_law_345, eL_law_348, eL_law_351, eL_law_352, eq_self, hr_k_some, Option.toList, List.cons_append, List.nil_append, is2k_n, is2k_i, is2k_r, is2k_0, oc_0, oc_44, ak_57, al0, al1, a57, r, nI_1, ad2, ad3, in_k (show i + 1 < S by omega) (show S < 2 ^ 31 by omega), cl_nI (show i + 1 < 100000 by omega), in_k (show i + 2 < S by omega) (show S < 2 ^ 31 by omega), cl_nI (show i + 2 < 100000 by omega), in_k (show i + 3 < S by omega) (show S < 2 ^ 31 by omega), cl_nI (show i + 3 < 100000 by omega), e1, e2, if_true]
theorem lc_turn (hS : S ≤ 3072) (hw : Wd I J) (hJ : J 57 0 = lN S) (hi : i + 6 ≤ S) : ∃ I' J', den nL_law (353, [some (.ref 57), some (.ref 0), some (.ref 44), some (.int (nI i))], [], (I, J)) = den nL_law (1134, [some (.ref 57), some (.ref 0), some (.ref 44), some (.int (nI i))], [], (I', J')) ∧ Wd I' J' ∧ frS I I' J J' := by
  obtain ⟨v, I1, J1, I2, J2, e1, e2, w2, f1, f2⟩ := B_turn (a1 := I 57 (i + 1)) (a2 := I 57 (i + 2)) I J hw
  refine ⟨I2, J2, ?_, w2, f1.trans f2⟩
  have al0 : hr_al (I, J) 57 = S := lw_al hJ hS
  have al1 : hr_al (I1, J1) 57 = S := lw_al ((f1 57 (by decide) 0).2.trans hJ) hS
  have r : ∀ j, I1 57 j = I 57 j := fun j => (f1 57 (by decide) j).1
  simp only [eL_law_353, eL_law_354, eL_law_355, eL_law_356, eL_law_357, eL_law_358, eL_law_359, eL_law_360, eL_law_361, eL_law_362, eL_law_363, eL_law_364, eL_law_367, eL_law_368, eL_law_369, eL_law_370, eL_law_371, eL_law_372, eL_law_373, eL_law_374, eL_law_375, eL_law_376, eL_law_377, eL_law_378, eL_law_381, eL_law_384, eL_law_385, eq_self, hr_k_some, Option.toList, List.cons_append, List.nil_append, is2k_n, is2k_i, is2k_r, is2k_0, oc_0, oc_44, ak_57, al0, al1, a57, r, nI_1, ad2, in_k (show i + 1 < S by omega) (show S < 2 ^ 31 by omega), cl_nI (show i + 1 < 100000 by omega), in_k (show i + 2 < S by omega) (show S < 2 ^ 31 by omega), cl_nI (show i + 2 < 100000 by omega), e1, e2, if_true]
theorem lc_as (hS : S ≤ 3072) (hw : Wd I J) (hJ : J 57 0 = lN S) (hi : i + 6 ≤ S) : ∃ I' J', den nL_law (386, [some (.ref 57), some (.ref 0), some (.ref 44), some (.int (nI i))], [], (I, J)) = den nL_law (1134, [some (.ref 57), some (.ref 0), some (.ref 44), some (.int (nI i))], [], (I', J')) ∧ Wd I' J' ∧ frS I I' J J' := by
  obtain ⟨v, I1, J1, I2, J2, e1, e2, w2, f1, f2⟩ := B_as (a1 := I 57 (i + 1)) (a2 := I 57 (i + 2)) I J hw
  refine ⟨I2, J2, ?_, w2, f1.trans f2⟩
  have al0 : hr_al (I, J) 57 = S := lw_al hJ hS
  have al1 : hr_al (I1, J1) 57 = S := lw_al ((f1 57 (by decide) 0).2.trans hJ) hS
  have r : ∀ j, I1 57 j = I 57 j := fun j => (f1 57 (by decide) j).1
  simp only [eL_law_386, eL_law_387, eL_law_388, eL_law_389, eL_law_390, eL_law_391, eL_law_392, eL_law_393, eL_law_394, eL_law_395, eL_law_396, eL_law_397, eL_law_400, eL_law_401, eL_law_402, eL_law_403, eL_law_404, eL_law_405, eL_law_406, eL_law_407, eL_law_408, eL_law_409, eL_law_410, eL_law_411, eL_law_414, eL_law_417, eL_law_418, eq_self, hr_k_some, Option.toList, List.cons_append, List.nil_append, is2k_n, is2k_i, is2k_r, is2k_0, oc_0, oc_44, ak_57, al0, al1, a57, r, nI_1, ad2, in_k (show i + 1 < S by omega) (show S < 2 ^ 31 by omega), cl_nI (show i + 1 < 100000 by omega), in_k (show i + 2 < S by omega) (show S < 2 ^ 31 by omega), cl_nI (show i + 2 < 100000 by omega), e1, e2, if_true]
theorem lc_sounds (hS : S ≤ 3072) (hw : Wd I J) (hJ : J 57 0 = lN S) (hi : i + 6 ≤ S) : ∃ I' J', den nL_law (419, [some (.ref 57), some (.ref 0), some (.ref 44), some (.int (nI i))], [], (I, J)) = den nL_law (1134, [some (.ref 57), some (.ref 0), some (.ref 44), some (.int (nI i))], [], (I', J')) ∧ Wd I' J' ∧ frS I I' J J' := by
  obtain ⟨v, I1, J1, I2, J2, e1, e2, w2, f1, f2⟩ := B_sounds (a1 := I 57 (i + 1)) (a2 := I 57 (i + 2)) I J hw
  refine ⟨I2, J2, ?_, w2, f1.trans f2⟩
  have al0 : hr_al (I, J) 57 = S := lw_al hJ hS
  have al1 : hr_al (I1, J1) 57 = S := lw_al ((f1 57 (by decide) 0).2.trans hJ) hS
  have r : ∀ j, I1 57 j = I 57 j := fun j => (f1 57 (by decide) j).1
  simp only [eL_law_419, eL_law_420, eL_law_421, eL_law_422, eL_law_423, eL_law_424, eL_law_425, eL_law_426, eL_law_427, eL_law_428, eL_law_429, eL_law_430, eL_law_433, eL_law_434, eL_law_435, eL_law_436, eL_law_437, eL_law_438, eL_law_439, eL_law_440, eL_law_441, eL_law_442, eL_law_443, eL_law_444, eL_law_447, eL_law_450, eL_law_451, eq_self, hr_k_some, Option.toList, List.cons_append, List.nil_append, is2k_n, is2k_i, is2k_r, is2k_0, oc_0, oc_44, ak_57, al0, al1, a57, r, nI_1, ad2, in_k (show i + 1 < S by omega) (show S < 2 ^ 31 by omega), cl_nI (show i + 1 < 100000 by omega), in_k (show i + 2 < S by omega) (show S < 2 ^ 31 by omega), cl_nI (show i + 2 < 100000 by omega), e1, e2, if_true]
theorem lc_loudest (hS : S ≤ 3072) (hw : Wd I J) (hJ : J 57 0 = lN S) (hi : i + 6 ≤ S) : ∃ I' J', den nL_law (452, [some (.ref 57), some (.ref 0), some (.ref 44), some (.int (nI i))], [], (I, J)) = den nL_law (1134, [some (.ref 57), some (.ref 0), some (.ref 44), some (.int (nI i))], [], (I', J')) ∧ Wd I' J' ∧ frS I I' J J' := by
  obtain ⟨v, I1, J1, I2, J2, e1, e2, w2, f1, f2⟩ := B_loudest (a1 := I 57 (i + 1)) I J hw
  refine ⟨I2, J2, ?_, w2, f1.trans f2⟩
  have al0 : hr_al (I, J) 57 = S := lw_al hJ hS
  have al1 : hr_al (I1, J1) 57 = S := lw_al ((f1 57 (by decide) 0).2.trans hJ) hS
  have r : ∀ j, I1 57 j = I 57 j := fun j => (f1 57 (by decide) j).1
  simp only [eL_law_452, eL_law_453, eL_law_454, eL_law_455, eL_law_456, eL_law_457, eL_law_458, eL_law_461, eL_law_462, eL_law_463, eL_law_464, eL_law_465, eL_law_466, eL_law_467, eL_law_470, eL_law_473, eL_law_474, eq_self, hr_k_some, Option.toList, List.cons_append, List.nil_append, is2k_n, is2k_i, is2k_r, is2k_0, oc_0, oc_44, ak_57, al0, al1, a57, r, nI_1, in_k (show i + 1 < S by omega) (show S < 2 ^ 31 by omega), cl_nI (show i + 1 < 100000 by omega), e1, e2, if_true]
theorem lc_watches (hS : S ≤ 3072) (hw : Wd I J) (hJ : J 57 0 = lN S) (hi : i + 6 ≤ S) : ∃ I' J', den nL_law (475, [some (.ref 57), some (.ref 0), some (.ref 44), some (.int (nI i))], [], (I, J)) = den nL_law (1134, [some (.ref 57), some (.ref 0), some (.ref 44), some (.int (nI i))], [], (I', J')) ∧ Wd I' J' ∧ frS I I' J J' := by
  obtain ⟨v, I1, J1, I2, J2, e1, e2, w2, f1, f2⟩ := B_watches (a1 := I 57 (i + 1)) I J hw
  refine ⟨I2, J2, ?_, w2, f1.trans f2⟩
  have al0 : hr_al (I, J) 57 = S := lw_al hJ hS
  have al1 : hr_al (I1, J1) 57 = S := lw_al ((f1 57 (by decide) 0).2.trans hJ) hS
  have r : ∀ j, I1 57 j = I 57 j := fun j => (f1 57 (by decide) j).1
  simp only [eL_law_475, eL_law_476, eL_law_477, eL_law_478, eL_law_479, eL_law_480, eL_law_481, eL_law_484, eL_law_485, eL_law_486, eL_law_487, eL_law_488, eL_law_489, eL_law_490, eL_law_493, eL_law_496, eL_law_497, eq_self, hr_k_some, Option.toList, List.cons_append, List.nil_append, is2k_n, is2k_i, is2k_r, is2k_0, oc_0, oc_44, ak_57, al0, al1, a57, r, nI_1, in_k (show i + 1 < S by omega) (show S < 2 ^ 31 by omega), cl_nI (show i + 1 < 100000 by omega), e1, e2, if_true]
theorem lc_on (hS : S ≤ 3072) (hw : Wd I J) (hJ : J 57 0 = lN S) (hi : i + 6 ≤ S) : ∃ I' J', den nL_law (498, [some (.ref 57), some (.ref 0), some (.ref 44), some (.int (nI i))], [], (I, J)) = den nL_law (1134, [some (.ref 57), some (.ref 0), some (.ref 44), some (.int (nI i))], [], (I', J')) ∧ Wd I' J' ∧ frS I I' J J' := by
  obtain ⟨v, I1, J1, I2, J2, e1, e2, w2, f1, f2⟩ := B_on (a1 := I 57 (i + 1)) (a2 := I 57 (i + 2)) I J hw
  refine ⟨I2, J2, ?_, w2, f1.trans f2⟩
  have al0 : hr_al (I, J) 57 = S := lw_al hJ hS
  have al1 : hr_al (I1, J1) 57 = S := lw_al ((f1 57 (by decide) 0).2.trans hJ) hS
  have r : ∀ j, I1 57 j = I 57 j := fun j => (f1 57 (by decide) j).1
  simp only [eL_law_498, eL_law_499, eL_law_500, eL_law_501, eL_law_502, eL_law_503, eL_law_504, eL_law_505, eL_law_506, eL_law_507, eL_law_508, eL_law_509, eL_law_512, eL_law_513, eL_law_514, eL_law_515, eL_law_516, eL_law_517, eL_law_518, eL_law_519, eL_law_520, eL_law_521, eL_law_522, eL_law_523, eL_law_526, eL_law_529, eL_law_530, eq_self, hr_k_some, Option.toList, List.cons_append, List.nil_append, is2k_n, is2k_i, is2k_r, is2k_0, oc_0, oc_44, ak_57, al0, al1, a57, r, nI_1, ad2, in_k (show i + 1 < S by omega) (show S < 2 ^ 31 by omega), cl_nI (show i + 1 < 100000 by omega), in_k (show i + 2 < S by omega) (show S < 2 ^ 31 by omega), cl_nI (show i + 2 < 100000 by omega), e1, e2, if_true]
theorem lc_moved (hS : S ≤ 3072) (hw : Wd I J) (hJ : J 57 0 = lN S) (hi : i + 6 ≤ S) : ∃ I' J', den nL_law (531, [some (.ref 57), some (.ref 0), some (.ref 44), some (.int (nI i))], [], (I, J)) = den nL_law (1134, [some (.ref 57), some (.ref 0), some (.ref 44), some (.int (nI i))], [], (I', J')) ∧ Wd I' J' ∧ frS I I' J J' := by
  obtain ⟨v, I1, J1, I2, J2, e1, e2, w2, f1, f2⟩ := B_moved (a1 := I 57 (i + 1)) (a2 := I 57 (i + 2)) I J hw
  refine ⟨I2, J2, ?_, w2, f1.trans f2⟩
  have al0 : hr_al (I, J) 57 = S := lw_al hJ hS
  have al1 : hr_al (I1, J1) 57 = S := lw_al ((f1 57 (by decide) 0).2.trans hJ) hS
  have r : ∀ j, I1 57 j = I 57 j := fun j => (f1 57 (by decide) j).1
  simp only [eL_law_531, eL_law_532, eL_law_533, eL_law_534, eL_law_535, eL_law_536, eL_law_537, eL_law_538, eL_law_539, eL_law_540, eL_law_541, eL_law_542, eL_law_545, eL_law_546, eL_law_547, eL_law_548, eL_law_549, eL_law_550, eL_law_551, eL_law_552, eL_law_553, eL_law_554, eL_law_555, eL_law_556, eL_law_559, eL_law_562, eL_law_563, eq_self, hr_k_some, Option.toList, List.cons_append, List.nil_append, is2k_n, is2k_i, is2k_r, is2k_0, oc_0, oc_44, ak_57, al0, al1, a57, r, nI_1, ad2, in_k (show i + 1 < S by omega) (show S < 2 ^ 31 by omega), cl_nI (show i + 1 < 100000 by omega), in_k (show i + 2 < S by omega) (show S < 2 ^ 31 by omega), cl_nI (show i + 2 < 100000 by omega), e1, e2, if_true]
theorem lc_strikes (hS : S ≤ 3072) (hw : Wd I J) (hJ : J 57 0 = lN S) (hi : i + 6 ≤ S) : ∃ I' J', den nL_law (564, [some (.ref 57), some (.ref 0), some (.ref 44), some (.int (nI i))], [], (I, J)) = den nL_law (1134, [some (.ref 57), some (.ref 0), some (.ref 44), some (.int (nI i))], [], (I', J')) ∧ Wd I' J' ∧ frS I I' J J' := by
  obtain ⟨v, I1, J1, I2, J2, e1, e2, w2, f1, f2⟩ := B_strikes  I J hw
  refine ⟨I2, J2, ?_, w2, f1.trans f2⟩
  simp only [eL_law_564, eL_law_565, eL_law_568, eL_law_569, eL_law_572, eL_law_575, eL_law_576, eq_self, hr_k_some, Option.toList, List.cons_append, List.nil_append, is2k_n, is2k_i, is2k_r, is2k_0, oc_0, oc_44, e1, e2, if_true]
theorem lc_home (hS : S ≤ 3072) (hw : Wd I J) (hJ : J 57 0 = lN S) (hi : i + 6 ≤ S) : ∃ I' J', den nL_law (577, [some (.ref 57), some (.ref 0), some (.ref 44), some (.int (nI i))], [], (I, J)) = den nL_law (1134, [some (.ref 57), some (.ref 0), some (.ref 44), some (.int (nI i))], [], (I', J')) ∧ Wd I' J' ∧ frS I I' J J' := by
  obtain ⟨v, I1, J1, I2, J2, e1, e2, w2, f1, f2⟩ := B_home  I J hw
  refine ⟨I2, J2, ?_, w2, f1.trans f2⟩
  simp only [eL_law_577, eL_law_578, eL_law_581, eL_law_582, eL_law_585, eL_law_588, eL_law_589, eq_self, hr_k_some, Option.toList, List.cons_append, List.nil_append, is2k_n, is2k_i, is2k_r, is2k_0, oc_0, oc_44, e1, e2, if_true]
theorem lc_comes (hS : S ≤ 3072) (hw : Wd I J) (hJ : J 57 0 = lN S) (hi : i + 6 ≤ S) : ∃ I' J', den nL_law (590, [some (.ref 57), some (.ref 0), some (.ref 44), some (.int (nI i))], [], (I, J)) = den nL_law (1134, [some (.ref 57), some (.ref 0), some (.ref 44), some (.int (nI i))], [], (I', J')) ∧ Wd I' J' ∧ frS I I' J J' := by
  obtain ⟨v, I1, J1, I2, J2, e1, e2, w2, f1, f2⟩ := B_comes (a1 := I 57 (i + 1)) I J hw
  refine ⟨I2, J2, ?_, w2, f1.trans f2⟩
  have al0 : hr_al (I, J) 57 = S := lw_al hJ hS
  have al1 : hr_al (I1, J1) 57 = S := lw_al ((f1 57 (by decide) 0).2.trans hJ) hS
  have r : ∀ j, I1 57 j = I 57 j := fun j => (f1 57 (by decide) j).1
  simp only [eL_law_590, eL_law_591, eL_law_592, eL_law_593, eL_law_594, eL_law_595, eL_law_596, eL_law_599, eL_law_600, eL_law_601, eL_law_602, eL_law_603, eL_law_604, eL_law_605, eL_law_608, eL_law_611, eL_law_612, eq_self, hr_k_some, Option.toList, List.cons_append, List.nil_append, is2k_n, is2k_i, is2k_r, is2k_0, oc_0, oc_44, ak_57, al0, al1, a57, r, nI_1, in_k (show i + 1 < S by omega) (show S < 2 ^ 31 by omega), cl_nI (show i + 1 < 100000 by omega), e1, e2, if_true]
theorem lc_ear (hS : S ≤ 3072) (hw : Wd I J) (hJ : J 57 0 = lN S) (hi : i + 6 ≤ S) : ∃ I' J', den nL_law (613, [some (.ref 57), some (.ref 0), some (.ref 44), some (.int (nI i))], [], (I, J)) = den nL_law (1134, [some (.ref 57), some (.ref 0), some (.ref 44), some (.int (nI i))], [], (I', J')) ∧ Wd I' J' ∧ frS I I' J J' := by
  obtain ⟨v, I1, J1, I2, J2, e1, e2, w2, f1, f2⟩ := B_ear  I J hw
  refine ⟨I2, J2, ?_, w2, f1.trans f2⟩
  simp only [eL_law_613, eL_law_614, eL_law_617, eL_law_618, eL_law_621, eL_law_624, eL_law_625, eq_self, hr_k_some, Option.toList, List.cons_append, List.nil_append, is2k_n, is2k_i, is2k_r, is2k_0, oc_0, oc_44, e1, e2, if_true]
theorem lc_begin (hS : S ≤ 3072) (hw : Wd I J) (hJ : J 57 0 = lN S) (hi : i + 6 ≤ S) : ∃ I' J', den nL_law (626, [some (.ref 57), some (.ref 0), some (.ref 44), some (.int (nI i))], [], (I, J)) = den nL_law (1134, [some (.ref 57), some (.ref 0), some (.ref 44), some (.int (nI i))], [], (I', J')) ∧ Wd I' J' ∧ frS I I' J J' := by
  obtain ⟨v, I1, J1, I2, J2, e1, e2, w2, f1, f2⟩ := B_begin (a1 := I 57 (i + 1)) I J hw
  refine ⟨I2, J2, ?_, w2, f1.trans f2⟩
  have al0 : hr_al (I, J) 57 = S := lw_al hJ hS
  have al1 : hr_al (I1, J1) 57 = S := lw_al ((f1 57 (by decide) 0).2.trans hJ) hS
  have r : ∀ j, I1 57 j = I 57 j := fun j => (f1 57 (by decide) j).1
  simp only [eL_law_626, eL_law_627, eL_law_628, eL_law_629, eL_law_630, eL_law_631, eL_law_632, eL_law_635, eL_law_636, eL_law_637, eL_law_638, eL_law_639, eL_law_640, eL_law_641, eL_law_644, eL_law_647, eL_law_648, eq_self, hr_k_some, Option.toList, List.cons_append, List.nil_append, is2k_n, is2k_i, is2k_r, is2k_0, oc_0, oc_44, ak_57, al0, al1, a57, r, nI_1, in_k (show i + 1 < S by omega) (show S < 2 ^ 31 by omega), cl_nI (show i + 1 < 100000 by omega), e1, e2, if_true]
theorem lc_silence (hS : S ≤ 3072) (hw : Wd I J) (hJ : J 57 0 = lN S) (hi : i + 6 ≤ S) : ∃ I' J', den nL_law (649, [some (.ref 57), some (.ref 0), some (.ref 44), some (.int (nI i))], [], (I, J)) = den nL_law (1134, [some (.ref 57), some (.ref 0), some (.ref 44), some (.int (nI i))], [], (I', J')) ∧ Wd I' J' ∧ frS I I' J J' := by
  obtain ⟨v, I1, J1, I2, J2, e1, e2, w2, f1, f2⟩ := B_silence  I J hw
  refine ⟨I2, J2, ?_, w2, f1.trans f2⟩
  simp only [eL_law_649, eL_law_650, eL_law_653, eL_law_654, eL_law_657, eL_law_660, eL_law_661, eq_self, hr_k_some, Option.toList, List.cons_append, List.nil_append, is2k_n, is2k_i, is2k_r, is2k_0, oc_0, oc_44, e1, e2, if_true]
theorem lc_kind (hS : S ≤ 3072) (hw : Wd I J) (hJ : J 57 0 = lN S) (hi : i + 6 ≤ S) : ∃ I' J', den nL_law (662, [some (.ref 57), some (.ref 0), some (.ref 44), some (.int (nI i))], [], (I, J)) = den nL_law (1134, [some (.ref 57), some (.ref 0), some (.ref 44), some (.int (nI i))], [], (I', J')) ∧ Wd I' J' ∧ frS I I' J J' := by
  obtain ⟨v, I1, J1, I2, J2, e1, e2, w2, f1, f2⟩ := B_kind (a1 := I 57 (i + 1)) I J hw
  refine ⟨I2, J2, ?_, w2, f1.trans f2⟩
  have al0 : hr_al (I, J) 57 = S := lw_al hJ hS
  have al1 : hr_al (I1, J1) 57 = S := lw_al ((f1 57 (by decide) 0).2.trans hJ) hS
  have r : ∀ j, I1 57 j = I 57 j := fun j => (f1 57 (by decide) j).1
  simp only [eL_law_662, eL_law_663, eL_law_664, eL_law_665, eL_law_666, eL_law_667, eL_law_668, eL_law_671, eL_law_672, eL_law_673, eL_law_674, eL_law_675, eL_law_676, eL_law_677, eL_law_680, eL_law_683, eL_law_684, eq_self, hr_k_some, Option.toList, List.cons_append, List.nil_append, is2k_n, is2k_i, is2k_r, is2k_0, oc_0, oc_44, ak_57, al0, al1, a57, r, nI_1, in_k (show i + 1 < S by omega) (show S < 2 ^ 31 by omega), cl_nI (show i + 1 < 100000 by omega), e1, e2, if_true]
theorem lc_horn (hS : S ≤ 3072) (hw : Wd I J) (hJ : J 57 0 = lN S) (hi : i + 6 ≤ S) : ∃ I' J', den nL_law (685, [some (.ref 57), some (.ref 0), some (.ref 44), some (.int (nI i))], [], (I, J)) = den nL_law (1134, [some (.ref 57), some (.ref 0), some (.ref 44), some (.int (nI i))], [], (I', J')) ∧ Wd I' J' ∧ frS I I' J J' := by
  obtain ⟨v, I1, J1, I2, J2, e1, e2, w2, f1, f2⟩ := B_horn (a1 := I 57 (i + 1)) (a2 := I 57 (i + 2)) I J hw
  refine ⟨I2, J2, ?_, w2, f1.trans f2⟩
  have al0 : hr_al (I, J) 57 = S := lw_al hJ hS
  have al1 : hr_al (I1, J1) 57 = S := lw_al ((f1 57 (by decide) 0).2.trans hJ) hS
  have r : ∀ j, I1 57 j = I 57 j := fun j => (f1 57 (by decide) j).1
  simp only [eL_law_685, eL_law_686, eL_law_687, eL_law_688, eL_law_689, eL_law_690, eL_law_691, eL_law_692, eL_law_693, eL_law_694, eL_law_695, eL_law_696, eL_law_699, eL_law_700, eL_law_701, eL_law_702, eL_law_703, eL_law_704, eL_law_705, eL_law_706, eL_law_707, eL_law_708, eL_law_709, eL_law_710, eL_law_713, eL_law_716, eL_law_717, eq_self, hr_k_some, Option.toList, List.cons_append, List.nil_append, is2k_n, is2k_i, is2k_r, is2k_0, oc_0, oc_44, ak_57, al0, al1, a57, r, nI_1, ad2, in_k (show i + 1 < S by omega) (show S < 2 ^ 31 by omega), cl_nI (show i + 1 < 100000 by omega), in_k (show i + 2 < S by omega) (show S < 2 ^ 31 by omega), cl_nI (show i + 2 < 100000 by omega), e1, e2, if_true]
theorem lc_fewest (hS : S ≤ 3072) (hw : Wd I J) (hJ : J 57 0 = lN S) (hi : i + 6 ≤ S) : ∃ I' J', den nL_law (718, [some (.ref 57), some (.ref 0), some (.ref 44), some (.int (nI i))], [], (I, J)) = den nL_law (1134, [some (.ref 57), some (.ref 0), some (.ref 44), some (.int (nI i))], [], (I', J')) ∧ Wd I' J' ∧ frS I I' J J' := by
  obtain ⟨v, I1, J1, I2, J2, e1, e2, w2, f1, f2⟩ := B_fewest (a1 := I 57 (i + 1)) I J hw
  refine ⟨I2, J2, ?_, w2, f1.trans f2⟩
  have al0 : hr_al (I, J) 57 = S := lw_al hJ hS
  have al1 : hr_al (I1, J1) 57 = S := lw_al ((f1 57 (by decide) 0).2.trans hJ) hS
  have r : ∀ j, I1 57 j = I 57 j := fun j => (f1 57 (by decide) j).1
  simp only [eL_law_718, eL_law_719, eL_law_720, eL_law_721, eL_law_722, eL_law_723, eL_law_724, eL_law_727, eL_law_728, eL_law_729, eL_law_730, eL_law_731, eL_law_732, eL_law_733, eL_law_736, eL_law_739, eL_law_740, eq_self, hr_k_some, Option.toList, List.cons_append, List.nil_append, is2k_n, is2k_i, is2k_r, is2k_0, oc_0, oc_44, ak_57, al0, al1, a57, r, nI_1, in_k (show i + 1 < S by omega) (show S < 2 ^ 31 by omega), cl_nI (show i + 1 < 100000 by omega), e1, e2, if_true]
theorem lc_feed (hS : S ≤ 3072) (hw : Wd I J) (hJ : J 57 0 = lN S) (hi : i + 6 ≤ S) : ∃ I' J', den nL_law (741, [some (.ref 57), some (.ref 0), some (.ref 44), some (.int (nI i))], [], (I, J)) = den nL_law (1134, [some (.ref 57), some (.ref 0), some (.ref 44), some (.int (nI i))], [], (I', J')) ∧ Wd I' J' ∧ frS I I' J J' := by
  obtain ⟨v, I1, J1, I2, J2, e1, e2, w2, f1, f2⟩ := B_feed (a1 := I 57 (i + 1)) (a2 := I 57 (i + 2)) I J hw
  refine ⟨I2, J2, ?_, w2, f1.trans f2⟩
  have al0 : hr_al (I, J) 57 = S := lw_al hJ hS
  have al1 : hr_al (I1, J1) 57 = S := lw_al ((f1 57 (by decide) 0).2.trans hJ) hS
  have r : ∀ j, I1 57 j = I 57 j := fun j => (f1 57 (by decide) j).1
  simp only [eL_law_741, eL_law_742, eL_law_743, eL_law_744, eL_law_745, eL_law_746, eL_law_747, eL_law_748, eL_law_749, eL_law_750, eL_law_751, eL_law_752, eL_law_755, eL_law_756, eL_law_757, eL_law_758, eL_law_759, eL_law_760, eL_law_761, eL_law_762, eL_law_763, eL_law_764, eL_law_765, eL_law_766, eL_law_769, eL_law_772, eL_law_773, eq_self, hr_k_some, Option.toList, List.cons_append, List.nil_append, is2k_n, is2k_i, is2k_r, is2k_0, oc_0, oc_44, ak_57, al0, al1, a57, r, nI_1, ad2, in_k (show i + 1 < S by omega) (show S < 2 ^ 31 by omega), cl_nI (show i + 1 < 100000 by omega), in_k (show i + 2 < S by omega) (show S < 2 ^ 31 by omega), cl_nI (show i + 2 < 100000 by omega), e1, e2, if_true]
theorem lc_wipe (hS : S ≤ 3072) (hw : Wd I J) (hJ : J 57 0 = lN S) (hi : i + 6 ≤ S) : ∃ I' J', den nL_law (774, [some (.ref 57), some (.ref 0), some (.ref 44), some (.int (nI i))], [], (I, J)) = den nL_law (1134, [some (.ref 57), some (.ref 0), some (.ref 44), some (.int (nI i))], [], (I', J')) ∧ Wd I' J' ∧ frS I I' J J' := by
  obtain ⟨v, I1, J1, I2, J2, e1, e2, w2, f1, f2⟩ := B_wipe  I J hw
  refine ⟨I2, J2, ?_, w2, f1.trans f2⟩
  simp only [eL_law_774, eL_law_775, eL_law_778, eL_law_779, eL_law_782, eL_law_785, eL_law_786, eq_self, hr_k_some, Option.toList, List.cons_append, List.nil_append, is2k_n, is2k_i, is2k_r, is2k_0, oc_0, oc_44, e1, e2, if_true]
theorem lc_chart (hS : S ≤ 3072) (hw : Wd I J) (hJ : J 57 0 = lN S) (hi : i + 6 ≤ S) : ∃ I' J', den nL_law (787, [some (.ref 57), some (.ref 0), some (.ref 44), some (.int (nI i))], [], (I, J)) = den nL_law (1134, [some (.ref 57), some (.ref 0), some (.ref 44), some (.int (nI i))], [], (I', J')) ∧ Wd I' J' ∧ frS I I' J J' := by
  obtain ⟨v, I1, J1, I2, J2, e1, e2, w2, f1, f2⟩ := B_chart  I J hw
  refine ⟨I2, J2, ?_, w2, f1.trans f2⟩
  simp only [eL_law_787, eL_law_788, eL_law_791, eL_law_792, eL_law_795, eL_law_798, eL_law_799, eq_self, hr_k_some, Option.toList, List.cons_append, List.nil_append, is2k_n, is2k_i, is2k_r, is2k_0, oc_0, oc_44, e1, e2, if_true]
theorem lc_sheet (hS : S ≤ 3072) (hw : Wd I J) (hJ : J 57 0 = lN S) (hi : i + 6 ≤ S) : ∃ I' J', den nL_law (800, [some (.ref 57), some (.ref 0), some (.ref 44), some (.int (nI i))], [], (I, J)) = den nL_law (1134, [some (.ref 57), some (.ref 0), some (.ref 44), some (.int (nI i))], [], (I', J')) ∧ Wd I' J' ∧ frS I I' J J' := by
  obtain ⟨v, I1, J1, I2, J2, e1, e2, w2, f1, f2⟩ := B_sheet (a1 := I 57 (i + 1)) (a2 := I 57 (i + 2)) (a3 := I 57 (i + 3)) I J hw
  refine ⟨I2, J2, ?_, w2, f1.trans f2⟩
  have al0 : hr_al (I, J) 57 = S := lw_al hJ hS
  have al1 : hr_al (I1, J1) 57 = S := lw_al ((f1 57 (by decide) 0).2.trans hJ) hS
  have r : ∀ j, I1 57 j = I 57 j := fun j => (f1 57 (by decide) j).1
  simp only [eL_law_800, eL_law_801, eL_law_802, eL_law_803, eL_law_804, eL_law_805, eL_law_806, eL_law_807, eL_law_808, eL_law_809, eL_law_810, eL_law_811, eL_law_812, eL_law_813, eL_law_814, eL_law_815, eL_law_816, eL_law_819, eL_law_820, eL_law_821, eL_law_822, eL_law_823, eL_law_824, eL_law_825, eL_law_826, eL_law_827, eL_law_828, eL_law_829, eL_law_830, eL_law_831, eL_law_832, eL_law_833, eL_law_834, eL_law_835, eL_law_838, eL_law_841, eL_law_842, eq_self, hr_k_some, Option.toList, List.cons_append, List.nil_append, is2k_n, is2k_i, is2k_r, is2k_0, oc_0, oc_44, ak_57, al0, al1, a57, r, nI_1, ad2, ad3, in_k (show i + 1 < S by omega) (show S < 2 ^ 31 by omega), cl_nI (show i + 1 < 100000 by omega), in_k (show i + 2 < S by omega) (show S < 2 ^ 31 by omega), cl_nI (show i + 2 < 100000 by omega), in_k (show i + 3 < S by omega) (show S < 2 ^ 31 by omega), cl_nI (show i + 3 < 100000 by omega), e1, e2, if_true]
theorem lc_write (hS : S ≤ 3072) (hw : Wd I J) (hJ : J 57 0 = lN S) (hi : i + 6 ≤ S) : ∃ I' J', den nL_law (843, [some (.ref 57), some (.ref 0), some (.ref 44), some (.int (nI i))], [], (I, J)) = den nL_law (1134, [some (.ref 57), some (.ref 0), some (.ref 44), some (.int (nI i))], [], (I', J')) ∧ Wd I' J' ∧ frS I I' J J' := by
  obtain ⟨v, I1, J1, I2, J2, e1, e2, w2, f1, f2⟩ := B_write (a1 := I 57 (i + 1)) (a2 := I 57 (i + 2)) (v := lwV (I 57 (i + 3)) (I 57 (i + 4))) I J hw
  refine ⟨I2, J2, ?_, w2, f1.trans f2⟩
  have al0 : hr_al (I, J) 57 = S := lw_al hJ hS
  have al1 : hr_al (I1, J1) 57 = S := lw_al ((f1 57 (by decide) 0).2.trans hJ) hS
  have r : ∀ j, I1 57 j = I 57 j := fun j => (f1 57 (by decide) j).1
  unfold lwV at e1 e2
  have l0 : ∀ x : Int64, (lg_cmp x x = 0) = True := fun x => eq_true ((lg_cmp_eq x x).mpr rfl)
  simp only [eL_law_843, eL_law_844, eL_law_845, eL_law_846, eL_law_847, eL_law_848, eL_law_849, eL_law_850, eL_law_851, eL_law_852, eL_law_853, eL_law_854, eL_law_855, eL_law_856, eL_law_857, eL_law_858, eL_law_859, eL_law_860, eL_law_862, eL_law_863, eL_law_864, eL_law_865, eL_law_866, eL_law_867, eL_law_868, eL_law_869, eL_law_872, eL_law_873, eL_law_874, eL_law_877, eL_law_878, eL_law_879, eL_law_880, eL_law_881, eL_law_882, eL_law_883, eL_law_884, eL_law_885, eL_law_886, eL_law_887, eL_law_888, eL_law_889, eL_law_890, eL_law_891, eL_law_892, eL_law_893, eL_law_894, eL_law_896, eL_law_897, eL_law_898, eL_law_899, eL_law_900, eL_law_901, eL_law_902, eL_law_903, eL_law_906, eL_law_907, eL_law_908, eL_law_911, eL_law_912, eL_law_915, eL_law_916, eq_self, hr_k_some, Option.toList, List.cons_append, List.nil_append, is2k_n, is2k_i, is2k_r, is2k_0, oc_0, oc_44, ak_57, al0, al1, a57, r, nI_1, ad2, ad3, ad4, in_k (show i + 1 < S by omega) (show S < 2 ^ 31 by omega), cl_nI (show i + 1 < 100000 by omega), in_k (show i + 2 < S by omega) (show S < 2 ^ 31 by omega), cl_nI (show i + 2 < 100000 by omega), in_k (show i + 3 < S by omega) (show S < 2 ^ 31 by omega), cl_nI (show i + 3 < 100000 by omega), in_k (show i + 4 < S by omega) (show S < 2 ^ 31 by omega), cl_nI (show i + 4 < 100000 by omega), l0, e1, e2, if_true]
theorem lc_copy (hS : S ≤ 3072) (hw : Wd I J) (hJ : J 57 0 = lN S) (hi : i + 6 ≤ S) : ∃ I' J', den nL_law (917, [some (.ref 57), some (.ref 0), some (.ref 44), some (.int (nI i))], [], (I, J)) = den nL_law (1134, [some (.ref 57), some (.ref 0), some (.ref 44), some (.int (nI i))], [], (I', J')) ∧ Wd I' J' ∧ frS I I' J J' := by
  obtain ⟨v, I1, J1, I2, J2, e1, e2, w2, f1, f2⟩ := B_copy (a1 := I 57 (i + 1)) (a2 := I 57 (i + 2)) (a3 := I 57 (i + 3)) (a4 := I 57 (i + 4)) (a5 := I 57 (i + 5)) I J hw
  refine ⟨I2, J2, ?_, w2, f1.trans f2⟩
  have al0 : hr_al (I, J) 57 = S := lw_al hJ hS
  have al1 : hr_al (I1, J1) 57 = S := lw_al ((f1 57 (by decide) 0).2.trans hJ) hS
  have r : ∀ j, I1 57 j = I 57 j := fun j => (f1 57 (by decide) j).1
  simp only [eL_law_917, eL_law_918, eL_law_919, eL_law_920, eL_law_921, eL_law_922, eL_law_923, eL_law_924, eL_law_925, eL_law_926, eL_law_927, eL_law_928, eL_law_929, eL_law_930, eL_law_931, eL_law_932, eL_law_933, eL_law_934, eL_law_935, eL_law_936, eL_law_937, eL_law_938, eL_law_939, eL_law_940, eL_law_941, eL_law_942, eL_law_943, eL_law_946, eL_law_947, eL_law_948, eL_law_949, eL_law_950, eL_law_951, eL_law_952, eL_law_953, eL_law_954, eL_law_955, eL_law_956, eL_law_957, eL_law_958, eL_law_959, eL_law_960, eL_law_961, eL_law_962, eL_law_963, eL_law_964, eL_law_965, eL_law_966, eL_law_967, eL_law_968, eL_law_969, eL_law_970, eL_law_971, eL_law_972, eL_law_975, eL_law_978, eL_law_979, eq_self, hr_k_some, Option.toList, List.cons_append, List.nil_append, is2k_n, is2k_i, is2k_r, is2k_0, oc_0, oc_44, ak_57, al0, al1, a57, r, nI_1, ad2, ad3, ad4, ad5, in_k (show i + 1 < S by omega) (show S < 2 ^ 31 by omega), cl_nI (show i + 1 < 100000 by omega), in_k (show i + 2 < S by omega) (show S < 2 ^ 31 by omega), cl_nI (show i + 2 < 100000 by omega), in_k (show i + 3 < S by omega) (show S < 2 ^ 31 by omega), cl_nI (show i + 3 < 100000 by omega), in_k (show i + 4 < S by omega) (show S < 2 ^ 31 by omega), cl_nI (show i + 4 < 100000 by omega), in_k (show i + 5 < S by omega) (show S < 2 ^ 31 by omega), cl_nI (show i + 5 < 100000 by omega), e1, e2, if_true]
theorem lc_lays (hS : S ≤ 3072) (hw : Wd I J) (hJ : J 57 0 = lN S) (hi : i + 6 ≤ S) : ∃ I' J', den nL_law (980, [some (.ref 57), some (.ref 0), some (.ref 44), some (.int (nI i))], [], (I, J)) = den nL_law (1134, [some (.ref 57), some (.ref 0), some (.ref 44), some (.int (nI i))], [], (I', J')) ∧ Wd I' J' ∧ frS I I' J J' := by
  obtain ⟨v, I1, J1, I2, J2, e1, e2, w2, f1, f2⟩ := B_lays (a1 := I 57 (i + 1)) I J hw
  refine ⟨I2, J2, ?_, w2, f1.trans f2⟩
  have al0 : hr_al (I, J) 57 = S := lw_al hJ hS
  have al1 : hr_al (I1, J1) 57 = S := lw_al ((f1 57 (by decide) 0).2.trans hJ) hS
  have r : ∀ j, I1 57 j = I 57 j := fun j => (f1 57 (by decide) j).1
  simp only [eL_law_980, eL_law_981, eL_law_982, eL_law_983, eL_law_984, eL_law_985, eL_law_986, eL_law_989, eL_law_990, eL_law_991, eL_law_992, eL_law_993, eL_law_994, eL_law_995, eL_law_998, eL_law_1001, eL_law_1002, eq_self, hr_k_some, Option.toList, List.cons_append, List.nil_append, is2k_n, is2k_i, is2k_r, is2k_0, oc_0, oc_44, ak_57, al0, al1, a57, r, nI_1, in_k (show i + 1 < S by omega) (show S < 2 ^ 31 by omega), cl_nI (show i + 1 < 100000 by omega), e1, e2, if_true]
theorem lc_book (hS : S ≤ 3072) (hw : Wd I J) (hJ : J 57 0 = lN S) (hi : i + 6 ≤ S) : ∃ I' J', den nL_law (1003, [some (.ref 57), some (.ref 0), some (.ref 44), some (.int (nI i))], [], (I, J)) = den nL_law (1134, [some (.ref 57), some (.ref 0), some (.ref 44), some (.int (nI i))], [], (I', J')) ∧ Wd I' J' ∧ frS I I' J J' := by
  obtain ⟨v, I1, J1, I2, J2, e1, e2, w2, f1, f2⟩ := B_book (a1 := I 57 (i + 1)) I J hw
  refine ⟨I2, J2, ?_, w2, f1.trans f2⟩
  have al0 : hr_al (I, J) 57 = S := lw_al hJ hS
  have al1 : hr_al (I1, J1) 57 = S := lw_al ((f1 57 (by decide) 0).2.trans hJ) hS
  have r : ∀ j, I1 57 j = I 57 j := fun j => (f1 57 (by decide) j).1
  simp only [eL_law_1003, eL_law_1004, eL_law_1005, eL_law_1006, eL_law_1007, eL_law_1008, eL_law_1009, eL_law_1012, eL_law_1013, eL_law_1014, eL_law_1015, eL_law_1016, eL_law_1017, eL_law_1018, eL_law_1021, eL_law_1024, eL_law_1025, eq_self, hr_k_some, Option.toList, List.cons_append, List.nil_append, is2k_n, is2k_i, is2k_r, is2k_0, oc_0, oc_44, ak_57, al0, al1, a57, r, nI_1, in_k (show i + 1 < S by omega) (show S < 2 ^ 31 by omega), cl_nI (show i + 1 < 100000 by omega), e1, e2, if_true]
theorem lc_read (hS : S ≤ 3072) (hw : Wd I J) (hJ : J 57 0 = lN S) (hi : i + 6 ≤ S) : ∃ I' J', den nL_law (1026, [some (.ref 57), some (.ref 0), some (.ref 44), some (.int (nI i))], [], (I, J)) = den nL_law (1134, [some (.ref 57), some (.ref 0), some (.ref 44), some (.int (nI i))], [], (I', J')) ∧ Wd I' J' ∧ frS I I' J J' := by
  obtain ⟨v, I1, J1, I2, J2, e1, e2, w2, f1, f2⟩ := B_read (a1 := I 57 (i + 1)) I J hw
  refine ⟨I2, J2, ?_, w2, f1.trans f2⟩
  have al0 : hr_al (I, J) 57 = S := lw_al hJ hS
  have al1 : hr_al (I1, J1) 57 = S := lw_al ((f1 57 (by decide) 0).2.trans hJ) hS
  have r : ∀ j, I1 57 j = I 57 j := fun j => (f1 57 (by decide) j).1
  simp only [eL_law_1026, eL_law_1027, eL_law_1028, eL_law_1029, eL_law_1030, eL_law_1031, eL_law_1032, eL_law_1035, eL_law_1036, eL_law_1037, eL_law_1038, eL_law_1039, eL_law_1040, eL_law_1041, eL_law_1044, eL_law_1047, eL_law_1048, eq_self, hr_k_some, Option.toList, List.cons_append, List.nil_append, is2k_n, is2k_i, is2k_r, is2k_0, oc_0, oc_44, ak_57, al0, al1, a57, r, nI_1, in_k (show i + 1 < S by omega) (show S < 2 ^ 31 by omega), cl_nI (show i + 1 < 100000 by omega), e1, e2, if_true]
theorem lc_image (hS : S ≤ 3072) (hw : Wd I J) (hJ : J 57 0 = lN S) (hi : i + 6 ≤ S) : ∃ I' J', den nL_law (1049, [some (.ref 57), some (.ref 0), some (.ref 44), some (.int (nI i))], [], (I, J)) = den nL_law (1134, [some (.ref 57), some (.ref 0), some (.ref 44), some (.int (nI i))], [], (I', J')) ∧ Wd I' J' ∧ frS I I' J J' := by
  obtain ⟨v, I1, J1, I2, J2, e1, e2, w2, f1, f2⟩ := B_image  I J hw
  refine ⟨I2, J2, ?_, w2, f1.trans f2⟩
  simp only [eL_law_1049, eL_law_1050, eL_law_1053, eL_law_1054, eL_law_1057, eL_law_1060, eL_law_1061, eq_self, hr_k_some, Option.toList, List.cons_append, List.nil_append, is2k_n, is2k_i, is2k_r, is2k_0, oc_0, oc_44, e1, e2, if_true]
theorem lc_undo (hS : S ≤ 3072) (hw : Wd I J) (hJ : J 57 0 = lN S) (hi : i + 6 ≤ S) : ∃ I' J', den nL_law (1062, [some (.ref 57), some (.ref 0), some (.ref 44), some (.int (nI i))], [], (I, J)) = den nL_law (1134, [some (.ref 57), some (.ref 0), some (.ref 44), some (.int (nI i))], [], (I', J')) ∧ Wd I' J' ∧ frS I I' J J' := by
  obtain ⟨v, I1, J1, I2, J2, e1, e2, w2, f1, f2⟩ := B_undo  I J hw
  refine ⟨I2, J2, ?_, w2, f1.trans f2⟩
  simp only [eL_law_1062, eL_law_1063, eL_law_1066, eL_law_1067, eL_law_1070, eL_law_1073, eL_law_1074, eq_self, hr_k_some, Option.toList, List.cons_append, List.nil_append, is2k_n, is2k_i, is2k_r, is2k_0, oc_0, oc_44, e1, e2, if_true]
theorem lc_tear (hS : S ≤ 3072) (hw : Wd I J) (hJ : J 57 0 = lN S) (hi : i + 6 ≤ S) : ∃ I' J', den nL_law (1075, [some (.ref 57), some (.ref 0), some (.ref 44), some (.int (nI i))], [], (I, J)) = den nL_law (1134, [some (.ref 57), some (.ref 0), some (.ref 44), some (.int (nI i))], [], (I', J')) ∧ Wd I' J' ∧ frS I I' J J' := by
  obtain ⟨v, I1, J1, I2, J2, e1, e2, w2, f1, f2⟩ := B_tear  I J hw
  refine ⟨I2, J2, ?_, w2, f1.trans f2⟩
  simp only [eL_law_1075, eL_law_1076, eL_law_1079, eL_law_1080, eL_law_1083, eL_law_1086, eL_law_1087, eq_self, hr_k_some, Option.toList, List.cons_append, List.nil_append, is2k_n, is2k_i, is2k_r, is2k_0, oc_0, oc_44, e1, e2, if_true]
theorem lc_count (hS : S ≤ 3072) (hw : Wd I J) (hJ : J 57 0 = lN S) (hi : i + 6 ≤ S) : ∃ I' J', den nL_law (1088, [some (.ref 57), some (.ref 0), some (.ref 44), some (.int (nI i))], [], (I, J)) = den nL_law (1134, [some (.ref 57), some (.ref 0), some (.ref 44), some (.int (nI i))], [], (I', J')) ∧ Wd I' J' ∧ frS I I' J J' := by
  obtain ⟨v, I1, J1, I2, J2, e1, e2, w2, f1, f2⟩ := B_count (a1 := I 57 (i + 1)) I J hw
  refine ⟨I2, J2, ?_, w2, f1.trans f2⟩
  have al0 : hr_al (I, J) 57 = S := lw_al hJ hS
  have al1 : hr_al (I1, J1) 57 = S := lw_al ((f1 57 (by decide) 0).2.trans hJ) hS
  have r : ∀ j, I1 57 j = I 57 j := fun j => (f1 57 (by decide) j).1
  simp only [eL_law_1088, eL_law_1089, eL_law_1090, eL_law_1091, eL_law_1092, eL_law_1093, eL_law_1094, eL_law_1097, eL_law_1098, eL_law_1099, eL_law_1100, eL_law_1101, eL_law_1102, eL_law_1103, eL_law_1106, eL_law_1109, eL_law_1110, eq_self, hr_k_some, Option.toList, List.cons_append, List.nil_append, is2k_n, is2k_i, is2k_r, is2k_0, oc_0, oc_44, ak_57, al0, al1, a57, r, nI_1, in_k (show i + 1 < S by omega) (show S < 2 ^ 31 by omega), cl_nI (show i + 1 < 100000 by omega), e1, e2, if_true]
theorem lc_status (hS : S ≤ 3072) (hw : Wd I J) (hJ : J 57 0 = lN S) (hi : i + 6 ≤ S) : ∃ I' J', den nL_law (1111, [some (.ref 57), some (.ref 0), some (.ref 44), some (.int (nI i))], [], (I, J)) = den nL_law (1134, [some (.ref 57), some (.ref 0), some (.ref 44), some (.int (nI i))], [], (I', J')) ∧ Wd I' J' ∧ frS I I' J J' := by
  obtain ⟨v, I1, J1, I2, J2, e1, e2, w2, f1, f2⟩ := B_status (a1 := I 57 (i + 1)) I J hw
  refine ⟨I2, J2, ?_, w2, f1.trans f2⟩
  have al0 : hr_al (I, J) 57 = S := lw_al hJ hS
  have al1 : hr_al (I1, J1) 57 = S := lw_al ((f1 57 (by decide) 0).2.trans hJ) hS
  have r : ∀ j, I1 57 j = I 57 j := fun j => (f1 57 (by decide) j).1
  simp only [eL_law_1111, eL_law_1112, eL_law_1113, eL_law_1114, eL_law_1115, eL_law_1116, eL_law_1117, eL_law_1120, eL_law_1121, eL_law_1122, eL_law_1123, eL_law_1124, eL_law_1125, eL_law_1126, eL_law_1129, eL_law_1132, eL_law_1133, eq_self, hr_k_some, Option.toList, List.cons_append, List.nil_append, is2k_n, is2k_i, is2k_r, is2k_0, oc_0, oc_44, ak_57, al0, al1, a57, r, nI_1, in_k (show i + 1 < S by omega) (show S < 2 ^ 31 by omega), cl_nI (show i + 1 < 100000 by omega), e1, e2, if_true]
end
theorem law_disp {q : Nat} (hq : q < 35) {ls : hr_L} {h : hr_H} : den nL_law (33, ls, [.int (nI q)], h) = den nL_law (([188, 221, 244, 277, 310, 353, 386, 419, 452, 475, 498, 531, 564, 577, 590, 613, 626, 649, 662, 685, 718, 741, 774, 787, 800, 843, 917, 980, 1003, 1026, 1049, 1062, 1075, 1088, 1111] : List Nat).getD q 0, ls, [], h) := by
  rw [eL_law_33]
  rcases (show q = 0 ∨ q = 1 ∨ q = 2 ∨ q = 3 ∨ q = 4 ∨ q = 5 ∨ q = 6 ∨ q = 7 ∨ q = 8 ∨ q = 9 ∨ q = 10 ∨ q = 11 ∨ q = 12 ∨ q = 13 ∨ q = 14 ∨ q = 15 ∨ q = 16 ∨ q = 17 ∨ q = 18 ∨ q = 19 ∨ q = 20 ∨ q = 21 ∨ q = 22 ∨ q = 23 ∨ q = 24 ∨ q = 25 ∨ q = 26 ∨ q = 27 ∨ q = 28 ∨ q = 29 ∨ q = 30 ∨ q = 31 ∨ q = 32 ∨ q = 33 ∨ q = 34 by omega) with rfl | rfl | rfl | rfl | rfl | rfl | rfl | rfl | rfl | rfl | rfl | rfl | rfl | rfl | rfl | rfl | rfl | rfl | rfl | rfl | rfl | rfl | rfl | rfl | rfl | rfl | rfl | rfl | rfl | rfl | rfl | rfl | rfl | rfl | rfl
  · rfl
  · rfl
  · rfl
  · rfl
  · rfl
  · rfl
  · rfl
  · rfl
  · rfl
  · rfl
  · rfl
  · rfl
  · rfl
  · rfl
  · rfl
  · rfl
  · rfl
  · rfl
  · rfl
  · rfl
  · rfl
  · rfl
  · rfl
  · rfl
  · rfl
  · rfl
  · rfl
  · rfl
  · rfl
  · rfl
  · rfl
  · rfl
  · rfl
  · rfl
  · rfl
theorem law_rest {q : Nat} (hq : 35 ≤ q) (h64 : q < 64) {ls : hr_L} {h : hr_H} : den nL_law (33, ls, [.int (nI q)], h) = den nL_law (1134, ls, [], h) := by
  rw [eL_law_33]
  have e : ∀ k : Nat, k < 35 → (nI q = nI k) = False := fun k hk => nq (by omega) (by omega) (by omega)
  have e0 : (nI q = (0 : Int32)) = False := e 0 (by decide)
  have e1 : (nI q = (1 : Int32)) = False := e 1 (by decide)
  have e2 : (nI q = (2 : Int32)) = False := e 2 (by decide)
  have e3 : (nI q = (3 : Int32)) = False := e 3 (by decide)
  have e4 : (nI q = (4 : Int32)) = False := e 4 (by decide)
  have e5 : (nI q = (5 : Int32)) = False := e 5 (by decide)
  have e6 : (nI q = (6 : Int32)) = False := e 6 (by decide)
  have e7 : (nI q = (7 : Int32)) = False := e 7 (by decide)
  have e8 : (nI q = (8 : Int32)) = False := e 8 (by decide)
  have e9 : (nI q = (9 : Int32)) = False := e 9 (by decide)
  have e10 : (nI q = (10 : Int32)) = False := e 10 (by decide)
  have e11 : (nI q = (11 : Int32)) = False := e 11 (by decide)
  have e12 : (nI q = (12 : Int32)) = False := e 12 (by decide)
  have e13 : (nI q = (13 : Int32)) = False := e 13 (by decide)
  have e14 : (nI q = (14 : Int32)) = False := e 14 (by decide)
  have e15 : (nI q = (15 : Int32)) = False := e 15 (by decide)
  have e16 : (nI q = (16 : Int32)) = False := e 16 (by decide)
  have e17 : (nI q = (17 : Int32)) = False := e 17 (by decide)
  have e18 : (nI q = (18 : Int32)) = False := e 18 (by decide)
  have e19 : (nI q = (19 : Int32)) = False := e 19 (by decide)
  have e20 : (nI q = (20 : Int32)) = False := e 20 (by decide)
  have e21 : (nI q = (21 : Int32)) = False := e 21 (by decide)
  have e22 : (nI q = (22 : Int32)) = False := e 22 (by decide)
  have e23 : (nI q = (23 : Int32)) = False := e 23 (by decide)
  have e24 : (nI q = (24 : Int32)) = False := e 24 (by decide)
  have e25 : (nI q = (25 : Int32)) = False := e 25 (by decide)
  have e26 : (nI q = (26 : Int32)) = False := e 26 (by decide)
  have e27 : (nI q = (27 : Int32)) = False := e 27 (by decide)
  have e28 : (nI q = (28 : Int32)) = False := e 28 (by decide)
  have e29 : (nI q = (29 : Int32)) = False := e 29 (by decide)
  have e30 : (nI q = (30 : Int32)) = False := e 30 (by decide)
  have e31 : (nI q = (31 : Int32)) = False := e 31 (by decide)
  have e32 : (nI q = (32 : Int32)) = False := e 32 (by decide)
  have e33 : (nI q = (33 : Int32)) = False := e 33 (by decide)
  have e34 : (nI q = (34 : Int32)) = False := e 34 (by decide)
  simp only [e0, e1, e2, e3, e4, e5, e6, e7, e8, e9, e10, e11, e12, e13, e14, e15, e16, e17, e18, e19, e20, e21, e22, e23, e24, e25, e26, e27, e28, e29, e30, e31, e32, e33, e34, if_false]
section
variable {S : Nat}
theorem law_case (hS : S ≤ 3072) {I : Nat → Nat → Int32} {J : Nat → Nat → Int64} {i q : Nat} (h64 : q < 64) (hw : Wd I J) (hJ : J 57 0 = lN S) (hi : i + 6 ≤ S) : ∃ I' J', den nL_law (33, [some (.ref 57), some (.ref 0), some (.ref 44), some (.int (nI i))], [.int (nI q)], (I, J)) = den nL_law (1134, [some (.ref 57), some (.ref 0), some (.ref 44), some (.int (nI i))], [], (I', J')) ∧ Wd I' J' ∧ frS I I' J J' := by
  by_cases hq : q < 35
  · rw [law_disp hq]
    rcases (show q = 0 ∨ q = 1 ∨ q = 2 ∨ q = 3 ∨ q = 4 ∨ q = 5 ∨ q = 6 ∨ q = 7 ∨ q = 8 ∨ q = 9 ∨ q = 10 ∨ q = 11 ∨ q = 12 ∨ q = 13 ∨ q = 14 ∨ q = 15 ∨ q = 16 ∨ q = 17 ∨ q = 18 ∨ q = 19 ∨ q = 20 ∨ q = 21 ∨ q = 22 ∨ q = 23 ∨ q = 24 ∨ q = 25 ∨ q = 26 ∨ q = 27 ∨ q = 28 ∨ q = 29 ∨ q = 30 ∨ q = 31 ∨ q = 32 ∨ q = 33 ∨ q = 34 by omega) with rfl | rfl | rfl | rfl | rfl | rfl | rfl | rfl | rfl | rfl | rfl | rfl | rfl | rfl | rfl | rfl | rfl | rfl | rfl | rfl | rfl | rfl | rfl | rfl | rfl | rfl | rfl | rfl | rfl | rfl | rfl | rfl | rfl | rfl | rfl
    · exact lc_ship hS hw hJ hi
    · exact lc_now hS hw hJ hi
    · exact lc_rock hS hw hJ hi
    · exact lc_of hS hw hJ hi
    · exact lc_set hS hw hJ hi
    · exact lc_turn hS hw hJ hi
    · exact lc_as hS hw hJ hi
    · exact lc_sounds hS hw hJ hi
    · exact lc_loudest hS hw hJ hi
    · exact lc_watches hS hw hJ hi
    · exact lc_on hS hw hJ hi
    · exact lc_moved hS hw hJ hi
    · exact lc_strikes hS hw hJ hi
    · exact lc_home hS hw hJ hi
    · exact lc_comes hS hw hJ hi
    · exact lc_ear hS hw hJ hi
    · exact lc_begin hS hw hJ hi
    · exact lc_silence hS hw hJ hi
    · exact lc_kind hS hw hJ hi
    · exact lc_horn hS hw hJ hi
    · exact lc_fewest hS hw hJ hi
    · exact lc_feed hS hw hJ hi
    · exact lc_wipe hS hw hJ hi
    · exact lc_chart hS hw hJ hi
    · exact lc_sheet hS hw hJ hi
    · exact lc_write hS hw hJ hi
    · exact lc_copy hS hw hJ hi
    · exact lc_lays hS hw hJ hi
    · exact lc_book hS hw hJ hi
    · exact lc_read hS hw hJ hi
    · exact lc_image hS hw hJ hi
    · exact lc_undo hS hw hJ hi
    · exact lc_tear hS hw hJ hi
    · exact lc_count hS hw hJ hi
    · exact lc_status hS hw hJ hi
  · exact ⟨I, J, law_rest (by omega) h64, hw, fun _ _ _ => ⟨rfl, rfl⟩⟩
theorem law_loop (hS : S ≤ 3072) : ∀ (d i : Nat) (I : Nat → Nat → Int32) (J : Nat → Nat → Int64), S < i + 6 * (d + 1) → i ≤ 3072 → Wd I J → J 57 0 = lN S → ∃ I' J', den nL_law (18, [some (.ref 57), some (.ref 0), some (.ref 44), some (.int (nI i))], [], (I, J)) = some (some (.int 1), (I', J')) := by
  intro d
  induction d with
  | zero =>
    intro i I J hd hi hw hJ
    have al0 : hr_al (I, J) 57 = S := lw_al hJ hS
    have eg : (Int32.ofNat S - 6 < nI i) = True := (lw_gt hS hi).trans (eq_true (by omega))
    refine ⟨I, J, ?_⟩
    rw [eL_law_18]
    simp only [eL_law_19, eL_law_20, eL_law_21, eL_law_23, eL_law_24, eL_law_27, eL_law_28, eL_law_29, eL_law_30, eL_law_32, eL_law_1140, eL_law_1141, eq_self, hr_k_some, Option.toList, List.cons_append, List.nil_append, is2k_n, is2k_i, is2k_r, is2k_0, ak_57, al0, eg, if_true, show (0 < 1) = True from eq_true (by decide), zb_n1]
  | succ d ih =>
    intro i I J hd hi hw hJ
    have al0 : hr_al (I, J) 57 = S := lw_al hJ hS
    by_cases c : i + 6 ≤ S
    · have eg : (Int32.ofNat S - 6 < nI i) = False := (lw_gt hS hi).trans (eq_false (fun q => q c))
      obtain ⟨q, hq, eq⟩ := pk_andE (I 57 i) (m := 63) 6 (by decide)
      obtain ⟨I1, J1, e1, w1, f1⟩ := law_case hS (q := q) hq hw hJ c
      obtain ⟨I2, J2, e2⟩ := ih (i + 6) I1 J1 (by omega) (by omega) w1 ((f1 57 (by decide) 0).2.trans hJ)
      refine ⟨I2, J2, ?_⟩
      rw [eL_law_18]
      simp only [eL_law_19, eL_law_20, eL_law_21, eL_law_23, eL_law_24, eL_law_27, eL_law_28, eL_law_29, eL_law_30, eL_law_32, eq_self, hr_k_some, Option.toList, List.cons_append, List.nil_append, is2k_n, is2k_i, is2k_r, is2k_0, ak_57, al0, eg, if_true, if_false, show (0 < 1) = True from eq_true (by decide), in_k (show i < S by omega) (show S < 2 ^ 31 by omega), cl_nI (show i < 100000 by omega), a57, eq]
      rw [e1]
      simp only [eL_law_1134, eL_law_1137, eq_self, hr_k_some, Option.toList, List.cons_append, List.nil_append, is2k_n, is2k_i, is2k_r, is2k_0, ad6]
      exact e2
    · have eg : (Int32.ofNat S - 6 < nI i) = True := (lw_gt hS hi).trans (eq_true c)
      refine ⟨I, J, ?_⟩
      rw [eL_law_18]
      simp only [eL_law_19, eL_law_20, eL_law_21, eL_law_23, eL_law_24, eL_law_27, eL_law_28, eL_law_29, eL_law_30, eL_law_32, eL_law_1140, eL_law_1141, eq_self, hr_k_some, Option.toList, List.cons_append, List.nil_append, is2k_n, is2k_i, is2k_r, is2k_0, ak_57, al0, eg, if_true, show (0 < 1) = True from eq_true (by decide), zb_n1]
/-- the law, from where both objects stand -/
theorem law_den (hS : S ≤ 3072) {I : Nat → Nat → Int32} {J : Nat → Nat → Int64} (hw : Wd I J) (hJ : J 57 0 = lN S) : ∃ I' J', den nL_law (16, [some (.ref 57), some (.ref 0), some (.ref 44), none], [], (I, J)) = some (some (.int 1), (I', J')) := by
  obtain ⟨I1, J1, e1⟩ := law_loop hS 600 0 I J (by omega) (by omega) hw hJ
  refine ⟨I1, J1, ?_⟩
  simp only [eL_law_16, eL_law_17, eq_self, hr_k_some, Option.toList, List.cons_append, List.nil_append, is2k_n, is2k_i, is2k_r, is2k_0]
  exact e1
end
