theorem sp_far {h : hr_H} (a b : Int32) : den nX_far (0, [some (.int a), some (.int b)], [], h) = some (some (.int (P_far a b)), h) := by
  simp only [eX_far_0, eX_far_1, eX_far_3, eX_far_4, eX_far_5, eX_far_7, eX_far_8, eX_far_9, eX_far_12, eX_far_13, eX_far_15, eX_far_16, eX_far_17, eX_far_19, eX_far_20, eX_far_21, eX_far_24, eX_far_25, eq_self, hr_k_some, Option.toList, List.cons_append, List.nil_append, is2k_n, is2k_i, is2k_r, is2k_0, n8, not_false_eq_true]
  rfl
theorem sp_soundAt {I : Nat → Nat → Int32} {J : Nat → Nat → Int64} {a : Nat} {q w : Int32} (ha : hr_oc a = 1) (hf : ¬ 1 + P_far (I a 1) q = 0) : den nR_soundAt (0, [some (.ref a), some (.int q), some (.int w), none, none, none, none], [], (I, J)) = some (some (.int (P_snd (I a 0) (I a 1) (I a 2) (I a 3) (I a 4) q w)), (I, J)) := by
  simp only [eR_soundAt_0, eR_soundAt_1, eR_soundAt_4, eR_soundAt_5, eR_soundAt_8, eR_soundAt_9, eR_soundAt_10, eR_soundAt_11, eR_soundAt_14, eR_soundAt_15, eR_soundAt_18, eR_soundAt_19, eR_soundAt_20, eR_soundAt_23, eR_soundAt_24, eR_soundAt_25, eR_soundAt_26, eR_soundAt_27, eR_soundAt_29, eR_soundAt_30, eR_soundAt_31, eR_soundAt_34, eR_soundAt_36, eR_soundAt_37, eR_soundAt_40, eR_soundAt_41, eR_soundAt_44, eR_soundAt_46, eR_soundAt_48, eR_soundAt_49, eR_soundAt_50, eR_soundAt_51, eR_soundAt_54, eR_soundAt_56, eR_soundAt_59, eR_soundAt_60, eR_soundAt_62, eR_soundAt_63, eR_soundAt_66, eR_soundAt_100, eR_soundAt_102, eR_soundAt_103, eR_soundAt_105, eR_soundAt_106, eR_soundAt_107, eR_soundAt_110, eR_soundAt_111, eR_soundAt_112, eR_soundAt_113, eR_soundAt_114, eR_soundAt_117, eR_soundAt_118, eR_soundAt_120, eR_soundAt_121, eR_soundAt_124, eR_soundAt_126, eR_soundAt_127, eR_soundAt_129, eR_soundAt_130, eR_soundAt_131, eR_soundAt_132, eR_soundAt_135, eR_soundAt_136, eR_soundAt_138, eq_self, hr_k_some, Option.toList, List.cons_append, List.nil_append, is2k_n, is2k_i, is2k_r, is2k_0, ha, hf, n2, n4, not_false_eq_true, sp_far, ite_si]
  congr 4
  unfold P_snd P_rm
  by_cases h1 : I a 4 = 1
  · simp only [h1, not_true_eq_false, if_true, if_false]
  · simp only [h1, not_false_eq_true, if_true, if_false]
    by_cases h2 : 3 < P_far (I a 1) q <;> by_cases h3 : w - w / 2 * 2 = 0 <;> by_cases h4 : w - w / 4 * 4 = 0 <;> simp only [h2, h3, h4, not_false_eq_true, not_true_eq_false, if_true, if_false]
theorem sp_lureAt {I : Nat → Nat → Int32} {J : Nat → Nat → Int64} {a : Nat} {q : Int32} (ha : hr_oc a = 1) : den nR_lureAt (0, [some (.ref a), some (.int q), none], [], (I, J)) = some (some (.int (P_lur (I a 0) (I a 1) (I a 2) (I a 3) (I a 4) q)), (I, J)) := by
  simp only [eR_lureAt_0, eR_lureAt_1, eR_lureAt_4, eR_lureAt_5, eR_lureAt_8, eR_lureAt_9, eR_lureAt_10, eR_lureAt_11, eR_lureAt_14, eR_lureAt_15, eR_lureAt_18, eR_lureAt_19, eR_lureAt_22, eR_lureAt_23, eR_lureAt_24, eR_lureAt_27, eR_lureAt_28, eR_lureAt_29, eR_lureAt_32, eR_lureAt_68, eR_lureAt_69, eR_lureAt_72, eR_lureAt_73, eR_lureAt_74, eR_lureAt_75, eR_lureAt_76, eR_lureAt_77, eR_lureAt_78, eR_lureAt_79, eR_lureAt_80, eR_lureAt_83, eR_lureAt_84, eR_lureAt_85, eR_lureAt_86, eR_lureAt_89, eR_lureAt_91, eR_lureAt_92, eR_lureAt_93, eR_lureAt_94, eR_lureAt_95, eR_lureAt_96, eR_lureAt_97, eR_lureAt_98, eR_lureAt_99, eR_lureAt_102, eq_self, hr_k_some, Option.toList, List.cons_append, List.nil_append, is2k_n, is2k_i, is2k_r, is2k_0, ha, n10, not_false_eq_true, sp_far, ite_si]
  congr 4
  unfold P_lur
  by_cases h1 : I a 4 = 1
  · simp only [h1, not_true_eq_false, if_true, if_false]
  · simp only [h1, not_false_eq_true, if_true, if_false]
theorem sp_wrecksIn {I : Nat → Nat → Int32} {J : Nat → Nat → Int64} {a : Nat} {w : Int32} (ha : hr_oc a = 1) : den nR_wrecksIn (0, [some (.ref a), some (.int w)], [], (I, J)) = some (some (.int (zb (P_wrk (I a 0) w))), (I, J)) := by
  simp only [eR_wrecksIn_0, eR_wrecksIn_1, eR_wrecksIn_4, eR_wrecksIn_36, eR_wrecksIn_37, eR_wrecksIn_38, eR_wrecksIn_39, eR_wrecksIn_40, eR_wrecksIn_43, eR_wrecksIn_44, eR_wrecksIn_47, eR_wrecksIn_48, eR_wrecksIn_49, eR_wrecksIn_50, eR_wrecksIn_51, eR_wrecksIn_52, eq_self, hr_k_some, Option.toList, List.cons_append, List.nil_append, is2k_n, is2k_i, is2k_r, is2k_0, ha, n3, not_false_eq_true, zb_n0, zb_n1, ite_si]
  congr 4
  unfold P_wrk P_rm
  generalize I a 0 = x
  by_cases h2 : x = 2
  · subst h2
    by_cases h : w - w / 3 * 3 = 2 <;> simp [h, zb]
  by_cases h3 : x = 3
  · subst h3
    simp [zb]
  by_cases h5 : x = 5
  · subst h5
    by_cases h : w - w / 3 * 3 = 2 <;> simp [h, zb]
  · simp [h2, h3, h5, zb]
