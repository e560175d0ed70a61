section
variable {I I' : Nat → Nat → Int32} {J J' : Nat → Nat → Int64} {t t' : Nat → Nat} {n B : Nat}
theorem m_wrk2 (h : mh I 45 t n) (hn : n ≤ 8) (hw : t 0 < 2 ^ 29) {k : Nat} (hk : k < n) (v1 : t (6 + 5 * k) < 6) : den nM_wrecksNow (0, [some (.ref 44), some (.int (nI k)), none], [], (I, J)) = some (some (.int (zb (N_wrk (t (6 + 5 * k)) (t 0)))), (I, J)) := by
  have f0 : I 45 0 = nI (t 0) := h 0 (by omega)
  have g0 := gt0 (J := J) h hn hk
  have m3 := rm3 (show t 0 < 2 ^ 30 by omega)
  have e2 : (nI (t 0 % 3) = 2) = (t 0 % 3 = 2) := nI_lit _ 2 (by omega) (by decide)
  unfold N_wrk
  generalize t (6 + 5 * k) = kd at *
  by_cases c : t 0 % 3 = 2
  · rcases (show kd = 0 ∨ kd = 1 ∨ kd = 2 ∨ kd = 3 ∨ kd = 4 ∨ kd = 5 by omega) with rfl | rfl | rfl | rfl | rfl | rfl <;> simp (decide := true) only [eM_wrecksNow_0, eM_wrecksNow_1, eM_wrecksNow_2, eM_wrecksNow_3, eM_wrecksNow_6, eM_wrecksNow_7, eM_wrecksNow_8, eM_wrecksNow_9, eM_wrecksNow_12, eM_wrecksNow_13, eM_wrecksNow_14, eM_wrecksNow_17, eM_wrecksNow_18, eM_wrecksNow_19, eM_wrecksNow_22, eM_wrecksNow_23, eM_wrecksNow_26, eM_wrecksNow_27, eM_wrecksNow_28, eM_wrecksNow_29, eM_wrecksNow_30, eM_wrecksNow_31, eM_wrecksNow_34, eM_wrecksNow_35, eM_wrecksNow_38, eM_wrecksNow_39, eq_self, hr_k_some, Option.toList, List.cons_append, List.nil_append, is2k_n, is2k_i, is2k_r, is2k_0, oc_44, ro_m0, ro_m1, ro_m2, ro_m4, ro_m5, ro_m11, ro_m12, ro_m13, ro_m14, ro_m15, ro_m16, ro_m17, ak_45, ak_46, ak_47, ak_48, ak_49, ak_50, ak_51, ak_52, ak_53, ak_54, ak_55, ak_56, al_45, al_46, al_47, al_48, al_49, al_50, al_51, al_52, al_53, al_54, al_55, al_56, l45, l46, l47, l48, l49, l50, l51, l52, l53, l54, a45, a46, a47, a48, a49, a50, a51, a52, a53, a54, in46_0, in46_1, in46_2, in46_3, in46_4, in46_5, cn_0, cn_1, cn_2, cn_3, cn_4, cn_5, i10, i01, zb_t, zb_f, not_true_eq_false, not_false_eq_true, if_true, if_false, true_or, sp_in1, md_1, md_6, md_5, zb_n0, zb_n1, g0, f0, n3, m3, e2.trans (eq_true c), c] <;> rfl
  · rcases (show kd = 0 ∨ kd = 1 ∨ kd = 2 ∨ kd = 3 ∨ kd = 4 ∨ kd = 5 by omega) with rfl | rfl | rfl | rfl | rfl | rfl <;> simp (decide := true) only [eM_wrecksNow_0, eM_wrecksNow_1, eM_wrecksNow_2, eM_wrecksNow_3, eM_wrecksNow_6, eM_wrecksNow_7, eM_wrecksNow_8, eM_wrecksNow_9, eM_wrecksNow_12, eM_wrecksNow_13, eM_wrecksNow_14, eM_wrecksNow_17, eM_wrecksNow_18, eM_wrecksNow_19, eM_wrecksNow_22, eM_wrecksNow_23, eM_wrecksNow_26, eM_wrecksNow_27, eM_wrecksNow_28, eM_wrecksNow_29, eM_wrecksNow_30, eM_wrecksNow_31, eM_wrecksNow_34, eM_wrecksNow_35, eM_wrecksNow_38, eM_wrecksNow_39, eq_self, hr_k_some, Option.toList, List.cons_append, List.nil_append, is2k_n, is2k_i, is2k_r, is2k_0, oc_44, ro_m0, ro_m1, ro_m2, ro_m4, ro_m5, ro_m11, ro_m12, ro_m13, ro_m14, ro_m15, ro_m16, ro_m17, ak_45, ak_46, ak_47, ak_48, ak_49, ak_50, ak_51, ak_52, ak_53, ak_54, ak_55, ak_56, al_45, al_46, al_47, al_48, al_49, al_50, al_51, al_52, al_53, al_54, al_55, al_56, l45, l46, l47, l48, l49, l50, l51, l52, l53, l54, a45, a46, a47, a48, a49, a50, a51, a52, a53, a54, in46_0, in46_1, in46_2, in46_3, in46_4, in46_5, cn_0, cn_1, cn_2, cn_3, cn_4, cn_5, i10, i01, zb_t, zb_f, not_true_eq_false, not_false_eq_true, if_true, if_false, true_or, sp_in1, md_1, md_6, md_5, zb_n0, zb_n1, g0, f0, n3, m3, e2.trans (eq_false c), c] <;> rfl
theorem zb_or0 : ∀ a : Bool, zb a ||| (0 : Int32) = zb a := by decide
theorem zb_or1 : ∀ a : Bool, zb a ||| (1 : Int32) = 1 := by decide
theorem mwr_loop {x1 : Int32} (h : mh I 45 t n) (hn : n ≤ 8) (h5 : t 5 = n) (hw : t 0 < 2 ^ 29) (h1 : t 1 < 64) (hr : ∀ k, k < n → t (6 + 5 * k) < 6 ∧ t (7 + 5 * k) < 64) : ∀ (d k : Nat), k + d = n → den nM_sails (61, [some (.ref 44), some (.int x1), some (.int (zb (wrV t k))), some (.int (nI k))], [], (I, J)) = den nM_sails (108, [some (.ref 44), some (.int x1), some (.int (zb (wrV t n))), some (.int (nI n))], [], (I, J)) := by
  have f1 : I 45 1 = nI (t 1) := h 1 (by omega)
  have f5 : I 45 5 = nI n := by rw [h 5 (by omega), h5]
  intro d
  induction d with
  | zero =>
    intro k hk
    have hk' : k = n := by omega
    rw [hk']
    simp only [eM_sails_61, eM_sails_62, eM_sails_63, eM_sails_66, eM_sails_67, eM_sails_68, eM_sails_71, eM_sails_72, eM_sails_73, eM_sails_74, eM_sails_75, eM_sails_78, eM_sails_79, eM_sails_82, eM_sails_83, eM_sails_84, eM_sails_87, eM_sails_88, eM_sails_89, eM_sails_92, eM_sails_95, eM_sails_96, eM_sails_99, eM_sails_100, eM_sails_101, eM_sails_102, eM_sails_105, eq_self, hr_k_some, Option.toList, List.cons_append, List.nil_append, is2k_n, is2k_i, is2k_r, is2k_0, oc_44, ro_m0, ro_m1, ro_m2, ro_m4, ro_m5, ro_m11, ro_m12, ro_m13, ro_m14, ro_m15, ro_m16, ro_m17, ak_45, ak_46, ak_47, ak_48, ak_49, ak_50, ak_51, ak_52, ak_53, ak_54, ak_55, ak_56, al_45, al_46, al_47, al_48, al_49, al_50, al_51, al_52, al_53, al_54, al_55, al_56, l45, l46, l47, l48, l49, l50, l51, l52, l53, l54, a45, a46, a47, a48, a49, a50, a51, a52, a53, a54, in46_0, in46_1, in46_2, in46_3, in46_4, in46_5, cn_0, cn_1, cn_2, cn_3, cn_4, cn_5, i10, i01, zb_t, zb_f, not_true_eq_false, not_false_eq_true, if_true, if_false, true_or, sp_in1, md_1, md_6, md_5, f5, leT (Nat.le_refl n) (show n < 2 ^ 31 by omega)]
  | succ d ih =>
    intro k hk
    have hkn : k < n := by omega
    obtain ⟨v1, v2⟩ := hr k hkn
    have g1 := gt1 (J := J) h hn hkn
    have ew := m_wrk2 (J := J) h hn hw hkn v1
    have eq1 : (nI (t (7 + 5 * k)) = nI (t 1)) = (t (7 + 5 * k) = t 1) := nI_lit _ _ (by omega) (by omega)
    have ih' := ih (k + 1) (by omega)
    rw [wrV_s] at ih'
    unfold hitV at ih'
    rw [eM_sails_61]
    by_cases c1 : t (7 + 5 * k) = t 1
    · rw [decide_eq_true c1, Bool.true_and] at ih'
      by_cases c2 : N_wrk (t (6 + 5 * k)) (t 0) = true
      · rw [c2, Bool.or_true] at ih'
        rw [c2] at ew
        simp only [eM_sails_62, eM_sails_63, eM_sails_66, eM_sails_67, eM_sails_68, eM_sails_71, eM_sails_72, eM_sails_73, eM_sails_74, eM_sails_75, eM_sails_78, eM_sails_79, eM_sails_82, eM_sails_83, eM_sails_84, eM_sails_87, eM_sails_88, eM_sails_89, eM_sails_92, eM_sails_95, eM_sails_96, eM_sails_99, eM_sails_100, eM_sails_101, eM_sails_102, eM_sails_105, eq_self, hr_k_some, Option.toList, List.cons_append, List.nil_append, is2k_n, is2k_i, is2k_r, is2k_0, oc_44, ro_m0, ro_m1, ro_m2, ro_m4, ro_m5, ro_m11, ro_m12, ro_m13, ro_m14, ro_m15, ro_m16, ro_m17, ak_45, ak_46, ak_47, ak_48, ak_49, ak_50, ak_51, ak_52, ak_53, ak_54, ak_55, ak_56, al_45, al_46, al_47, al_48, al_49, al_50, al_51, al_52, al_53, al_54, al_55, al_56, l45, l46, l47, l48, l49, l50, l51, l52, l53, l54, a45, a46, a47, a48, a49, a50, a51, a52, a53, a54, in46_0, in46_1, in46_2, in46_3, in46_4, in46_5, cn_0, cn_1, cn_2, cn_3, cn_4, cn_5, i10, i01, zb_t, zb_f, not_true_eq_false, not_false_eq_true, if_true, if_false, true_or, sp_in1, md_1, md_6, md_5, f5, leF hkn (show n < 2 ^ 31 by omega), g1, f1, eq1.trans (eq_true c1), ew, zb_or1, nI_1]
        exact ih'
      · have c2' : N_wrk (t (6 + 5 * k)) (t 0) = false := Bool.not_eq_true _ ▸ c2
        rw [c2', Bool.or_false] at ih'
        rw [c2'] at ew
        simp only [eM_sails_62, eM_sails_63, eM_sails_66, eM_sails_67, eM_sails_68, eM_sails_71, eM_sails_72, eM_sails_73, eM_sails_74, eM_sails_75, eM_sails_78, eM_sails_79, eM_sails_82, eM_sails_83, eM_sails_84, eM_sails_87, eM_sails_88, eM_sails_89, eM_sails_92, eM_sails_95, eM_sails_96, eM_sails_99, eM_sails_100, eM_sails_101, eM_sails_102, eM_sails_105, eq_self, hr_k_some, Option.toList, List.cons_append, List.nil_append, is2k_n, is2k_i, is2k_r, is2k_0, oc_44, ro_m0, ro_m1, ro_m2, ro_m4, ro_m5, ro_m11, ro_m12, ro_m13, ro_m14, ro_m15, ro_m16, ro_m17, ak_45, ak_46, ak_47, ak_48, ak_49, ak_50, ak_51, ak_52, ak_53, ak_54, ak_55, ak_56, al_45, al_46, al_47, al_48, al_49, al_50, al_51, al_52, al_53, al_54, al_55, al_56, l45, l46, l47, l48, l49, l50, l51, l52, l53, l54, a45, a46, a47, a48, a49, a50, a51, a52, a53, a54, in46_0, in46_1, in46_2, in46_3, in46_4, in46_5, cn_0, cn_1, cn_2, cn_3, cn_4, cn_5, i10, i01, zb_t, zb_f, not_true_eq_false, not_false_eq_true, if_true, if_false, true_or, sp_in1, md_1, md_6, md_5, f5, leF hkn (show n < 2 ^ 31 by omega), g1, f1, eq1.trans (eq_true c1), ew, zb_or0, nI_1]
        exact ih'
    · rw [decide_eq_false c1, Bool.false_and, Bool.or_false] at ih'
      simp only [eM_sails_62, eM_sails_63, eM_sails_66, eM_sails_67, eM_sails_68, eM_sails_71, eM_sails_72, eM_sails_73, eM_sails_74, eM_sails_75, eM_sails_78, eM_sails_79, eM_sails_82, eM_sails_83, eM_sails_84, eM_sails_87, eM_sails_88, eM_sails_89, eM_sails_92, eM_sails_95, eM_sails_96, eM_sails_99, eM_sails_100, eM_sails_101, eM_sails_102, eM_sails_105, eq_self, hr_k_some, Option.toList, List.cons_append, List.nil_append, is2k_n, is2k_i, is2k_r, is2k_0, oc_44, ro_m0, ro_m1, ro_m2, ro_m4, ro_m5, ro_m11, ro_m12, ro_m13, ro_m14, ro_m15, ro_m16, ro_m17, ak_45, ak_46, ak_47, ak_48, ak_49, ak_50, ak_51, ak_52, ak_53, ak_54, ak_55, ak_56, al_45, al_46, al_47, al_48, al_49, al_50, al_51, al_52, al_53, al_54, al_55, al_56, l45, l46, l47, l48, l49, l50, l51, l52, l53, l54, a45, a46, a47, a48, a49, a50, a51, a52, a53, a54, in46_0, in46_1, in46_2, in46_3, in46_4, in46_5, cn_0, cn_1, cn_2, cn_3, cn_4, cn_5, i10, i01, zb_t, zb_f, not_true_eq_false, not_false_eq_true, if_true, if_false, true_or, sp_in1, md_1, md_6, md_5, f5, leF hkn (show n < 2 ^ 31 by omega), g1, f1, eq1.trans (eq_false c1), zb_or0, nI_1]
      exact ih'
end
