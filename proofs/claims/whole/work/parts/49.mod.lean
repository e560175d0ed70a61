section
variable {I I' : Nat → Nat → Int32} {J J' : Nat → Nat → Int64} {t t' : Nat → Nat} {n B : Nat}
theorem mo_64 (hV : V t n B) (h4 : t 4 = 0) : moV t n < 64 := by
  have h := (g1V_V hV).2.2.2.1
  unfold g1V at h
  rw [if_pos h4, upV_ne (by decide), upV_same] at h
  exact h
theorem m_sail1 (h : mh I 45 t n) (hV : V t n B) (hB : B < 2 ^ 29) : ∃ x1, den nM_sails (0, [some (.ref 44), none, none, none], [], (I, J)) = den nM_sails (61, [some (.ref 44), some (.int x1), some (.int (zb (wrV (upV t 1 (moV t n)) 0))), some (.int (nI 0))], [], (up2 I 45 1 (nI (moV t n)), J)) := by
  obtain ⟨f0, f1, f2, f3, f4, f5⟩ := mfs h hV
  have hn := hV.2.1
  have hq := hV.2.2.2.1
  have eg := m_guide (J := J) h hV hB
  have hg := (gdV_lt hV n (Nat.le_refl _)).1
  have m8 : nI (t 1) - nI (t 1) / 8 * 8 = nI (t 1 % 8) := pk_rem (d := 8) (by omega) (by decide) (by decide)
  have e7 : ((7 : Int32) ≤ nI (t 1 % 8)) = (7 ≤ t 1 % 8) := propext (nI_leI (a := 7) (by decide) (by omega))
  have e8 : nI (t 1) + 8 = nI (t 1 + 8) := nI_add _ 8
  refine ⟨nI (gdV t n).1 - 1, ?_⟩
  unfold moV
  by_cases c : (gdV t n).1 = 0
  · have en : (nI (gdV t n).1 - 1 < 0) = True := eq_true (by rw [c]; decide)
    rw [if_pos c]
    by_cases c7 : 7 ≤ t 1 % 8
    · rw [if_neg (by omega)]
      simp only [eM_sails_0, eM_sails_1, eM_sails_4, eM_sails_5, eM_sails_6, eM_sails_9, eM_sails_10, eM_sails_11, eM_sails_14, eM_sails_15, eM_sails_16, eM_sails_19, eM_sails_22, eM_sails_23, eM_sails_26, eM_sails_27, eM_sails_28, eM_sails_30, eM_sails_31, eM_sails_33, eM_sails_36, eM_sails_37, eM_sails_40, eM_sails_41, eM_sails_42, eM_sails_43, eM_sails_44, eM_sails_47, eM_sails_48, eM_sails_51, eM_sails_52, eM_sails_53, eM_sails_55, eM_sails_56, eM_sails_57, eM_sails_58, eM_sails_59, eM_sails_60, eq_self, hr_k_some, Option.toList, List.cons_append, List.nil_append, is2k_n, is2k_i, is2k_r, is2k_0, oc_44, ro_m0, ro_m1, ro_m2, ro_m4, ro_m5, ro_m11, ro_m12, ro_m13, ro_m14, ro_m15, ro_m16, ro_m17, ak_45, ak_46, ak_47, ak_48, ak_49, ak_50, ak_51, ak_52, ak_53, ak_54, ak_55, ak_56, al_45, al_46, al_47, al_48, al_49, al_50, al_51, al_52, al_53, al_54, al_55, al_56, l45, l46, l47, l48, l49, l50, l51, l52, l53, l54, a45, a46, a47, a48, a49, a50, a51, a52, a53, a54, in46_0, in46_1, in46_2, in46_3, in46_4, in46_5, cn_0, cn_1, cn_2, cn_3, cn_4, cn_5, i10, i01, zb_t, zb_f, not_true_eq_false, not_false_eq_true, if_true, if_false, true_or, sp_in1, md_1, md_6, md_5, eg, en, f1, n8, m8, e7.trans (eq_true c7), e8]
      rfl
    · rw [if_pos (by omega)]
      simp only [eM_sails_0, eM_sails_1, eM_sails_4, eM_sails_5, eM_sails_6, eM_sails_9, eM_sails_10, eM_sails_11, eM_sails_14, eM_sails_15, eM_sails_16, eM_sails_19, eM_sails_22, eM_sails_23, eM_sails_26, eM_sails_27, eM_sails_28, eM_sails_30, eM_sails_31, eM_sails_33, eM_sails_36, eM_sails_37, eM_sails_40, eM_sails_41, eM_sails_42, eM_sails_43, eM_sails_44, eM_sails_47, eM_sails_48, eM_sails_51, eM_sails_52, eM_sails_53, eM_sails_55, eM_sails_56, eM_sails_57, eM_sails_58, eM_sails_59, eM_sails_60, eq_self, hr_k_some, Option.toList, List.cons_append, List.nil_append, is2k_n, is2k_i, is2k_r, is2k_0, oc_44, ro_m0, ro_m1, ro_m2, ro_m4, ro_m5, ro_m11, ro_m12, ro_m13, ro_m14, ro_m15, ro_m16, ro_m17, ak_45, ak_46, ak_47, ak_48, ak_49, ak_50, ak_51, ak_52, ak_53, ak_54, ak_55, ak_56, al_45, al_46, al_47, al_48, al_49, al_50, al_51, al_52, al_53, al_54, al_55, al_56, l45, l46, l47, l48, l49, l50, l51, l52, l53, l54, a45, a46, a47, a48, a49, a50, a51, a52, a53, a54, in46_0, in46_1, in46_2, in46_3, in46_4, in46_5, cn_0, cn_1, cn_2, cn_3, cn_4, cn_5, i10, i01, zb_t, zb_f, not_true_eq_false, not_false_eq_true, if_true, if_false, true_or, sp_in1, md_1, md_6, md_5, eg, en, f1, n8, m8, e7.trans (eq_false c7), nI_1]
      rfl
  · have ep : nI (gdV t n).1 - 1 = nI ((gdV t n).1 - 1) := pk_sub (b := 1) (by omega)
    have eb := m_by (J := J) h hV (k := (gdV t n).1 - 1) (by omega)
    rw [if_neg c]
    rw [ep] at eg ⊢
    simp only [eM_sails_0, eM_sails_1, eM_sails_4, eM_sails_5, eM_sails_6, eM_sails_9, eM_sails_10, eM_sails_11, eM_sails_14, eM_sails_15, eM_sails_16, eM_sails_19, eM_sails_22, eM_sails_23, eM_sails_26, eM_sails_27, eM_sails_28, eM_sails_30, eM_sails_31, eM_sails_33, eM_sails_36, eM_sails_37, eM_sails_40, eM_sails_41, eM_sails_42, eM_sails_43, eM_sails_44, eM_sails_47, eM_sails_48, eM_sails_51, eM_sails_52, eM_sails_53, eM_sails_55, eM_sails_56, eM_sails_57, eM_sails_58, eM_sails_59, eM_sails_60, eq_self, hr_k_some, Option.toList, List.cons_append, List.nil_append, is2k_n, is2k_i, is2k_r, is2k_0, oc_44, ro_m0, ro_m1, ro_m2, ro_m4, ro_m5, ro_m11, ro_m12, ro_m13, ro_m14, ro_m15, ro_m16, ro_m17, ak_45, ak_46, ak_47, ak_48, ak_49, ak_50, ak_51, ak_52, ak_53, ak_54, ak_55, ak_56, al_45, al_46, al_47, al_48, al_49, al_50, al_51, al_52, al_53, al_54, al_55, al_56, l45, l46, l47, l48, l49, l50, l51, l52, l53, l54, a45, a46, a47, a48, a49, a50, a51, a52, a53, a54, in46_0, in46_1, in46_2, in46_3, in46_4, in46_5, cn_0, cn_1, cn_2, cn_3, cn_4, cn_5, i10, i01, zb_t, zb_f, not_true_eq_false, not_false_eq_true, if_true, if_false, true_or, sp_in1, md_1, md_6, md_5, eg, lt0f (show (gdV t n).1 - 1 < 2 ^ 31 by omega), eb]
    rfl
end
