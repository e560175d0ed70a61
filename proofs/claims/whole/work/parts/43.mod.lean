section
variable {I I' : Nat → Nat → Int32} {J J' : Nat → Nat → Int64} {t t' : Nat → Nat} {n B : Nat}
theorem mgd_loop (h : mh I 45 t n) (hV : V t n B) (hB : B < 2 ^ 29) : ∀ (d k : Nat) (x4 x5 : Option Value), k + d = n → den nM_guide (6, [some (.ref 44), some (.int (nI (gdV t k).1 - 1)), some (.int (nI (gdV t k).2 - 1)), some (.int (nI k)), x4, x5], [], (I, J)) = some (some (.int (nI (gdV t n).1 - 1)), (I, J)) := by
  obtain ⟨f0, f1, f2, f3, f4, f5⟩ := mfs h hV
  have hn := hV.2.1
  have hq := hV.2.2.2.1
  have h3' := hV.2.2.2.2.2.1
  have hz : (nI (t 3) = 0) = (t 3 = 0) := nI_lit (t 3) 0 (by omega) (by decide)
  intro d
  induction d with
  | zero =>
    intro k x4 x5 hk
    have hk' : k = n := by omega
    rw [hk']
    simp only [eM_guide_0, eM_guide_1, eM_guide_2, eM_guide_3, eM_guide_4, eM_guide_5, eM_guide_6, eM_guide_7, eM_guide_8, eM_guide_11, eM_guide_12, eM_guide_13, eM_guide_16, eM_guide_17, eM_guide_20, eM_guide_21, eM_guide_22, eM_guide_25, eM_guide_26, eM_guide_27, eM_guide_28, eM_guide_31, eM_guide_32, eM_guide_33, eM_guide_36, eM_guide_39, eM_guide_40, eM_guide_41, eM_guide_42, eM_guide_45, eM_guide_46, eM_guide_47, eM_guide_50, eM_guide_52, eM_guide_53, eM_guide_54, eM_guide_57, eM_guide_60, eM_guide_62, eM_guide_63, eM_guide_66, eM_guide_67, eM_guide_70, eM_guide_71, eM_guide_73, eM_guide_75, eM_guide_78, eM_guide_79, eM_guide_82, eM_guide_83, eM_guide_84, eM_guide_86, eM_guide_89, eM_guide_91, eM_guide_94, eM_guide_95, eM_guide_96, eM_guide_99, eM_guide_102, eM_guide_103, eq_self, hr_k_some, Option.toList, List.cons_append, List.nil_append, is2k_n, is2k_i, is2k_r, is2k_0, oc_44, ro_m0, ro_m1, ro_m2, ro_m4, ro_m5, ro_m11, ro_m12, ro_m13, ro_m14, ro_m15, ro_m16, ro_m17, ak_45, ak_46, ak_47, ak_48, ak_49, ak_50, ak_51, ak_52, ak_53, ak_54, ak_55, ak_56, al_45, al_46, al_47, al_48, al_49, al_50, al_51, al_52, al_53, al_54, al_55, al_56, l45, l46, l47, l48, l49, l50, l51, l52, l53, l54, a45, a46, a47, a48, a49, a50, a51, a52, a53, a54, in46_0, in46_1, in46_2, in46_3, in46_4, in46_5, cn_0, cn_1, cn_2, cn_3, cn_4, cn_5, i10, i01, zb_t, zb_f, not_true_eq_false, not_false_eq_true, if_true, if_false, true_or, sp_in1, md_1, md_6, md_5, f5, leT (Nat.le_refl n) (show n < 2 ^ 31 by omega)]
  | succ d ih =>
    intro k x4 x5 hk
    have hkn : k < n := by omega
    have eh := m_hears (J := J) h hV hB hkn
    have es := m_snd (J := J) h hV (by omega) hkn hq
    have el := m_lur (J := J) h hV hkn hq
    have hgl := (gdV_lt hV k (by omega)).2
    have hsl := hV.sndl (q := t 1) hkn
    have hll := hV.lurl (q := t 1) hkn
    have key : ∀ wt, wt < 400 → wgtV t k = wt → den nM_guide (50, [some (.ref 44), some (.int (nI (gdV t k).1 - 1)), some (.int (nI (gdV t k).2 - 1)), some (.int (nI k)), x4, x5], [.int (nI wt)], (I, J)) = some (some (.int (nI (gdV t n).1 - 1)), (I, J)) := by
      intro wt hwt hw
      have ih' := fun x5 => ih (k + 1) (some (.int (nI wt))) x5 (by omega)
      rw [gdV_s, hw] at ih'
      have ep : (nI wt ≤ nI (gdV t k).2 - 1) = (wt + 1 ≤ (gdV t k).2) := le_pred (by omega) (by omega)
      simp only [eM_guide_50, eM_guide_52, eM_guide_53, eM_guide_54, eq_self, hr_k_some, Option.toList, List.cons_append, List.nil_append, is2k_n, is2k_i, is2k_r, is2k_0, oc_44, ro_m0, ro_m1, ro_m2, ro_m4, ro_m5, ro_m11, ro_m12, ro_m13, ro_m14, ro_m15, ro_m16, ro_m17, ak_45, ak_46, ak_47, ak_48, ak_49, ak_50, ak_51, ak_52, ak_53, ak_54, ak_55, ak_56, al_45, al_46, al_47, al_48, al_49, al_50, al_51, al_52, al_53, al_54, al_55, al_56, l45, l46, l47, l48, l49, l50, l51, l52, l53, l54, a45, a46, a47, a48, a49, a50, a51, a52, a53, a54, in46_0, in46_1, in46_2, in46_3, in46_4, in46_5, cn_0, cn_1, cn_2, cn_3, cn_4, cn_5, i10, i01, zb_t, zb_f, not_true_eq_false, not_false_eq_true, if_true, if_false, true_or, sp_in1, md_1, md_6, md_5, eh]
      by_cases c : hrsV t k = true
      · by_cases c5 : (gdV t k).2 ≤ wt
        · simp only [c, c5, and_self, if_true] at ih'
          rw [nI_pred, nI_pred] at ih'
          simp only [c, eM_guide_57, eM_guide_60, eM_guide_62, eM_guide_63, eM_guide_66, eM_guide_67, eM_guide_70, eM_guide_71, eM_guide_73, eM_guide_75, eM_guide_78, eM_guide_79, eM_guide_82, eM_guide_83, eM_guide_84, eM_guide_86, eM_guide_89, eM_guide_91, eM_guide_94, eM_guide_95, eM_guide_96, eM_guide_99, eq_self, hr_k_some, Option.toList, List.cons_append, List.nil_append, is2k_n, is2k_i, is2k_r, is2k_0, oc_44, ro_m0, ro_m1, ro_m2, ro_m4, ro_m5, ro_m11, ro_m12, ro_m13, ro_m14, ro_m15, ro_m16, ro_m17, ak_45, ak_46, ak_47, ak_48, ak_49, ak_50, ak_51, ak_52, ak_53, ak_54, ak_55, ak_56, al_45, al_46, al_47, al_48, al_49, al_50, al_51, al_52, al_53, al_54, al_55, al_56, l45, l46, l47, l48, l49, l50, l51, l52, l53, l54, a45, a46, a47, a48, a49, a50, a51, a52, a53, a54, in46_0, in46_1, in46_2, in46_3, in46_4, in46_5, cn_0, cn_1, cn_2, cn_3, cn_4, cn_5, i10, i01, zb_t, zb_f, not_true_eq_false, not_false_eq_true, if_true, if_false, true_or, sp_in1, md_1, md_6, md_5, ep, show (wt + 1 ≤ (gdV t k).2) = False from eq_false (by omega), nI_1]
          exact ih' _
        · simp only [c5, and_false, if_false] at ih'
          simp only [c, eM_guide_57, eM_guide_60, eM_guide_62, eM_guide_63, eM_guide_66, eM_guide_67, eM_guide_70, eM_guide_71, eM_guide_73, eM_guide_75, eM_guide_78, eM_guide_79, eM_guide_82, eM_guide_83, eM_guide_84, eM_guide_86, eM_guide_89, eM_guide_91, eM_guide_94, eM_guide_95, eM_guide_96, eM_guide_99, eq_self, hr_k_some, Option.toList, List.cons_append, List.nil_append, is2k_n, is2k_i, is2k_r, is2k_0, oc_44, ro_m0, ro_m1, ro_m2, ro_m4, ro_m5, ro_m11, ro_m12, ro_m13, ro_m14, ro_m15, ro_m16, ro_m17, ak_45, ak_46, ak_47, ak_48, ak_49, ak_50, ak_51, ak_52, ak_53, ak_54, ak_55, ak_56, al_45, al_46, al_47, al_48, al_49, al_50, al_51, al_52, al_53, al_54, al_55, al_56, l45, l46, l47, l48, l49, l50, l51, l52, l53, l54, a45, a46, a47, a48, a49, a50, a51, a52, a53, a54, in46_0, in46_1, in46_2, in46_3, in46_4, in46_5, cn_0, cn_1, cn_2, cn_3, cn_4, cn_5, i10, i01, zb_t, zb_f, not_true_eq_false, not_false_eq_true, if_true, if_false, true_or, sp_in1, md_1, md_6, md_5, ep, show (wt + 1 ≤ (gdV t k).2) = True from eq_true (by omega), nI_1]
          exact ih' _
      · have c' : hrsV t k = false := Bool.not_eq_true _ ▸ c
        simp only [c', Bool.false_eq_true, false_and, if_false] at ih'
        simp only [c', eM_guide_57, eM_guide_60, eM_guide_62, eM_guide_63, eM_guide_66, eM_guide_67, eM_guide_70, eM_guide_71, eM_guide_73, eM_guide_75, eM_guide_78, eM_guide_79, eM_guide_82, eM_guide_83, eM_guide_84, eM_guide_86, eM_guide_89, eM_guide_91, eM_guide_94, eM_guide_95, eM_guide_96, eM_guide_99, eq_self, hr_k_some, Option.toList, List.cons_append, List.nil_append, is2k_n, is2k_i, is2k_r, is2k_0, oc_44, ro_m0, ro_m1, ro_m2, ro_m4, ro_m5, ro_m11, ro_m12, ro_m13, ro_m14, ro_m15, ro_m16, ro_m17, ak_45, ak_46, ak_47, ak_48, ak_49, ak_50, ak_51, ak_52, ak_53, ak_54, ak_55, ak_56, al_45, al_46, al_47, al_48, al_49, al_50, al_51, al_52, al_53, al_54, al_55, al_56, l45, l46, l47, l48, l49, l50, l51, l52, l53, l54, a45, a46, a47, a48, a49, a50, a51, a52, a53, a54, in46_0, in46_1, in46_2, in46_3, in46_4, in46_5, cn_0, cn_1, cn_2, cn_3, cn_4, cn_5, i10, i01, zb_t, zb_f, not_true_eq_false, not_false_eq_true, if_true, if_false, true_or, sp_in1, md_1, md_6, md_5, nI_1]
        exact ih' _
    rw [eM_guide_6]
    by_cases c3 : t 3 = 0
    · simp only [eM_guide_7, eM_guide_8, eM_guide_11, eM_guide_12, eM_guide_13, eM_guide_16, eM_guide_17, eM_guide_20, eM_guide_21, eM_guide_22, eM_guide_25, eM_guide_26, eM_guide_27, eM_guide_28, eM_guide_31, eM_guide_32, eM_guide_33, eM_guide_36, eM_guide_39, eM_guide_40, eM_guide_41, eM_guide_42, eM_guide_45, eM_guide_46, eM_guide_47, eq_self, hr_k_some, Option.toList, List.cons_append, List.nil_append, is2k_n, is2k_i, is2k_r, is2k_0, oc_44, ro_m0, ro_m1, ro_m2, ro_m4, ro_m5, ro_m11, ro_m12, ro_m13, ro_m14, ro_m15, ro_m16, ro_m17, ak_45, ak_46, ak_47, ak_48, ak_49, ak_50, ak_51, ak_52, ak_53, ak_54, ak_55, ak_56, al_45, al_46, al_47, al_48, al_49, al_50, al_51, al_52, al_53, al_54, al_55, al_56, l45, l46, l47, l48, l49, l50, l51, l52, l53, l54, a45, a46, a47, a48, a49, a50, a51, a52, a53, a54, in46_0, in46_1, in46_2, in46_3, in46_4, in46_5, cn_0, cn_1, cn_2, cn_3, cn_4, cn_5, i10, i01, zb_t, zb_f, not_true_eq_false, not_false_eq_true, if_true, if_false, true_or, sp_in1, md_1, md_6, md_5, f5, leF hkn (show n < 2 ^ 31 by omega), f3, f1, hz, c3, es]
      exact key _ (by omega) (if_pos c3)
    · simp only [eM_guide_7, eM_guide_8, eM_guide_11, eM_guide_12, eM_guide_13, eM_guide_16, eM_guide_17, eM_guide_20, eM_guide_21, eM_guide_22, eM_guide_25, eM_guide_26, eM_guide_27, eM_guide_28, eM_guide_31, eM_guide_32, eM_guide_33, eM_guide_36, eM_guide_39, eM_guide_40, eM_guide_41, eM_guide_42, eM_guide_45, eM_guide_46, eM_guide_47, eq_self, hr_k_some, Option.toList, List.cons_append, List.nil_append, is2k_n, is2k_i, is2k_r, is2k_0, oc_44, ro_m0, ro_m1, ro_m2, ro_m4, ro_m5, ro_m11, ro_m12, ro_m13, ro_m14, ro_m15, ro_m16, ro_m17, ak_45, ak_46, ak_47, ak_48, ak_49, ak_50, ak_51, ak_52, ak_53, ak_54, ak_55, ak_56, al_45, al_46, al_47, al_48, al_49, al_50, al_51, al_52, al_53, al_54, al_55, al_56, l45, l46, l47, l48, l49, l50, l51, l52, l53, l54, a45, a46, a47, a48, a49, a50, a51, a52, a53, a54, in46_0, in46_1, in46_2, in46_3, in46_4, in46_5, cn_0, cn_1, cn_2, cn_3, cn_4, cn_5, i10, i01, zb_t, zb_f, not_true_eq_false, not_false_eq_true, if_true, if_false, true_or, sp_in1, md_1, md_6, md_5, f5, leF hkn (show n < 2 ^ 31 by omega), f3, f1, hz, c3, el]
      exact key _ (by omega) (if_neg c3)
theorem m_guide (h : mh I 45 t n) (hV : V t n B) (hB : B < 2 ^ 29) : den nM_guide (0, [some (.ref 44), none, none, none, none, none], [], (I, J)) = some (some (.int (nI (gdV t n).1 - 1)), (I, J)) := by
  have := mgd_loop (J := J) h hV hB n 0 none none (by omega)
  simp only [eM_guide_0, eM_guide_1, eM_guide_2, eM_guide_3, eM_guide_4, eM_guide_5, eq_self, hr_k_some, Option.toList, List.cons_append, List.nil_append, is2k_n, is2k_i, is2k_r, is2k_0]
  exact this
end
