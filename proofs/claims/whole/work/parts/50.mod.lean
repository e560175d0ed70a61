section
variable {I I' : Nat → Nat → Int32} {J J' : Nat → Nat → Int64} {t t' : Nat → Nat} {n B : Nat}
theorem m_sails (h : mh I 45 t n) (hV : V t n B) (hB : B < 2 ^ 29) (h4 : t 4 = 0) : ∃ I', den nM_sails (0, [some (.ref 44), none, none, none], [], (I, J)) = some (none, (I', J)) ∧ mh I' 45 (g1V t n) n ∧ oR 45 I I' := by
  have hn := hV.2.1
  have hmo := mo_64 hV h4
  obtain ⟨x1, e1⟩ := m_sail1 (J := J) h hV hB
  have h1 : mh (up2 I 45 1 (nI (moV t n))) 45 (upV t 1 (moV t n)) n := h.up
  have ne : ∀ j, j ≠ 1 → upV t 1 (moV t n) j = t j := fun j hj => upV_ne hj
  have e2 := mwr_loop (J := J) (x1 := x1) h1 hn (by rw [ne 5 (by decide)]; exact hV.1) (by rw [ne 0 (by decide)]; have := hV.2.2.1; omega) (by rw [upV_same]; exact hmo) (fun k hk => by rw [ne _ (by omega), ne _ (by omega)]; exact ⟨(hV.rk hk).1, (hV.rk hk).2.1⟩) n 0 (by omega)
  have f1 : up2 I 45 1 (nI (moV t n)) 45 1 = nI (moV t n) := up2_eq
  have e63 : (nI (moV t n) = 63) = (moV t n = 63) := nI_lit _ 63 (by omega) (by decide)
  refine ⟨up2 (up2 I 45 1 (nI (moV t n))) 45 4 (nI (if wrV (upV t 1 (moV t n)) n = true then 1 else if moV t n = 63 then 2 else 0)), ?_, ?_, oR.up.trans oR.up⟩
  · rw [e1, e2]
    by_cases c : wrV (upV t 1 (moV t n)) n = true
    · simp only [c, if_true, eM_sails_108, eM_sails_109, eM_sails_112, eM_sails_113, eM_sails_114, eM_sails_117, eM_sails_118, eM_sails_121, eM_sails_122, eM_sails_125, eM_sails_126, eM_sails_127, eM_sails_129, eM_sails_132, eM_sails_133, eM_sails_136, eM_sails_137, eM_sails_138, eq_self, hr_k_some, Option.toList, List.cons_append, List.nil_append, is2k_n, is2k_i, is2k_r, is2k_0, oc_44, ro_m0, ro_m1, ro_m2, ro_m4, ro_m5, ro_m11, ro_m12, ro_m13, ro_m14, ro_m15, ro_m16, ro_m17, ak_45, ak_46, ak_47, ak_48, ak_49, ak_50, ak_51, ak_52, ak_53, ak_54, ak_55, ak_56, al_45, al_46, al_47, al_48, al_49, al_50, al_51, al_52, al_53, al_54, al_55, al_56, l45, l46, l47, l48, l49, l50, l51, l52, l53, l54, a45, a46, a47, a48, a49, a50, a51, a52, a53, a54, in46_0, in46_1, in46_2, in46_3, in46_4, in46_5, cn_0, cn_1, cn_2, cn_3, cn_4, cn_5, i10, i01, zb_t, zb_f, not_true_eq_false, not_false_eq_true, if_true, if_false, true_or, sp_in1, md_1, md_6, md_5]
      rfl
    · have c' : wrV (upV t 1 (moV t n)) n = false := Bool.not_eq_true _ ▸ c
      by_cases c6 : moV t n = 63
      · simp only [c', Bool.false_eq_true, if_false, if_pos c6, eM_sails_108, eM_sails_109, eM_sails_112, eM_sails_113, eM_sails_114, eM_sails_117, eM_sails_118, eM_sails_121, eM_sails_122, eM_sails_125, eM_sails_126, eM_sails_127, eM_sails_129, eM_sails_132, eM_sails_133, eM_sails_136, eM_sails_137, eM_sails_138, eq_self, hr_k_some, Option.toList, List.cons_append, List.nil_append, is2k_n, is2k_i, is2k_r, is2k_0, oc_44, ro_m0, ro_m1, ro_m2, ro_m4, ro_m5, ro_m11, ro_m12, ro_m13, ro_m14, ro_m15, ro_m16, ro_m17, ak_45, ak_46, ak_47, ak_48, ak_49, ak_50, ak_51, ak_52, ak_53, ak_54, ak_55, ak_56, al_45, al_46, al_47, al_48, al_49, al_50, al_51, al_52, al_53, al_54, al_55, al_56, l45, l46, l47, l48, l49, l50, l51, l52, l53, l54, a45, a46, a47, a48, a49, a50, a51, a52, a53, a54, in46_0, in46_1, in46_2, in46_3, in46_4, in46_5, cn_0, cn_1, cn_2, cn_3, cn_4, cn_5, i10, i01, zb_t, zb_f, not_true_eq_false, not_false_eq_true, if_true, if_false, true_or, sp_in1, md_1, md_6, md_5, f1, e63.trans (eq_true c6)]
        rfl
      · simp only [c', Bool.false_eq_true, if_false, if_neg c6, eM_sails_108, eM_sails_109, eM_sails_112, eM_sails_113, eM_sails_114, eM_sails_117, eM_sails_118, eM_sails_121, eM_sails_122, eM_sails_125, eM_sails_126, eM_sails_127, eM_sails_129, eM_sails_132, eM_sails_133, eM_sails_136, eM_sails_137, eM_sails_138, eq_self, hr_k_some, Option.toList, List.cons_append, List.nil_append, is2k_n, is2k_i, is2k_r, is2k_0, oc_44, ro_m0, ro_m1, ro_m2, ro_m4, ro_m5, ro_m11, ro_m12, ro_m13, ro_m14, ro_m15, ro_m16, ro_m17, ak_45, ak_46, ak_47, ak_48, ak_49, ak_50, ak_51, ak_52, ak_53, ak_54, ak_55, ak_56, al_45, al_46, al_47, al_48, al_49, al_50, al_51, al_52, al_53, al_54, al_55, al_56, l45, l46, l47, l48, l49, l50, l51, l52, l53, l54, a45, a46, a47, a48, a49, a50, a51, a52, a53, a54, in46_0, in46_1, in46_2, in46_3, in46_4, in46_5, cn_0, cn_1, cn_2, cn_3, cn_4, cn_5, i10, i01, zb_t, zb_f, not_true_eq_false, not_false_eq_true, if_true, if_false, true_or, sp_in1, md_1, md_6, md_5, f1, e63.trans (eq_false c6)]
        rfl
  · unfold g1V
    rw [if_pos h4]
    exact h1.up
end
