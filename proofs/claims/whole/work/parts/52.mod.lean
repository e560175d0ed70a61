section
variable {I I' : Nat → Nat → Int32} {J J' : Nat → Nat → Int64} {t t' : Nat → Nat} {n B : Nat}
theorem m_watch2 (h : mh I 45 t n) (hV : V t n B) (hB : B < 2 ^ 29) : ∃ I', den nM_watch (13, [some (.ref 44), none], [], (I, J)) = some (none, (I', J)) ∧ mh I' 45 (upV (g2V t n) 0 (t 0 + 1)) n ∧ oR 45 I I' := by
  obtain ⟨f0, f1, f2, f3, f4, f5⟩ := mfs h hV
  have hn := hV.2.1
  have hw := hV.2.2.1
  unfold g2V
  by_cases c : t 0 % 6 = 5
  · rw [if_pos c]
    obtain ⟨I1, e1, h1, o1⟩ := mdr_loop (J := J) hV hB c n 0 I (by omega) h
    have g0 : I1 45 0 = nI (t 0) := by rw [h1 0 (by omega), drV_other n 0 (fun i _ => by omega)]
    refine ⟨up2 I1 45 0 (nI (t 0 + 1)), ?_, h1.up, o1.trans oR.up⟩
    have e1' : den nM_watch (15, [some (.ref 44), some (.int 0)], [], (I, J)) = den nM_watch (49, [some (.ref 44), some (.int (nI n))], [], (I1, J)) := e1
    simp only [eM_watch_13, eM_watch_14, eq_self, hr_k_some, Option.toList, List.cons_append, List.nil_append, is2k_n, is2k_i, is2k_r, is2k_0, oc_44, ro_m0, ro_m1, ro_m2, ro_m4, ro_m5, ro_m11, ro_m12, ro_m13, ro_m14, ro_m15, ro_m16, ro_m17, ak_45, ak_46, ak_47, ak_48, ak_49, ak_50, ak_51, ak_52, ak_53, ak_54, ak_55, ak_56, al_45, al_46, al_47, al_48, al_49, al_50, al_51, al_52, al_53, al_54, al_55, al_56, l45, l46, l47, l48, l49, l50, l51, l52, l53, l54, a45, a46, a47, a48, a49, a50, a51, a52, a53, a54, in46_0, in46_1, in46_2, in46_3, in46_4, in46_5, cn_0, cn_1, cn_2, cn_3, cn_4, cn_5, i10, i01, zb_t, zb_f, not_true_eq_false, not_false_eq_true, if_true, if_false, true_or, sp_in1, md_1, md_6, md_5]
    rw [e1']
    simp only [eM_watch_49, eM_watch_50, eM_watch_53, eM_watch_54, eM_watch_55, eM_watch_56, eM_watch_57, eM_watch_58, eM_watch_59, eq_self, hr_k_some, Option.toList, List.cons_append, List.nil_append, is2k_n, is2k_i, is2k_r, is2k_0, oc_44, ro_m0, ro_m1, ro_m2, ro_m4, ro_m5, ro_m11, ro_m12, ro_m13, ro_m14, ro_m15, ro_m16, ro_m17, ak_45, ak_46, ak_47, ak_48, ak_49, ak_50, ak_51, ak_52, ak_53, ak_54, ak_55, ak_56, al_45, al_46, al_47, al_48, al_49, al_50, al_51, al_52, al_53, al_54, al_55, al_56, l45, l46, l47, l48, l49, l50, l51, l52, l53, l54, a45, a46, a47, a48, a49, a50, a51, a52, a53, a54, in46_0, in46_1, in46_2, in46_3, in46_4, in46_5, cn_0, cn_1, cn_2, cn_3, cn_4, cn_5, i10, i01, zb_t, zb_f, not_true_eq_false, not_false_eq_true, if_true, if_false, true_or, sp_in1, md_1, md_6, md_5, g0, nI_1]
  · rw [if_neg c]
    refine ⟨up2 I 45 0 (nI (t 0 + 1)), ?_, h.up, oR.up⟩
    have m6 : nI (t 0) - nI (t 0) / 6 * 6 = nI (t 0 % 6) := pk_rem (d := 6) (by omega) (by decide) (by decide)
    have e5 : (nI (t 0 % 6) = 5) = (t 0 % 6 = 5) := nI_lit _ 5 (by omega) (by decide)
    by_cases c0 : n = 0
    · have e0 : (nI n ≤ (0 : Int32)) = True := by rw [c0]; exact eq_true (by decide)
      simp only [eM_watch_13, eM_watch_14, eM_watch_15, eM_watch_16, eM_watch_17, eM_watch_20, eM_watch_21, eM_watch_22, eM_watch_25, eM_watch_26, eM_watch_29, eM_watch_30, eM_watch_31, eM_watch_33, eM_watch_34, eM_watch_35, eM_watch_38, eM_watch_39, eM_watch_40, eM_watch_43, eM_watch_46, eM_watch_49, eM_watch_50, eM_watch_53, eM_watch_54, eM_watch_55, eM_watch_56, eM_watch_57, eM_watch_58, eM_watch_59, eq_self, hr_k_some, Option.toList, List.cons_append, List.nil_append, is2k_n, is2k_i, is2k_r, is2k_0, oc_44, ro_m0, ro_m1, ro_m2, ro_m4, ro_m5, ro_m11, ro_m12, ro_m13, ro_m14, ro_m15, ro_m16, ro_m17, ak_45, ak_46, ak_47, ak_48, ak_49, ak_50, ak_51, ak_52, ak_53, ak_54, ak_55, ak_56, al_45, al_46, al_47, al_48, al_49, al_50, al_51, al_52, al_53, al_54, al_55, al_56, l45, l46, l47, l48, l49, l50, l51, l52, l53, l54, a45, a46, a47, a48, a49, a50, a51, a52, a53, a54, in46_0, in46_1, in46_2, in46_3, in46_4, in46_5, cn_0, cn_1, cn_2, cn_3, cn_4, cn_5, i10, i01, zb_t, zb_f, not_true_eq_false, not_false_eq_true, if_true, if_false, true_or, sp_in1, md_1, md_6, md_5, f5, e0, f0, nI_1]
    · have e0 : (nI n ≤ (0 : Int32)) = False := leF (b := 0) (show 0 < n by omega) (by omega)
      simp only [eM_watch_13, eM_watch_14, eM_watch_15, eM_watch_16, eM_watch_17, eM_watch_20, eM_watch_21, eM_watch_22, eM_watch_25, eM_watch_26, eM_watch_29, eM_watch_30, eM_watch_31, eM_watch_33, eM_watch_34, eM_watch_35, eM_watch_38, eM_watch_39, eM_watch_40, eM_watch_49, eM_watch_50, eM_watch_53, eM_watch_54, eM_watch_55, eM_watch_56, eM_watch_57, eM_watch_58, eM_watch_59, eq_self, hr_k_some, Option.toList, List.cons_append, List.nil_append, is2k_n, is2k_i, is2k_r, is2k_0, oc_44, ro_m0, ro_m1, ro_m2, ro_m4, ro_m5, ro_m11, ro_m12, ro_m13, ro_m14, ro_m15, ro_m16, ro_m17, ak_45, ak_46, ak_47, ak_48, ak_49, ak_50, ak_51, ak_52, ak_53, ak_54, ak_55, ak_56, al_45, al_46, al_47, al_48, al_49, al_50, al_51, al_52, al_53, al_54, al_55, al_56, l45, l46, l47, l48, l49, l50, l51, l52, l53, l54, a45, a46, a47, a48, a49, a50, a51, a52, a53, a54, in46_0, in46_1, in46_2, in46_3, in46_4, in46_5, cn_0, cn_1, cn_2, cn_3, cn_4, cn_5, i10, i01, zb_t, zb_f, not_true_eq_false, not_false_eq_true, if_true, if_false, true_or, sp_in1, md_1, md_6, md_5, f5, e0, f0, n6, m6, e5.trans (eq_false c), nI_1]
theorem m_watch (h : mh I 45 t n) (hV : V t n B) (hB : B < 2 ^ 29) : ∃ I', den nM_watch (0, [some (.ref 44), none], [], (I, J)) = some (none, (I', J)) ∧ mh I' 45 (goV t n) n ∧ oR 45 I I' := by
  obtain ⟨f0, f1, f2, f3, f4, f5⟩ := mfs h hV
  have v4 := hV.2.2.2.2.2.2.1
  have e4 : (nI (t 4) = 0) = (t 4 = 0) := nI_lit _ 0 (by omega) (by decide)
  by_cases c : t 4 = 0
  · obtain ⟨I1, e1, h1, o1⟩ := m_sails (J := J) h hV hB c
    obtain ⟨I2, e2, h2, o2⟩ := m_watch2 (J := J) h1 (g1V_V hV) hB
    refine ⟨I2, ?_, ?_, o1.trans o2⟩
    · simp only [eM_watch_0, eM_watch_1, eM_watch_4, eM_watch_5, eM_watch_6, eM_watch_9, eM_watch_10, eq_self, hr_k_some, Option.toList, List.cons_append, List.nil_append, is2k_n, is2k_i, is2k_r, is2k_0, oc_44, ro_m0, ro_m1, ro_m2, ro_m4, ro_m5, ro_m11, ro_m12, ro_m13, ro_m14, ro_m15, ro_m16, ro_m17, ak_45, ak_46, ak_47, ak_48, ak_49, ak_50, ak_51, ak_52, ak_53, ak_54, ak_55, ak_56, al_45, al_46, al_47, al_48, al_49, al_50, al_51, al_52, al_53, al_54, al_55, al_56, l45, l46, l47, l48, l49, l50, l51, l52, l53, l54, a45, a46, a47, a48, a49, a50, a51, a52, a53, a54, in46_0, in46_1, in46_2, in46_3, in46_4, in46_5, cn_0, cn_1, cn_2, cn_3, cn_4, cn_5, i10, i01, zb_t, zb_f, not_true_eq_false, not_false_eq_true, if_true, if_false, true_or, sp_in1, md_1, md_6, md_5, f4, e4.trans (eq_true c), e1]
      exact e2
    · have : g1V t n 0 = t 0 := by
        unfold g1V
        rw [if_pos c, upV_ne (by decide), upV_ne (by decide)]
      rw [this] at h2
      exact h2
  · obtain ⟨I2, e2, h2, o2⟩ := m_watch2 (J := J) h hV hB
    have eg : g1V t n = t := if_neg c
    refine ⟨I2, ?_, ?_, o2⟩
    · simp only [eM_watch_0, eM_watch_1, eM_watch_4, eM_watch_5, eM_watch_6, eM_watch_9, eM_watch_10, eq_self, hr_k_some, Option.toList, List.cons_append, List.nil_append, is2k_n, is2k_i, is2k_r, is2k_0, oc_44, ro_m0, ro_m1, ro_m2, ro_m4, ro_m5, ro_m11, ro_m12, ro_m13, ro_m14, ro_m15, ro_m16, ro_m17, ak_45, ak_46, ak_47, ak_48, ak_49, ak_50, ak_51, ak_52, ak_53, ak_54, ak_55, ak_56, al_45, al_46, al_47, al_48, al_49, al_50, al_51, al_52, al_53, al_54, al_55, al_56, l45, l46, l47, l48, l49, l50, l51, l52, l53, l54, a45, a46, a47, a48, a49, a50, a51, a52, a53, a54, in46_0, in46_1, in46_2, in46_3, in46_4, in46_5, cn_0, cn_1, cn_2, cn_3, cn_4, cn_5, i10, i01, zb_t, zb_f, not_true_eq_false, not_false_eq_true, if_true, if_false, true_or, sp_in1, md_1, md_6, md_5, f4, e4.trans (eq_false c)]
      exact e2
    · unfold goV
      rw [eg]
      exact h2
end
