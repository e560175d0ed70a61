section
variable {I I' : Nat → Nat → Int32} {J J' : Nat → Nat → Int64} {t t' : Nat → Nat} {n n' kp B : Nat} {u : Nat → Nat} {m : Nat} {y : Nat → Int32} {bt : Nat → Nat} {L : Nat} {w z : Nat → Nat} {num : Nat → Nat → Int64}
/-! set -/
def mmR (x : Int32) : Int32 := if x = 1 then 63 else if x = 2 then 99 else if x = 3 then 9 else 1
theorem set_most {a1 a2 a3 : Int32} : den nM_set (0, [some (.ref 44), some (.int a1), some (.int a2), some (.int a3), none, none], [], (I, J)) = den nM_set (33, [some (.ref 44), some (.int a1), some (.int a2), some (.int a3), some (.int (mmR a2)), none], [], (I, J)) := by
  unfold mmR
  by_cases c1 : a2 = 1
  · simp only [eM_set_0, eM_set_1, eM_set_2, eM_set_5, eM_set_7, eM_set_10, eM_set_11, eM_set_12, eM_set_15, eM_set_17, eM_set_20, eM_set_21, eM_set_22, eM_set_25, eM_set_27, eM_set_30, eM_set_31, eq_self, hr_k_some, Option.toList, List.cons_append, List.nil_append, is2k_n, is2k_i, is2k_r, is2k_0, oc_44, ro_m0, ro_m1, ro_m2, ro_m4, ro_m5, ro_m11, ro_m12, ro_m13, ro_m14, ro_m15, ro_m16, ro_m17, ak_45, ak_46, ak_47, ak_48, ak_49, ak_50, ak_51, ak_52, ak_53, ak_54, ak_55, ak_56, al_45, al_46, al_47, al_48, al_49, al_50, al_51, al_52, al_53, al_54, al_55, al_56, l45, l46, l47, l48, l49, l50, l51, l52, l53, l54, a45, a46, a47, a48, a49, a50, a51, a52, a53, a54, in46_0, in46_1, in46_2, in46_3, in46_4, in46_5, cn_0, cn_1, cn_2, cn_3, cn_4, cn_5, i10, i01, zb_t, zb_f, not_true_eq_false, not_false_eq_true, if_true, if_false, true_or, sp_in1, md_1, md_6, md_5, c1]
  · by_cases c2 : a2 = 2
    · subst c2
      simp (decide := true) only [eM_set_0, eM_set_1, eM_set_2, eM_set_5, eM_set_7, eM_set_10, eM_set_11, eM_set_12, eM_set_15, eM_set_17, eM_set_20, eM_set_21, eM_set_22, eM_set_25, eM_set_27, eM_set_30, eM_set_31, eq_self, hr_k_some, Option.toList, List.cons_append, List.nil_append, is2k_n, is2k_i, is2k_r, is2k_0, oc_44, ro_m0, ro_m1, ro_m2, ro_m4, ro_m5, ro_m11, ro_m12, ro_m13, ro_m14, ro_m15, ro_m16, ro_m17, ak_45, ak_46, ak_47, ak_48, ak_49, ak_50, ak_51, ak_52, ak_53, ak_54, ak_55, ak_56, al_45, al_46, al_47, al_48, al_49, al_50, al_51, al_52, al_53, al_54, al_55, al_56, l45, l46, l47, l48, l49, l50, l51, l52, l53, l54, a45, a46, a47, a48, a49, a50, a51, a52, a53, a54, in46_0, in46_1, in46_2, in46_3, in46_4, in46_5, cn_0, cn_1, cn_2, cn_3, cn_4, cn_5, i10, i01, zb_t, zb_f, not_true_eq_false, not_false_eq_true, if_true, if_false, true_or, sp_in1, md_1, md_6, md_5]
    · by_cases c3 : a2 = 3
      · subst c3
        simp (decide := true) only [eM_set_0, eM_set_1, eM_set_2, eM_set_5, eM_set_7, eM_set_10, eM_set_11, eM_set_12, eM_set_15, eM_set_17, eM_set_20, eM_set_21, eM_set_22, eM_set_25, eM_set_27, eM_set_30, eM_set_31, eq_self, hr_k_some, Option.toList, List.cons_append, List.nil_append, is2k_n, is2k_i, is2k_r, is2k_0, oc_44, ro_m0, ro_m1, ro_m2, ro_m4, ro_m5, ro_m11, ro_m12, ro_m13, ro_m14, ro_m15, ro_m16, ro_m17, ak_45, ak_46, ak_47, ak_48, ak_49, ak_50, ak_51, ak_52, ak_53, ak_54, ak_55, ak_56, al_45, al_46, al_47, al_48, al_49, al_50, al_51, al_52, al_53, al_54, al_55, al_56, l45, l46, l47, l48, l49, l50, l51, l52, l53, l54, a45, a46, a47, a48, a49, a50, a51, a52, a53, a54, in46_0, in46_1, in46_2, in46_3, in46_4, in46_5, cn_0, cn_1, cn_2, cn_3, cn_4, cn_5, i10, i01, zb_t, zb_f, not_true_eq_false, not_false_eq_true, if_true, if_false, true_or, sp_in1, md_1, md_6, md_5]
      · simp only [eM_set_0, eM_set_1, eM_set_2, eM_set_5, eM_set_7, eM_set_10, eM_set_11, eM_set_12, eM_set_15, eM_set_17, eM_set_20, eM_set_21, eM_set_22, eM_set_25, eM_set_27, eM_set_30, eM_set_31, eq_self, hr_k_some, Option.toList, List.cons_append, List.nil_append, is2k_n, is2k_i, is2k_r, is2k_0, oc_44, ro_m0, ro_m1, ro_m2, ro_m4, ro_m5, ro_m11, ro_m12, ro_m13, ro_m14, ro_m15, ro_m16, ro_m17, ak_45, ak_46, ak_47, ak_48, ak_49, ak_50, ak_51, ak_52, ak_53, ak_54, ak_55, ak_56, al_45, al_46, al_47, al_48, al_49, al_50, al_51, al_52, al_53, al_54, al_55, al_56, l45, l46, l47, l48, l49, l50, l51, l52, l53, l54, a45, a46, a47, a48, a49, a50, a51, a52, a53, a54, in46_0, in46_1, in46_2, in46_3, in46_4, in46_5, cn_0, cn_1, cn_2, cn_3, cn_4, cn_5, i10, i01, zb_t, zb_f, not_true_eq_false, not_false_eq_true, if_true, if_false, true_or, sp_in1, md_1, md_6, md_5, c1, c2, c3]
theorem mmR_N : ∀ q, q < 5 → 1 ≤ q → mmR (nI q) = nI (mostR q) := by decide +kernel
theorem M_set_ok (h : Md I J t n kp u m y bt L w z num) {k q v : Nat} (hk : k < n) (hq : 1 ≤ q ∧ q < 5) (hv : v ≤ mostR q) : MR nM_set [some (.ref 44), some (.int (nI k)), some (.int (nI q)), some (.int (nI v)), none, none] I J (.int (nI (t (6 + 5 * k + q)))) (fun I' J' => Md I' J' (chV t k q v) n kp u m y bt L w z num) := by
  have hn := h.2.1.2.1
  have er := m_isRock (J := J) h.h5 hn (x := nI k) |>.1 ⟨k, hk, rfl⟩
  have e4 : decide ((1 : Int32) ≤ nI q ∧ nI q ≤ 4) = true := wi_yes (a := 1) (b := 4) hq.1 (by omega) (by decide)
  have hm : mostR q < 2 ^ 31 := by unfold mostR; split <;> (try split) <;> (try split) <;> decide
  have ev : decide ((0 : Int32) ≤ nI v ∧ nI v ≤ nI (mostR q)) = true := iy hv hm
  have eg := sp_get (J := J) h.1 hn hk hq.2
  have ep := sp_puts (I := I) (J := J) (k := k) (j := q) (x := nI v) (by omega) hq.2
  refine MR.mv h oR.up (h.1.up (j := 6 + 5 * k + q) (x := v)) (set_V h.2.1 hk hq hv) ?_
  rw [set_most, mmR_N q hq.2 hq.1]
  simp only [eM_set_33, eM_set_34, eM_set_35, eM_set_38, eM_set_41, eM_set_42, eM_set_43, eM_set_44, eM_set_47, eM_set_50, eM_set_51, eM_set_52, eM_set_54, eM_set_57, eM_set_60, eM_set_61, eM_set_62, eM_set_65, eM_set_66, eM_set_67, eM_set_68, eM_set_69, eM_set_72, eM_set_74, eM_set_75, eM_set_76, eM_set_77, eM_set_78, eM_set_81, eM_set_83, eq_self, hr_k_some, Option.toList, List.cons_append, List.nil_append, is2k_n, is2k_i, is2k_r, is2k_0, oc_44, ro_m0, ro_m1, ro_m2, ro_m4, ro_m5, ro_m11, ro_m12, ro_m13, ro_m14, ro_m15, ro_m16, ro_m17, ak_45, ak_46, ak_47, ak_48, ak_49, ak_50, ak_51, ak_52, ak_53, ak_54, ak_55, ak_56, al_45, al_46, al_47, al_48, al_49, al_50, al_51, al_52, al_53, al_54, al_55, al_56, l45, l46, l47, l48, l49, l50, l51, l52, l53, l54, a45, a46, a47, a48, a49, a50, a51, a52, a53, a54, in46_0, in46_1, in46_2, in46_3, in46_4, in46_5, cn_0, cn_1, cn_2, cn_3, cn_4, cn_5, i10, i01, zb_t, zb_f, not_true_eq_false, not_false_eq_true, if_true, if_false, true_or, sp_in1, md_1, md_6, md_5, er, e4, ev, eg, ep]
theorem M_set_no (h : Md I J t n kp u m y bt L w z num) {a1 a2 a3 : Int32} (hb : ¬ ∃ k q v, k < n ∧ (1 ≤ q ∧ q < 5) ∧ v ≤ mostR q ∧ a1 = nI k ∧ a2 = nI q ∧ a3 = nI v) : MR nM_set [some (.ref 44), some (.int a1), some (.int a2), some (.int a3), none, none] I J (.int (fnd 0)) (fun I' J' => Md I' J' t n kp u m (inc y 0) bt L w z num) := by
  refine MR.fnd (by decide) h ?_
  have hn := h.2.1.2.1
  rw [set_most]
  by_cases c : rng a1 n
  · have er := m_isRock (J := J) h.h5 hn (x := a1) |>.1 c
    obtain ⟨k, hk, rfl⟩ := c
    by_cases c2 : ∃ q, 1 ≤ q ∧ q ≤ 4 ∧ a2 = nI q
    · obtain ⟨q, hq1, hq2, rfl⟩ := c2
      have e4 : decide ((1 : Int32) ≤ nI q ∧ nI q ≤ 4) = true := wi_yes (a := 1) (b := 4) hq1 (by omega) (by decide)
      have hm : mostR q + 1 < 2 ^ 31 := by unfold mostR; split <;> (try split) <;> (try split) <;> decide
      have ev := ino (x := a3) hm (fun ⟨v, h1, h2⟩ => hb ⟨k, q, v, hk, ⟨hq1, by omega⟩, by omega, rfl, rfl, h2⟩)
      rw [mmR_N q (by omega) hq1]
      simp only [eM_set_33, eM_set_34, eM_set_35, eM_set_38, eM_set_41, eM_set_42, eM_set_43, eM_set_44, eM_set_47, eM_set_50, eM_set_51, eM_set_52, eM_set_54, eM_set_57, eM_set_60, eM_set_61, eM_set_62, eM_set_65, eM_set_66, eM_set_67, eM_set_68, eM_set_69, eM_set_72, eM_set_74, eM_set_75, eM_set_76, eM_set_77, eM_set_78, eM_set_81, eM_set_83, eq_self, hr_k_some, Option.toList, List.cons_append, List.nil_append, is2k_n, is2k_i, is2k_r, is2k_0, oc_44, ro_m0, ro_m1, ro_m2, ro_m4, ro_m5, ro_m11, ro_m12, ro_m13, ro_m14, ro_m15, ro_m16, ro_m17, ak_45, ak_46, ak_47, ak_48, ak_49, ak_50, ak_51, ak_52, ak_53, ak_54, ak_55, ak_56, al_45, al_46, al_47, al_48, al_49, al_50, al_51, al_52, al_53, al_54, al_55, al_56, l45, l46, l47, l48, l49, l50, l51, l52, l53, l54, a45, a46, a47, a48, a49, a50, a51, a52, a53, a54, in46_0, in46_1, in46_2, in46_3, in46_4, in46_5, cn_0, cn_1, cn_2, cn_3, cn_4, cn_5, i10, i01, zb_t, zb_f, not_true_eq_false, not_false_eq_true, if_true, if_false, true_or, sp_in1, md_1, md_6, md_5, er, e4, ev, sp_no0]
    · have e4 : decide ((1 : Int32) ≤ a2 ∧ a2 ≤ 4) = false := wi_no1 (a := 1) (b := 4) (by decide) (by decide) c2
      simp only [eM_set_33, eM_set_34, eM_set_35, eM_set_38, eM_set_41, eM_set_42, eM_set_43, eM_set_44, eM_set_47, eM_set_50, eM_set_51, eM_set_52, eM_set_54, eM_set_57, eM_set_60, eM_set_61, eM_set_62, eM_set_65, eM_set_66, eM_set_67, eM_set_68, eM_set_69, eM_set_72, eM_set_74, eM_set_75, eM_set_76, eM_set_77, eM_set_78, eM_set_81, eM_set_83, eq_self, hr_k_some, Option.toList, List.cons_append, List.nil_append, is2k_n, is2k_i, is2k_r, is2k_0, oc_44, ro_m0, ro_m1, ro_m2, ro_m4, ro_m5, ro_m11, ro_m12, ro_m13, ro_m14, ro_m15, ro_m16, ro_m17, ak_45, ak_46, ak_47, ak_48, ak_49, ak_50, ak_51, ak_52, ak_53, ak_54, ak_55, ak_56, al_45, al_46, al_47, al_48, al_49, al_50, al_51, al_52, al_53, al_54, al_55, al_56, l45, l46, l47, l48, l49, l50, l51, l52, l53, l54, a45, a46, a47, a48, a49, a50, a51, a52, a53, a54, in46_0, in46_1, in46_2, in46_3, in46_4, in46_5, cn_0, cn_1, cn_2, cn_3, cn_4, cn_5, i10, i01, zb_t, zb_f, not_true_eq_false, not_false_eq_true, if_true, if_false, true_or, sp_in1, md_1, md_6, md_5, er, e4, sp_no0]
  · have er := m_isRock (J := J) h.h5 hn (x := a1) |>.2 c
    simp only [eM_set_33, eM_set_34, eM_set_35, eM_set_38, eM_set_41, eM_set_42, eM_set_43, eM_set_44, eM_set_47, eM_set_50, eM_set_51, eM_set_52, eM_set_54, eM_set_57, eM_set_60, eM_set_61, eM_set_62, eM_set_65, eM_set_66, eM_set_67, eM_set_68, eM_set_69, eM_set_72, eM_set_74, eM_set_75, eM_set_76, eM_set_77, eM_set_78, eM_set_81, eM_set_83, eq_self, hr_k_some, Option.toList, List.cons_append, List.nil_append, is2k_n, is2k_i, is2k_r, is2k_0, oc_44, ro_m0, ro_m1, ro_m2, ro_m4, ro_m5, ro_m11, ro_m12, ro_m13, ro_m14, ro_m15, ro_m16, ro_m17, ak_45, ak_46, ak_47, ak_48, ak_49, ak_50, ak_51, ak_52, ak_53, ak_54, ak_55, ak_56, al_45, al_46, al_47, al_48, al_49, al_50, al_51, al_52, al_53, al_54, al_55, al_56, l45, l46, l47, l48, l49, l50, l51, l52, l53, l54, a45, a46, a47, a48, a49, a50, a51, a52, a53, a54, in46_0, in46_1, in46_2, in46_3, in46_4, in46_5, cn_0, cn_1, cn_2, cn_3, cn_4, cn_5, i10, i01, zb_t, zb_f, not_true_eq_false, not_false_eq_true, if_true, if_false, true_or, sp_in1, md_1, md_6, md_5, er, sp_no0]
/-! turn -/
theorem M_turn_ok (h : Md I J t n kp u m y bt L w z num) {k kd : Nat} (hk : k < n) (hkd : kd < 6) : MR nM_turn [some (.ref 44), some (.int (nI k)), some (.int (nI kd)), none] I J (.int (nI (t (6 + 5 * k)))) (fun I' J' => Md I' J' (upV t (6 + 5 * k) kd) n kp u m y bt L w z num) := by
  have hn := h.2.1.2.1
  have er := m_isRock (J := J) h.h5 hn (x := nI k) |>.1 ⟨k, hk, rfl⟩
  have e5 : decide ((0 : Int32) ≤ nI kd ∧ nI kd ≤ 5) = true := iy (b := 5) (by omega) (by decide)
  have eg := gt0 (J := J) h.1 hn hk
  refine MR.mv h oR.up (h.1.up (j := 6 + 5 * k) (x := kd)) (turn_V h.2.1 hk hkd) ?_
  simp only [eM_turn_0, eM_turn_1, eM_turn_2, eM_turn_5, eM_turn_8, eM_turn_9, eM_turn_10, eM_turn_11, eM_turn_14, eM_turn_17, eM_turn_18, eM_turn_19, eM_turn_22, eM_turn_23, eM_turn_24, eM_turn_25, eM_turn_26, eM_turn_29, eM_turn_30, eM_turn_31, eM_turn_32, eM_turn_33, eM_turn_34, eM_turn_37, eM_turn_38, eq_self, hr_k_some, Option.toList, List.cons_append, List.nil_append, is2k_n, is2k_i, is2k_r, is2k_0, oc_44, ro_m0, ro_m1, ro_m2, ro_m4, ro_m5, ro_m11, ro_m12, ro_m13, ro_m14, ro_m15, ro_m16, ro_m17, ak_45, ak_46, ak_47, ak_48, ak_49, ak_50, ak_51, ak_52, ak_53, ak_54, ak_55, ak_56, al_45, al_46, al_47, al_48, al_49, al_50, al_51, al_52, al_53, al_54, al_55, al_56, l45, l46, l47, l48, l49, l50, l51, l52, l53, l54, a45, a46, a47, a48, a49, a50, a51, a52, a53, a54, in46_0, in46_1, in46_2, in46_3, in46_4, in46_5, cn_0, cn_1, cn_2, cn_3, cn_4, cn_5, i10, i01, zb_t, zb_f, not_true_eq_false, not_false_eq_true, if_true, if_false, true_or, sp_in1, md_1, md_6, md_5, er, e5, eg, pt0 (show k < 8 by omega)]
theorem M_turn_no (h : Md I J t n kp u m y bt L w z num) {a1 a2 : Int32} (hb : ¬ (rng a1 n ∧ rng a2 6)) : MR nM_turn [some (.ref 44), some (.int a1), some (.int a2), none] I J (.int (fnd 0)) (fun I' J' => Md I' J' t n kp u m (inc y 0) bt L w z num) := by
  refine MR.fnd (by decide) h ?_
  have hn := h.2.1.2.1
  by_cases c : rng a1 n
  · have er := m_isRock (J := J) h.h5 hn (x := a1) |>.1 c
    have e5 : decide ((0 : Int32) ≤ a2 ∧ a2 ≤ 5) = false := ino (b := 5) (by decide) (fun q => hb ⟨c, q⟩)
    simp only [eM_turn_0, eM_turn_1, eM_turn_2, eM_turn_5, eM_turn_8, eM_turn_9, eM_turn_10, eM_turn_11, eM_turn_14, eM_turn_17, eM_turn_18, eM_turn_19, eM_turn_22, eM_turn_23, eM_turn_24, eM_turn_25, eM_turn_26, eM_turn_29, eM_turn_30, eM_turn_31, eM_turn_32, eM_turn_33, eM_turn_34, eM_turn_37, eM_turn_38, eq_self, hr_k_some, Option.toList, List.cons_append, List.nil_append, is2k_n, is2k_i, is2k_r, is2k_0, oc_44, ro_m0, ro_m1, ro_m2, ro_m4, ro_m5, ro_m11, ro_m12, ro_m13, ro_m14, ro_m15, ro_m16, ro_m17, ak_45, ak_46, ak_47, ak_48, ak_49, ak_50, ak_51, ak_52, ak_53, ak_54, ak_55, ak_56, al_45, al_46, al_47, al_48, al_49, al_50, al_51, al_52, al_53, al_54, al_55, al_56, l45, l46, l47, l48, l49, l50, l51, l52, l53, l54, a45, a46, a47, a48, a49, a50, a51, a52, a53, a54, in46_0, in46_1, in46_2, in46_3, in46_4, in46_5, cn_0, cn_1, cn_2, cn_3, cn_4, cn_5, i10, i01, zb_t, zb_f, not_true_eq_false, not_false_eq_true, if_true, if_false, true_or, sp_in1, md_1, md_6, md_5, er, e5, sp_no0]
  · have er := m_isRock (J := J) h.h5 hn (x := a1) |>.2 c
    simp only [eM_turn_0, eM_turn_1, eM_turn_2, eM_turn_5, eM_turn_8, eM_turn_9, eM_turn_10, eM_turn_11, eM_turn_14, eM_turn_17, eM_turn_18, eM_turn_19, eM_turn_22, eM_turn_23, eM_turn_24, eM_turn_25, eM_turn_26, eM_turn_29, eM_turn_30, eM_turn_31, eM_turn_32, eM_turn_33, eM_turn_34, eM_turn_37, eM_turn_38, eq_self, hr_k_some, Option.toList, List.cons_append, List.nil_append, is2k_n, is2k_i, is2k_r, is2k_0, oc_44, ro_m0, ro_m1, ro_m2, ro_m4, ro_m5, ro_m11, ro_m12, ro_m13, ro_m14, ro_m15, ro_m16, ro_m17, ak_45, ak_46, ak_47, ak_48, ak_49, ak_50, ak_51, ak_52, ak_53, ak_54, ak_55, ak_56, al_45, al_46, al_47, al_48, al_49, al_50, al_51, al_52, al_53, al_54, al_55, al_56, l45, l46, l47, l48, l49, l50, l51, l52, l53, l54, a45, a46, a47, a48, a49, a50, a51, a52, a53, a54, in46_0, in46_1, in46_2, in46_3, in46_4, in46_5, cn_0, cn_1, cn_2, cn_3, cn_4, cn_5, i10, i01, zb_t, zb_f, not_true_eq_false, not_false_eq_true, if_true, if_false, true_or, sp_in1, md_1, md_6, md_5, er, sp_no0]
/-! as -/
def asD (x : Nat) : Nat := if x = 4 then 1 else if x = 5 then 2 else 0
def asE (kd as : Nat) : Nat := if kd = as ∨ kd = 0 then kd else if asD kd = as ∨ asD kd = 0 then asD kd else 0
theorem as_walk {a1 : Int32} {k kd as : Nat} (hk : kd < 6) (ha : as < 6) : ∃ e, den nM_as (30, [some (.ref 44), some (.int a1), some (.int (nI as)), some (.int (nI kd))], [], (I, J)) = den nM_as (62, [some (.ref 44), some (.int a1), some (.int (nI as)), some (.int (nI e))], [], (I, J)) ∧ (e = as ↔ N_is kd as = true) ∧ e < 6 := by
  have step : ∀ x, x < 6 → x ≠ as → x ≠ 0 → den nM_as (30, [some (.ref 44), some (.int a1), some (.int (nI as)), some (.int (nI x))], [], (I, J)) = den nM_as (30, [some (.ref 44), some (.int a1), some (.int (nI as)), some (.int (nI (if x = 4 then 1 else if x = 5 then 2 else 0)))], [], (I, J)) := by
    intro x hx h1 h2
    rw [eM_as_30]
    have e1 : (nI x = nI as) = False := nq h1 (by omega) (by omega)
    have e2 : (nI x = 0) = False := nq (c := 0) h2 (by omega) (by omega)
    have e4 : (nI x = 4) = (x = 4) := nI_lit x 4 (by omega) (by decide)
    have e5 : (nI x = 5) = (x = 5) := nI_lit x 5 (by omega) (by decide)
    by_cases c4 : x = 4
    · rw [if_pos c4]
      simp only [eM_as_31, eM_as_32, eM_as_35, eM_as_36, eM_as_39, eM_as_40, eM_as_41, eM_as_44, eM_as_45, eM_as_48, eM_as_49, eM_as_50, eM_as_53, eM_as_54, eM_as_57, eM_as_58, eM_as_59, eq_self, hr_k_some, Option.toList, List.cons_append, List.nil_append, is2k_n, is2k_i, is2k_r, is2k_0, oc_44, ro_m0, ro_m1, ro_m2, ro_m4, ro_m5, ro_m11, ro_m12, ro_m13, ro_m14, ro_m15, ro_m16, ro_m17, ak_45, ak_46, ak_47, ak_48, ak_49, ak_50, ak_51, ak_52, ak_53, ak_54, ak_55, ak_56, al_45, al_46, al_47, al_48, al_49, al_50, al_51, al_52, al_53, al_54, al_55, al_56, l45, l46, l47, l48, l49, l50, l51, l52, l53, l54, a45, a46, a47, a48, a49, a50, a51, a52, a53, a54, in46_0, in46_1, in46_2, in46_3, in46_4, in46_5, cn_0, cn_1, cn_2, cn_3, cn_4, cn_5, i10, i01, zb_t, zb_f, not_true_eq_false, not_false_eq_true, if_true, if_false, true_or, sp_in1, md_1, md_6, md_5, e1, e2, e4.trans (eq_true c4)]
      rfl
    · rw [if_neg c4]
      by_cases c5 : x = 5
      · rw [if_pos c5]
        simp only [eM_as_31, eM_as_32, eM_as_35, eM_as_36, eM_as_39, eM_as_40, eM_as_41, eM_as_44, eM_as_45, eM_as_48, eM_as_49, eM_as_50, eM_as_53, eM_as_54, eM_as_57, eM_as_58, eM_as_59, eq_self, hr_k_some, Option.toList, List.cons_append, List.nil_append, is2k_n, is2k_i, is2k_r, is2k_0, oc_44, ro_m0, ro_m1, ro_m2, ro_m4, ro_m5, ro_m11, ro_m12, ro_m13, ro_m14, ro_m15, ro_m16, ro_m17, ak_45, ak_46, ak_47, ak_48, ak_49, ak_50, ak_51, ak_52, ak_53, ak_54, ak_55, ak_56, al_45, al_46, al_47, al_48, al_49, al_50, al_51, al_52, al_53, al_54, al_55, al_56, l45, l46, l47, l48, l49, l50, l51, l52, l53, l54, a45, a46, a47, a48, a49, a50, a51, a52, a53, a54, in46_0, in46_1, in46_2, in46_3, in46_4, in46_5, cn_0, cn_1, cn_2, cn_3, cn_4, cn_5, i10, i01, zb_t, zb_f, not_true_eq_false, not_false_eq_true, if_true, if_false, true_or, sp_in1, md_1, md_6, md_5, e1, e2, e4.trans (eq_false c4), e5.trans (eq_true c5)]
        rfl
      · rw [if_neg c5]
        simp only [eM_as_31, eM_as_32, eM_as_35, eM_as_36, eM_as_39, eM_as_40, eM_as_41, eM_as_44, eM_as_45, eM_as_48, eM_as_49, eM_as_50, eM_as_53, eM_as_54, eM_as_57, eM_as_58, eM_as_59, eq_self, hr_k_some, Option.toList, List.cons_append, List.nil_append, is2k_n, is2k_i, is2k_r, is2k_0, oc_44, ro_m0, ro_m1, ro_m2, ro_m4, ro_m5, ro_m11, ro_m12, ro_m13, ro_m14, ro_m15, ro_m16, ro_m17, ak_45, ak_46, ak_47, ak_48, ak_49, ak_50, ak_51, ak_52, ak_53, ak_54, ak_55, ak_56, al_45, al_46, al_47, al_48, al_49, al_50, al_51, al_52, al_53, al_54, al_55, al_56, l45, l46, l47, l48, l49, l50, l51, l52, l53, l54, a45, a46, a47, a48, a49, a50, a51, a52, a53, a54, in46_0, in46_1, in46_2, in46_3, in46_4, in46_5, cn_0, cn_1, cn_2, cn_3, cn_4, cn_5, i10, i01, zb_t, zb_f, not_true_eq_false, not_false_eq_true, if_true, if_false, true_or, sp_in1, md_1, md_6, md_5, e1, e2, e4.trans (eq_false c4), e5.trans (eq_false c5)]
        rfl
  have stop : ∀ x, x < 6 → (x = as ∨ x = 0) → den nM_as (30, [some (.ref 44), some (.int a1), some (.int (nI as)), some (.int (nI x))], [], (I, J)) = den nM_as (62, [some (.ref 44), some (.int a1), some (.int (nI as)), some (.int (nI x))], [], (I, J)) := by
    intro x hx h1
    rw [eM_as_30]
    by_cases c : x = as
    · simp only [eM_as_31, eM_as_32, eM_as_35, eM_as_36, eM_as_39, eM_as_40, eM_as_41, eM_as_44, eM_as_45, eM_as_48, eM_as_49, eM_as_50, eM_as_53, eM_as_54, eM_as_57, eM_as_58, eM_as_59, eq_self, hr_k_some, Option.toList, List.cons_append, List.nil_append, is2k_n, is2k_i, is2k_r, is2k_0, oc_44, ro_m0, ro_m1, ro_m2, ro_m4, ro_m5, ro_m11, ro_m12, ro_m13, ro_m14, ro_m15, ro_m16, ro_m17, ak_45, ak_46, ak_47, ak_48, ak_49, ak_50, ak_51, ak_52, ak_53, ak_54, ak_55, ak_56, al_45, al_46, al_47, al_48, al_49, al_50, al_51, al_52, al_53, al_54, al_55, al_56, l45, l46, l47, l48, l49, l50, l51, l52, l53, l54, a45, a46, a47, a48, a49, a50, a51, a52, a53, a54, in46_0, in46_1, in46_2, in46_3, in46_4, in46_5, cn_0, cn_1, cn_2, cn_3, cn_4, cn_5, i10, i01, zb_t, zb_f, not_true_eq_false, not_false_eq_true, if_true, if_false, true_or, sp_in1, md_1, md_6, md_5, c]
    · have e1 : (nI x = nI as) = False := nq c (by omega) (by omega)
      have e2 : (nI x = 0) = True := eq_true (by rw [show x = 0 by omega]; rfl)
      simp only [eM_as_31, eM_as_32, eM_as_35, eM_as_36, eM_as_39, eM_as_40, eM_as_41, eM_as_44, eM_as_45, eM_as_48, eM_as_49, eM_as_50, eM_as_53, eM_as_54, eM_as_57, eM_as_58, eM_as_59, eq_self, hr_k_some, Option.toList, List.cons_append, List.nil_append, is2k_n, is2k_i, is2k_r, is2k_0, oc_44, ro_m0, ro_m1, ro_m2, ro_m4, ro_m5, ro_m11, ro_m12, ro_m13, ro_m14, ro_m15, ro_m16, ro_m17, ak_45, ak_46, ak_47, ak_48, ak_49, ak_50, ak_51, ak_52, ak_53, ak_54, ak_55, ak_56, al_45, al_46, al_47, al_48, al_49, al_50, al_51, al_52, al_53, al_54, al_55, al_56, l45, l46, l47, l48, l49, l50, l51, l52, l53, l54, a45, a46, a47, a48, a49, a50, a51, a52, a53, a54, in46_0, in46_1, in46_2, in46_3, in46_4, in46_5, cn_0, cn_1, cn_2, cn_3, cn_4, cn_5, i10, i01, zb_t, zb_f, not_true_eq_false, not_false_eq_true, if_true, if_false, true_or, sp_in1, md_1, md_6, md_5, e1, e2]
  have fin : ∀ kd, kd < 6 → ∀ as, as < 6 → asE kd as < 6 ∧ (asE kd as = as ↔ N_is kd as = true) := by decide +kernel
  obtain ⟨he, hi⟩ := fin kd hk as ha
  refine ⟨asE kd as, ?_, hi, he⟩
  unfold asE
  by_cases h1 : kd = as ∨ kd = 0
  · rw [if_pos h1]
    exact stop _ hk h1
  · rw [if_neg h1]
    have hx : asD kd < 6 := by unfold asD; split <;> (try split) <;> decide
    rw [step kd hk (fun q => h1 (Or.inl q)) (fun q => h1 (Or.inr q))]
    by_cases h2 : asD kd = as ∨ asD kd = 0
    · rw [if_pos h2]
      exact stop _ hx h2
    · rw [if_neg h2]
      have e3 : asD (asD kd) = 0 := by unfold asD; split <;> (try split) <;> simp_all
      have s2 := step (asD kd) hx (fun q => h2 (Or.inl q)) (fun q => h2 (Or.inr q))
      have s3 : den nM_as (30, [some (.ref 44), some (.int a1), some (.int (nI as)), some (.int (nI (asD kd)))], [], (I, J)) = den nM_as (30, [some (.ref 44), some (.int a1), some (.int (nI as)), some (.int (nI (asD (asD kd))))], [], (I, J)) := s2
      rw [e3] at s3
      exact s3.trans (stop 0 (by decide) (Or.inr rfl))
theorem M_as_ok (h : Md I J t n kp u m y bt L w z num) {k kd : Nat} (hk : k < n) (hkd : kd < 6) (hi : N_is (t (6 + 5 * k)) kd = true) : MR nM_as [some (.ref 44), some (.int (nI k)), some (.int (nI kd)), none] I J (.int (nI (t (8 + 5 * k)))) (fun I' J' => Md I' J' t n kp u m y bt L w z num) := by
  refine MR.rd h ?_
  have hn := h.2.1.2.1
  have er := m_isRock (J := J) h.h5 hn (x := nI k) |>.1 ⟨k, hk, rfl⟩
  have e5 : decide ((0 : Int32) ≤ nI kd ∧ nI kd ≤ 5) = true := iy (b := 5) (by omega) (by decide)
  have g0 := gt0 (J := J) h.1 hn hk
  have g2 := gt2 (J := J) h.1 hn hk
  obtain ⟨e, ee, hie, he⟩ := as_walk (I := I) (J := J) (a1 := nI k) (k := k) (h.2.1.rk hk).1 hkd
  have := hie.mpr hi
  subst this
  simp only [eM_as_0, eM_as_1, eM_as_2, eM_as_5, eM_as_8, eM_as_9, eM_as_10, eM_as_11, eM_as_14, eM_as_17, eM_as_18, eM_as_19, eM_as_22, eM_as_23, eM_as_24, eM_as_25, eM_as_26, eM_as_29, eq_self, hr_k_some, Option.toList, List.cons_append, List.nil_append, is2k_n, is2k_i, is2k_r, is2k_0, oc_44, ro_m0, ro_m1, ro_m2, ro_m4, ro_m5, ro_m11, ro_m12, ro_m13, ro_m14, ro_m15, ro_m16, ro_m17, ak_45, ak_46, ak_47, ak_48, ak_49, ak_50, ak_51, ak_52, ak_53, ak_54, ak_55, ak_56, al_45, al_46, al_47, al_48, al_49, al_50, al_51, al_52, al_53, al_54, al_55, al_56, l45, l46, l47, l48, l49, l50, l51, l52, l53, l54, a45, a46, a47, a48, a49, a50, a51, a52, a53, a54, in46_0, in46_1, in46_2, in46_3, in46_4, in46_5, cn_0, cn_1, cn_2, cn_3, cn_4, cn_5, i10, i01, zb_t, zb_f, not_true_eq_false, not_false_eq_true, if_true, if_false, true_or, sp_in1, md_1, md_6, md_5, er, e5, g0]
  rw [ee]
  simp only [eM_as_62, eM_as_63, eM_as_64, eM_as_67, eM_as_68, eM_as_69, eM_as_70, eM_as_73, eM_as_76, eM_as_77, eM_as_78, eM_as_81, eq_self, hr_k_some, Option.toList, List.cons_append, List.nil_append, is2k_n, is2k_i, is2k_r, is2k_0, oc_44, ro_m0, ro_m1, ro_m2, ro_m4, ro_m5, ro_m11, ro_m12, ro_m13, ro_m14, ro_m15, ro_m16, ro_m17, ak_45, ak_46, ak_47, ak_48, ak_49, ak_50, ak_51, ak_52, ak_53, ak_54, ak_55, ak_56, al_45, al_46, al_47, al_48, al_49, al_50, al_51, al_52, al_53, al_54, al_55, al_56, l45, l46, l47, l48, l49, l50, l51, l52, l53, l54, a45, a46, a47, a48, a49, a50, a51, a52, a53, a54, in46_0, in46_1, in46_2, in46_3, in46_4, in46_5, cn_0, cn_1, cn_2, cn_3, cn_4, cn_5, i10, i01, zb_t, zb_f, not_true_eq_false, not_false_eq_true, if_true, if_false, true_or, sp_in1, md_1, md_6, md_5, g2]
theorem M_as_kind (h : Md I J t n kp u m y bt L w z num) {k kd : Nat} (hk : k < n) (hkd : kd < 6) (hi : N_is (t (6 + 5 * k)) kd = false) : MR nM_as [some (.ref 44), some (.int (nI k)), some (.int (nI kd)), none] I J (.int (fnd 2)) (fun I' J' => Md I' J' t n kp u m (inc y 2) bt L w z num) := by
  refine MR.fnd (by decide) h ?_
  have hn := h.2.1.2.1
  have er := m_isRock (J := J) h.h5 hn (x := nI k) |>.1 ⟨k, hk, rfl⟩
  have e5 : decide ((0 : Int32) ≤ nI kd ∧ nI kd ≤ 5) = true := iy (b := 5) (by omega) (by decide)
  have g0 := gt0 (J := J) h.1 hn hk
  obtain ⟨e, ee, hie, he⟩ := as_walk (I := I) (J := J) (a1 := nI k) (k := k) (h.2.1.rk hk).1 hkd
  have hne : ¬ e = kd := fun q => by rw [hie.mp q] at hi; exact Bool.noConfusion hi
  have e6 : (nI e = nI kd) = False := nq hne (by omega) (by omega)
  simp only [eM_as_0, eM_as_1, eM_as_2, eM_as_5, eM_as_8, eM_as_9, eM_as_10, eM_as_11, eM_as_14, eM_as_17, eM_as_18, eM_as_19, eM_as_22, eM_as_23, eM_as_24, eM_as_25, eM_as_26, eM_as_29, eq_self, hr_k_some, Option.toList, List.cons_append, List.nil_append, is2k_n, is2k_i, is2k_r, is2k_0, oc_44, ro_m0, ro_m1, ro_m2, ro_m4, ro_m5, ro_m11, ro_m12, ro_m13, ro_m14, ro_m15, ro_m16, ro_m17, ak_45, ak_46, ak_47, ak_48, ak_49, ak_50, ak_51, ak_52, ak_53, ak_54, ak_55, ak_56, al_45, al_46, al_47, al_48, al_49, al_50, al_51, al_52, al_53, al_54, al_55, al_56, l45, l46, l47, l48, l49, l50, l51, l52, l53, l54, a45, a46, a47, a48, a49, a50, a51, a52, a53, a54, in46_0, in46_1, in46_2, in46_3, in46_4, in46_5, cn_0, cn_1, cn_2, cn_3, cn_4, cn_5, i10, i01, zb_t, zb_f, not_true_eq_false, not_false_eq_true, if_true, if_false, true_or, sp_in1, md_1, md_6, md_5, er, e5, g0]
  rw [ee]
  simp only [eM_as_62, eM_as_63, eM_as_64, eM_as_67, eM_as_68, eM_as_69, eM_as_70, eM_as_73, eM_as_76, eM_as_77, eM_as_78, eM_as_81, eq_self, hr_k_some, Option.toList, List.cons_append, List.nil_append, is2k_n, is2k_i, is2k_r, is2k_0, oc_44, ro_m0, ro_m1, ro_m2, ro_m4, ro_m5, ro_m11, ro_m12, ro_m13, ro_m14, ro_m15, ro_m16, ro_m17, ak_45, ak_46, ak_47, ak_48, ak_49, ak_50, ak_51, ak_52, ak_53, ak_54, ak_55, ak_56, al_45, al_46, al_47, al_48, al_49, al_50, al_51, al_52, al_53, al_54, al_55, al_56, l45, l46, l47, l48, l49, l50, l51, l52, l53, l54, a45, a46, a47, a48, a49, a50, a51, a52, a53, a54, in46_0, in46_1, in46_2, in46_3, in46_4, in46_5, cn_0, cn_1, cn_2, cn_3, cn_4, cn_5, i10, i01, zb_t, zb_f, not_true_eq_false, not_false_eq_true, if_true, if_false, true_or, sp_in1, md_1, md_6, md_5, e6, sp_no2]
theorem M_as_no (h : Md I J t n kp u m y bt L w z num) {a1 a2 : Int32} (hb : ¬ (rng a1 n ∧ rng a2 6)) : MR nM_as [some (.ref 44), some (.int a1), some (.int a2), none] I J (.int (fnd 0)) (fun I' J' => Md I' J' t n kp u m (inc y 0) bt L w z num) := by
  refine MR.fnd (by decide) h ?_
  have hn := h.2.1.2.1
  by_cases c : rng a1 n
  · have er := m_isRock (J := J) h.h5 hn (x := a1) |>.1 c
    have e5 : decide ((0 : Int32) ≤ a2 ∧ a2 ≤ 5) = false := ino (b := 5) (by decide) (fun q => hb ⟨c, q⟩)
    simp only [eM_as_0, eM_as_1, eM_as_2, eM_as_5, eM_as_8, eM_as_9, eM_as_10, eM_as_11, eM_as_14, eM_as_17, eM_as_18, eM_as_19, eM_as_22, eM_as_23, eM_as_24, eM_as_25, eM_as_26, eM_as_29, eq_self, hr_k_some, Option.toList, List.cons_append, List.nil_append, is2k_n, is2k_i, is2k_r, is2k_0, oc_44, ro_m0, ro_m1, ro_m2, ro_m4, ro_m5, ro_m11, ro_m12, ro_m13, ro_m14, ro_m15, ro_m16, ro_m17, ak_45, ak_46, ak_47, ak_48, ak_49, ak_50, ak_51, ak_52, ak_53, ak_54, ak_55, ak_56, al_45, al_46, al_47, al_48, al_49, al_50, al_51, al_52, al_53, al_54, al_55, al_56, l45, l46, l47, l48, l49, l50, l51, l52, l53, l54, a45, a46, a47, a48, a49, a50, a51, a52, a53, a54, in46_0, in46_1, in46_2, in46_3, in46_4, in46_5, cn_0, cn_1, cn_2, cn_3, cn_4, cn_5, i10, i01, zb_t, zb_f, not_true_eq_false, not_false_eq_true, if_true, if_false, true_or, sp_in1, md_1, md_6, md_5, er, e5, sp_no0]
  · have er := m_isRock (J := J) h.h5 hn (x := a1) |>.2 c
    simp only [eM_as_0, eM_as_1, eM_as_2, eM_as_5, eM_as_8, eM_as_9, eM_as_10, eM_as_11, eM_as_14, eM_as_17, eM_as_18, eM_as_19, eM_as_22, eM_as_23, eM_as_24, eM_as_25, eM_as_26, eM_as_29, eq_self, hr_k_some, Option.toList, List.cons_append, List.nil_append, is2k_n, is2k_i, is2k_r, is2k_0, oc_44, ro_m0, ro_m1, ro_m2, ro_m4, ro_m5, ro_m11, ro_m12, ro_m13, ro_m14, ro_m15, ro_m16, ro_m17, ak_45, ak_46, ak_47, ak_48, ak_49, ak_50, ak_51, ak_52, ak_53, ak_54, ak_55, ak_56, al_45, al_46, al_47, al_48, al_49, al_50, al_51, al_52, al_53, al_54, al_55, al_56, l45, l46, l47, l48, l49, l50, l51, l52, l53, l54, a45, a46, a47, a48, a49, a50, a51, a52, a53, a54, in46_0, in46_1, in46_2, in46_3, in46_4, in46_5, cn_0, cn_1, cn_2, cn_3, cn_4, cn_5, i10, i01, zb_t, zb_f, not_true_eq_false, not_false_eq_true, if_true, if_false, true_or, sp_in1, md_1, md_6, md_5, er, sp_no0]
/-! sounds -/
theorem M_sounds_ok (h : Md I J t n kp u m y bt L w z num) {k q : Nat} (hk : k < n) (hq : q < 64) : MR nM_sounds [some (.ref 44), some (.int (nI k)), some (.int (nI q))] I J (.int (nI (sndV t k q))) (fun I' J' => Md I' J' t n kp u m y bt L w z num) := by
  refine MR.rd h ?_
  have er := m_isRock (J := J) h.h5 h.2.1.2.1 (x := nI k) |>.1 ⟨k, hk, rfl⟩
  have eq := m_isSq (x := nI q) (h := (I, J)) |>.1 ⟨q, hq, rfl⟩
  have es := m_snd (J := J) h.1 h.2.1 (by decide) hk hq
  simp only [eM_sounds_0, eM_sounds_1, eM_sounds_2, eM_sounds_5, eM_sounds_8, eM_sounds_9, eM_sounds_12, eM_sounds_15, eM_sounds_16, eM_sounds_17, eM_sounds_18, eM_sounds_21, eM_sounds_24, eM_sounds_25, eM_sounds_26, eM_sounds_29, eq_self, hr_k_some, Option.toList, List.cons_append, List.nil_append, is2k_n, is2k_i, is2k_r, is2k_0, oc_44, ro_m0, ro_m1, ro_m2, ro_m4, ro_m5, ro_m11, ro_m12, ro_m13, ro_m14, ro_m15, ro_m16, ro_m17, ak_45, ak_46, ak_47, ak_48, ak_49, ak_50, ak_51, ak_52, ak_53, ak_54, ak_55, ak_56, al_45, al_46, al_47, al_48, al_49, al_50, al_51, al_52, al_53, al_54, al_55, al_56, l45, l46, l47, l48, l49, l50, l51, l52, l53, l54, a45, a46, a47, a48, a49, a50, a51, a52, a53, a54, in46_0, in46_1, in46_2, in46_3, in46_4, in46_5, cn_0, cn_1, cn_2, cn_3, cn_4, cn_5, i10, i01, zb_t, zb_f, not_true_eq_false, not_false_eq_true, if_true, if_false, true_or, sp_in1, md_1, md_6, md_5, er, eq, es]
theorem M_sounds_no (h : Md I J t n kp u m y bt L w z num) {a1 a2 : Int32} (hb : ¬ (rng a1 n ∧ rng a2 64)) : MR nM_sounds [some (.ref 44), some (.int a1), some (.int a2)] I J (.int (fnd 0)) (fun I' J' => Md I' J' t n kp u m (inc y 0) bt L w z num) := by
  refine MR.fnd (by decide) h ?_
  have hn := h.2.1.2.1
  by_cases c : rng a1 n
  · have er := m_isRock (J := J) h.h5 hn (x := a1) |>.1 c
    have eq := m_isSq (x := a2) (h := (I, J)) |>.2 (fun q => hb ⟨c, q⟩)
    simp only [eM_sounds_0, eM_sounds_1, eM_sounds_2, eM_sounds_5, eM_sounds_8, eM_sounds_9, eM_sounds_12, eM_sounds_15, eM_sounds_16, eM_sounds_17, eM_sounds_18, eM_sounds_21, eM_sounds_24, eM_sounds_25, eM_sounds_26, eM_sounds_29, eq_self, hr_k_some, Option.toList, List.cons_append, List.nil_append, is2k_n, is2k_i, is2k_r, is2k_0, oc_44, ro_m0, ro_m1, ro_m2, ro_m4, ro_m5, ro_m11, ro_m12, ro_m13, ro_m14, ro_m15, ro_m16, ro_m17, ak_45, ak_46, ak_47, ak_48, ak_49, ak_50, ak_51, ak_52, ak_53, ak_54, ak_55, ak_56, al_45, al_46, al_47, al_48, al_49, al_50, al_51, al_52, al_53, al_54, al_55, al_56, l45, l46, l47, l48, l49, l50, l51, l52, l53, l54, a45, a46, a47, a48, a49, a50, a51, a52, a53, a54, in46_0, in46_1, in46_2, in46_3, in46_4, in46_5, cn_0, cn_1, cn_2, cn_3, cn_4, cn_5, i10, i01, zb_t, zb_f, not_true_eq_false, not_false_eq_true, if_true, if_false, true_or, sp_in1, md_1, md_6, md_5, er, eq, sp_no0]
  · have er := m_isRock (J := J) h.h5 hn (x := a1) |>.2 c
    simp only [eM_sounds_0, eM_sounds_1, eM_sounds_2, eM_sounds_5, eM_sounds_8, eM_sounds_9, eM_sounds_12, eM_sounds_15, eM_sounds_16, eM_sounds_17, eM_sounds_18, eM_sounds_21, eM_sounds_24, eM_sounds_25, eM_sounds_26, eM_sounds_29, eq_self, hr_k_some, Option.toList, List.cons_append, List.nil_append, is2k_n, is2k_i, is2k_r, is2k_0, oc_44, ro_m0, ro_m1, ro_m2, ro_m4, ro_m5, ro_m11, ro_m12, ro_m13, ro_m14, ro_m15, ro_m16, ro_m17, ak_45, ak_46, ak_47, ak_48, ak_49, ak_50, ak_51, ak_52, ak_53, ak_54, ak_55, ak_56, al_45, al_46, al_47, al_48, al_49, al_50, al_51, al_52, al_53, al_54, al_55, al_56, l45, l46, l47, l48, l49, l50, l51, l52, l53, l54, a45, a46, a47, a48, a49, a50, a51, a52, a53, a54, in46_0, in46_1, in46_2, in46_3, in46_4, in46_5, cn_0, cn_1, cn_2, cn_3, cn_4, cn_5, i10, i01, zb_t, zb_f, not_true_eq_false, not_false_eq_true, if_true, if_false, true_or, sp_in1, md_1, md_6, md_5, er, sp_no0]
/-! loudest -/
theorem lo_s {q : Nat} : ∀ k, (loV t q k).1 ≤ k ∧ ((loV t q k).1 = 0 → k = 0 ∧ (loV t q k).2 = 0) ∧ ((loV t q k).1 ≠ 0 → (loV t q k).2 = sndV t ((loV t q k).1 - 1) q + 1) := by
  intro k
  induction k with
  | zero => exact ⟨Nat.le_refl _, fun _ => ⟨rfl, rfl⟩, fun h => absurd rfl h⟩
  | succ k ih =>
    rw [loV_s]
    by_cases c : (loV t q k).2 ≤ sndV t k q
    · rw [if_pos c]
      exact ⟨Nat.le_refl _, fun h => by simp at h, fun _ => rfl⟩
    · rw [if_neg c]
      obtain ⟨i1, i2, i3⟩ := ih
      refine ⟨by omega, fun h => ?_, i3⟩
      have := (i2 h).2
      omega
theorem mlo_loop {q : Nat} (hq : q < 64) (h : mh I 45 t n) (hV : V t n B) (hB : B < 2 ^ 29) : ∀ (d k : Nat), k + d = n → den nM_loudest (17, [some (.ref 44), some (.int (nI q)), some (.int (nI (loV t q k).1 - 1)), some (.int (nI k))], [], (I, J)) = den nM_loudest (58, [some (.ref 44), some (.int (nI q)), some (.int (nI (loV t q n).1 - 1)), some (.int (nI n))], [], (I, J)) := by
  obtain ⟨f0, f1, f2, f3, f4, f5⟩ := mfs h hV
  have hn := hV.2.1
  intro d
  induction d with
  | zero =>
    intro k hk
    have hk' : k = n := by omega
    rw [hk', eM_loudest_17]
    simp only [eM_loudest_18, eM_loudest_19, eM_loudest_22, eM_loudest_23, eM_loudest_24, eM_loudest_27, eM_loudest_28, eM_loudest_31, eM_loudest_32, eM_loudest_33, eM_loudest_34, eM_loudest_37, eM_loudest_38, eM_loudest_39, eM_loudest_40, eM_loudest_43, eM_loudest_46, eM_loudest_47, eM_loudest_50, eM_loudest_51, eM_loudest_52, eM_loudest_55, eq_self, hr_k_some, Option.toList, List.cons_append, List.nil_append, is2k_n, is2k_i, is2k_r, is2k_0, oc_44, ro_m0, ro_m1, ro_m2, ro_m4, ro_m5, ro_m11, ro_m12, ro_m13, ro_m14, ro_m15, ro_m16, ro_m17, ak_45, ak_46, ak_47, ak_48, ak_49, ak_50, ak_51, ak_52, ak_53, ak_54, ak_55, ak_56, al_45, al_46, al_47, al_48, al_49, al_50, al_51, al_52, al_53, al_54, al_55, al_56, l45, l46, l47, l48, l49, l50, l51, l52, l53, l54, a45, a46, a47, a48, a49, a50, a51, a52, a53, a54, in46_0, in46_1, in46_2, in46_3, in46_4, in46_5, cn_0, cn_1, cn_2, cn_3, cn_4, cn_5, i10, i01, zb_t, zb_f, not_true_eq_false, not_false_eq_true, if_true, if_false, true_or, sp_in1, md_1, md_6, md_5, f5, leT (Nat.le_refl n) (show n < 2 ^ 31 by omega)]
  | succ d ih =>
    intro k hk
    have ih' := ih (k + 1) (by omega)
    obtain ⟨l1, l2, l3⟩ := lo_s (t := t) (q := q) k
    have es := m_snd (J := J) h hV (by omega) (show k < n by omega) hq
    have hs := sndV_lt (q := q) hV (show k < n by omega)
    rw [loV_s] at ih'
    rw [eM_loudest_17]
    by_cases c0 : (loV t q k).1 = 0
    · obtain ⟨hk0, hz⟩ := l2 c0
      rw [if_pos (by omega)] at ih'
      have en : (nI (loV t q k).1 - 1 < 0) = True := eq_true (by rw [c0]; decide)
      rw [nI_pred] at ih'
      simp only [eM_loudest_18, eM_loudest_19, eM_loudest_22, eM_loudest_23, eM_loudest_24, eM_loudest_27, eM_loudest_28, eM_loudest_31, eM_loudest_32, eM_loudest_33, eM_loudest_34, eM_loudest_37, eM_loudest_38, eM_loudest_39, eM_loudest_40, eM_loudest_43, eM_loudest_46, eM_loudest_47, eM_loudest_50, eM_loudest_51, eM_loudest_52, eM_loudest_55, eq_self, hr_k_some, Option.toList, List.cons_append, List.nil_append, is2k_n, is2k_i, is2k_r, is2k_0, oc_44, ro_m0, ro_m1, ro_m2, ro_m4, ro_m5, ro_m11, ro_m12, ro_m13, ro_m14, ro_m15, ro_m16, ro_m17, ak_45, ak_46, ak_47, ak_48, ak_49, ak_50, ak_51, ak_52, ak_53, ak_54, ak_55, ak_56, al_45, al_46, al_47, al_48, al_49, al_50, al_51, al_52, al_53, al_54, al_55, al_56, l45, l46, l47, l48, l49, l50, l51, l52, l53, l54, a45, a46, a47, a48, a49, a50, a51, a52, a53, a54, in46_0, in46_1, in46_2, in46_3, in46_4, in46_5, cn_0, cn_1, cn_2, cn_3, cn_4, cn_5, i10, i01, zb_t, zb_f, not_true_eq_false, not_false_eq_true, if_true, if_false, true_or, sp_in1, md_1, md_6, md_5, f5, leF (show k < n by omega) (show n < 2 ^ 31 by omega), en, nI_1]
      exact ih'
    · have e1 : nI (loV t q k).1 - 1 = nI ((loV t q k).1 - 1) := pk_sub (b := 1) (by omega)
      have es2 := m_snd (J := J) h hV (by omega) (show (loV t q k).1 - 1 < n by omega) hq
      have hs2 := sndV_lt (q := q) hV (show (loV t q k).1 - 1 < n by omega)
      have l3' := l3 c0
      have ec : (nI (sndV t k q) ≤ nI (sndV t ((loV t q k).1 - 1) q)) = (sndV t k q ≤ sndV t ((loV t q k).1 - 1) q) := propext (nI_leI (by omega) (by omega))
      rw [e1]
      by_cases c : sndV t k q ≤ sndV t ((loV t q k).1 - 1) q
      · rw [if_neg (by omega), e1] at ih'
        simp only [eM_loudest_18, eM_loudest_19, eM_loudest_22, eM_loudest_23, eM_loudest_24, eM_loudest_27, eM_loudest_28, eM_loudest_31, eM_loudest_32, eM_loudest_33, eM_loudest_34, eM_loudest_37, eM_loudest_38, eM_loudest_39, eM_loudest_40, eM_loudest_43, eM_loudest_46, eM_loudest_47, eM_loudest_50, eM_loudest_51, eM_loudest_52, eM_loudest_55, eq_self, hr_k_some, Option.toList, List.cons_append, List.nil_append, is2k_n, is2k_i, is2k_r, is2k_0, oc_44, ro_m0, ro_m1, ro_m2, ro_m4, ro_m5, ro_m11, ro_m12, ro_m13, ro_m14, ro_m15, ro_m16, ro_m17, ak_45, ak_46, ak_47, ak_48, ak_49, ak_50, ak_51, ak_52, ak_53, ak_54, ak_55, ak_56, al_45, al_46, al_47, al_48, al_49, al_50, al_51, al_52, al_53, al_54, al_55, al_56, l45, l46, l47, l48, l49, l50, l51, l52, l53, l54, a45, a46, a47, a48, a49, a50, a51, a52, a53, a54, in46_0, in46_1, in46_2, in46_3, in46_4, in46_5, cn_0, cn_1, cn_2, cn_3, cn_4, cn_5, i10, i01, zb_t, zb_f, not_true_eq_false, not_false_eq_true, if_true, if_false, true_or, sp_in1, md_1, md_6, md_5, f5, leF (show k < n by omega) (show n < 2 ^ 31 by omega), lt0f (show (loV t q k).1 - 1 < 2 ^ 31 by omega), es, es2, ec.trans (eq_true c), nI_1]
        exact ih'
      · rw [if_pos (by omega), nI_pred] at ih'
        simp only [eM_loudest_18, eM_loudest_19, eM_loudest_22, eM_loudest_23, eM_loudest_24, eM_loudest_27, eM_loudest_28, eM_loudest_31, eM_loudest_32, eM_loudest_33, eM_loudest_34, eM_loudest_37, eM_loudest_38, eM_loudest_39, eM_loudest_40, eM_loudest_43, eM_loudest_46, eM_loudest_47, eM_loudest_50, eM_loudest_51, eM_loudest_52, eM_loudest_55, eq_self, hr_k_some, Option.toList, List.cons_append, List.nil_append, is2k_n, is2k_i, is2k_r, is2k_0, oc_44, ro_m0, ro_m1, ro_m2, ro_m4, ro_m5, ro_m11, ro_m12, ro_m13, ro_m14, ro_m15, ro_m16, ro_m17, ak_45, ak_46, ak_47, ak_48, ak_49, ak_50, ak_51, ak_52, ak_53, ak_54, ak_55, ak_56, al_45, al_46, al_47, al_48, al_49, al_50, al_51, al_52, al_53, al_54, al_55, al_56, l45, l46, l47, l48, l49, l50, l51, l52, l53, l54, a45, a46, a47, a48, a49, a50, a51, a52, a53, a54, in46_0, in46_1, in46_2, in46_3, in46_4, in46_5, cn_0, cn_1, cn_2, cn_3, cn_4, cn_5, i10, i01, zb_t, zb_f, not_true_eq_false, not_false_eq_true, if_true, if_false, true_or, sp_in1, md_1, md_6, md_5, f5, leF (show k < n by omega) (show n < 2 ^ 31 by omega), lt0f (show (loV t q k).1 - 1 < 2 ^ 31 by omega), es, es2, ec.trans (eq_false c), nI_1]
        exact ih'
theorem M_loudest_ok (h : Md I J t n kp u m y bt L w z num) {q : Nat} (hq : q < 64) (hl : ¬ (loV t q n).1 = 0) : MR nM_loudest [some (.ref 44), some (.int (nI q)), none, none] I J (.int (nI ((loV t q n).1 - 1))) (fun I' J' => Md I' J' t n kp u m y bt L w z num) := by
  refine MR.rd h ?_
  have hn := h.2.1.2.1
  have eq := m_isSq (x := nI q) (h := (I, J)) |>.1 ⟨q, hq, rfl⟩
  have el := mlo_loop (J := J) hq h.1 h.2.1 (by decide) n 0 (by omega)
  have l1 := (lo_s (t := t) (q := q) n).1
  have e1 : nI (loV t q n).1 - 1 = nI ((loV t q n).1 - 1) := pk_sub (b := 1) (by omega)
  rw [e1] at el
  have el' : den nM_loudest (17, [some (.ref 44), some (.int (nI q)), some (.int (-1)), some (.int 0)], [], (I, J)) = _ := el
  simp only [eM_loudest_0, eM_loudest_1, eM_loudest_4, eM_loudest_7, eM_loudest_8, eM_loudest_9, eM_loudest_12, eM_loudest_13, eM_loudest_14, eM_loudest_15, eM_loudest_16, eq_self, hr_k_some, Option.toList, List.cons_append, List.nil_append, is2k_n, is2k_i, is2k_r, is2k_0, oc_44, ro_m0, ro_m1, ro_m2, ro_m4, ro_m5, ro_m11, ro_m12, ro_m13, ro_m14, ro_m15, ro_m16, ro_m17, ak_45, ak_46, ak_47, ak_48, ak_49, ak_50, ak_51, ak_52, ak_53, ak_54, ak_55, ak_56, al_45, al_46, al_47, al_48, al_49, al_50, al_51, al_52, al_53, al_54, al_55, al_56, l45, l46, l47, l48, l49, l50, l51, l52, l53, l54, a45, a46, a47, a48, a49, a50, a51, a52, a53, a54, in46_0, in46_1, in46_2, in46_3, in46_4, in46_5, cn_0, cn_1, cn_2, cn_3, cn_4, cn_5, i10, i01, zb_t, zb_f, not_true_eq_false, not_false_eq_true, if_true, if_false, true_or, sp_in1, md_1, md_6, md_5, eq]
  rw [el']
  have e0 : ((0 : Int32) ≤ nI ((loV t q n).1 - 1)) = True := eq_true (nI_pos' (by omega))
  simp only [eM_loudest_58, eM_loudest_59, eM_loudest_62, eM_loudest_63, eM_loudest_64, eM_loudest_67, eM_loudest_70, eM_loudest_71, eq_self, hr_k_some, Option.toList, List.cons_append, List.nil_append, is2k_n, is2k_i, is2k_r, is2k_0, oc_44, ro_m0, ro_m1, ro_m2, ro_m4, ro_m5, ro_m11, ro_m12, ro_m13, ro_m14, ro_m15, ro_m16, ro_m17, ak_45, ak_46, ak_47, ak_48, ak_49, ak_50, ak_51, ak_52, ak_53, ak_54, ak_55, ak_56, al_45, al_46, al_47, al_48, al_49, al_50, al_51, al_52, al_53, al_54, al_55, al_56, l45, l46, l47, l48, l49, l50, l51, l52, l53, l54, a45, a46, a47, a48, a49, a50, a51, a52, a53, a54, in46_0, in46_1, in46_2, in46_3, in46_4, in46_5, cn_0, cn_1, cn_2, cn_3, cn_4, cn_5, i10, i01, zb_t, zb_f, not_true_eq_false, not_false_eq_true, if_true, if_false, true_or, sp_in1, md_1, md_6, md_5, e0]
theorem M_loudest_none (h : Md I J t n kp u m y bt L w z num) {q : Nat} (hq : q < 64) (hl : (loV t q n).1 = 0) : MR nM_loudest [some (.ref 44), some (.int (nI q)), none, none] I J (.int (fnd 3)) (fun I' J' => Md I' J' t n kp u m (inc y 3) bt L w z num) := by
  refine MR.fnd (by decide) h ?_
  have eq := m_isSq (x := nI q) (h := (I, J)) |>.1 ⟨q, hq, rfl⟩
  have el := mlo_loop (J := J) hq h.1 h.2.1 (by decide) n 0 (by omega)
  have e1 : nI (loV t q n).1 - 1 = -1 := by rw [hl]; decide
  rw [e1] at el
  have el' : den nM_loudest (17, [some (.ref 44), some (.int (nI q)), some (.int (-1)), some (.int 0)], [], (I, J)) = _ := el
  simp only [eM_loudest_0, eM_loudest_1, eM_loudest_4, eM_loudest_7, eM_loudest_8, eM_loudest_9, eM_loudest_12, eM_loudest_13, eM_loudest_14, eM_loudest_15, eM_loudest_16, eq_self, hr_k_some, Option.toList, List.cons_append, List.nil_append, is2k_n, is2k_i, is2k_r, is2k_0, oc_44, ro_m0, ro_m1, ro_m2, ro_m4, ro_m5, ro_m11, ro_m12, ro_m13, ro_m14, ro_m15, ro_m16, ro_m17, ak_45, ak_46, ak_47, ak_48, ak_49, ak_50, ak_51, ak_52, ak_53, ak_54, ak_55, ak_56, al_45, al_46, al_47, al_48, al_49, al_50, al_51, al_52, al_53, al_54, al_55, al_56, l45, l46, l47, l48, l49, l50, l51, l52, l53, l54, a45, a46, a47, a48, a49, a50, a51, a52, a53, a54, in46_0, in46_1, in46_2, in46_3, in46_4, in46_5, cn_0, cn_1, cn_2, cn_3, cn_4, cn_5, i10, i01, zb_t, zb_f, not_true_eq_false, not_false_eq_true, if_true, if_false, true_or, sp_in1, md_1, md_6, md_5, eq]
  rw [el']
  have e0 : ((0 : Int32) ≤ -1) = False := eq_false (by decide)
  simp only [eM_loudest_58, eM_loudest_59, eM_loudest_62, eM_loudest_63, eM_loudest_64, eM_loudest_67, eM_loudest_70, eM_loudest_71, eq_self, hr_k_some, Option.toList, List.cons_append, List.nil_append, is2k_n, is2k_i, is2k_r, is2k_0, oc_44, ro_m0, ro_m1, ro_m2, ro_m4, ro_m5, ro_m11, ro_m12, ro_m13, ro_m14, ro_m15, ro_m16, ro_m17, ak_45, ak_46, ak_47, ak_48, ak_49, ak_50, ak_51, ak_52, ak_53, ak_54, ak_55, ak_56, al_45, al_46, al_47, al_48, al_49, al_50, al_51, al_52, al_53, al_54, al_55, al_56, l45, l46, l47, l48, l49, l50, l51, l52, l53, l54, a45, a46, a47, a48, a49, a50, a51, a52, a53, a54, in46_0, in46_1, in46_2, in46_3, in46_4, in46_5, cn_0, cn_1, cn_2, cn_3, cn_4, cn_5, i10, i01, zb_t, zb_f, not_true_eq_false, not_false_eq_true, if_true, if_false, true_or, sp_in1, md_1, md_6, md_5, e0, sp_no3]
theorem M_loudest_no (h : Md I J t n kp u m y bt L w z num) {a1 : Int32} (hb : ¬ rng a1 64) : MR nM_loudest [some (.ref 44), some (.int a1), none, none] I J (.int (fnd 0)) (fun I' J' => Md I' J' t n kp u m (inc y 0) bt L w z num) := by
  refine MR.fnd (by decide) h ?_
  have eq := m_isSq (x := a1) (h := (I, J)) |>.2 hb
  simp only [eM_loudest_0, eM_loudest_1, eM_loudest_4, eM_loudest_7, eM_loudest_8, eM_loudest_9, eM_loudest_12, eM_loudest_13, eM_loudest_14, eM_loudest_15, eM_loudest_16, eq_self, hr_k_some, Option.toList, List.cons_append, List.nil_append, is2k_n, is2k_i, is2k_r, is2k_0, oc_44, ro_m0, ro_m1, ro_m2, ro_m4, ro_m5, ro_m11, ro_m12, ro_m13, ro_m14, ro_m15, ro_m16, ro_m17, ak_45, ak_46, ak_47, ak_48, ak_49, ak_50, ak_51, ak_52, ak_53, ak_54, ak_55, ak_56, al_45, al_46, al_47, al_48, al_49, al_50, al_51, al_52, al_53, al_54, al_55, al_56, l45, l46, l47, l48, l49, l50, l51, l52, l53, l54, a45, a46, a47, a48, a49, a50, a51, a52, a53, a54, in46_0, in46_1, in46_2, in46_3, in46_4, in46_5, cn_0, cn_1, cn_2, cn_3, cn_4, cn_5, i10, i01, zb_t, zb_f, not_true_eq_false, not_false_eq_true, if_true, if_false, true_or, sp_in1, md_1, md_6, md_5, eq, sp_no0]
/-! watches -/
theorem M_watches_ok (h : Md I J t n kp u m y bt L w z num) {c : Nat} (hc : 1 ≤ c ∧ c ≤ 100) (hw : t 0 + c ≤ 99999) : MR nM_watches [some (.ref 44), some (.int (nI c))] I J (.int (nI (goN t n c 1))) (fun I' J' => Md I' J' (goN t n c) n kp u m y bt L w z num) := by
  obtain ⟨f0, f1, f2, f3, f4, f5⟩ := mfs h.1 h.2.1
  have ec : decide ((1 : Int32) ≤ nI c ∧ nI c ≤ 100) = true := wi_yes (a := 1) (b := 100) hc.1 hc.2 (by decide)
  have ew : (nI (t 0 + c) ≤ 99999) = True := eq_true (nI_le (b := 99999) hw (by decide))
  obtain ⟨I1, e1, h1, o1⟩ := m_goes (J := J) (c := c) (by omega) h.1 h.2.1 (by omega)
  have hV1 : V (goN t n c) n 99999 := (goN_V c h.2.1).mono (by rw [goN_0]; exact hw)
  refine MR.mv h o1 h1 hV1 ?_
  simp only [eM_watches_0, eM_watches_1, eM_watches_2, eM_watches_4, eM_watches_7, eM_watches_10, eM_watches_11, eM_watches_12, eM_watches_15, eM_watches_16, eM_watches_17, eM_watches_20, eM_watches_21, eM_watches_22, eM_watches_23, eM_watches_24, eM_watches_26, eM_watches_29, eM_watches_30, eM_watches_31, eM_watches_34, eM_watches_35, eM_watches_36, eM_watches_37, eM_watches_40, eM_watches_41, eM_watches_44, eM_watches_45, eM_watches_46, eq_self, hr_k_some, Option.toList, List.cons_append, List.nil_append, is2k_n, is2k_i, is2k_r, is2k_0, oc_44, ro_m0, ro_m1, ro_m2, ro_m4, ro_m5, ro_m11, ro_m12, ro_m13, ro_m14, ro_m15, ro_m16, ro_m17, ak_45, ak_46, ak_47, ak_48, ak_49, ak_50, ak_51, ak_52, ak_53, ak_54, ak_55, ak_56, al_45, al_46, al_47, al_48, al_49, al_50, al_51, al_52, al_53, al_54, al_55, al_56, l45, l46, l47, l48, l49, l50, l51, l52, l53, l54, a45, a46, a47, a48, a49, a50, a51, a52, a53, a54, in46_0, in46_1, in46_2, in46_3, in46_4, in46_5, cn_0, cn_1, cn_2, cn_3, cn_4, cn_5, i10, i01, zb_t, zb_f, not_true_eq_false, not_false_eq_true, if_true, if_false, true_or, sp_in1, md_1, md_6, md_5, ec, f0, nI_add, ew, e1, h1 1 (by omega)]
theorem M_watches_state (h : Md I J t n kp u m y bt L w z num) {c : Nat} (hc : 1 ≤ c ∧ c ≤ 100) (hw : ¬ t 0 + c ≤ 99999) : MR nM_watches [some (.ref 44), some (.int (nI c))] I J (.int (fnd 4)) (fun I' J' => Md I' J' t n kp u m (inc y 4) bt L w z num) := by
  refine MR.fnd (by decide) h ?_
  obtain ⟨f0, f1, f2, f3, f4, f5⟩ := mfs h.1 h.2.1
  have v0 := h.2.1.2.2.1
  have ec : decide ((1 : Int32) ≤ nI c ∧ nI c ≤ 100) = true := wi_yes (a := 1) (b := 100) hc.1 hc.2 (by decide)
  have ew : (nI (t 0 + c) ≤ 99999) = False := leF (b := 99999) (by omega) (by omega)
  simp only [eM_watches_0, eM_watches_1, eM_watches_2, eM_watches_4, eM_watches_7, eM_watches_10, eM_watches_11, eM_watches_12, eM_watches_15, eM_watches_16, eM_watches_17, eM_watches_20, eM_watches_21, eM_watches_22, eM_watches_23, eM_watches_24, eM_watches_26, eM_watches_29, eM_watches_30, eM_watches_31, eM_watches_34, eM_watches_35, eM_watches_36, eM_watches_37, eM_watches_40, eM_watches_41, eM_watches_44, eM_watches_45, eM_watches_46, eq_self, hr_k_some, Option.toList, List.cons_append, List.nil_append, is2k_n, is2k_i, is2k_r, is2k_0, oc_44, ro_m0, ro_m1, ro_m2, ro_m4, ro_m5, ro_m11, ro_m12, ro_m13, ro_m14, ro_m15, ro_m16, ro_m17, ak_45, ak_46, ak_47, ak_48, ak_49, ak_50, ak_51, ak_52, ak_53, ak_54, ak_55, ak_56, al_45, al_46, al_47, al_48, al_49, al_50, al_51, al_52, al_53, al_54, al_55, al_56, l45, l46, l47, l48, l49, l50, l51, l52, l53, l54, a45, a46, a47, a48, a49, a50, a51, a52, a53, a54, in46_0, in46_1, in46_2, in46_3, in46_4, in46_5, cn_0, cn_1, cn_2, cn_3, cn_4, cn_5, i10, i01, zb_t, zb_f, not_true_eq_false, not_false_eq_true, if_true, if_false, true_or, sp_in1, md_1, md_6, md_5, ec, f0, nI_add, ew, sp_no4]
theorem M_watches_no (h : Md I J t n kp u m y bt L w z num) {a1 : Int32} (hb : ¬ ∃ c, 1 ≤ c ∧ c ≤ 100 ∧ a1 = nI c) : MR nM_watches [some (.ref 44), some (.int a1)] I J (.int (fnd 0)) (fun I' J' => Md I' J' t n kp u m (inc y 0) bt L w z num) := by
  refine MR.fnd (by decide) h ?_
  have ec : decide ((1 : Int32) ≤ a1 ∧ a1 ≤ 100) = false := wi_no1 (a := 1) (b := 100) (by decide) (by decide) hb
  simp only [eM_watches_0, eM_watches_1, eM_watches_2, eM_watches_4, eM_watches_7, eM_watches_10, eM_watches_11, eM_watches_12, eM_watches_15, eM_watches_16, eM_watches_17, eM_watches_20, eM_watches_21, eM_watches_22, eM_watches_23, eM_watches_24, eM_watches_26, eM_watches_29, eM_watches_30, eM_watches_31, eM_watches_34, eM_watches_35, eM_watches_36, eM_watches_37, eM_watches_40, eM_watches_41, eM_watches_44, eM_watches_45, eM_watches_46, eq_self, hr_k_some, Option.toList, List.cons_append, List.nil_append, is2k_n, is2k_i, is2k_r, is2k_0, oc_44, ro_m0, ro_m1, ro_m2, ro_m4, ro_m5, ro_m11, ro_m12, ro_m13, ro_m14, ro_m15, ro_m16, ro_m17, ak_45, ak_46, ak_47, ak_48, ak_49, ak_50, ak_51, ak_52, ak_53, ak_54, ak_55, ak_56, al_45, al_46, al_47, al_48, al_49, al_50, al_51, al_52, al_53, al_54, al_55, al_56, l45, l46, l47, l48, l49, l50, l51, l52, l53, l54, a45, a46, a47, a48, a49, a50, a51, a52, a53, a54, in46_0, in46_1, in46_2, in46_3, in46_4, in46_5, cn_0, cn_1, cn_2, cn_3, cn_4, cn_5, i10, i01, zb_t, zb_f, not_true_eq_false, not_false_eq_true, if_true, if_false, true_or, sp_in1, md_1, md_6, md_5, ec, sp_no0]
/-! on -/
theorem M_on_ok (h : Md I J t n kp u m y bt L w z num) {c q : Nat} (hc : c ≤ 200) (hq : q < 2) : MR nM_on [some (.ref 44), some (.int (nI c)), some (.int (nI q))] I J (.int (nI (if q = 0 then goN t n c 1 else goN t n c 4))) (fun I' J' => Md I' J' t n kp u m y bt L w z num) := by
  have ec : decide ((0 : Int32) ≤ nI c ∧ nI c ≤ 200) = true := iy (b := 200) hc (by decide)
  have eq : decide ((0 : Int32) ≤ nI q ∧ nI q ≤ 1) = true := iy (b := 1) (by omega) (by decide)
  rcases (show q = 0 ∨ q = 1 by omega) with rfl | rfl
  · obtain ⟨I1, e1, l1⟩ := m_then (J := J) (p := 1) (c := c) (by omega) (by omega) h.1 h.2.1 (by omega)
    have e1' : den nM_thenAt (0, [some (.ref 44), some (.int 1), some (.int (nI c)), none], [], (I, J)) = _ := e1
    refine MR.lb h l1 ?_
    simp (decide := true) only [eM_on_0, eM_on_1, eM_on_2, eM_on_5, eM_on_8, eM_on_11, eM_on_12, eM_on_13, eM_on_14, eM_on_17, eM_on_20, eM_on_21, eM_on_22, eM_on_25, eM_on_26, eM_on_29, eM_on_30, eM_on_31, eM_on_34, eM_on_37, eM_on_38, eM_on_39, eM_on_42, eq_self, hr_k_some, Option.toList, List.cons_append, List.nil_append, is2k_n, is2k_i, is2k_r, is2k_0, oc_44, ro_m0, ro_m1, ro_m2, ro_m4, ro_m5, ro_m11, ro_m12, ro_m13, ro_m14, ro_m15, ro_m16, ro_m17, ak_45, ak_46, ak_47, ak_48, ak_49, ak_50, ak_51, ak_52, ak_53, ak_54, ak_55, ak_56, al_45, al_46, al_47, al_48, al_49, al_50, al_51, al_52, al_53, al_54, al_55, al_56, l45, l46, l47, l48, l49, l50, l51, l52, l53, l54, a45, a46, a47, a48, a49, a50, a51, a52, a53, a54, in46_0, in46_1, in46_2, in46_3, in46_4, in46_5, cn_0, cn_1, cn_2, cn_3, cn_4, cn_5, i10, i01, zb_t, zb_f, not_true_eq_false, not_false_eq_true, if_true, if_false, true_or, sp_in1, md_1, md_6, md_5, ec, eq, e1']
  · obtain ⟨I1, e1, l1⟩ := m_then (J := J) (p := 4) (c := c) (by omega) (by omega) h.1 h.2.1 (by omega)
    have e1' : den nM_thenAt (0, [some (.ref 44), some (.int 4), some (.int (nI c)), none], [], (I, J)) = _ := e1
    refine MR.lb h l1 ?_
    simp (decide := true) only [eM_on_0, eM_on_1, eM_on_2, eM_on_5, eM_on_8, eM_on_11, eM_on_12, eM_on_13, eM_on_14, eM_on_17, eM_on_20, eM_on_21, eM_on_22, eM_on_25, eM_on_26, eM_on_29, eM_on_30, eM_on_31, eM_on_34, eM_on_37, eM_on_38, eM_on_39, eM_on_42, eq_self, hr_k_some, Option.toList, List.cons_append, List.nil_append, is2k_n, is2k_i, is2k_r, is2k_0, oc_44, ro_m0, ro_m1, ro_m2, ro_m4, ro_m5, ro_m11, ro_m12, ro_m13, ro_m14, ro_m15, ro_m16, ro_m17, ak_45, ak_46, ak_47, ak_48, ak_49, ak_50, ak_51, ak_52, ak_53, ak_54, ak_55, ak_56, al_45, al_46, al_47, al_48, al_49, al_50, al_51, al_52, al_53, al_54, al_55, al_56, l45, l46, l47, l48, l49, l50, l51, l52, l53, l54, a45, a46, a47, a48, a49, a50, a51, a52, a53, a54, in46_0, in46_1, in46_2, in46_3, in46_4, in46_5, cn_0, cn_1, cn_2, cn_3, cn_4, cn_5, i10, i01, zb_t, zb_f, not_true_eq_false, not_false_eq_true, if_true, if_false, true_or, sp_in1, md_1, md_6, md_5, ec, eq, e1']
theorem M_on_no (h : Md I J t n kp u m y bt L w z num) {a1 a2 : Int32} (hb : ¬ (rng a1 201 ∧ rng a2 2)) : MR nM_on [some (.ref 44), some (.int a1), some (.int a2)] I J (.int (fnd 0)) (fun I' J' => Md I' J' t n kp u m (inc y 0) bt L w z num) := by
  refine MR.fnd (by decide) h ?_
  by_cases c : rng a1 201
  · have eq : decide ((0 : Int32) ≤ a2 ∧ a2 ≤ 1) = false := ino (b := 1) (by decide) (fun q => hb ⟨c, q⟩)
    obtain ⟨k, hk, rfl⟩ := c
    have ec : decide ((0 : Int32) ≤ nI k ∧ nI k ≤ 200) = true := iy (b := 200) (by omega) (by decide)
    simp only [eM_on_0, eM_on_1, eM_on_2, eM_on_5, eM_on_8, eM_on_11, eM_on_12, eM_on_13, eM_on_14, eM_on_17, eM_on_20, eM_on_21, eM_on_22, eM_on_25, eM_on_26, eM_on_29, eM_on_30, eM_on_31, eM_on_34, eM_on_37, eM_on_38, eM_on_39, eM_on_42, eq_self, hr_k_some, Option.toList, List.cons_append, List.nil_append, is2k_n, is2k_i, is2k_r, is2k_0, oc_44, ro_m0, ro_m1, ro_m2, ro_m4, ro_m5, ro_m11, ro_m12, ro_m13, ro_m14, ro_m15, ro_m16, ro_m17, ak_45, ak_46, ak_47, ak_48, ak_49, ak_50, ak_51, ak_52, ak_53, ak_54, ak_55, ak_56, al_45, al_46, al_47, al_48, al_49, al_50, al_51, al_52, al_53, al_54, al_55, al_56, l45, l46, l47, l48, l49, l50, l51, l52, l53, l54, a45, a46, a47, a48, a49, a50, a51, a52, a53, a54, in46_0, in46_1, in46_2, in46_3, in46_4, in46_5, cn_0, cn_1, cn_2, cn_3, cn_4, cn_5, i10, i01, zb_t, zb_f, not_true_eq_false, not_false_eq_true, if_true, if_false, true_or, sp_in1, md_1, md_6, md_5, ec, eq, sp_no0]
  · have ec : decide ((0 : Int32) ≤ a1 ∧ a1 ≤ 200) = false := ino (b := 200) (by decide) c
    simp only [eM_on_0, eM_on_1, eM_on_2, eM_on_5, eM_on_8, eM_on_11, eM_on_12, eM_on_13, eM_on_14, eM_on_17, eM_on_20, eM_on_21, eM_on_22, eM_on_25, eM_on_26, eM_on_29, eM_on_30, eM_on_31, eM_on_34, eM_on_37, eM_on_38, eM_on_39, eM_on_42, eq_self, hr_k_some, Option.toList, List.cons_append, List.nil_append, is2k_n, is2k_i, is2k_r, is2k_0, oc_44, ro_m0, ro_m1, ro_m2, ro_m4, ro_m5, ro_m11, ro_m12, ro_m13, ro_m14, ro_m15, ro_m16, ro_m17, ak_45, ak_46, ak_47, ak_48, ak_49, ak_50, ak_51, ak_52, ak_53, ak_54, ak_55, ak_56, al_45, al_46, al_47, al_48, al_49, al_50, al_51, al_52, al_53, al_54, al_55, al_56, l45, l46, l47, l48, l49, l50, l51, l52, l53, l54, a45, a46, a47, a48, a49, a50, a51, a52, a53, a54, in46_0, in46_1, in46_2, in46_3, in46_4, in46_5, cn_0, cn_1, cn_2, cn_3, cn_4, cn_5, i10, i01, zb_t, zb_f, not_true_eq_false, not_false_eq_true, if_true, if_false, true_or, sp_in1, md_1, md_6, md_5, ec, sp_no0]
/-! moved -/
theorem M_moved_ok (h : Md I J t n kp u m y bt L w z num) {k c : Nat} (hk : k < n) (hc : c ≤ 200) : MR nM_moved [some (.ref 44), some (.int (nI k)), some (.int (nI c))] I J (.int (nI (goN t n c (7 + 5 * k)))) (fun I' J' => Md I' J' t n kp u m y bt L w z num) := by
  have er := m_isRock (J := J) h.h5 h.2.1.2.1 (x := nI k) |>.1 ⟨k, hk, rfl⟩
  have ec : decide ((0 : Int32) ≤ nI c ∧ nI c ≤ 200) = true := iy (b := 200) hc (by decide)
  obtain ⟨I1, e1, l1⟩ := m_then (J := J) (p := 6 + 5 * k + 1) (c := c) (by omega) (by omega) h.1 h.2.1 (by omega)
  refine MR.lb h l1 ?_
  rw [show 7 + 5 * k = 6 + 5 * k + 1 by omega]
  simp only [eM_moved_0, eM_moved_1, eM_moved_2, eM_moved_5, eM_moved_8, eM_moved_9, eM_moved_10, eM_moved_13, eM_moved_16, eM_moved_19, eM_moved_20, eM_moved_22, eM_moved_23, eM_moved_24, eM_moved_25, eM_moved_26, eM_moved_27, eM_moved_28, eM_moved_29, eM_moved_32, eM_moved_35, eM_moved_36, eM_moved_37, eM_moved_40, eq_self, hr_k_some, Option.toList, List.cons_append, List.nil_append, is2k_n, is2k_i, is2k_r, is2k_0, oc_44, ro_m0, ro_m1, ro_m2, ro_m4, ro_m5, ro_m11, ro_m12, ro_m13, ro_m14, ro_m15, ro_m16, ro_m17, ak_45, ak_46, ak_47, ak_48, ak_49, ak_50, ak_51, ak_52, ak_53, ak_54, ak_55, ak_56, al_45, al_46, al_47, al_48, al_49, al_50, al_51, al_52, al_53, al_54, al_55, al_56, l45, l46, l47, l48, l49, l50, l51, l52, l53, l54, a45, a46, a47, a48, a49, a50, a51, a52, a53, a54, in46_0, in46_1, in46_2, in46_3, in46_4, in46_5, cn_0, cn_1, cn_2, cn_3, cn_4, cn_5, i10, i01, zb_t, zb_f, not_true_eq_false, not_false_eq_true, if_true, if_false, true_or, sp_in1, md_1, md_6, md_5, er, ec, nI_add, nI_1, e1]
theorem M_moved_no (h : Md I J t n kp u m y bt L w z num) {a1 a2 : Int32} (hb : ¬ (rng a1 n ∧ rng a2 201)) : MR nM_moved [some (.ref 44), some (.int a1), some (.int a2)] I J (.int (fnd 0)) (fun I' J' => Md I' J' t n kp u m (inc y 0) bt L w z num) := by
  refine MR.fnd (by decide) h ?_
  have hn := h.2.1.2.1
  by_cases c : rng a1 n
  · have er := m_isRock (J := J) h.h5 hn (x := a1) |>.1 c
    have ec : decide ((0 : Int32) ≤ a2 ∧ a2 ≤ 200) = false := ino (b := 200) (by decide) (fun q => hb ⟨c, q⟩)
    simp only [eM_moved_0, eM_moved_1, eM_moved_2, eM_moved_5, eM_moved_8, eM_moved_9, eM_moved_10, eM_moved_13, eM_moved_16, eM_moved_19, eM_moved_20, eM_moved_22, eM_moved_23, eM_moved_24, eM_moved_25, eM_moved_26, eM_moved_27, eM_moved_28, eM_moved_29, eM_moved_32, eM_moved_35, eM_moved_36, eM_moved_37, eM_moved_40, eq_self, hr_k_some, Option.toList, List.cons_append, List.nil_append, is2k_n, is2k_i, is2k_r, is2k_0, oc_44, ro_m0, ro_m1, ro_m2, ro_m4, ro_m5, ro_m11, ro_m12, ro_m13, ro_m14, ro_m15, ro_m16, ro_m17, ak_45, ak_46, ak_47, ak_48, ak_49, ak_50, ak_51, ak_52, ak_53, ak_54, ak_55, ak_56, al_45, al_46, al_47, al_48, al_49, al_50, al_51, al_52, al_53, al_54, al_55, al_56, l45, l46, l47, l48, l49, l50, l51, l52, l53, l54, a45, a46, a47, a48, a49, a50, a51, a52, a53, a54, in46_0, in46_1, in46_2, in46_3, in46_4, in46_5, cn_0, cn_1, cn_2, cn_3, cn_4, cn_5, i10, i01, zb_t, zb_f, not_true_eq_false, not_false_eq_true, if_true, if_false, true_or, sp_in1, md_1, md_6, md_5, er, ec, sp_no0]
  · have er := m_isRock (J := J) h.h5 hn (x := a1) |>.2 c
    simp only [eM_moved_0, eM_moved_1, eM_moved_2, eM_moved_5, eM_moved_8, eM_moved_9, eM_moved_10, eM_moved_13, eM_moved_16, eM_moved_19, eM_moved_20, eM_moved_22, eM_moved_23, eM_moved_24, eM_moved_25, eM_moved_26, eM_moved_27, eM_moved_28, eM_moved_29, eM_moved_32, eM_moved_35, eM_moved_36, eM_moved_37, eM_moved_40, eq_self, hr_k_some, Option.toList, List.cons_append, List.nil_append, is2k_n, is2k_i, is2k_r, is2k_0, oc_44, ro_m0, ro_m1, ro_m2, ro_m4, ro_m5, ro_m11, ro_m12, ro_m13, ro_m14, ro_m15, ro_m16, ro_m17, ak_45, ak_46, ak_47, ak_48, ak_49, ak_50, ak_51, ak_52, ak_53, ak_54, ak_55, ak_56, al_45, al_46, al_47, al_48, al_49, al_50, al_51, al_52, al_53, al_54, al_55, al_56, l45, l46, l47, l48, l49, l50, l51, l52, l53, l54, a45, a46, a47, a48, a49, a50, a51, a52, a53, a54, in46_0, in46_1, in46_2, in46_3, in46_4, in46_5, cn_0, cn_1, cn_2, cn_3, cn_4, cn_5, i10, i01, zb_t, zb_f, not_true_eq_false, not_false_eq_true, if_true, if_false, true_or, sp_in1, md_1, md_6, md_5, er, sp_no0]
end
