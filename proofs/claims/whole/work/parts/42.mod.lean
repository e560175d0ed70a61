section
variable {I I' : Nat → Nat → Int32} {J J' : Nat → Nat → Int64} {t t' : Nat → Nat} {n B : Nat}
theorem mfs (h : mh I 45 t n) (hV : V t n B) : I 45 0 = nI (t 0) ∧ I 45 1 = nI (t 1) ∧ I 45 2 = nI (t 2) ∧ I 45 3 = nI (t 3) ∧ I 45 4 = nI (t 4) ∧ I 45 5 = nI n := ⟨h _ (by omega), h _ (by omega), h _ (by omega), h _ (by omega), h _ (by omega), by rw [h 5 (by omega), hV.1]⟩
theorem sndV_lt (hV : V t n B) {k q : Nat} (hk : k < n) : sndV t k q < 300 := by
  obtain ⟨v1, v2, v3, v4, v5⟩ := hV.rk hk
  exact snd_lt v3 v4
theorem m_hears (h : mh I 45 t n) (hV : V t n B) (hB : B < 2 ^ 29) {k : Nat} (hk : k < n) : den nM_hearsOf (0, [some (.ref 44), some (.int (nI k))], [], (I, J)) = some (some (.int (zb (hrsV t k))), (I, J)) := by
  obtain ⟨f0, f1, f2, f3, f4, f5⟩ := mfs h hV
  have v2 := hV.2.2.2.2.1
  have es := m_snd (J := J) h hV (by omega) hk hV.2.2.2.1
  have hs := sndV_lt (q := t 1) hV hk
  have e10 : (nI (sndV t k (t 1) + t 2) < (10 : Int32)) = (sndV t k (t 1) + t 2 < 10) := propext (nI_ltI (b := 10) (by omega) (by decide))
  unfold hrsV
  simp only [eM_hearsOf_0, eM_hearsOf_1, eM_hearsOf_2, eM_hearsOf_3, eM_hearsOf_6, eM_hearsOf_7, eM_hearsOf_8, eM_hearsOf_11, eM_hearsOf_12, eM_hearsOf_15, eM_hearsOf_16, eM_hearsOf_17, eM_hearsOf_18, eM_hearsOf_20, eM_hearsOf_23, eM_hearsOf_24, eM_hearsOf_27, eM_hearsOf_28, eq_self, hr_k_some, Option.toList, List.cons_append, List.nil_append, is2k_n, is2k_i, is2k_r, is2k_0, oc_44, ro_m0, ro_m1, ro_m2, ro_m4, ro_m5, ro_m11, ro_m12, ro_m13, ro_m14, ro_m15, ro_m16, ro_m17, ak_45, ak_46, ak_47, ak_48, ak_49, ak_50, ak_51, ak_52, ak_53, ak_54, ak_55, ak_56, al_45, al_46, al_47, al_48, al_49, al_50, al_51, al_52, al_53, al_54, al_55, al_56, l45, l46, l47, l48, l49, l50, l51, l52, l53, l54, a45, a46, a47, a48, a49, a50, a51, a52, a53, a54, in46_0, in46_1, in46_2, in46_3, in46_4, in46_5, cn_0, cn_1, cn_2, cn_3, cn_4, cn_5, i10, i01, zb_t, zb_f, not_true_eq_false, not_false_eq_true, if_true, if_false, true_or, sp_in1, md_1, md_6, md_5, zb_n0, zb_n1, f1, f2, es, nI_add, e10]
  by_cases c : sndV t k (t 1) + t 2 < 10
  · rw [decide_eq_false (by omega)]
    simp only [c, if_true]; rfl
  · rw [decide_eq_true (by omega)]
    simp only [c, if_false]; rfl
theorem m_wrk (h : mh I 45 t n) (hV : V t n B) (hB : B < 2 ^ 29) {k : Nat} (hk : k < n) : den nM_wrecksNow (0, [some (.ref 44), some (.int (nI k)), none], [], (I, J)) = some (some (.int (zb (N_wrk (t (6 + 5 * k)) (t 0)))), (I, J)) := by
  obtain ⟨f0, f1, f2, f3, f4, f5⟩ := mfs h hV
  have hw := hV.2.2.1
  obtain ⟨v1, v2, v3, v4, v5⟩ := hV.rk hk
  have g0 := gt0 (J := J) h hV.2.1 hk
  have m3 := rm3 (show t 0 < 2 ^ 30 by omega)
  have e2 : (nI (t 0 % 3) = 2) = (t 0 % 3 = 2) := nI_lit _ 2 (by omega) (by decide)
  unfold N_wrk
  generalize t (6 + 5 * k) = kd at *
  by_cases c : t 0 % 3 = 2
  · rcases (show kd = 0 ∨ kd = 1 ∨ kd = 2 ∨ kd = 3 ∨ kd = 4 ∨ kd = 5 by omega) with rfl | rfl | rfl | rfl | rfl | rfl <;> simp (decide := true) only [eM_wrecksNow_0, eM_wrecksNow_1, eM_wrecksNow_2, eM_wrecksNow_3, eM_wrecksNow_6, eM_wrecksNow_7, eM_wrecksNow_8, eM_wrecksNow_9, eM_wrecksNow_12, eM_wrecksNow_13, eM_wrecksNow_14, eM_wrecksNow_17, eM_wrecksNow_18, eM_wrecksNow_19, eM_wrecksNow_22, eM_wrecksNow_23, eM_wrecksNow_26, eM_wrecksNow_27, eM_wrecksNow_28, eM_wrecksNow_29, eM_wrecksNow_30, eM_wrecksNow_31, eM_wrecksNow_34, eM_wrecksNow_35, eM_wrecksNow_38, eM_wrecksNow_39, eq_self, hr_k_some, Option.toList, List.cons_append, List.nil_append, is2k_n, is2k_i, is2k_r, is2k_0, oc_44, ro_m0, ro_m1, ro_m2, ro_m4, ro_m5, ro_m11, ro_m12, ro_m13, ro_m14, ro_m15, ro_m16, ro_m17, ak_45, ak_46, ak_47, ak_48, ak_49, ak_50, ak_51, ak_52, ak_53, ak_54, ak_55, ak_56, al_45, al_46, al_47, al_48, al_49, al_50, al_51, al_52, al_53, al_54, al_55, al_56, l45, l46, l47, l48, l49, l50, l51, l52, l53, l54, a45, a46, a47, a48, a49, a50, a51, a52, a53, a54, in46_0, in46_1, in46_2, in46_3, in46_4, in46_5, cn_0, cn_1, cn_2, cn_3, cn_4, cn_5, i10, i01, zb_t, zb_f, not_true_eq_false, not_false_eq_true, if_true, if_false, true_or, sp_in1, md_1, md_6, md_5, zb_n0, zb_n1, g0, f0, n3, m3, e2.trans (eq_true c), c] <;> rfl
  · rcases (show kd = 0 ∨ kd = 1 ∨ kd = 2 ∨ kd = 3 ∨ kd = 4 ∨ kd = 5 by omega) with rfl | rfl | rfl | rfl | rfl | rfl <;> simp (decide := true) only [eM_wrecksNow_0, eM_wrecksNow_1, eM_wrecksNow_2, eM_wrecksNow_3, eM_wrecksNow_6, eM_wrecksNow_7, eM_wrecksNow_8, eM_wrecksNow_9, eM_wrecksNow_12, eM_wrecksNow_13, eM_wrecksNow_14, eM_wrecksNow_17, eM_wrecksNow_18, eM_wrecksNow_19, eM_wrecksNow_22, eM_wrecksNow_23, eM_wrecksNow_26, eM_wrecksNow_27, eM_wrecksNow_28, eM_wrecksNow_29, eM_wrecksNow_30, eM_wrecksNow_31, eM_wrecksNow_34, eM_wrecksNow_35, eM_wrecksNow_38, eM_wrecksNow_39, eq_self, hr_k_some, Option.toList, List.cons_append, List.nil_append, is2k_n, is2k_i, is2k_r, is2k_0, oc_44, ro_m0, ro_m1, ro_m2, ro_m4, ro_m5, ro_m11, ro_m12, ro_m13, ro_m14, ro_m15, ro_m16, ro_m17, ak_45, ak_46, ak_47, ak_48, ak_49, ak_50, ak_51, ak_52, ak_53, ak_54, ak_55, ak_56, al_45, al_46, al_47, al_48, al_49, al_50, al_51, al_52, al_53, al_54, al_55, al_56, l45, l46, l47, l48, l49, l50, l51, l52, l53, l54, a45, a46, a47, a48, a49, a50, a51, a52, a53, a54, in46_0, in46_1, in46_2, in46_3, in46_4, in46_5, cn_0, cn_1, cn_2, cn_3, cn_4, cn_5, i10, i01, zb_t, zb_f, not_true_eq_false, not_false_eq_true, if_true, if_false, true_or, sp_in1, md_1, md_6, md_5, zb_n0, zb_n1, g0, f0, n3, m3, e2.trans (eq_false c), c] <;> rfl
theorem mhe_loop (h : mh I 45 t n) (hV : V t n B) (hB : B < 2 ^ 29) : ∀ (d k : Nat), k + d = n → den nM_heard (4, [some (.ref 44), some (.int (heV t k)), some (.int (nI k))], [], (I, J)) = some (some (.int (heV t n)), (I, J)) := by
  obtain ⟨f0, f1, f2, f3, f4, f5⟩ := mfs h hV
  have hn := hV.2.1
  intro d
  induction d with
  | zero =>
    intro k hk
    have hk' : k = n := by omega
    rw [hk']
    simp only [eM_heard_0, eM_heard_1, eM_heard_2, eM_heard_3, eM_heard_4, eM_heard_5, eM_heard_6, eM_heard_9, eM_heard_10, eM_heard_11, eM_heard_14, eM_heard_15, eM_heard_16, eM_heard_17, eM_heard_20, eM_heard_23, eM_heard_24, eM_heard_25, eM_heard_26, eM_heard_29, eM_heard_30, eM_heard_31, eM_heard_32, eM_heard_35, eM_heard_38, eM_heard_39, eq_self, hr_k_some, Option.toList, List.cons_append, List.nil_append, is2k_n, is2k_i, is2k_r, is2k_0, oc_44, ro_m0, ro_m1, ro_m2, ro_m4, ro_m5, ro_m11, ro_m12, ro_m13, ro_m14, ro_m15, ro_m16, ro_m17, ak_45, ak_46, ak_47, ak_48, ak_49, ak_50, ak_51, ak_52, ak_53, ak_54, ak_55, ak_56, al_45, al_46, al_47, al_48, al_49, al_50, al_51, al_52, al_53, al_54, al_55, al_56, l45, l46, l47, l48, l49, l50, l51, l52, l53, l54, a45, a46, a47, a48, a49, a50, a51, a52, a53, a54, in46_0, in46_1, in46_2, in46_3, in46_4, in46_5, cn_0, cn_1, cn_2, cn_3, cn_4, cn_5, i10, i01, zb_t, zb_f, not_true_eq_false, not_false_eq_true, if_true, if_false, true_or, sp_in1, md_1, md_6, md_5, f5, leT (Nat.le_refl n) (show n < 2 ^ 31 by omega)]
  | succ d ih =>
    intro k hk
    have eh := m_hears (J := J) h hV hB (show k < n by omega)
    have ih' := ih (k + 1) (by omega)
    rw [eM_heard_4]
    simp only [eM_heard_5, eM_heard_6, eM_heard_9, eM_heard_10, eM_heard_11, eM_heard_14, eM_heard_15, eM_heard_16, eM_heard_17, eM_heard_20, eM_heard_23, eM_heard_24, eM_heard_25, eM_heard_26, eM_heard_29, eM_heard_30, eM_heard_31, eM_heard_32, eM_heard_35, eM_heard_38, eM_heard_39, eq_self, hr_k_some, Option.toList, List.cons_append, List.nil_append, is2k_n, is2k_i, is2k_r, is2k_0, oc_44, ro_m0, ro_m1, ro_m2, ro_m4, ro_m5, ro_m11, ro_m12, ro_m13, ro_m14, ro_m15, ro_m16, ro_m17, ak_45, ak_46, ak_47, ak_48, ak_49, ak_50, ak_51, ak_52, ak_53, ak_54, ak_55, ak_56, al_45, al_46, al_47, al_48, al_49, al_50, al_51, al_52, al_53, al_54, al_55, al_56, l45, l46, l47, l48, l49, l50, l51, l52, l53, l54, a45, a46, a47, a48, a49, a50, a51, a52, a53, a54, in46_0, in46_1, in46_2, in46_3, in46_4, in46_5, cn_0, cn_1, cn_2, cn_3, cn_4, cn_5, i10, i01, zb_t, zb_f, not_true_eq_false, not_false_eq_true, if_true, if_false, true_or, sp_in1, md_1, md_6, md_5, f5, leF (show k < n by omega) (show n < 2 ^ 31 by omega), eh]
    by_cases c : hrsV t k = true
    · rw [show heV t (k + 1) = heV t k ||| ((1 : Int32) <<< (nI k &&& 31)) from if_pos c] at ih'
      simp only [c, oc_44, ro_m0, ro_m1, ro_m2, ro_m4, ro_m5, ro_m11, ro_m12, ro_m13, ro_m14, ro_m15, ro_m16, ro_m17, ak_45, ak_46, ak_47, ak_48, ak_49, ak_50, ak_51, ak_52, ak_53, ak_54, ak_55, ak_56, al_45, al_46, al_47, al_48, al_49, al_50, al_51, al_52, al_53, al_54, al_55, al_56, l45, l46, l47, l48, l49, l50, l51, l52, l53, l54, a45, a46, a47, a48, a49, a50, a51, a52, a53, a54, in46_0, in46_1, in46_2, in46_3, in46_4, in46_5, cn_0, cn_1, cn_2, cn_3, cn_4, cn_5, i10, i01, zb_t, zb_f, not_true_eq_false, not_false_eq_true, if_true, if_false, true_or, sp_in1, md_1, md_6, md_5, eq_self, hr_k_some, Option.toList, List.cons_append, List.nil_append, is2k_n, is2k_i, is2k_r, is2k_0, nI_1]
      exact ih'
    · rw [show heV t (k + 1) = heV t k from if_neg c] at ih'
      have c' : hrsV t k = false := Bool.not_eq_true _ ▸ c
      have ez : ∀ x : Int32, x ||| 0 = x := fun x => Int32.or_zero
      simp only [c', oc_44, ro_m0, ro_m1, ro_m2, ro_m4, ro_m5, ro_m11, ro_m12, ro_m13, ro_m14, ro_m15, ro_m16, ro_m17, ak_45, ak_46, ak_47, ak_48, ak_49, ak_50, ak_51, ak_52, ak_53, ak_54, ak_55, ak_56, al_45, al_46, al_47, al_48, al_49, al_50, al_51, al_52, al_53, al_54, al_55, al_56, l45, l46, l47, l48, l49, l50, l51, l52, l53, l54, a45, a46, a47, a48, a49, a50, a51, a52, a53, a54, in46_0, in46_1, in46_2, in46_3, in46_4, in46_5, cn_0, cn_1, cn_2, cn_3, cn_4, cn_5, i10, i01, zb_t, zb_f, not_true_eq_false, not_false_eq_true, if_true, if_false, true_or, sp_in1, md_1, md_6, md_5, eq_self, hr_k_some, Option.toList, List.cons_append, List.nil_append, is2k_n, is2k_i, is2k_r, is2k_0, nI_1, ez]
      exact ih'
theorem m_heard (h : mh I 45 t n) (hV : V t n B) (hB : B < 2 ^ 29) : den nM_heard (0, [some (.ref 44), none, none], [], (I, J)) = some (some (.int (heV t n)), (I, J)) := by
  have := mhe_loop (J := J) h hV hB n 0 (by omega)
  simp only [eM_heard_0, eM_heard_1, eM_heard_2, eM_heard_3, eq_self, hr_k_some, Option.toList, List.cons_append, List.nil_append, is2k_n, is2k_i, is2k_r, is2k_0]
  exact this
end
