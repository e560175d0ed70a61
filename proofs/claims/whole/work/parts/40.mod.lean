/-! ===== the model: what its calls share ===== -/
theorem l45 : (45 < 57) = True := eq_true (by decide)
theorem l46 : (46 < 57) = True := eq_true (by decide)
theorem l47 : (47 < 57) = True := eq_true (by decide)
theorem l48 : (48 < 57) = True := eq_true (by decide)
theorem l49 : (49 < 57) = True := eq_true (by decide)
theorem l50 : (50 < 57) = True := eq_true (by decide)
theorem l51 : (51 < 57) = True := eq_true (by decide)
theorem l52 : (52 < 57) = True := eq_true (by decide)
theorem l53 : (53 < 57) = True := eq_true (by decide)
theorem l54 : (54 < 57) = True := eq_true (by decide)
section
variable {I : Nat → Nat → Int32} {J : Nat → Nat → Int64} {j : Nat}
theorem a45 : hr_ai (I, J) 45 j = I 45 j := ai_lt (by decide)
theorem a46 : hr_ai (I, J) 46 j = I 46 j := ai_lt (by decide)
theorem a47 : hr_ai (I, J) 47 j = I 47 j := ai_lt (by decide)
theorem a48 : hr_ai (I, J) 48 j = I 48 j := ai_lt (by decide)
theorem a49 : hr_ai (I, J) 49 j = I 49 j := ai_lt (by decide)
theorem a50 : hr_ai (I, J) 50 j = I 50 j := ai_lt (by decide)
theorem a51 : hr_ai (I, J) 51 j = I 51 j := ai_lt (by decide)
theorem a52 : hr_ai (I, J) 52 j = I 52 j := ai_lt (by decide)
theorem a53 : hr_ai (I, J) 53 j = I 53 j := ai_lt (by decide)
theorem a54 : hr_ai (I, J) 54 j = I 54 j := ai_lt (by decide)
end
theorem in46_0 : (hr_in 0 46 = true) = True := eq_true (by decide)
theorem in46_1 : (hr_in 1 46 = true) = True := eq_true (by decide)
theorem in46_2 : (hr_in 2 46 = true) = True := eq_true (by decide)
theorem in46_3 : (hr_in 3 46 = true) = True := eq_true (by decide)
theorem in46_4 : (hr_in 4 46 = true) = True := eq_true (by decide)
theorem in46_5 : (hr_in 5 46 = true) = True := eq_true (by decide)
theorem cn_0 : (0 : Int32).toNatClampNeg = 0 := by decide
theorem cn_1 : (1 : Int32).toNatClampNeg = 1 := by decide
theorem cn_2 : (2 : Int32).toNatClampNeg = 2 := by decide
theorem cn_3 : (3 : Int32).toNatClampNeg = 3 := by decide
theorem cn_4 : (4 : Int32).toNatClampNeg = 4 := by decide
theorem cn_5 : (5 : Int32).toNatClampNeg = 5 := by decide
theorem md_1 (k : Nat) : (1 : Int32) + nI k = nI (1 + k) := nI_add 1 k
theorem md_6 (k : Nat) : (6 : Int32) + nI k = nI (6 + k) := nI_add 6 k
theorem md_5 (k : Nat) : (5 : Int32) * nI k = nI (5 * k) := pk_mul 5 k
theorem in_46 {k : Nat} (h : k < 46) : (hr_in (nI k) 46 = true) = True := eq_true (in_nI h (by decide))
theorem sp_in1 {v a b : Int32} {h : hr_H} : den nM_in1 (0, [some (.int v), some (.int a), some (.int b)], [], h) = some (some (.int (zb (decide (a ≤ v ∧ v ≤ b)))), h) := by
  simp only [eM_in1_0, eM_in1_1, eM_in1_2, eM_in1_5, eM_in1_6, eM_in1_7, eM_in1_10, eM_in1_11, eM_in1_14, eM_in1_15, eq_self, hr_k_some, Option.toList, List.cons_append, List.nil_append, is2k_n, is2k_i, is2k_r, is2k_0, zb_n0, zb_n1, ite_si]
  congr 4
  by_cases h1 : a ≤ v
  · have g1 : ¬ v < a := fun z => absurd h1 (Int32.not_le.mpr z)
    by_cases h2 : v ≤ b
    · have g2 : ¬ b < v := fun z => absurd h2 (Int32.not_le.mpr z)
      simp only [g1, g2, h1, h2, if_false, and_self, decide_true]; rfl
    · have g2 : b < v := Int32.not_le.mp h2
      simp only [g1, g2, h2, if_false, if_true, and_false, decide_false]; rfl
  · have g1 : v < a := Int32.not_le.mp h1
    simp only [g1, h1, if_true, false_and, decide_false]; rfl
/-- a row of the model holds a state -/
def mh (I : Nat → Nat → Int32) (a : Nat) (t : Nat → Nat) (n : Nat) : Prop := ∀ j, j < 6 + 5 * n → I a j = nI (t j)
section
variable {I I' : Nat → Nat → Int32} {J J' : Nat → Nat → Int64} {t t' : Nat → Nat} {n B : Nat}
theorem sp_no {k : Nat} (hk : k < 7) : den nM_no (0, [some (.ref 44), some (.int (nI k))], [], (I, J)) = some (some (.int (fnd k)), (up2 I 48 k (I 48 k + 1), J)) := by
  simp only [eM_no_0, eM_no_1, eM_no_4, eM_no_5, eM_no_6, eM_no_7, eM_no_8, eM_no_9, eM_no_10, eM_no_12, eM_no_13, eM_no_14, eq_self, hr_k_some, Option.toList, List.cons_append, List.nil_append, is2k_n, is2k_i, is2k_r, is2k_0, oc_44, ro_m0, ro_m1, ro_m2, ro_m4, ro_m5, ro_m11, ro_m12, ro_m13, ro_m14, ro_m15, ro_m16, ro_m17, ak_45, ak_46, ak_47, ak_48, ak_49, ak_50, ak_51, ak_52, ak_53, ak_54, ak_55, ak_56, al_45, al_46, al_47, al_48, al_49, al_50, al_51, al_52, al_53, al_54, al_55, al_56, l45, l46, l47, l48, l49, l50, l51, l52, l53, l54, a45, a46, a47, a48, a49, a50, a51, a52, a53, a54, in46_0, in46_1, in46_2, in46_3, in46_4, in46_5, cn_0, cn_1, cn_2, cn_3, cn_4, cn_5, i10, i01, zb_t, zb_f, not_true_eq_false, not_false_eq_true, if_true, if_false, true_or, sp_in1, md_1, md_6, md_5, in_7 hk, cl_nI (show k < 100000 by omega)]
  rfl
theorem mh.g (h : mh I 45 t n) {k j : Nat} (hk : k < n) (hj : j < 5) : I 45 (6 + 5 * k + j) = nI (t (6 + 5 * k + j)) := h _ (by omega)
theorem sp_get (h : mh I 45 t n) (hn : n ≤ 8) {k j : Nat} (hk : k < n) (hj : j < 5) : den nM_get (0, [some (.ref 44), some (.int (nI k)), some (.int (nI j))], [], (I, J)) = some (some (.int (nI (t (6 + 5 * k + j)))), (I, J)) := by
  simp only [eM_get_0, eM_get_1, eM_get_4, eM_get_6, eM_get_7, eM_get_8, eM_get_9, eM_get_10, eM_get_11, eM_get_12, eM_get_13, eq_self, hr_k_some, Option.toList, List.cons_append, List.nil_append, is2k_n, is2k_i, is2k_r, is2k_0, oc_44, ro_m0, ro_m1, ro_m2, ro_m4, ro_m5, ro_m11, ro_m12, ro_m13, ro_m14, ro_m15, ro_m16, ro_m17, ak_45, ak_46, ak_47, ak_48, ak_49, ak_50, ak_51, ak_52, ak_53, ak_54, ak_55, ak_56, al_45, al_46, al_47, al_48, al_49, al_50, al_51, al_52, al_53, al_54, al_55, al_56, l45, l46, l47, l48, l49, l50, l51, l52, l53, l54, a45, a46, a47, a48, a49, a50, a51, a52, a53, a54, in46_0, in46_1, in46_2, in46_3, in46_4, in46_5, cn_0, cn_1, cn_2, cn_3, cn_4, cn_5, i10, i01, zb_t, zb_f, not_true_eq_false, not_false_eq_true, if_true, if_false, true_or, sp_in1, md_1, md_6, md_5, nI_add, in_46 (show 6 + 5 * k + j < 46 by omega), cl_nI (show 6 + 5 * k + j < 100000 by omega), h.g hk hj]
theorem sp_puts {k j : Nat} {x : Int32} (hk : k < 8) (hj : j < 5) : den nM_puts (0, [some (.ref 44), some (.int (nI k)), some (.int (nI j)), some (.int x)], [], (I, J)) = some (none, (up2 I 45 (6 + 5 * k + j) x, J)) := by
  simp only [eM_puts_0, eM_puts_1, eM_puts_4, eM_puts_6, eM_puts_7, eM_puts_8, eM_puts_9, eM_puts_10, eM_puts_11, eM_puts_12, eM_puts_13, eM_puts_14, eq_self, hr_k_some, Option.toList, List.cons_append, List.nil_append, is2k_n, is2k_i, is2k_r, is2k_0, oc_44, ro_m0, ro_m1, ro_m2, ro_m4, ro_m5, ro_m11, ro_m12, ro_m13, ro_m14, ro_m15, ro_m16, ro_m17, ak_45, ak_46, ak_47, ak_48, ak_49, ak_50, ak_51, ak_52, ak_53, ak_54, ak_55, ak_56, al_45, al_46, al_47, al_48, al_49, al_50, al_51, al_52, al_53, al_54, al_55, al_56, l45, l46, l47, l48, l49, l50, l51, l52, l53, l54, a45, a46, a47, a48, a49, a50, a51, a52, a53, a54, in46_0, in46_1, in46_2, in46_3, in46_4, in46_5, cn_0, cn_1, cn_2, cn_3, cn_4, cn_5, i10, i01, zb_t, zb_f, not_true_eq_false, not_false_eq_true, if_true, if_false, true_or, sp_in1, md_1, md_6, md_5, nI_add, in_46 (show 6 + 5 * k + j < 46 by omega), cl_nI (show 6 + 5 * k + j < 100000 by omega)]
theorem P_rm_eq (a b : Int32) : a - a / b * b = P_rm a b := rfl
theorem sp_farOf {a b : Nat} (ha : a < 64) (hb : b < 64) {h : hr_H} : den nM_farOf (0, [some (.int (nI a)), some (.int (nI b)), none, none], [], h) = some (some (.int (nI (N_far a b))), h) := by
  rw [← far_N a ha b hb]
  unfold P_far ab P_rm
  have en : ∀ x : Int32, -x = 0 - x := fun x => (Int32.zero_sub x).symm
  by_cases c1 : 0 ≤ nI a / 8 - nI b / 8
  · by_cases c2 : 0 ≤ nI a - nI a / 8 * 8 - (nI b - nI b / 8 * 8)
    · simp only [eM_farOf_0, eM_farOf_1, eM_farOf_3, eM_farOf_4, eM_farOf_5, eM_farOf_7, eM_farOf_8, eM_farOf_9, eM_farOf_10, eM_farOf_11, eM_farOf_13, eM_farOf_14, eM_farOf_15, eM_farOf_17, eM_farOf_18, eM_farOf_19, eM_farOf_20, eM_farOf_21, eM_farOf_24, eM_farOf_25, eM_farOf_26, eM_farOf_29, eM_farOf_30, eM_farOf_31, eM_farOf_34, eM_farOf_35, eM_farOf_36, eM_farOf_39, eM_farOf_40, eM_farOf_41, eq_self, hr_k_some, Option.toList, List.cons_append, List.nil_append, is2k_n, is2k_i, is2k_r, is2k_0, oc_44, ro_m0, ro_m1, ro_m2, ro_m4, ro_m5, ro_m11, ro_m12, ro_m13, ro_m14, ro_m15, ro_m16, ro_m17, ak_45, ak_46, ak_47, ak_48, ak_49, ak_50, ak_51, ak_52, ak_53, ak_54, ak_55, ak_56, al_45, al_46, al_47, al_48, al_49, al_50, al_51, al_52, al_53, al_54, al_55, al_56, l45, l46, l47, l48, l49, l50, l51, l52, l53, l54, a45, a46, a47, a48, a49, a50, a51, a52, a53, a54, in46_0, in46_1, in46_2, in46_3, in46_4, in46_5, cn_0, cn_1, cn_2, cn_3, cn_4, cn_5, i10, i01, zb_t, zb_f, not_true_eq_false, not_false_eq_true, if_true, if_false, true_or, sp_in1, md_1, md_6, md_5, n8, c1, c2]
    · simp only [eM_farOf_0, eM_farOf_1, eM_farOf_3, eM_farOf_4, eM_farOf_5, eM_farOf_7, eM_farOf_8, eM_farOf_9, eM_farOf_10, eM_farOf_11, eM_farOf_13, eM_farOf_14, eM_farOf_15, eM_farOf_17, eM_farOf_18, eM_farOf_19, eM_farOf_20, eM_farOf_21, eM_farOf_24, eM_farOf_25, eM_farOf_26, eM_farOf_29, eM_farOf_30, eM_farOf_31, eM_farOf_34, eM_farOf_35, eM_farOf_36, eM_farOf_39, eM_farOf_40, eM_farOf_41, eq_self, hr_k_some, Option.toList, List.cons_append, List.nil_append, is2k_n, is2k_i, is2k_r, is2k_0, oc_44, ro_m0, ro_m1, ro_m2, ro_m4, ro_m5, ro_m11, ro_m12, ro_m13, ro_m14, ro_m15, ro_m16, ro_m17, ak_45, ak_46, ak_47, ak_48, ak_49, ak_50, ak_51, ak_52, ak_53, ak_54, ak_55, ak_56, al_45, al_46, al_47, al_48, al_49, al_50, al_51, al_52, al_53, al_54, al_55, al_56, l45, l46, l47, l48, l49, l50, l51, l52, l53, l54, a45, a46, a47, a48, a49, a50, a51, a52, a53, a54, in46_0, in46_1, in46_2, in46_3, in46_4, in46_5, cn_0, cn_1, cn_2, cn_3, cn_4, cn_5, i10, i01, zb_t, zb_f, not_true_eq_false, not_false_eq_true, if_true, if_false, true_or, sp_in1, md_1, md_6, md_5, n8, c1, c2, en]
  · by_cases c2 : 0 ≤ nI a - nI a / 8 * 8 - (nI b - nI b / 8 * 8)
    · simp only [eM_farOf_0, eM_farOf_1, eM_farOf_3, eM_farOf_4, eM_farOf_5, eM_farOf_7, eM_farOf_8, eM_farOf_9, eM_farOf_10, eM_farOf_11, eM_farOf_13, eM_farOf_14, eM_farOf_15, eM_farOf_17, eM_farOf_18, eM_farOf_19, eM_farOf_20, eM_farOf_21, eM_farOf_24, eM_farOf_25, eM_farOf_26, eM_farOf_29, eM_farOf_30, eM_farOf_31, eM_farOf_34, eM_farOf_35, eM_farOf_36, eM_farOf_39, eM_farOf_40, eM_farOf_41, eq_self, hr_k_some, Option.toList, List.cons_append, List.nil_append, is2k_n, is2k_i, is2k_r, is2k_0, oc_44, ro_m0, ro_m1, ro_m2, ro_m4, ro_m5, ro_m11, ro_m12, ro_m13, ro_m14, ro_m15, ro_m16, ro_m17, ak_45, ak_46, ak_47, ak_48, ak_49, ak_50, ak_51, ak_52, ak_53, ak_54, ak_55, ak_56, al_45, al_46, al_47, al_48, al_49, al_50, al_51, al_52, al_53, al_54, al_55, al_56, l45, l46, l47, l48, l49, l50, l51, l52, l53, l54, a45, a46, a47, a48, a49, a50, a51, a52, a53, a54, in46_0, in46_1, in46_2, in46_3, in46_4, in46_5, cn_0, cn_1, cn_2, cn_3, cn_4, cn_5, i10, i01, zb_t, zb_f, not_true_eq_false, not_false_eq_true, if_true, if_false, true_or, sp_in1, md_1, md_6, md_5, n8, c1, c2, en]
    · simp only [eM_farOf_0, eM_farOf_1, eM_farOf_3, eM_farOf_4, eM_farOf_5, eM_farOf_7, eM_farOf_8, eM_farOf_9, eM_farOf_10, eM_farOf_11, eM_farOf_13, eM_farOf_14, eM_farOf_15, eM_farOf_17, eM_farOf_18, eM_farOf_19, eM_farOf_20, eM_farOf_21, eM_farOf_24, eM_farOf_25, eM_farOf_26, eM_farOf_29, eM_farOf_30, eM_farOf_31, eM_farOf_34, eM_farOf_35, eM_farOf_36, eM_farOf_39, eM_farOf_40, eM_farOf_41, eq_self, hr_k_some, Option.toList, List.cons_append, List.nil_append, is2k_n, is2k_i, is2k_r, is2k_0, oc_44, ro_m0, ro_m1, ro_m2, ro_m4, ro_m5, ro_m11, ro_m12, ro_m13, ro_m14, ro_m15, ro_m16, ro_m17, ak_45, ak_46, ak_47, ak_48, ak_49, ak_50, ak_51, ak_52, ak_53, ak_54, ak_55, ak_56, al_45, al_46, al_47, al_48, al_49, al_50, al_51, al_52, al_53, al_54, al_55, al_56, l45, l46, l47, l48, l49, l50, l51, l52, l53, l54, a45, a46, a47, a48, a49, a50, a51, a52, a53, a54, in46_0, in46_1, in46_2, in46_3, in46_4, in46_5, cn_0, cn_1, cn_2, cn_3, cn_4, cn_5, i10, i01, zb_t, zb_f, not_true_eq_false, not_false_eq_true, if_true, if_false, true_or, sp_in1, md_1, md_6, md_5, n8, c1, c2, en]
/-- one rock's numbers -/
theorem mrow (h : mh I 45 t n) {k : Nat} (hk : k < n) : I 45 (6 + 5 * k) = nI (t (6 + 5 * k)) ∧ I 45 (7 + 5 * k) = nI (t (7 + 5 * k)) ∧ I 45 (8 + 5 * k) = nI (t (8 + 5 * k)) ∧ I 45 (9 + 5 * k) = nI (t (9 + 5 * k)) ∧ I 45 (10 + 5 * k) = nI (t (10 + 5 * k)) := ⟨h _ (by omega), h _ (by omega), h _ (by omega), h _ (by omega), h _ (by omega)⟩
theorem gt0 (h : mh I 45 t n) (hn : n ≤ 8) {k : Nat} (hk : k < n) : den nM_get (0, [some (.ref 44), some (.int (nI k)), some (.int 0)], [], (I, J)) = some (some (.int (nI (t (6 + 5 * k)))), (I, J)) := sp_get h hn hk (j := 0) (by decide)
theorem gt1 (h : mh I 45 t n) (hn : n ≤ 8) {k : Nat} (hk : k < n) : den nM_get (0, [some (.ref 44), some (.int (nI k)), some (.int 1)], [], (I, J)) = some (some (.int (nI (t (7 + 5 * k)))), (I, J)) := by
  rw [show 7 + 5 * k = 6 + 5 * k + 1 by omega]; exact sp_get h hn hk (j := 1) (by decide)
theorem gt2 (h : mh I 45 t n) (hn : n ≤ 8) {k : Nat} (hk : k < n) : den nM_get (0, [some (.ref 44), some (.int (nI k)), some (.int 2)], [], (I, J)) = some (some (.int (nI (t (8 + 5 * k)))), (I, J)) := by
  rw [show 8 + 5 * k = 6 + 5 * k + 2 by omega]; exact sp_get h hn hk (j := 2) (by decide)
theorem gt3 (h : mh I 45 t n) (hn : n ≤ 8) {k : Nat} (hk : k < n) : den nM_get (0, [some (.ref 44), some (.int (nI k)), some (.int 3)], [], (I, J)) = some (some (.int (nI (t (9 + 5 * k)))), (I, J)) := by
  rw [show 9 + 5 * k = 6 + 5 * k + 3 by omega]; exact sp_get h hn hk (j := 3) (by decide)
theorem gt4 (h : mh I 45 t n) (hn : n ≤ 8) {k : Nat} (hk : k < n) : den nM_get (0, [some (.ref 44), some (.int (nI k)), some (.int 4)], [], (I, J)) = some (some (.int (nI (t (10 + 5 * k)))), (I, J)) := by
  rw [show 10 + 5 * k = 6 + 5 * k + 4 by omega]; exact sp_get h hn hk (j := 4) (by decide)
end
