section
variable {I I' : Nat → Nat → Int32} {J J' : Nat → Nat → Int64} {t t' : Nat → Nat} {n B : Nat}
/-- nothing but one row has changed -/
def oR (a : Nat) (I I' : Nat → Nat → Int32) : Prop := ∀ b, b ≠ a → ∀ j, I' b j = I b j
theorem oR.rfl {a : Nat} : oR a I I := fun _ _ _ => Eq.refl _
theorem oR.up {a k : Nat} {x : Int32} : oR a I (up2 I a k x) := fun _ h _ => up2_na h
theorem oR.trans {a : Nat} {I'' : Nat → Nat → Int32} (h : oR a I I') (h' : oR a I' I'') : oR a I I'' := fun b q j => (h' b q j).trans (h b q j)
theorem aside_loop : ∀ (d k : Nat) (I : Nat → Nat → Int32), k + d = 46 → (∀ j, j < k → I 47 j = I 45 j) → ∃ I', den nM_setsAside (2, [some (.ref 44), some (.int (nI k))], [], (I, J)) = some (none, (I', J)) ∧ (∀ j, j < 46 → I' 47 j = I 45 j) ∧ oR 47 I I' := by
  intro d
  induction d with
  | zero =>
    intro k I hk h0
    have hk' : k = 46 := by omega
    subst hk'
    have e : ((46 : Int32) ≤ nI 46) = True := eq_true (by decide)
    refine ⟨I, ?_, h0, oR.rfl⟩
    simp only [eM_setsAside_0, eM_setsAside_1, eM_setsAside_2, eM_setsAside_3, eM_setsAside_5, eM_setsAside_8, eM_setsAside_9, eM_setsAside_12, eM_setsAside_13, eM_setsAside_14, eM_setsAside_17, eM_setsAside_18, eM_setsAside_19, eM_setsAside_20, eM_setsAside_23, eM_setsAside_26, eq_self, hr_k_some, Option.toList, List.cons_append, List.nil_append, is2k_n, is2k_i, is2k_r, is2k_0, oc_44, ro_m0, ro_m1, ro_m2, ro_m4, ro_m5, ro_m11, ro_m12, ro_m13, ro_m14, ro_m15, ro_m16, ro_m17, ak_45, ak_46, ak_47, ak_48, ak_49, ak_50, ak_51, ak_52, ak_53, ak_54, ak_55, ak_56, al_45, al_46, al_47, al_48, al_49, al_50, al_51, al_52, al_53, al_54, al_55, al_56, l45, l46, l47, l48, l49, l50, l51, l52, l53, l54, a45, a46, a47, a48, a49, a50, a51, a52, a53, a54, in46_0, in46_1, in46_2, in46_3, in46_4, in46_5, cn_0, cn_1, cn_2, cn_3, cn_4, cn_5, i10, i01, zb_t, zb_f, not_true_eq_false, not_false_eq_true, if_true, if_false, true_or, sp_in1, md_1, md_6, md_5, e]
  | succ d ih =>
    intro k I hk h0
    have e : ((46 : Int32) ≤ nI k) = False := leF (a := 46) (show k < 46 by omega) (by decide)
    have hr : ∀ j, up2 I 47 k (I 45 k) 45 j = I 45 j := fun j => up2_na (by decide)
    obtain ⟨I', e', h', o'⟩ := ih (k + 1) (up2 I 47 k (I 45 k)) (by omega) (fun j hj => by
      rw [hr]
      by_cases q : j = k
      · subst q; exact up2_eq
      · rw [up2_nk q]; exact h0 j (by omega))
    refine ⟨I', ?_, fun j hj => (h' j hj).trans (hr j), oR.up.trans o'⟩
    rw [eM_setsAside_2]
    simp only [eM_setsAside_3, eM_setsAside_5, eM_setsAside_8, eM_setsAside_9, eM_setsAside_12, eM_setsAside_13, eM_setsAside_14, eM_setsAside_17, eM_setsAside_18, eM_setsAside_19, eM_setsAside_20, eM_setsAside_23, eM_setsAside_26, eq_self, hr_k_some, Option.toList, List.cons_append, List.nil_append, is2k_n, is2k_i, is2k_r, is2k_0, oc_44, ro_m0, ro_m1, ro_m2, ro_m4, ro_m5, ro_m11, ro_m12, ro_m13, ro_m14, ro_m15, ro_m16, ro_m17, ak_45, ak_46, ak_47, ak_48, ak_49, ak_50, ak_51, ak_52, ak_53, ak_54, ak_55, ak_56, al_45, al_46, al_47, al_48, al_49, al_50, al_51, al_52, al_53, al_54, al_55, al_56, l45, l46, l47, l48, l49, l50, l51, l52, l53, l54, a45, a46, a47, a48, a49, a50, a51, a52, a53, a54, in46_0, in46_1, in46_2, in46_3, in46_4, in46_5, cn_0, cn_1, cn_2, cn_3, cn_4, cn_5, i10, i01, zb_t, zb_f, not_true_eq_false, not_false_eq_true, if_true, if_false, true_or, sp_in1, md_1, md_6, md_5, e, in_46 (show k < 46 by omega), cl_nI (show k < 100000 by omega), nI_1]
    exact e'
theorem m_aside : ∃ I', den nM_setsAside (0, [some (.ref 44), none], [], (I, J)) = some (none, (I', J)) ∧ (∀ j, j < 46 → I' 47 j = I 45 j) ∧ oR 47 I I' := by
  obtain ⟨I', e', h', o'⟩ := aside_loop (J := J) 46 0 I (by omega) (fun j hj => by omega)
  refine ⟨I', ?_, h', o'⟩
  simp only [eM_setsAside_0, eM_setsAside_1, eq_self, hr_k_some, Option.toList, List.cons_append, List.nil_append, is2k_n, is2k_i, is2k_r, is2k_0]
  exact e'
theorem back_loop : ∀ (d k : Nat) (I : Nat → Nat → Int32), k + d = 46 → (∀ j, j < k → I 45 j = I 47 j) → ∃ I', den nM_laysBack (2, [some (.ref 44), some (.int (nI k))], [], (I, J)) = some (none, (I', J)) ∧ (∀ j, j < 46 → I' 45 j = I 47 j) ∧ oR 45 I I' := by
  intro d
  induction d with
  | zero =>
    intro k I hk h0
    have hk' : k = 46 := by omega
    subst hk'
    have e : ((46 : Int32) ≤ nI 46) = True := eq_true (by decide)
    refine ⟨I, ?_, h0, oR.rfl⟩
    simp only [eM_laysBack_0, eM_laysBack_1, eM_laysBack_2, eM_laysBack_3, eM_laysBack_5, eM_laysBack_8, eM_laysBack_9, eM_laysBack_12, eM_laysBack_13, eM_laysBack_14, eM_laysBack_17, eM_laysBack_18, eM_laysBack_19, eM_laysBack_20, eM_laysBack_23, eM_laysBack_26, eq_self, hr_k_some, Option.toList, List.cons_append, List.nil_append, is2k_n, is2k_i, is2k_r, is2k_0, oc_44, ro_m0, ro_m1, ro_m2, ro_m4, ro_m5, ro_m11, ro_m12, ro_m13, ro_m14, ro_m15, ro_m16, ro_m17, ak_45, ak_46, ak_47, ak_48, ak_49, ak_50, ak_51, ak_52, ak_53, ak_54, ak_55, ak_56, al_45, al_46, al_47, al_48, al_49, al_50, al_51, al_52, al_53, al_54, al_55, al_56, l45, l46, l47, l48, l49, l50, l51, l52, l53, l54, a45, a46, a47, a48, a49, a50, a51, a52, a53, a54, in46_0, in46_1, in46_2, in46_3, in46_4, in46_5, cn_0, cn_1, cn_2, cn_3, cn_4, cn_5, i10, i01, zb_t, zb_f, not_true_eq_false, not_false_eq_true, if_true, if_false, true_or, sp_in1, md_1, md_6, md_5, e]
  | succ d ih =>
    intro k I hk h0
    have e : ((46 : Int32) ≤ nI k) = False := leF (a := 46) (show k < 46 by omega) (by decide)
    have hr : ∀ j, up2 I 45 k (I 47 k) 47 j = I 47 j := fun j => up2_na (by decide)
    obtain ⟨I', e', h', o'⟩ := ih (k + 1) (up2 I 45 k (I 47 k)) (by omega) (fun j hj => by
      rw [hr]
      by_cases q : j = k
      · subst q; exact up2_eq
      · rw [up2_nk q]; exact h0 j (by omega))
    refine ⟨I', ?_, fun j hj => (h' j hj).trans (hr j), oR.up.trans o'⟩
    rw [eM_laysBack_2]
    simp only [eM_laysBack_3, eM_laysBack_5, eM_laysBack_8, eM_laysBack_9, eM_laysBack_12, eM_laysBack_13, eM_laysBack_14, eM_laysBack_17, eM_laysBack_18, eM_laysBack_19, eM_laysBack_20, eM_laysBack_23, eM_laysBack_26, eq_self, hr_k_some, Option.toList, List.cons_append, List.nil_append, is2k_n, is2k_i, is2k_r, is2k_0, oc_44, ro_m0, ro_m1, ro_m2, ro_m4, ro_m5, ro_m11, ro_m12, ro_m13, ro_m14, ro_m15, ro_m16, ro_m17, ak_45, ak_46, ak_47, ak_48, ak_49, ak_50, ak_51, ak_52, ak_53, ak_54, ak_55, ak_56, al_45, al_46, al_47, al_48, al_49, al_50, al_51, al_52, al_53, al_54, al_55, al_56, l45, l46, l47, l48, l49, l50, l51, l52, l53, l54, a45, a46, a47, a48, a49, a50, a51, a52, a53, a54, in46_0, in46_1, in46_2, in46_3, in46_4, in46_5, cn_0, cn_1, cn_2, cn_3, cn_4, cn_5, i10, i01, zb_t, zb_f, not_true_eq_false, not_false_eq_true, if_true, if_false, true_or, sp_in1, md_1, md_6, md_5, e, in_46 (show k < 46 by omega), cl_nI (show k < 100000 by omega), nI_1]
    exact e'
theorem m_back : ∃ I', den nM_laysBack (0, [some (.ref 44), none], [], (I, J)) = some (none, (I', J)) ∧ (∀ j, j < 46 → I' 45 j = I 47 j) ∧ oR 45 I I' := by
  obtain ⟨I', e', h', o'⟩ := back_loop (J := J) 46 0 I (by omega) (fun j hj => by omega)
  refine ⟨I', ?_, h', o'⟩
  simp only [eM_laysBack_0, eM_laysBack_1, eq_self, hr_k_some, Option.toList, List.cons_append, List.nil_append, is2k_n, is2k_i, is2k_r, is2k_0]
  exact e'
/-- a number is put into the state -/
theorem mh.up (h : mh I 45 t n) {j x : Nat} : mh (up2 I 45 j (nI x)) 45 (upV t j x) n := by
  intro i hi
  by_cases q : i = j
  · subst q; rw [up2_eq, upV_same]
  · rw [up2_nk q, upV_ne q]; exact h i hi
theorem m_drifts (h : mh I 45 t n) (hV : V t n B) {k : Nat} (hk : k < n) : den nM_drifts (0, [some (.ref 44), some (.int (nI k)), none], [], (I, J)) = some (none, ((if d1V t k = true then up2 I 45 (7 + 5 * k) (nI (t (7 + 5 * k) - 1)) else I), J)) := by
  have hn := hV.2.1
  obtain ⟨v1, v2, v3, v4, v5⟩ := hV.rk hk
  have g0 := gt0 (J := J) h hn hk
  have g1 := gt1 (J := J) h hn hk
  have g4 := gt4 (J := J) h hn hk
  have ep : ∀ x, den nM_puts (0, [some (.ref 44), some (.int (nI k)), some (.int 1), some (.int x)], [], (I, J)) = some (none, (up2 I 45 (7 + 5 * k) x, J)) := fun x => by
    rw [show 7 + 5 * k = 6 + 5 * k + 1 by omega]
    exact sp_puts (j := 1) (by omega) (by decide)
  have e2 : (nI (t (6 + 5 * k)) = 2) = (t (6 + 5 * k) = 2) := nI_lit _ 2 (by omega) (by decide)
  have e5 : (nI (t (6 + 5 * k)) = 5) = (t (6 + 5 * k) = 5) := nI_lit _ 5 (by omega) (by decide)
  have e4 : (nI (t (10 + 5 * k)) = 0) = (t (10 + 5 * k) = 0) := nI_lit _ 0 (by omega) (by decide)
  have m8 : nI (t (7 + 5 * k)) - nI (t (7 + 5 * k)) / 8 * 8 = nI (t (7 + 5 * k) % 8) := pk_rem (d := 8) (by omega) (by decide) (by decide)
  have e8 : (nI (t (7 + 5 * k) % 8) ≤ 0) = (t (7 + 5 * k) % 8 ≤ 0) := propext (nI_leI (b := 0) (by omega) (by decide))
  by_cases ck : t (6 + 5 * k) = 2 ∨ t (6 + 5 * k) = 5
  · have es : den nM_drifts (0, [some (.ref 44), some (.int (nI k)), none], [], (I, J)) = den nM_drifts (26, [some (.ref 44), some (.int (nI k)), some (.int 1)], [], (I, J)) := by
      by_cases c2 : t (6 + 5 * k) = 2
      · simp only [eM_drifts_0, eM_drifts_1, eM_drifts_2, eM_drifts_3, eM_drifts_6, eM_drifts_7, eM_drifts_10, eM_drifts_11, eM_drifts_12, eM_drifts_13, eM_drifts_16, eM_drifts_17, eM_drifts_20, eM_drifts_21, eM_drifts_24, eM_drifts_25, eq_self, hr_k_some, Option.toList, List.cons_append, List.nil_append, is2k_n, is2k_i, is2k_r, is2k_0, oc_44, ro_m0, ro_m1, ro_m2, ro_m4, ro_m5, ro_m11, ro_m12, ro_m13, ro_m14, ro_m15, ro_m16, ro_m17, ak_45, ak_46, ak_47, ak_48, ak_49, ak_50, ak_51, ak_52, ak_53, ak_54, ak_55, ak_56, al_45, al_46, al_47, al_48, al_49, al_50, al_51, al_52, al_53, al_54, al_55, al_56, l45, l46, l47, l48, l49, l50, l51, l52, l53, l54, a45, a46, a47, a48, a49, a50, a51, a52, a53, a54, in46_0, in46_1, in46_2, in46_3, in46_4, in46_5, cn_0, cn_1, cn_2, cn_3, cn_4, cn_5, i10, i01, zb_t, zb_f, not_true_eq_false, not_false_eq_true, if_true, if_false, true_or, sp_in1, md_1, md_6, md_5, g0, e2.trans (eq_true c2)]
      · simp only [eM_drifts_0, eM_drifts_1, eM_drifts_2, eM_drifts_3, eM_drifts_6, eM_drifts_7, eM_drifts_10, eM_drifts_11, eM_drifts_12, eM_drifts_13, eM_drifts_16, eM_drifts_17, eM_drifts_20, eM_drifts_21, eM_drifts_24, eM_drifts_25, eq_self, hr_k_some, Option.toList, List.cons_append, List.nil_append, is2k_n, is2k_i, is2k_r, is2k_0, oc_44, ro_m0, ro_m1, ro_m2, ro_m4, ro_m5, ro_m11, ro_m12, ro_m13, ro_m14, ro_m15, ro_m16, ro_m17, ak_45, ak_46, ak_47, ak_48, ak_49, ak_50, ak_51, ak_52, ak_53, ak_54, ak_55, ak_56, al_45, al_46, al_47, al_48, al_49, al_50, al_51, al_52, al_53, al_54, al_55, al_56, l45, l46, l47, l48, l49, l50, l51, l52, l53, l54, a45, a46, a47, a48, a49, a50, a51, a52, a53, a54, in46_0, in46_1, in46_2, in46_3, in46_4, in46_5, cn_0, cn_1, cn_2, cn_3, cn_4, cn_5, i10, i01, zb_t, zb_f, not_true_eq_false, not_false_eq_true, if_true, if_false, true_or, sp_in1, md_1, md_6, md_5, g0, e2.trans (eq_false c2), e5.trans (eq_true (show t (6 + 5 * k) = 5 by omega))]
    rw [es]
    by_cases c4 : t (10 + 5 * k) = 0
    · by_cases c8 : t (7 + 5 * k) % 8 ≤ 0
      · rw [if_neg (fun q => by have := (of_decide_eq_true q).2.1; omega)]
        simp only [eM_drifts_26, eM_drifts_27, eM_drifts_30, eM_drifts_31, eM_drifts_32, eM_drifts_33, eM_drifts_36, eM_drifts_39, eM_drifts_40, eM_drifts_41, eM_drifts_42, eM_drifts_45, eM_drifts_47, eM_drifts_48, eM_drifts_51, eM_drifts_52, eM_drifts_53, eM_drifts_54, eM_drifts_55, eM_drifts_56, eM_drifts_57, eM_drifts_60, eM_drifts_61, eM_drifts_62, eM_drifts_65, eq_self, hr_k_some, Option.toList, List.cons_append, List.nil_append, is2k_n, is2k_i, is2k_r, is2k_0, oc_44, ro_m0, ro_m1, ro_m2, ro_m4, ro_m5, ro_m11, ro_m12, ro_m13, ro_m14, ro_m15, ro_m16, ro_m17, ak_45, ak_46, ak_47, ak_48, ak_49, ak_50, ak_51, ak_52, ak_53, ak_54, ak_55, ak_56, al_45, al_46, al_47, al_48, al_49, al_50, al_51, al_52, al_53, al_54, al_55, al_56, l45, l46, l47, l48, l49, l50, l51, l52, l53, l54, a45, a46, a47, a48, a49, a50, a51, a52, a53, a54, in46_0, in46_1, in46_2, in46_3, in46_4, in46_5, cn_0, cn_1, cn_2, cn_3, cn_4, cn_5, i10, i01, zb_t, zb_f, not_true_eq_false, not_false_eq_true, if_true, if_false, true_or, sp_in1, md_1, md_6, md_5, g4, e4.trans (eq_true c4), g1, n8, m8, e8.trans (eq_true c8)]
      · rw [if_pos (show d1V t k = true from decide_eq_true ⟨c4, by omega, ck⟩)]
        have es1 : nI (t (7 + 5 * k)) - 1 = nI (t (7 + 5 * k) - 1) := pk_sub (b := 1) (by omega)
        simp only [eM_drifts_26, eM_drifts_27, eM_drifts_30, eM_drifts_31, eM_drifts_32, eM_drifts_33, eM_drifts_36, eM_drifts_39, eM_drifts_40, eM_drifts_41, eM_drifts_42, eM_drifts_45, eM_drifts_47, eM_drifts_48, eM_drifts_51, eM_drifts_52, eM_drifts_53, eM_drifts_54, eM_drifts_55, eM_drifts_56, eM_drifts_57, eM_drifts_60, eM_drifts_61, eM_drifts_62, eM_drifts_65, eq_self, hr_k_some, Option.toList, List.cons_append, List.nil_append, is2k_n, is2k_i, is2k_r, is2k_0, oc_44, ro_m0, ro_m1, ro_m2, ro_m4, ro_m5, ro_m11, ro_m12, ro_m13, ro_m14, ro_m15, ro_m16, ro_m17, ak_45, ak_46, ak_47, ak_48, ak_49, ak_50, ak_51, ak_52, ak_53, ak_54, ak_55, ak_56, al_45, al_46, al_47, al_48, al_49, al_50, al_51, al_52, al_53, al_54, al_55, al_56, l45, l46, l47, l48, l49, l50, l51, l52, l53, l54, a45, a46, a47, a48, a49, a50, a51, a52, a53, a54, in46_0, in46_1, in46_2, in46_3, in46_4, in46_5, cn_0, cn_1, cn_2, cn_3, cn_4, cn_5, i10, i01, zb_t, zb_f, not_true_eq_false, not_false_eq_true, if_true, if_false, true_or, sp_in1, md_1, md_6, md_5, g4, e4.trans (eq_true c4), g1, n8, m8, e8.trans (eq_false c8), es1, ep]
    · rw [if_neg (fun q => c4 (of_decide_eq_true q).1)]
      simp only [eM_drifts_26, eM_drifts_27, eM_drifts_30, eM_drifts_31, eM_drifts_32, eM_drifts_33, eM_drifts_36, eM_drifts_39, eM_drifts_40, eM_drifts_41, eM_drifts_42, eM_drifts_45, eM_drifts_47, eM_drifts_48, eM_drifts_51, eM_drifts_52, eM_drifts_53, eM_drifts_54, eM_drifts_55, eM_drifts_56, eM_drifts_57, eM_drifts_60, eM_drifts_61, eM_drifts_62, eM_drifts_65, eq_self, hr_k_some, Option.toList, List.cons_append, List.nil_append, is2k_n, is2k_i, is2k_r, is2k_0, oc_44, ro_m0, ro_m1, ro_m2, ro_m4, ro_m5, ro_m11, ro_m12, ro_m13, ro_m14, ro_m15, ro_m16, ro_m17, ak_45, ak_46, ak_47, ak_48, ak_49, ak_50, ak_51, ak_52, ak_53, ak_54, ak_55, ak_56, al_45, al_46, al_47, al_48, al_49, al_50, al_51, al_52, al_53, al_54, al_55, al_56, l45, l46, l47, l48, l49, l50, l51, l52, l53, l54, a45, a46, a47, a48, a49, a50, a51, a52, a53, a54, in46_0, in46_1, in46_2, in46_3, in46_4, in46_5, cn_0, cn_1, cn_2, cn_3, cn_4, cn_5, i10, i01, zb_t, zb_f, not_true_eq_false, not_false_eq_true, if_true, if_false, true_or, sp_in1, md_1, md_6, md_5, g4, e4.trans (eq_false c4)]
  · rw [if_neg (fun q => ck (of_decide_eq_true q).2.2)]
    simp only [eM_drifts_0, eM_drifts_1, eM_drifts_2, eM_drifts_3, eM_drifts_6, eM_drifts_7, eM_drifts_10, eM_drifts_11, eM_drifts_12, eM_drifts_13, eM_drifts_16, eM_drifts_17, eM_drifts_20, eM_drifts_21, eM_drifts_24, eM_drifts_25, eM_drifts_26, eM_drifts_27, eM_drifts_30, eM_drifts_31, eM_drifts_32, eM_drifts_33, eM_drifts_36, eM_drifts_39, eM_drifts_40, eM_drifts_41, eM_drifts_42, eM_drifts_45, eM_drifts_47, eM_drifts_48, eM_drifts_51, eM_drifts_52, eM_drifts_53, eM_drifts_54, eM_drifts_55, eM_drifts_56, eM_drifts_57, eM_drifts_60, eM_drifts_61, eM_drifts_62, eM_drifts_65, eq_self, hr_k_some, Option.toList, List.cons_append, List.nil_append, is2k_n, is2k_i, is2k_r, is2k_0, oc_44, ro_m0, ro_m1, ro_m2, ro_m4, ro_m5, ro_m11, ro_m12, ro_m13, ro_m14, ro_m15, ro_m16, ro_m17, ak_45, ak_46, ak_47, ak_48, ak_49, ak_50, ak_51, ak_52, ak_53, ak_54, ak_55, ak_56, al_45, al_46, al_47, al_48, al_49, al_50, al_51, al_52, al_53, al_54, al_55, al_56, l45, l46, l47, l48, l49, l50, l51, l52, l53, l54, a45, a46, a47, a48, a49, a50, a51, a52, a53, a54, in46_0, in46_1, in46_2, in46_3, in46_4, in46_5, cn_0, cn_1, cn_2, cn_3, cn_4, cn_5, i10, i01, zb_t, zb_f, not_true_eq_false, not_false_eq_true, if_true, if_false, true_or, sp_in1, md_1, md_6, md_5, g0, e2.trans (eq_false (fun q => ck (Or.inl q))), e5.trans (eq_false (fun q => ck (Or.inr q)))]
end
