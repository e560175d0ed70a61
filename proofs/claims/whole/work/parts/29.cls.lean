/-! ===== lays ===== -/
section
variable {I I' : Nat → Nat → Int32} {J J' : Nat → Nat → Int64} {a : Nat} {t t' : Nat → Nat} {n n' kp B : Nat} {u : Nat → Nat} {m : Nat} {y : Nat → Int32} {bt : Nat → Nat} {L : Nat} {w z : Nat → Nat} {num : Nat → Nat → Int64}
/-- how a call of a sheet is refused -/
theorem X_lays_miss (h : Cl I J t n kp u m y bt L w z num) {s : Nat} (hs : s < 4) (hw : w s = 0) : XR nX_lays [some (.ref 0), some (.int (nI s)), none, none, none, none, none, none] I J (.int (fnd 5)) (fun I' J' => Cl I' J' t n kp u m (inc y 5) bt L w z num) := by
  refine XR.fnd (by decide) h ?_
  simp only [eX_lays_0, eX_lays_1, eX_lays_2, eX_lays_5, eX_lays_6, eX_lays_7, eX_lays_10, eX_lays_11, eX_lays_12, eX_lays_13, eX_lays_16, eX_lays_17, eX_lays_18, eX_lays_19, eX_lays_20, eX_lays_22, eX_lays_23, eX_lays_27, eX_lays_28, eX_lays_31, eX_lays_34, eX_lays_36, eX_lays_37, eX_lays_40, eX_lays_43, eX_lays_46, eX_lays_47, eX_lays_50, eX_lays_52, eX_lays_53, eX_lays_55, eX_lays_57, eX_lays_58, eX_lays_59, eX_lays_62, eX_lays_64, eX_lays_67, eX_lays_68, eX_lays_71, eX_lays_72, eX_lays_75, eX_lays_78, eX_lays_80, eX_lays_81, eX_lays_83, eX_lays_84, eX_lays_87, eX_lays_90, eX_lays_93, eX_lays_96, eX_lays_98, eq_self, hr_k_some, Option.toList, List.cons_append, List.nil_append, is2k_n, is2k_i, is2k_r, is2k_0, oc_0, ro_00, ro_01, ro_02, ro_04, ro_05, ro_06, ro_07, oc_1, oc_11, oc_21, oc_31, oc_32, ro_16, ro_b6, ak_2, ak_12, al_2, al_12, ra_2, ra_12, i10, i01, zb_t, zb_f, not_true_eq_false, not_false_eq_true, if_true, if_false, sp_found0, sp_found1, sp_found2, sp_found3, sp_found4, sp_found5, sp_found6, true_or, sp_fault_miss h hs hw, fz5]
theorem X_lays_no (h : Cl I J t n kp u m y bt L w z num) {a1 : Int32} (hs : ¬ rng a1 4) : XR nX_lays [some (.ref 0), some (.int a1), none, none, none, none, none, none] I J (.int (fnd 0)) (fun I' J' => Cl I' J' t n kp u m (inc y 0) bt L w z num) := by
  refine XR.fnd (by decide) h ?_
  simp only [eX_lays_0, eX_lays_1, eX_lays_2, eX_lays_5, eX_lays_6, eX_lays_7, eX_lays_10, eX_lays_11, eX_lays_12, eX_lays_13, eX_lays_16, eX_lays_17, eX_lays_18, eX_lays_19, eX_lays_20, eX_lays_22, eX_lays_23, eX_lays_27, eX_lays_28, eX_lays_31, eX_lays_34, eX_lays_36, eX_lays_37, eX_lays_40, eX_lays_43, eX_lays_46, eX_lays_47, eX_lays_50, eX_lays_52, eX_lays_53, eX_lays_55, eX_lays_57, eX_lays_58, eX_lays_59, eX_lays_62, eX_lays_64, eX_lays_67, eX_lays_68, eX_lays_71, eX_lays_72, eX_lays_75, eX_lays_78, eX_lays_80, eX_lays_81, eX_lays_83, eX_lays_84, eX_lays_87, eX_lays_90, eX_lays_93, eX_lays_96, eX_lays_98, eq_self, hr_k_some, Option.toList, List.cons_append, List.nil_append, is2k_n, is2k_i, is2k_r, is2k_0, oc_0, ro_00, ro_01, ro_02, ro_04, ro_05, ro_06, ro_07, oc_1, oc_11, oc_21, oc_31, oc_32, ro_16, ro_b6, ak_2, ak_12, al_2, al_12, ra_2, ra_12, i10, i01, zb_t, zb_f, not_true_eq_false, not_false_eq_true, if_true, if_false, sp_found0, sp_found1, sp_found2, sp_found3, sp_found4, sp_found5, sp_found6, true_or, sp_fault_no hs, fz0]
theorem X_book_miss (h : Cl I J t n kp u m y bt L w z num) {s : Nat} (hs : s < 4) (hw : w s = 0) : XR nX_book [some (.ref 0), some (.int (nI s)), none, none, none] I J (.int (fnd 5)) (fun I' J' => Cl I' J' t n kp u m (inc y 5) bt L w z num) := by
  refine XR.fnd (by decide) h ?_
  simp only [eX_book_0, eX_book_1, eX_book_2, eX_book_5, eX_book_6, eX_book_7, eX_book_10, eX_book_11, eX_book_12, eX_book_13, eX_book_16, eX_book_17, eX_book_18, eX_book_19, eX_book_20, eX_book_23, eX_book_24, eX_book_28, eX_book_29, eX_book_32, eX_book_35, eX_book_36, eX_book_38, eX_book_39, eX_book_42, eX_book_45, eX_book_46, eX_book_49, eX_book_50, eX_book_53, eX_book_56, eX_book_59, eX_book_62, eX_book_63, eX_book_66, eq_self, hr_k_some, Option.toList, List.cons_append, List.nil_append, is2k_n, is2k_i, is2k_r, is2k_0, oc_0, ro_00, ro_01, ro_02, ro_04, ro_05, ro_06, ro_07, oc_1, oc_11, oc_21, oc_31, oc_32, ro_16, ro_b6, ak_2, ak_12, al_2, al_12, ra_2, ra_12, i10, i01, zb_t, zb_f, not_true_eq_false, not_false_eq_true, if_true, if_false, sp_found0, sp_found1, sp_found2, sp_found3, sp_found4, sp_found5, sp_found6, true_or, sp_fault_miss h hs hw, fz5]
theorem X_book_no (h : Cl I J t n kp u m y bt L w z num) {a1 : Int32} (hs : ¬ rng a1 4) : XR nX_book [some (.ref 0), some (.int a1), none, none, none] I J (.int (fnd 0)) (fun I' J' => Cl I' J' t n kp u m (inc y 0) bt L w z num) := by
  refine XR.fnd (by decide) h ?_
  simp only [eX_book_0, eX_book_1, eX_book_2, eX_book_5, eX_book_6, eX_book_7, eX_book_10, eX_book_11, eX_book_12, eX_book_13, eX_book_16, eX_book_17, eX_book_18, eX_book_19, eX_book_20, eX_book_23, eX_book_24, eX_book_28, eX_book_29, eX_book_32, eX_book_35, eX_book_36, eX_book_38, eX_book_39, eX_book_42, eX_book_45, eX_book_46, eX_book_49, eX_book_50, eX_book_53, eX_book_56, eX_book_59, eX_book_62, eX_book_63, eX_book_66, eq_self, hr_k_some, Option.toList, List.cons_append, List.nil_append, is2k_n, is2k_i, is2k_r, is2k_0, oc_0, ro_00, ro_01, ro_02, ro_04, ro_05, ro_06, ro_07, oc_1, oc_11, oc_21, oc_31, oc_32, ro_16, ro_b6, ak_2, ak_12, al_2, al_12, ra_2, ra_12, i10, i01, zb_t, zb_f, not_true_eq_false, not_false_eq_true, if_true, if_false, sp_found0, sp_found1, sp_found2, sp_found3, sp_found4, sp_found5, sp_found6, true_or, sp_fault_no hs, fz0]
theorem X_read_miss (h : Cl I J t n kp u m y bt L w z num) {s : Nat} (hs : s < 4) (hw : w s = 0) : XR nX_read [some (.ref 0), some (.int (nI s)), none, none, none, none, none] I J (.int (fnd 5)) (fun I' J' => Cl I' J' t n kp u m (inc y 5) bt L w z num) := by
  refine XR.fnd (by decide) h ?_
  simp only [eX_read_0, eX_read_1, eX_read_2, eX_read_5, eX_read_6, eX_read_7, eX_read_10, eX_read_11, eX_read_12, eX_read_13, eX_read_16, eX_read_17, eX_read_18, eX_read_19, eX_read_20, eX_read_22, eX_read_23, eX_read_27, eX_read_29, eX_read_32, eX_read_33, eX_read_37, eX_read_38, eX_read_41, eX_read_42, eX_read_45, eX_read_46, eX_read_49, eX_read_51, eX_read_54, eX_read_55, eX_read_58, eX_read_60, eX_read_63, eX_read_64, eX_read_65, eX_read_68, eX_read_71, eX_read_74, eX_read_77, eX_read_80, eX_read_83, eX_read_86, eX_read_89, eX_read_91, eq_self, hr_k_some, Option.toList, List.cons_append, List.nil_append, is2k_n, is2k_i, is2k_r, is2k_0, oc_0, ro_00, ro_01, ro_02, ro_04, ro_05, ro_06, ro_07, oc_1, oc_11, oc_21, oc_31, oc_32, ro_16, ro_b6, ak_2, ak_12, al_2, al_12, ra_2, ra_12, i10, i01, zb_t, zb_f, not_true_eq_false, not_false_eq_true, if_true, if_false, sp_found0, sp_found1, sp_found2, sp_found3, sp_found4, sp_found5, sp_found6, true_or, sp_fault_miss h hs hw, fz5]
theorem X_read_no (h : Cl I J t n kp u m y bt L w z num) {a1 : Int32} (hs : ¬ rng a1 4) : XR nX_read [some (.ref 0), some (.int a1), none, none, none, none, none] I J (.int (fnd 0)) (fun I' J' => Cl I' J' t n kp u m (inc y 0) bt L w z num) := by
  refine XR.fnd (by decide) h ?_
  simp only [eX_read_0, eX_read_1, eX_read_2, eX_read_5, eX_read_6, eX_read_7, eX_read_10, eX_read_11, eX_read_12, eX_read_13, eX_read_16, eX_read_17, eX_read_18, eX_read_19, eX_read_20, eX_read_22, eX_read_23, eX_read_27, eX_read_29, eX_read_32, eX_read_33, eX_read_37, eX_read_38, eX_read_41, eX_read_42, eX_read_45, eX_read_46, eX_read_49, eX_read_51, eX_read_54, eX_read_55, eX_read_58, eX_read_60, eX_read_63, eX_read_64, eX_read_65, eX_read_68, eX_read_71, eX_read_74, eX_read_77, eX_read_80, eX_read_83, eX_read_86, eX_read_89, eX_read_91, eq_self, hr_k_some, Option.toList, List.cons_append, List.nil_append, is2k_n, is2k_i, is2k_r, is2k_0, oc_0, ro_00, ro_01, ro_02, ro_04, ro_05, ro_06, ro_07, oc_1, oc_11, oc_21, oc_31, oc_32, ro_16, ro_b6, ak_2, ak_12, al_2, al_12, ra_2, ra_12, i10, i01, zb_t, zb_f, not_true_eq_false, not_false_eq_true, if_true, if_false, sp_found0, sp_found1, sp_found2, sp_found3, sp_found4, sp_found5, sp_found6, true_or, sp_fault_no hs, fz0]
theorem l2n {v : Int64} (h0 : ¬ v < 0) (h1 : ¬ 99 < v) : v.toInt32 = nI v.toInt.toNat ∧ v.toInt.toNat ≤ 99 := by
  rw [Int64.lt_iff_toInt_lt] at h0 h1
  have e0 : (0 : Int64).toInt = 0 := rfl
  have e9 : (99 : Int64).toInt = 99 := rfl
  rw [e0] at h0
  rw [e9] at h1
  refine ⟨?_, by omega⟩
  apply Int32.toInt_inj.mp
  rw [Int64.toInt_toInt32, nI_toInt (by omega)]
  rw [Int.bmod_eq_of_le (by omega) (by omega)]
  omega
/-- the horns after k numbers of a sheet, and how many came -/
def lyV (t : Nat → Nat) (f : Nat → Int64) : Nat → (Nat → Nat) × Nat
  | 0 => (t, 0)
  | k + 1 => if ¬ f k < 0 ∧ ¬ 99 < f k then (chV (lyV t f k).1 k 2 (f k).toInt.toNat, (lyV t f k).2 + 1) else lyV t f k
theorem lyV_s {f : Nat → Int64} {k : Nat} : lyV t f (k + 1) = if ¬ f k < 0 ∧ ¬ 99 < f k then (chV (lyV t f k).1 k 2 (f k).toInt.toNat, (lyV t f k).2 + 1) else lyV t f k := rfl
theorem lays_loop {s : Nat} (hs : s < 4) : ∀ (d k : Nat) (I : Nat → Nat → Int32) (x6 x7 : Option Value), k + d = min (z s) n → Cl I J (lyV t (num s) k).1 n kp u m y bt L w z num → ∃ I', den nX_lays (25, [some (.ref 0), some (.int (nI s)), some (.int 0), some (.ref (35 + 2 * s)), some (.int (nI (lyV t (num s) k).2)), some (.int (nI k)), x6, x7], [], (I, J)) = some (some (.int (nI (lyV t (num s) (min (z s) n)).2)), (I', J)) ∧ Cl I' J (lyV t (num s) (min (z s) n)).1 n kp u m y bt L w z num ∧ offX I I' := by
  intro d
  induction d with
  | zero =>
    intro k I x6 x7 hk h
    have hn := h.2.1.2.1
    obtain ⟨a1, a2, a3, a4, a5⟩ := h.2.2.2.2.2 s hs
    have hk' : k = min (z s) n := by omega
    rw [← hk']
    refine ⟨I, ?_, h, offX.rfl⟩
    by_cases c : z s ≤ k
    · simp only [eX_lays_0, eX_lays_1, eX_lays_2, eX_lays_5, eX_lays_6, eX_lays_7, eX_lays_10, eX_lays_11, eX_lays_12, eX_lays_13, eX_lays_16, eX_lays_17, eX_lays_18, eX_lays_19, eX_lays_20, eX_lays_22, eX_lays_23, eX_lays_25, eX_lays_27, eX_lays_28, eX_lays_31, eX_lays_34, eX_lays_36, eX_lays_37, eX_lays_40, eX_lays_43, eX_lays_46, eX_lays_47, eX_lays_50, eX_lays_52, eX_lays_53, eX_lays_55, eX_lays_57, eX_lays_58, eX_lays_59, eX_lays_62, eX_lays_64, eX_lays_67, eX_lays_68, eX_lays_71, eX_lays_72, eX_lays_75, eX_lays_78, eX_lays_80, eX_lays_81, eX_lays_83, eX_lays_84, eX_lays_87, eX_lays_90, eX_lays_93, eX_lays_96, eX_lays_98, eq_self, hr_k_some, Option.toList, List.cons_append, List.nil_append, is2k_n, is2k_i, is2k_r, is2k_0, oc_0, ro_00, ro_01, ro_02, ro_04, ro_05, ro_06, ro_07, oc_1, oc_11, oc_21, oc_31, oc_32, ro_16, ro_b6, ak_2, ak_12, al_2, al_12, ra_2, ra_12, i10, i01, zb_t, zb_f, not_true_eq_false, not_false_eq_true, if_true, if_false, sp_found0, sp_found1, sp_found2, sp_found3, sp_found4, sp_found5, sp_found6, true_or, oc_sheet hs, a3, leT c (show k < 2 ^ 31 by omega)]
    · simp only [eX_lays_0, eX_lays_1, eX_lays_2, eX_lays_5, eX_lays_6, eX_lays_7, eX_lays_10, eX_lays_11, eX_lays_12, eX_lays_13, eX_lays_16, eX_lays_17, eX_lays_18, eX_lays_19, eX_lays_20, eX_lays_22, eX_lays_23, eX_lays_25, eX_lays_27, eX_lays_28, eX_lays_31, eX_lays_34, eX_lays_36, eX_lays_37, eX_lays_40, eX_lays_43, eX_lays_46, eX_lays_47, eX_lays_50, eX_lays_52, eX_lays_53, eX_lays_55, eX_lays_57, eX_lays_58, eX_lays_59, eX_lays_62, eX_lays_64, eX_lays_67, eX_lays_68, eX_lays_71, eX_lays_72, eX_lays_75, eX_lays_78, eX_lays_80, eX_lays_81, eX_lays_83, eX_lays_84, eX_lays_87, eX_lays_90, eX_lays_93, eX_lays_96, eX_lays_98, eq_self, hr_k_some, Option.toList, List.cons_append, List.nil_append, is2k_n, is2k_i, is2k_r, is2k_0, oc_0, ro_00, ro_01, ro_02, ro_04, ro_05, ro_06, ro_07, oc_1, oc_11, oc_21, oc_31, oc_32, ro_16, ro_b6, ak_2, ak_12, al_2, al_12, ra_2, ra_12, i10, i01, zb_t, zb_f, not_true_eq_false, not_false_eq_true, if_true, if_false, sp_found0, sp_found1, sp_found2, sp_found3, sp_found4, sp_found5, sp_found6, true_or, oc_sheet hs, a3, leF (show k < z s by omega) (show z s < 2 ^ 31 by omega), h.h5, leT (show n ≤ k by omega) (show k < 2 ^ 31 by omega)]
  | succ d ih =>
    intro k I x6 x7 hk h
    have hn := h.2.1.2.1
    obtain ⟨a1, a2, a3, a4, a5⟩ := h.2.2.2.2.2 s hs
    have hkz : k < z s := by omega
    have hkn : k < n := by omega
    have hk8 : k < 8 := by omega
    have l1 : (lg_cmp (num s k) 0 < 0) = (num s k < 0) := propext (lg_cmp_lt _ _)
    have l2 : (0 < lg_cmp (num s k) 99) = (99 < num s k) := propext (lg_cmp_gt _ _)
    rw [eX_lays_25]
    simp only [eX_lays_0, eX_lays_1, eX_lays_2, eX_lays_5, eX_lays_6, eX_lays_7, eX_lays_10, eX_lays_11, eX_lays_12, eX_lays_13, eX_lays_16, eX_lays_17, eX_lays_18, eX_lays_19, eX_lays_20, eX_lays_22, eX_lays_23, eX_lays_27, eX_lays_28, eX_lays_31, eX_lays_34, eX_lays_36, eX_lays_37, eX_lays_40, eX_lays_43, eX_lays_46, eX_lays_47, eX_lays_50, eX_lays_52, eX_lays_53, eX_lays_55, eX_lays_57, eX_lays_58, eX_lays_59, eX_lays_62, eX_lays_64, eX_lays_67, eX_lays_68, eX_lays_72, eX_lays_75, eX_lays_78, eX_lays_80, eX_lays_81, eX_lays_83, eX_lays_84, eX_lays_87, eX_lays_90, eX_lays_93, eX_lays_96, eX_lays_98, eq_self, hr_k_some, Option.toList, List.cons_append, List.nil_append, is2k_n, is2k_i, is2k_r, is2k_0, oc_0, ro_00, ro_01, ro_02, ro_04, ro_05, ro_06, ro_07, oc_1, oc_11, oc_21, oc_31, oc_32, ro_16, ro_b6, ak_2, ak_12, al_2, al_12, ra_2, ra_12, i10, i01, zb_t, zb_f, not_true_eq_false, not_false_eq_true, if_true, if_false, sp_found0, sp_found1, sp_found2, sp_found3, sp_found4, sp_found5, sp_found6, true_or, oc_sheet hs, a3, leF hkz (show z s < 2 ^ 31 by omega), h.h5, leF hkn (show n < 2 ^ 31 by omega), ro_sheet hs, ak_sheet hs, al_sheet hs, in_40 (show k < 40 by omega), cl_nI (show k < 100000 by omega), a5 k (by omega), l1, l2, nI_1]
    by_cases c1 : num s k < 0
    · obtain ⟨I', e', h', o'⟩ := ih (k + 1) I (some (.long (num s k))) none (by omega) (by rw [lyV_s, if_neg (fun q => q.1 c1)]; exact h)
      refine ⟨I', ?_, h', o'⟩
      rw [lyV_s, if_neg (fun q => q.1 c1)] at e'
      simp only [c1, if_true]
      exact e'
    · by_cases c2 : 99 < num s k
      · obtain ⟨I', e', h', o'⟩ := ih (k + 1) I (some (.long (num s k))) none (by omega) (by rw [lyV_s, if_neg (fun q => q.2 c2)]; exact h)
        refine ⟨I', ?_, h', o'⟩
        rw [lyV_s, if_neg (fun q => q.2 c2)] at e'
        simp only [c1, c2, if_true, if_false]
        exact e'
      · obtain ⟨g1, g2⟩ := l2n c1 c2
        have ho : off 1 I (up2 I (3 + k) 2 (nI (num s k).toInt.toNat)) := off.rfl.up ⟨by omega, by omega⟩
        have h2 : Cl (up2 I (3 + k) 2 (nI (num s k).toInt.toNat)) J (chV (lyV t (num s) k).1 k 2 (num s k).toInt.toNat) n kp u m y bt L w z num := h.move (offX.of1 ho) (h.1.rock (by decide)) (set_V h.2.1 hkn ⟨by decide, by decide⟩ g2)
        obtain ⟨I', e', h', o'⟩ := ih (k + 1) _ (some (.long (num s k))) none (by omega) (by rw [lyV_s, if_pos ⟨c1, c2⟩]; exact h2)
        refine ⟨I', ?_, h', (offX.of1 ho).trans o'⟩
        rw [lyV_s, if_pos ⟨c1, c2⟩] at e'
        simp only [c1, c2, if_false, eX_lays_0, eX_lays_1, eX_lays_2, eX_lays_5, eX_lays_6, eX_lays_7, eX_lays_10, eX_lays_11, eX_lays_12, eX_lays_13, eX_lays_16, eX_lays_17, eX_lays_18, eX_lays_19, eX_lays_20, eX_lays_22, eX_lays_23, eX_lays_27, eX_lays_28, eX_lays_31, eX_lays_34, eX_lays_36, eX_lays_37, eX_lays_40, eX_lays_43, eX_lays_46, eX_lays_47, eX_lays_50, eX_lays_52, eX_lays_53, eX_lays_55, eX_lays_57, eX_lays_58, eX_lays_59, eX_lays_62, eX_lays_64, eX_lays_67, eX_lays_68, eX_lays_71, eX_lays_72, eX_lays_75, eX_lays_78, eX_lays_80, eX_lays_81, eX_lays_83, eX_lays_84, eX_lays_87, eX_lays_90, eX_lays_93, eX_lays_96, eX_lays_98, eq_self, hr_k_some, Option.toList, List.cons_append, List.nil_append, is2k_n, is2k_i, is2k_r, is2k_0, oc_0, ro_00, ro_01, ro_02, ro_04, ro_05, ro_06, ro_07, oc_1, oc_11, oc_21, oc_31, oc_32, ro_16, ro_b6, ak_2, ak_12, al_2, al_12, ra_2, ra_12, i10, i01, zb_t, zb_f, not_true_eq_false, not_false_eq_true, if_true, if_false, sp_found0, sp_found1, sp_found2, sp_found3, sp_found4, sp_found5, sp_found6, true_or, in_8 hk8, cl_nI (show k < 100000 by omega), oc_r1 hk8, g1, nI_1]
        exact e'
theorem X_lays_ok (h : Cl I J t n kp u m y bt L w z num) {s : Nat} (hs : s < 4) (hw : w s ≠ 0) : XR nX_lays [some (.ref 0), some (.int (nI s)), none, none, none, none, none, none] I J (.int (nI (lyV t (num s) (min (z s) n)).2)) (fun I' J' => Cl I' J' (lyV t (num s) (min (z s) n)).1 n kp u m y bt L w z num) := by
  obtain ⟨I', e', h', o'⟩ := lays_loop (t := t) (num := num) hs (min (z s) n) 0 I none none (by omega) h
  refine ⟨I', J, ?_, o'.fr, h'⟩
  simp only [eX_lays_0, eX_lays_1, eX_lays_2, eX_lays_5, eX_lays_6, eX_lays_7, eX_lays_10, eX_lays_11, eX_lays_12, eX_lays_13, eX_lays_16, eX_lays_17, eX_lays_18, eX_lays_19, eX_lays_20, eX_lays_22, eX_lays_23, eX_lays_27, eX_lays_28, eX_lays_31, eX_lays_34, eX_lays_36, eX_lays_37, eX_lays_40, eX_lays_43, eX_lays_46, eX_lays_47, eX_lays_50, eX_lays_52, eX_lays_53, eX_lays_55, eX_lays_57, eX_lays_58, eX_lays_59, eX_lays_62, eX_lays_64, eX_lays_67, eX_lays_68, eX_lays_71, eX_lays_72, eX_lays_75, eX_lays_78, eX_lays_80, eX_lays_81, eX_lays_83, eX_lays_84, eX_lays_87, eX_lays_90, eX_lays_93, eX_lays_96, eX_lays_98, eq_self, hr_k_some, Option.toList, List.cons_append, List.nil_append, is2k_n, is2k_i, is2k_r, is2k_0, oc_0, ro_00, ro_01, ro_02, ro_04, ro_05, ro_06, ro_07, oc_1, oc_11, oc_21, oc_31, oc_32, ro_16, ro_b6, ak_2, ak_12, al_2, al_12, ra_2, ra_12, i10, i01, zb_t, zb_f, not_true_eq_false, not_false_eq_true, if_true, if_false, sp_found0, sp_found1, sp_found2, sp_found3, sp_found4, sp_found5, sp_found6, true_or, or_true, sp_fault_ok h hs hw, ak_34, al_34, in_4 hs, cl_nI (show s < 100000 by omega), ra_sheet]
  exact e'
/-! ===== book ===== -/
def bkN (num : Nat → Nat → Int64) (b s : Nat) (t : Nat → Nat) (n : Nat) : Nat → (Nat → Nat → Int64)
  | 0 => num
  | k + 1 => upN (bkN num b s t n k) s k (nar b (nI (goN t n k 1)).toInt64)
theorem bkN_s {b s k : Nat} : bkN num b s t n (k + 1) = upN (bkN num b s t n k) s k (nar b (nI (goN t n k 1)).toInt64) := rfl
theorem book_loop {s : Nat} (hs : s < 4) : ∀ (d k : Nat) (I : Nat → Nat → Int32) (J : Nat → Nat → Int64), k + d = z s → Cl I J t n kp u m y bt L w z (bkN num (w s) s t n k) → hold I 11 (goN t n k) n → ∃ I' J', den nX_book (26, [some (.ref 0), some (.int (nI s)), some (.int 0), some (.ref (35 + 2 * s)), some (.int (nI k))], [], (I, J)) = some (some (.int (nI (z s))), (I', J')) ∧ Cl I' J' t n kp u m y bt L w z (bkN num (w s) s t n (z s)) ∧ frX I I' J J' := by
  intro d
  induction d with
  | zero =>
    intro k I J hk h hH
    obtain ⟨a1, a2, a3, a4, a5⟩ := h.2.2.2.2.2 s hs
    have hk' : k = z s := by omega
    rw [← hk']
    refine ⟨I, J, ?_, h, frX.rfl⟩
    rw [← hk'] at a3
    simp only [eX_book_0, eX_book_1, eX_book_2, eX_book_5, eX_book_6, eX_book_7, eX_book_10, eX_book_11, eX_book_12, eX_book_13, eX_book_16, eX_book_17, eX_book_18, eX_book_19, eX_book_20, eX_book_23, eX_book_24, eX_book_26, eX_book_28, eX_book_29, eX_book_32, eX_book_35, eX_book_36, eX_book_38, eX_book_39, eX_book_42, eX_book_45, eX_book_46, eX_book_49, eX_book_50, eX_book_53, eX_book_56, eX_book_59, eX_book_62, eX_book_63, eX_book_66, eq_self, hr_k_some, Option.toList, List.cons_append, List.nil_append, is2k_n, is2k_i, is2k_r, is2k_0, oc_0, ro_00, ro_01, ro_02, ro_04, ro_05, ro_06, ro_07, oc_1, oc_11, oc_21, oc_31, oc_32, ro_16, ro_b6, ak_2, ak_12, al_2, al_12, ra_2, ra_12, i10, i01, zb_t, zb_f, not_true_eq_false, not_false_eq_true, if_true, if_false, sp_found0, sp_found1, sp_found2, sp_found3, sp_found4, sp_found5, sp_found6, true_or, oc_sheet hs, a3, leT (Nat.le_refl k) (show k < 2 ^ 31 by omega)]
  | succ d ih =>
    intro k I J hk h hH
    obtain ⟨a1, a2, a3, a4, a5⟩ := h.2.2.2.2.2 s hs
    have hkz : k < z s := by omega
    have g1 : I 11 1 = nI (goN t n k 1) := hH.1.2.1
    obtain ⟨I1, e1, hH1, ho1⟩ := sp_goOne (J := up2 J (36 + 2 * s) k (nar (w s) (nI (goN t n k 1)).toInt64)) is11 hH (goN_V k h.2.1) (by omega)
    obtain ⟨I', J', e', h', o'⟩ := ih (k + 1) I1 _ (by omega) (h.put.t11 ho1) (by rw [goN_s]; exact hH1)
    refine ⟨I', J', ?_, h', frX.trans (fun b hb j => ⟨ho1 b (by omega) j, up2_na (by omega)⟩) o'⟩
    rw [eX_book_26]
    simp only [eX_book_0, eX_book_1, eX_book_2, eX_book_5, eX_book_6, eX_book_7, eX_book_10, eX_book_11, eX_book_12, eX_book_13, eX_book_16, eX_book_17, eX_book_18, eX_book_19, eX_book_20, eX_book_23, eX_book_24, eX_book_28, eX_book_29, eX_book_32, eX_book_35, eX_book_36, eX_book_38, eX_book_39, eX_book_42, eX_book_45, eX_book_46, eX_book_49, eX_book_50, eX_book_53, eX_book_56, eX_book_59, eX_book_62, eX_book_63, eX_book_66, eq_self, hr_k_some, Option.toList, List.cons_append, List.nil_append, is2k_n, is2k_i, is2k_r, is2k_0, oc_0, ro_00, ro_01, ro_02, ro_04, ro_05, ro_06, ro_07, oc_1, oc_11, oc_21, oc_31, oc_32, ro_16, ro_b6, ak_2, ak_12, al_2, al_12, ra_2, ra_12, i10, i01, zb_t, zb_f, not_true_eq_false, not_false_eq_true, if_true, if_false, sp_found0, sp_found1, sp_found2, sp_found3, sp_found4, sp_found5, sp_found6, true_or, oc_sheet hs, a3, leF hkz (show z s < 2 ^ 31 by omega), g1, sp_put hs (show k < 40 by omega) (w_lt a2) a1, e1, nI_1]
    exact e'
theorem X_book_ok (h : Cl I J t n kp u m y bt L w z num) {s : Nat} (hs : s < 4) (hw : w s ≠ 0) : XR nX_book [some (.ref 0), some (.int (nI s)), none, none, none] I J (.int (nI (z s))) (fun I' J' => Cl I' J' t n kp u m y bt L w z (bkN num (w s) s t n (z s))) := by
  obtain ⟨I', J', e', h', o'⟩ := book_loop (t := t) (num := num) hs (z s) 0 _ J (by omega) (try_cl h) (try_hold h)
  refine ⟨I', J', ?_, frX.trans (offX.of11 (try_off h)).fr o', h'⟩
  simp only [eX_book_0, eX_book_1, eX_book_2, eX_book_5, eX_book_6, eX_book_7, eX_book_10, eX_book_11, eX_book_12, eX_book_13, eX_book_16, eX_book_17, eX_book_18, eX_book_19, eX_book_20, eX_book_23, eX_book_24, eX_book_28, eX_book_29, eX_book_32, eX_book_35, eX_book_36, eX_book_38, eX_book_39, eX_book_42, eX_book_45, eX_book_46, eX_book_49, eX_book_50, eX_book_53, eX_book_56, eX_book_59, eX_book_62, eX_book_63, eX_book_66, eq_self, hr_k_some, Option.toList, List.cons_append, List.nil_append, is2k_n, is2k_i, is2k_r, is2k_0, oc_0, ro_00, ro_01, ro_02, ro_04, ro_05, ro_06, ro_07, oc_1, oc_11, oc_21, oc_31, oc_32, ro_16, ro_b6, ak_2, ak_12, al_2, al_12, ra_2, ra_12, i10, i01, zb_t, zb_f, not_true_eq_false, not_false_eq_true, if_true, if_false, sp_found0, sp_found1, sp_found2, sp_found3, sp_found4, sp_found5, sp_found6, true_or, or_true, sp_fault_ok h hs hw, ak_34, al_34, in_4 hs, cl_nI (show s < 100000 by omega), ra_sheet, sp_try h]
  exact e'
end
