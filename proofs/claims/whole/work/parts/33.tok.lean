/-! ===== words ===== -/
/-- ship ear longing granite bar buoy maid shoal rock at horn sweet silent -/
def wdS : List (List Nat) := [[115, 104, 105, 112], [101, 97, 114], [108, 111, 110, 103, 105, 110, 103], [103, 114, 97, 110, 105, 116, 101], [98, 97, 114], [98, 117, 111, 121], [109, 97, 105, 100], [115, 104, 111, 97, 108], [114, 111, 99, 107], [97, 116], [104, 111, 114, 110], [115, 119, 101, 101, 116], [115, 105, 108, 101, 110, 116]]
def wl (k : Nat) : Nat := (wdS.getD k []).length
def wc (k i : Nat) : Nat := (wdS.getD k []).getD i 0
theorem wl_le : ∀ k, k < 13 → wl k ≤ 7 ∧ 1 < wl k := by decide
theorem wc_lt : ∀ k, k < 13 → ∀ i, i < 7 → wc k i < 128 := by decide
theorem wl_I : ∀ k, k < 13 → (Int32.ofNat (hr_sl.getD k 0)) >>> ((0 : Int32) &&& 31) = nI (wl k) := by decide +kernel
theorem wl_N : ∀ k, k < 13 → hr_sl.getD k 0 = wl k := by decide
theorem wc_I : ∀ k, k < 13 → ∀ i, i < 7 → (((hr_sb.getD k []).getD i 0 &&& 255).toUInt32 % 65536).toInt32 = nI (wc k i) := by decide +kernel
theorem nar_c : ∀ x, x < 128 → narrow .char (.int (nI x)) = .int (nI x) := by decide +kernel
theorem nar_0 : narrow .byte (.int 0) = .int 0 := by decide +kernel
theorem sb_neg : ∀ x, x < 256 → 128 ≤ x → sbt x < 0 := by decide +kernel
theorem oc_str {k : Nat} (hk : k < 13) : hr_oc (70 + k) = 7 := if_pos ⟨by omega, by omega⟩
theorem ro_str {k : Nat} : hr_ro (70 + k) 0 = 90 + k := by unfold hr_ro; rw [if_pos (by omega)]; omega
theorem ak_str {k : Nat} (hk : k < 13) : hr_ak (90 + k) = 3 := if_pos ⟨by omega, by omega⟩
theorem al_str {k : Nat} (hk : k < 13) {h : hr_H} : hr_al h (90 + k) = hr_sl.getD k 0 := by
  unfold hr_al
  rw [if_neg (by omega), if_pos ⟨by omega, by omega⟩, show 90 + k - 90 = k by omega]
theorem ai_str {k j : Nat} {h : hr_H} : hr_ai h (90 + k) j = (hr_sb.getD k []).getD j 0 := by
  unfold hr_ai
  rw [if_neg (by omega), if_neg (by omega), if_neg (by omega), if_neg (by omega), show 90 + k - 90 = k by omega]
/-- the word k stands at b -/
def isWd (bt : Nat → Nat) (L k b : Nat) : Bool := decide (kdT bt L b = 1) && decide (enT bt L b - b = wl k) && decide (∀ i, i < wl k → bt (b + i) = wc k i)
section
variable {I I' : Nat → Nat → Int32} {J J' : Nat → Nat → Int64} {bt : Nat → Nat} {L : Nat}
theorem sp_len {k : Nat} (hk : k < 13) : den nJS_length (0, [some (.ref (70 + k))], [], (I, J)) = some (some (.int (nI (wl k))), (I, J)) := by
  simp only [eJS_length_0, eJS_length_1, eJS_length_4, eJS_length_5, eJS_length_6, eJS_length_9, eJS_length_10, eJS_coder_0, eJS_coder_3, eJS_coder_6, eJS_coder_7, eJS_coder_10, eJS_coder_13, eJS_coder_14, eq_self, hr_k_some, Option.toList, List.cons_append, List.nil_append, is2k_n, is2k_i, is2k_r, is2k_0, oc_0, ro_00, ro_01, ro_02, ro_04, ro_05, ro_06, ro_07, oc_1, oc_11, oc_21, oc_31, oc_32, ro_16, ro_b6, ak_2, ak_12, al_2, al_12, ra_2, ra_12, i10, i01, zb_t, zb_f, not_true_eq_false, not_false_eq_true, if_true, if_false, sp_found0, sp_found1, sp_found2, sp_found3, sp_found4, sp_found5, sp_found6, true_or, oc_str hk, ro_str, ak_str hk, al_str hk, nar_0, show (0 < 3) = True from eq_true (by decide), wl_I k hk]
theorem sp_chr {k i : Nat} (hk : k < 13) (hi : i < wl k) : den nJS_charAt (0, [some (.ref (70 + k)), some (.int (nI i))], [], (I, J)) = some (some (.int (nI (wc k i))), (I, J)) := by
  have hw := wl_le k hk
  have hc := wc_lt k hk i (by omega)
  have h3 : (nI i < Int32.ofNat (hr_sl.getD k 0)) = True := by
    rw [wl_N k hk]
    exact eq_true (nI_lt hi (by omega))
  have h4 : (hr_in (nI i) (hr_sl.getD k 0) = true) = True := by
    rw [wl_N k hk]
    exact eq_true (in_nI hi (by omega))
  simp only [eJS_charAt_0, eJS_charAt_1, eJS_charAt_4, eJS_charAt_7, eJS_charAt_8, eJS_charAt_11, eJS_charAt_12, eJS_charAt_15, eJS_charAt_16, eJS_charAt_17, eJS_charAt_20, eJS_charAt_21, eJS_charAt_24, eJS_isLatin1_0, eJS_isLatin1_3, eJS_isLatin1_6, eJS_isLatin1_7, eJS_isLatin1_10, eJS_isLatin1_13, eJS_isLatin1_14, eJS_isLatin1_17, eJS_isLatin1_18, eJL_charAt_0, eJL_charAt_1, eJL_charAt_2, eJL_charAt_3, eJL_charAt_6, eJL_charAt_7, eJL_charAt_8, eJL_charAt_9, eJL_charAt_12, eJL_charAt_13, eJL_charAt_14, eJS_checkIndex_0, eJS_checkIndex_1, eJS_checkIndex_2, eJS_checkIndex_5, eJS_checkIndex_8, eJS_checkIndex_9, eJP_checkIndex_0, eJP_checkIndex_1, eJP_checkIndex_4, eJP_checkIndex_5, eJP_checkIndex_6, eJP_checkIndex_9, eJP_checkIndex_10, eJP_checkIndex_11, eJP_checkIndex_16, eJP_checkIndex_17, eq_self, hr_k_some, Option.toList, List.cons_append, List.nil_append, is2k_n, is2k_i, is2k_r, is2k_0, oc_0, ro_00, ro_01, ro_02, ro_04, ro_05, ro_06, ro_07, oc_1, oc_11, oc_21, oc_31, oc_32, ro_16, ro_b6, ak_2, ak_12, al_2, al_12, ra_2, ra_12, i10, i01, zb_t, zb_f, not_true_eq_false, not_false_eq_true, if_true, if_false, sp_found0, sp_found1, sp_found2, sp_found3, sp_found4, sp_found5, sp_found6, true_or, zb_n0, zb_n1, oc_str hk, ro_str, ak_str hk, al_str hk, show (0 < 3) = True from eq_true (by decide), lt0f (show i < 2 ^ 31 by omega), h3, h4, cl_nI (show i < 100000 by omega), ai_str, wc_I k hk i (by omega), nar_c _ hc]
theorem enT_b {b : Nat} (hb : b ≤ L) : b ≤ enT bt L b ∧ enT bt L b ≤ L := enT_le hb
theorem word_loop {k b : Nat} (hk : k < 13) (hT : Tp I bt L) (h3 : I 32 3 = nI b) (hb : b + wl k ≤ L) : ∀ (d i : Nat), i + d = wl k → (∀ j, j < i → bt (b + j) = wc k j) → den nT_isWord (28, [some (.ref 32), some (.ref (70 + k)), some (.int (nI i))], [], (I, J)) = some (some (.int (zb (decide (∀ j, j < wl k → bt (b + j) = wc k j)))), (I, J)) := by
  have hL := hT.2.1
  have hw := wl_le k hk
  intro d
  induction d with
  | zero =>
    intro i hi h0
    have hi' : i = wl k := by omega
    rw [decide_eq_true (show ∀ j, j < wl k → bt (b + j) = wc k j from hi' ▸ h0)]
    simp only [eT_isWord_0, eT_isWord_1, eT_isWord_4, eT_isWord_5, eT_isWord_8, eT_isWord_9, eT_isWord_12, eT_isWord_13, eT_isWord_16, eT_isWord_17, eT_isWord_18, eT_isWord_21, eT_isWord_24, eT_isWord_25, eT_isWord_26, eT_isWord_27, eT_isWord_28, eT_isWord_29, eT_isWord_30, eT_isWord_33, eT_isWord_36, eT_isWord_37, eT_isWord_40, eT_isWord_41, eT_isWord_44, eT_isWord_45, eT_isWord_46, eT_isWord_47, eT_isWord_48, eT_isWord_49, eT_isWord_52, eT_isWord_55, eT_isWord_56, eT_isWord_57, eT_isWord_60, eT_isWord_63, eT_isWord_64, eq_self, hr_k_some, Option.toList, List.cons_append, List.nil_append, is2k_n, is2k_i, is2k_r, is2k_0, oc_0, ro_00, ro_01, ro_02, ro_04, ro_05, ro_06, ro_07, oc_1, oc_11, oc_21, oc_31, oc_32, ro_16, ro_b6, ak_2, ak_12, al_2, al_12, ra_2, ra_12, i10, i01, zb_t, zb_f, not_true_eq_false, not_false_eq_true, if_true, if_false, sp_found0, sp_found1, sp_found2, sp_found3, sp_found4, sp_found5, sp_found6, true_or, zb_n0, zb_n1, oc_str hk, sp_len hk, leT (show wl k ≤ i by omega) (show i < 2 ^ 31 by omega)]
  | succ d ih =>
    intro i hi h0
    have hi' : i < wl k := by omega
    obtain ⟨hbb, h33⟩ := hT.2.2 (b + i) (by omega)
    have hc := wc_lt k hk i (by omega)
    have ec : (sbt (bt (b + i)) = nI (wc k i)) = (bt (b + i) = wc k i) := by
      by_cases q : bt (b + i) < 128
      · rw [sb_lt _ q]; exact nI_lit _ _ (by omega) (by omega)
      · have hn := sb_neg _ hbb (by omega)
        exact propext ⟨fun e => absurd (e ▸ hn) (nI_pos (by omega)), fun e => by omega⟩
    rw [eT_isWord_28]
    simp only [eT_isWord_29, eT_isWord_30, eT_isWord_33, eT_isWord_36, eT_isWord_37, eT_isWord_40, eT_isWord_41, eT_isWord_44, eT_isWord_45, eT_isWord_46, eT_isWord_47, eT_isWord_48, eT_isWord_49, eT_isWord_52, eT_isWord_55, eT_isWord_56, eT_isWord_57, eT_isWord_60, eT_isWord_63, eT_isWord_64, eq_self, hr_k_some, Option.toList, List.cons_append, List.nil_append, is2k_n, is2k_i, is2k_r, is2k_0, oc_0, ro_00, ro_01, ro_02, ro_04, ro_05, ro_06, ro_07, oc_1, oc_11, oc_21, oc_31, oc_32, ro_16, ro_b6, ak_2, ak_12, al_2, al_12, ra_2, ra_12, i10, i01, zb_t, zb_f, not_true_eq_false, not_false_eq_true, if_true, if_false, sp_found0, sp_found1, sp_found2, sp_found3, sp_found4, sp_found5, sp_found6, true_or, zb_n0, zb_n1, oc_str hk, sp_len hk, leF hi' (show wl k < 2 ^ 31 by omega), h3, nI_add, ro_t0, ak_33, al_33, in_120 (show b + i < 120 by omega), cl_nI (show b + i < 100000 by omega), ai_lt (show 33 < 60 by decide), h33, sp_chr hk hi', ec, nI_1]
    by_cases c : bt (b + i) = wc k i
    · have := ih (i + 1) (by omega) (fun j hj => by
        by_cases q : j = i
        · subst q; exact c
        · exact h0 j (by omega))
      simp only [c, if_true]
      exact this
    · rw [decide_eq_false (fun q => c (q i hi'))]
      simp only [c, if_false]
      rfl
theorem sp_isWord {k b : Nat} (hk : k < 13) (hT : Tp I bt L) (hK : Tk I bt L b) : den nT_isWord (0, [some (.ref 32), some (.ref (70 + k)), none], [], (I, J)) = some (some (.int (zb (isWd bt L k b))), (I, J)) := by
  obtain ⟨hb, h2, h3, h4, _⟩ := hK
  have hL := hT.2.1
  have hw := wl_le k hk
  have he := enT_le (bt := bt) hb
  have hkd : kdT bt L b < 5 := by unfold kdT; repeat' split
                                  all_goals omega
  have e1 : (nI (kdT bt L b) = 1) = (kdT bt L b = 1) := nI_lit _ 1 (by omega) (by decide)
  have e2 : (nI (enT bt L b - b) = nI (wl k)) = (enT bt L b - b = wl k) := nI_lit _ _ (by omega) (by omega)
  unfold isWd
  by_cases c1 : kdT bt L b = 1
  · by_cases c2 : enT bt L b - b = wl k
    · have := word_loop (J := J) hk hT h3 (by omega) (wl k) 0 (by omega) (fun j hj => by omega)
      rw [decide_eq_true c1, decide_eq_true c2, Bool.and_self, Bool.true_and]
      simp only [eT_isWord_0, eT_isWord_1, eT_isWord_4, eT_isWord_5, eT_isWord_8, eT_isWord_9, eT_isWord_12, eT_isWord_13, eT_isWord_16, eT_isWord_17, eT_isWord_18, eT_isWord_21, eT_isWord_24, eT_isWord_25, eT_isWord_26, eT_isWord_27, eq_self, hr_k_some, Option.toList, List.cons_append, List.nil_append, is2k_n, is2k_i, is2k_r, is2k_0, oc_0, ro_00, ro_01, ro_02, ro_04, ro_05, ro_06, ro_07, oc_1, oc_11, oc_21, oc_31, oc_32, ro_16, ro_b6, ak_2, ak_12, al_2, al_12, ra_2, ra_12, i10, i01, zb_t, zb_f, not_true_eq_false, not_false_eq_true, if_true, if_false, sp_found0, sp_found1, sp_found2, sp_found3, sp_found4, sp_found5, sp_found6, true_or, h2, e1, c1, h3, h4, pk_sub he.1, oc_str hk, sp_len hk, e2, c2]
      exact this
    · rw [decide_eq_true c1, decide_eq_false c2, Bool.and_false, Bool.false_and]
      simp only [eT_isWord_0, eT_isWord_1, eT_isWord_4, eT_isWord_5, eT_isWord_8, eT_isWord_9, eT_isWord_12, eT_isWord_13, eT_isWord_16, eT_isWord_17, eT_isWord_18, eT_isWord_21, eT_isWord_24, eT_isWord_25, eT_isWord_26, eT_isWord_27, eq_self, hr_k_some, Option.toList, List.cons_append, List.nil_append, is2k_n, is2k_i, is2k_r, is2k_0, oc_0, ro_00, ro_01, ro_02, ro_04, ro_05, ro_06, ro_07, oc_1, oc_11, oc_21, oc_31, oc_32, ro_16, ro_b6, ak_2, ak_12, al_2, al_12, ra_2, ra_12, i10, i01, zb_t, zb_f, not_true_eq_false, not_false_eq_true, if_true, if_false, sp_found0, sp_found1, sp_found2, sp_found3, sp_found4, sp_found5, sp_found6, true_or, zb_n0, h2, e1.trans (eq_true c1), h3, h4, pk_sub he.1, oc_str hk, sp_len hk, e2, c2]
  · rw [decide_eq_false c1, Bool.false_and, Bool.false_and]
    simp only [eT_isWord_0, eT_isWord_1, eT_isWord_4, eT_isWord_5, eT_isWord_8, eT_isWord_9, eT_isWord_12, eT_isWord_13, eT_isWord_16, eT_isWord_17, eT_isWord_18, eT_isWord_21, eT_isWord_24, eT_isWord_25, eT_isWord_26, eT_isWord_27, eq_self, hr_k_some, Option.toList, List.cons_append, List.nil_append, is2k_n, is2k_i, is2k_r, is2k_0, oc_0, ro_00, ro_01, ro_02, ro_04, ro_05, ro_06, ro_07, oc_1, oc_11, oc_21, oc_31, oc_32, ro_16, ro_b6, ak_2, ak_12, al_2, al_12, ra_2, ra_12, i10, i01, zb_t, zb_f, not_true_eq_false, not_false_eq_true, if_true, if_false, sp_found0, sp_found1, sp_found2, sp_found3, sp_found4, sp_found5, sp_found6, true_or, zb_n0, h2, e1, c1]
theorem sp_takeWord {k b : Nat} (hk : k < 13) (hT : Tp I bt L) (hK : Tk I bt L b) : ∃ I', den nT_takeWord (0, [some (.ref 32), some (.ref (70 + k))], [], (I, J)) = some (some (.int (zb (isWd bt L k b))), (I', J)) ∧ Tk I' bt L (if isWd bt L k b = true then nxT bt L b else b) ∧ oT I I' := by
  have ew := sp_isWord (J := J) hk hT hK
  by_cases c : isWd bt L k b = true
  · obtain ⟨I', e', k', o'⟩ := sp_advance (J := J) (enT_le (bt := bt) hK.1).2 hT hK.2.2.2.1
    refine ⟨I', ?_, by rw [if_pos c]; exact k', o'⟩
    rw [c] at ew ⊢
    simp only [eT_takeWord_0, eT_takeWord_1, eT_takeWord_2, eT_takeWord_5, eT_takeWord_8, eT_takeWord_9, eT_takeWord_10, eT_takeWord_11, eT_takeWord_14, eT_takeWord_15, eq_self, hr_k_some, Option.toList, List.cons_append, List.nil_append, is2k_n, is2k_i, is2k_r, is2k_0, oc_0, ro_00, ro_01, ro_02, ro_04, ro_05, ro_06, ro_07, oc_1, oc_11, oc_21, oc_31, oc_32, ro_16, ro_b6, ak_2, ak_12, al_2, al_12, ra_2, ra_12, i10, i01, zb_t, zb_f, not_true_eq_false, not_false_eq_true, if_true, if_false, sp_found0, sp_found1, sp_found2, sp_found3, sp_found4, sp_found5, sp_found6, true_or, zb_n1, ew, e']
  · refine ⟨I, ?_, by rw [if_neg c]; exact hK, oT.rfl⟩
    rw [Bool.not_eq_true] at c
    rw [c] at ew ⊢
    simp only [eT_takeWord_0, eT_takeWord_1, eT_takeWord_2, eT_takeWord_5, eT_takeWord_8, eT_takeWord_9, eT_takeWord_10, eT_takeWord_11, eT_takeWord_14, eT_takeWord_15, eq_self, hr_k_some, Option.toList, List.cons_append, List.nil_append, is2k_n, is2k_i, is2k_r, is2k_0, oc_0, ro_00, ro_01, ro_02, ro_04, ro_05, ro_06, ro_07, oc_1, oc_11, oc_21, oc_31, oc_32, ro_16, ro_b6, ak_2, ak_12, al_2, al_12, ra_2, ra_12, i10, i01, zb_t, zb_f, not_true_eq_false, not_false_eq_true, if_true, if_false, sp_found0, sp_found1, sp_found2, sp_found3, sp_found4, sp_found5, sp_found6, true_or, zb_n0, ew]
/-- a number up to m stands at b -/
def isNo (bt : Nat → Nat) (L m b : Nat) : Bool := decide (kdT bt L b = 2 ∧ vlT bt L b ≤ m)
theorem sp_takeNumber {m b : Nat} (hm : m < 1000) (hT : Tp I bt L) (hK : Tk I bt L b) : ∃ I', den nT_takeNumber (0, [some (.ref 32), some (.int (nI m)), none], [], (I, J)) = some (some (.int (if isNo bt L m b = true then nI (vlT bt L b) else -1)), (I', J)) ∧ Tk I' bt L (if isNo bt L m b = true then nxT bt L b else b) ∧ oT I I' := by
  have hK' := hK
  obtain ⟨hb, h2, h3, h4, h5⟩ := hK
  have hkd : kdT bt L b < 5 := by unfold kdT; repeat' split
                                  all_goals omega
  have e1 : (nI (kdT bt L b) = 2) = (kdT bt L b = 2) := nI_lit _ 2 (by omega) (by decide)
  by_cases c1 : kdT bt L b = 2
  · have h5 := h5 c1
    have hv : vlT bt L b ≤ 9999 := dgv_le _ _ _ (by omega)
    by_cases c2 : vlT bt L b ≤ m
    · have c : isNo bt L m b = true := decide_eq_true ⟨c1, c2⟩
      obtain ⟨I', e', k', o'⟩ := sp_advance (J := J) (enT_le (bt := bt) hb).2 hT h4
      refine ⟨I', ?_, by rw [if_pos c]; exact k', o'⟩
      rw [if_pos c]
      simp only [eT_takeNumber_0, eT_takeNumber_1, eT_takeNumber_4, eT_takeNumber_5, eT_takeNumber_8, eT_takeNumber_9, eT_takeNumber_12, eT_takeNumber_13, eT_takeNumber_16, eT_takeNumber_17, eT_takeNumber_18, eT_takeNumber_19, eT_takeNumber_22, eT_takeNumber_23, eT_takeNumber_24, eT_takeNumber_27, eT_takeNumber_28, eq_self, hr_k_some, Option.toList, List.cons_append, List.nil_append, is2k_n, is2k_i, is2k_r, is2k_0, oc_0, ro_00, ro_01, ro_02, ro_04, ro_05, ro_06, ro_07, oc_1, oc_11, oc_21, oc_31, oc_32, ro_16, ro_b6, ak_2, ak_12, al_2, al_12, ra_2, ra_12, i10, i01, zb_t, zb_f, not_true_eq_false, not_false_eq_true, if_true, if_false, sp_found0, sp_found1, sp_found2, sp_found3, sp_found4, sp_found5, sp_found6, true_or, h2, e1.trans (eq_true c1), h5, leT c2 (show m < 2 ^ 31 by omega), e']
    · have c : ¬ isNo bt L m b = true := fun q => c2 (of_decide_eq_true q).2
      refine ⟨I, ?_, by rw [if_neg c]; exact hK', oT.rfl⟩
      rw [if_neg c]
      simp only [eT_takeNumber_0, eT_takeNumber_1, eT_takeNumber_4, eT_takeNumber_5, eT_takeNumber_8, eT_takeNumber_9, eT_takeNumber_12, eT_takeNumber_13, eT_takeNumber_16, eT_takeNumber_17, eT_takeNumber_18, eT_takeNumber_19, eT_takeNumber_22, eT_takeNumber_23, eT_takeNumber_24, eT_takeNumber_27, eT_takeNumber_28, eq_self, hr_k_some, Option.toList, List.cons_append, List.nil_append, is2k_n, is2k_i, is2k_r, is2k_0, oc_0, ro_00, ro_01, ro_02, ro_04, ro_05, ro_06, ro_07, oc_1, oc_11, oc_21, oc_31, oc_32, ro_16, ro_b6, ak_2, ak_12, al_2, al_12, ra_2, ra_12, i10, i01, zb_t, zb_f, not_true_eq_false, not_false_eq_true, if_true, if_false, sp_found0, sp_found1, sp_found2, sp_found3, sp_found4, sp_found5, sp_found6, true_or, h2, e1.trans (eq_true c1), h5, leF (show m < vlT bt L b by omega) (show vlT bt L b < 2 ^ 31 by omega)]
  · have c : ¬ isNo bt L m b = true := fun q => c1 (of_decide_eq_true q).1
    refine ⟨I, ?_, by rw [if_neg c]; exact hK', oT.rfl⟩
    rw [if_neg c]
    simp only [eT_takeNumber_0, eT_takeNumber_1, eT_takeNumber_4, eT_takeNumber_5, eT_takeNumber_8, eT_takeNumber_9, eT_takeNumber_12, eT_takeNumber_13, eT_takeNumber_16, eT_takeNumber_17, eT_takeNumber_18, eT_takeNumber_19, eT_takeNumber_22, eT_takeNumber_23, eT_takeNumber_24, eT_takeNumber_27, eT_takeNumber_28, eq_self, hr_k_some, Option.toList, List.cons_append, List.nil_append, is2k_n, is2k_i, is2k_r, is2k_0, oc_0, ro_00, ro_01, ro_02, ro_04, ro_05, ro_06, ro_07, oc_1, oc_11, oc_21, oc_31, oc_32, ro_16, ro_b6, ak_2, ak_12, al_2, al_12, ra_2, ra_12, i10, i01, zb_t, zb_f, not_true_eq_false, not_false_eq_true, if_true, if_false, sp_found0, sp_found1, sp_found2, sp_found3, sp_found4, sp_found5, sp_found6, true_or, h2, e1, c1]
end
