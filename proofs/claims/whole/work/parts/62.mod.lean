/-! ===== tokens of the model ===== -/
/-- the number of a word's first j letters -/
def hv (bt : Nat → Nat) (b : Nat) : Nat → Nat
  | 0 => 0
  | j + 1 => if hv bt b j ≤ 9999999999999 then hv bt b j * 27 + bt (b + j) - 96 else hv bt b j
def hW (k : Nat) : Nat → Nat
  | 0 => 0
  | j + 1 => hW k j * 27 + wc k j - 96
theorem hv_s {bt : Nat → Nat} {b j : Nat} : hv bt b (j + 1) = if hv bt b j ≤ 9999999999999 then hv bt b j * 27 + bt (b + j) - 96 else hv bt b j := rfl
theorem hW_s {k j : Nat} : hW k (j + 1) = hW k j * 27 + wc k j - 96 := rfl
theorem wc_L : ∀ k, k < 13 → ∀ i, i < wl k → 97 ≤ wc k i ∧ wc k i ≤ 122 := by decide +kernel
theorem hW_le : ∀ k, k < 13 → ∀ i, i < 8 → i ≤ wl k → hW k i ≤ 9999999999999 := by decide +kernel
theorem hv_pos {bt : Nat → Nat} {b : Nat} : ∀ j, (∀ i, i < j + 1 → 97 ≤ bt (b + i)) → 0 < hv bt b (j + 1) := by
  intro j h
  rw [hv_s]
  have := h j (by omega)
  split <;> omega
theorem hv_word {bt : Nat → Nat} {b k : Nat} (hk : k < 13) : ∀ (l : Nat), l ≤ wl k → ∀ j, (∀ i, i < j → 97 ≤ bt (b + i) ∧ bt (b + i) ≤ 122) → (hv bt b j = hW k l ↔ j = l ∧ ∀ i, i < l → bt (b + i) = wc k i) := by
  have hw7 := (wl_le k hk).1
  intro l
  induction l with
  | zero =>
    intro _ j hj
    constructor
    · intro h
      cases j with
      | zero => exact ⟨rfl, fun i hi => by omega⟩
      | succ j =>
        have := hv_pos (b := b) j (fun i hi => (hj i hi).1)
        rw [h] at this
        exact absurd this (Nat.lt_irrefl 0)
    · rintro ⟨rfl, _⟩; rfl
  | succ l ih =>
    intro hl j hj
    have hc := wc_L k hk l (by omega)
    have hle := hW_le k hk l (by omega) (by omega)
    have hle1 := hW_le k hk (l + 1) (by omega) (by omega)
    cases j with
    | zero =>
      constructor
      · intro h
        have e : hW k (l + 1) = 0 := h.symm
        rw [hW_s] at e
        omega
      · rintro ⟨h, _⟩; omega
    | succ j =>
      have hi := ih (by omega) j (fun i hi => hj i (by omega))
      have hb := hj j (by omega)
      rw [hW_s] at hle1 ⊢
      rw [hv_s]
      constructor
      · intro h
        split at h
        · have e1 : hv bt b j = hW k l := by omega
          have e2 : bt (b + j) = wc k l := by omega
          obtain ⟨r1, r2⟩ := hi.mp e1
          refine ⟨by omega, fun i hi2 => ?_⟩
          by_cases q : i = l
          · rw [q, ← e2, r1]
          · exact r2 i (by omega)
        · omega
      · rintro ⟨h1, h2⟩
        have e1 := hi.mpr ⟨by omega, fun i hi2 => h2 i (by omega)⟩
        have e2 := h2 l (by omega)
        have e3 : j = l := by omega
        subst e3
        rw [if_pos (by omega), e1, e2]
section
variable {I I' I'' : Nat → Nat → Int32} {J J' J'' : Nat → Nat → Int64} {bt : Nat → Nat} {L : Nat}
theorem m_isL {b : Nat} (hb : b < 256) {h : hr_H} : den nM_isLetter (0, [some (.int (nI b))], [], h) = some (some (.int (zb (isL b))), h) := by
  have e : decide ((97 : Int32) ≤ nI b ∧ nI b ≤ 122) = isL b := by
    have : ∀ b, b < 256 → decide ((97 : Int32) ≤ nI b ∧ nI b ≤ 122) = isL b := by decide +kernel
    exact this b hb
  simp only [eM_isLetter_0, eM_isLetter_1, eM_isLetter_3, eM_isLetter_5, eM_isLetter_8, eq_self, hr_k_some, Option.toList, List.cons_append, List.nil_append, is2k_n, is2k_i, is2k_r, is2k_0, oc_44, ro_m0, ro_m1, ro_m2, ro_m4, ro_m5, ro_m11, ro_m12, ro_m13, ro_m14, ro_m15, ro_m16, ro_m17, ak_45, ak_46, ak_47, ak_48, ak_49, ak_50, ak_51, ak_52, ak_53, ak_54, ak_55, ak_56, al_45, al_46, al_47, al_48, al_49, al_50, al_51, al_52, al_53, al_54, al_55, al_56, l45, l46, l47, l48, l49, l50, l51, l52, l53, l54, a45, a46, a47, a48, a49, a50, a51, a52, a53, a54, in46_0, in46_1, in46_2, in46_3, in46_4, in46_5, cn_0, cn_1, cn_2, cn_3, cn_4, cn_5, i10, i01, zb_t, zb_f, not_true_eq_false, not_false_eq_true, if_true, if_false, true_or, sp_in1, md_1, md_6, md_5, e, zb_nar]
theorem m_isD {b : Nat} (hb : b < 256) {h : hr_H} : den nM_isDigit (0, [some (.int (nI b))], [], h) = some (some (.int (zb (isD b))), h) := by
  have e : decide ((48 : Int32) ≤ nI b ∧ nI b ≤ 57) = isD b := by
    have : ∀ b, b < 256 → decide ((48 : Int32) ≤ nI b ∧ nI b ≤ 57) = isD b := by decide +kernel
    exact this b hb
  simp only [eM_isDigit_0, eM_isDigit_1, eM_isDigit_3, eM_isDigit_5, eM_isDigit_8, eq_self, hr_k_some, Option.toList, List.cons_append, List.nil_append, is2k_n, is2k_i, is2k_r, is2k_0, oc_44, ro_m0, ro_m1, ro_m2, ro_m4, ro_m5, ro_m11, ro_m12, ro_m13, ro_m14, ro_m15, ro_m16, ro_m17, ak_45, ak_46, ak_47, ak_48, ak_49, ak_50, ak_51, ak_52, ak_53, ak_54, ak_55, ak_56, al_45, al_46, al_47, al_48, al_49, al_50, al_51, al_52, al_53, al_54, al_55, al_56, l45, l46, l47, l48, l49, l50, l51, l52, l53, l54, a45, a46, a47, a48, a49, a50, a51, a52, a53, a54, in46_0, in46_1, in46_2, in46_3, in46_4, in46_5, cn_0, cn_1, cn_2, cn_3, cn_4, cn_5, i10, i01, zb_t, zb_f, not_true_eq_false, not_false_eq_true, if_true, if_false, true_or, sp_in1, md_1, md_6, md_5, e, zb_nar]
/-- nothing but the token has changed -/
def oN (I I' : Nat → Nat → Int32) (J J' : Nat → Nat → Int64) : Prop := (∀ b j, (b ≠ 44 ∨ j < 7) → I' b j = I b j) ∧ ∀ b j, b ≠ 44 → J' b j = J b j
theorem oN.rfl : oN I I J J := ⟨fun _ _ _ => Eq.refl _, fun _ _ _ => Eq.refl _⟩
theorem oN.trans (h : oN I I' J J') (h' : oN I' I'' J' J'') : oN I I'' J J'' := ⟨fun b j q => (h'.1 b j q).trans (h.1 b j q), fun b j q => (h'.2 b j q).trans (h.2 b j q)⟩
theorem oN.up {k : Nat} {x : Int32} (hk : 7 ≤ k) : oN I (up2 I 44 k x) J J := ⟨fun b j q => if_neg (by omega), fun _ _ _ => Eq.refl _⟩
theorem oN.upJ {k : Nat} {x : Int64} : oN I I J (up2 J 44 k x) := ⟨fun _ _ _ => Eq.refl _, fun b j q => up2_na q⟩
theorem oN.tp (h : oN I I' J J') (hT : MTp I bt L) : MTp I' bt L := ⟨(h.1 44 6 (by omega)).trans hT.1, hT.2.1, fun j hj => ⟨(hT.2.2 j hj).1, (h.1 49 j (by omega)).trans (hT.2.2 j hj).2⟩⟩
/-- nothing but one field has changed -/
def oW (k : Nat) (I I' : Nat → Nat → Int32) : Prop := ∀ b j, ¬ (b = 44 ∧ j = k) → I' b j = I b j
theorem oW.rfl {k : Nat} : oW k I I := fun _ _ _ => Eq.refl _
theorem oW.up {k : Nat} {x : Int32} : oW k I (up2 I 44 k x) := fun b j h => if_neg h
theorem oW.trans {k : Nat} (h : oW k I I') (h' : oW k I' I'') : oW k I I'' := fun b j q => (h' b j q).trans (h b j q)
theorem oW.n {k : Nat} (h : oW k I I') (hk : 7 ≤ k) : oN I I' J J := ⟨fun b j q => h b j (by omega), fun _ _ _ => Eq.refl _⟩
theorem mskip_loop : ∀ (d p : Nat) (I : Nat → Nat → Int32), p + d = L → MTp I bt L → I 44 8 = nI p → ∃ I', den nM_nextToken (8, [some (.ref 44)], [], (I, J)) = den nM_nextToken (46, [some (.ref 44)], [], (I', J)) ∧ I' 44 8 = nI (run blk bt d p) ∧ oW 8 I I' := by
  intro d
  induction d with
  | zero =>
    intro p I hp hT h3
    have hL := hT.2.1
    refine ⟨I, ?_, h3, oW.rfl⟩
    simp only [eM_nextToken_8, eM_nextToken_9, eM_nextToken_12, eM_nextToken_13, eM_nextToken_16, eM_nextToken_19, eM_nextToken_20, eM_nextToken_23, eM_nextToken_24, eM_nextToken_27, eM_nextToken_28, eM_nextToken_30, eM_nextToken_33, eM_nextToken_34, eM_nextToken_35, eM_nextToken_38, eM_nextToken_39, eM_nextToken_40, eM_nextToken_43, eq_self, hr_k_some, Option.toList, List.cons_append, List.nil_append, is2k_n, is2k_i, is2k_r, is2k_0, oc_44, ro_m0, ro_m1, ro_m2, ro_m4, ro_m5, ro_m11, ro_m12, ro_m13, ro_m14, ro_m15, ro_m16, ro_m17, ak_45, ak_46, ak_47, ak_48, ak_49, ak_50, ak_51, ak_52, ak_53, ak_54, ak_55, ak_56, al_45, al_46, al_47, al_48, al_49, al_50, al_51, al_52, al_53, al_54, al_55, al_56, l45, l46, l47, l48, l49, l50, l51, l52, l53, l54, a45, a46, a47, a48, a49, a50, a51, a52, a53, a54, in46_0, in46_1, in46_2, in46_3, in46_4, in46_5, cn_0, cn_1, cn_2, cn_3, cn_4, cn_5, i10, i01, zb_t, zb_f, not_true_eq_false, not_false_eq_true, if_true, if_false, true_or, sp_in1, md_1, md_6, md_5, h3, hT.1, leT (show L ≤ p by omega) (show p < 2 ^ 31 by omega)]
  | succ d ih =>
    intro p I hp hT h3
    have hL := hT.2.1
    obtain ⟨hb, h33⟩ := hT.2.2 p (by omega)
    have e32 : (nI (bt p) = 32) = (bt p = 32) := nI_lit _ 32 (by omega) (by decide)
    rw [eM_nextToken_8]
    unfold run
    by_cases c : bt p = 32
    · rw [if_pos (show blk (bt p) = true from decide_eq_true c)]
      obtain ⟨I', e', g', o'⟩ := ih (p + 1) (up2 I 44 8 (nI (p + 1))) (by omega) ((oN.up (J := J) (by decide)).tp hT) up2_eq
      refine ⟨I', ?_, g', oW.up.trans o'⟩
      simp only [eM_nextToken_9, eM_nextToken_12, eM_nextToken_13, eM_nextToken_16, eM_nextToken_19, eM_nextToken_20, eM_nextToken_23, eM_nextToken_24, eM_nextToken_27, eM_nextToken_28, eM_nextToken_30, eM_nextToken_33, eM_nextToken_34, eM_nextToken_35, eM_nextToken_38, eM_nextToken_39, eM_nextToken_40, eM_nextToken_43, eq_self, hr_k_some, Option.toList, List.cons_append, List.nil_append, is2k_n, is2k_i, is2k_r, is2k_0, oc_44, ro_m0, ro_m1, ro_m2, ro_m4, ro_m5, ro_m11, ro_m12, ro_m13, ro_m14, ro_m15, ro_m16, ro_m17, ak_45, ak_46, ak_47, ak_48, ak_49, ak_50, ak_51, ak_52, ak_53, ak_54, ak_55, ak_56, al_45, al_46, al_47, al_48, al_49, al_50, al_51, al_52, al_53, al_54, al_55, al_56, l45, l46, l47, l48, l49, l50, l51, l52, l53, l54, a45, a46, a47, a48, a49, a50, a51, a52, a53, a54, in46_0, in46_1, in46_2, in46_3, in46_4, in46_5, cn_0, cn_1, cn_2, cn_3, cn_4, cn_5, i10, i01, zb_t, zb_f, not_true_eq_false, not_false_eq_true, if_true, if_false, true_or, sp_in1, md_1, md_6, md_5, h3, hT.1, leF (show p < L by omega) (show L < 2 ^ 31 by omega), in_120 (show p < 120 by omega), cl_nI (show p < 100000 by omega), h33, e32.trans (eq_true c), nI_1]
      exact e'
    · rw [if_neg (show ¬ blk (bt p) = true from fun q => c (of_decide_eq_true q))]
      refine ⟨I, ?_, h3, oW.rfl⟩
      simp only [eM_nextToken_9, eM_nextToken_12, eM_nextToken_13, eM_nextToken_16, eM_nextToken_19, eM_nextToken_20, eM_nextToken_23, eM_nextToken_24, eM_nextToken_27, eM_nextToken_28, eM_nextToken_30, eM_nextToken_33, eM_nextToken_34, eM_nextToken_35, eM_nextToken_38, eM_nextToken_39, eM_nextToken_40, eM_nextToken_43, eq_self, hr_k_some, Option.toList, List.cons_append, List.nil_append, is2k_n, is2k_i, is2k_r, is2k_0, oc_44, ro_m0, ro_m1, ro_m2, ro_m4, ro_m5, ro_m11, ro_m12, ro_m13, ro_m14, ro_m15, ro_m16, ro_m17, ak_45, ak_46, ak_47, ak_48, ak_49, ak_50, ak_51, ak_52, ak_53, ak_54, ak_55, ak_56, al_45, al_46, al_47, al_48, al_49, al_50, al_51, al_52, al_53, al_54, al_55, al_56, l45, l46, l47, l48, l49, l50, l51, l52, l53, l54, a45, a46, a47, a48, a49, a50, a51, a52, a53, a54, in46_0, in46_1, in46_2, in46_3, in46_4, in46_5, cn_0, cn_1, cn_2, cn_3, cn_4, cn_5, i10, i01, zb_t, zb_f, not_true_eq_false, not_false_eq_true, if_true, if_false, true_or, sp_in1, md_1, md_6, md_5, h3, hT.1, leF (show p < L by omega) (show L < 2 ^ 31 by omega), in_120 (show p < 120 by omega), cl_nI (show p < 100000 by omega), h33, e32.trans (eq_false c)]
theorem lgle {v : Nat} (hv : v < 2 ^ 62) {c : Nat} (hc : c < 2 ^ 62) : (lg_cmp (lN v) (lN c) ≤ 0) = (v ≤ c) := by
  apply propext
  rw [← Int32.not_lt, lg_cmp_gt, pk_lLT (by omega) (by omega)]
  omega
theorem mlet_loop {b : Nat} : ∀ (d p : Nat) (I : Nat → Nat → Int32) (J : Nat → Nat → Int64), p + d = L → b ≤ p → MTp I bt L → I 44 9 = nI p → J 44 10 = lN (hv bt b (p - b)) → hv bt b (p - b) ≤ 270000000000000 → ∃ I' J', den nM_nextToken (98, [some (.ref 44)], [], (I, J)) = some (none, (I', J')) ∧ I' 44 9 = nI (run isL bt d p) ∧ J' 44 10 = lN (hv bt b (run isL bt d p - b)) ∧ oW 9 I I' ∧ ∀ q j, q ≠ 44 → J' q j = J q j := by
  intro d
  induction d with
  | zero =>
    intro p I J hp hbp hT h9 hJ hle
    have hL := hT.2.1
    refine ⟨I, J, ?_, h9, hJ, oW.rfl, fun _ _ _ => rfl⟩
    simp only [eM_nextToken_98, eM_nextToken_99, eM_nextToken_102, eM_nextToken_103, eM_nextToken_106, eM_nextToken_109, eM_nextToken_110, eM_nextToken_113, eM_nextToken_114, eM_nextToken_117, eM_nextToken_118, eM_nextToken_121, eM_nextToken_124, eM_nextToken_125, eM_nextToken_126, eM_nextToken_129, eM_nextToken_132, eM_nextToken_133, eM_nextToken_136, eM_nextToken_137, eM_nextToken_140, eM_nextToken_143, eM_nextToken_144, eM_nextToken_147, eM_nextToken_150, eM_nextToken_151, eM_nextToken_152, eM_nextToken_155, eM_nextToken_156, eM_nextToken_159, eM_nextToken_160, eM_nextToken_161, eM_nextToken_162, eM_nextToken_165, eM_nextToken_166, eM_nextToken_169, eM_nextToken_170, eM_nextToken_171, eM_nextToken_174, eM_nextToken_175, eM_nextToken_176, eM_nextToken_179, eM_nextToken_182, eM_nextToken_183, eM_nextToken_186, eM_nextToken_187, eM_nextToken_190, eM_nextToken_191, eM_nextToken_194, eM_nextToken_197, eM_nextToken_198, eM_nextToken_201, eM_nextToken_202, eM_nextToken_205, eM_nextToken_208, eM_nextToken_209, eM_nextToken_212, eM_nextToken_213, eM_nextToken_216, eM_nextToken_217, eM_nextToken_220, eM_nextToken_223, eM_nextToken_224, eM_nextToken_225, eM_nextToken_228, eM_nextToken_231, eM_nextToken_232, eM_nextToken_235, eM_nextToken_236, eM_nextToken_239, eM_nextToken_242, eM_nextToken_243, eM_nextToken_246, eM_nextToken_249, eM_nextToken_250, eM_nextToken_251, eM_nextToken_254, eM_nextToken_255, eM_nextToken_258, eM_nextToken_259, eM_nextToken_260, eM_nextToken_261, eM_nextToken_264, eM_nextToken_265, eM_nextToken_268, eM_nextToken_269, eM_nextToken_270, eM_nextToken_273, eM_nextToken_274, eM_nextToken_275, eM_nextToken_278, eM_nextToken_281, eM_nextToken_282, eM_nextToken_283, eM_nextToken_286, eM_nextToken_289, eM_nextToken_290, eM_nextToken_293, eM_nextToken_294, eM_nextToken_297, eM_nextToken_298, eM_nextToken_301, eM_nextToken_304, eM_nextToken_305, eM_nextToken_306, eM_nextToken_309, eM_nextToken_310, eM_nextToken_313, eM_nextToken_314, eM_nextToken_316, eM_nextToken_319, eM_nextToken_320, eM_nextToken_323, eM_nextToken_324, eM_nextToken_327, eM_nextToken_328, eM_nextToken_329, eM_nextToken_332, eM_nextToken_333, eM_nextToken_334, eM_nextToken_337, eq_self, hr_k_some, Option.toList, List.cons_append, List.nil_append, is2k_n, is2k_i, is2k_r, is2k_0, oc_44, ro_m0, ro_m1, ro_m2, ro_m4, ro_m5, ro_m11, ro_m12, ro_m13, ro_m14, ro_m15, ro_m16, ro_m17, ak_45, ak_46, ak_47, ak_48, ak_49, ak_50, ak_51, ak_52, ak_53, ak_54, ak_55, ak_56, al_45, al_46, al_47, al_48, al_49, al_50, al_51, al_52, al_53, al_54, al_55, al_56, l45, l46, l47, l48, l49, l50, l51, l52, l53, l54, a45, a46, a47, a48, a49, a50, a51, a52, a53, a54, in46_0, in46_1, in46_2, in46_3, in46_4, in46_5, cn_0, cn_1, cn_2, cn_3, cn_4, cn_5, i10, i01, zb_t, zb_f, not_true_eq_false, not_false_eq_true, if_true, if_false, true_or, sp_in1, md_1, md_6, md_5, h9, hT.1, leT (show L ≤ p by omega) (show p < 2 ^ 31 by omega)]
  | succ d ih =>
    intro p I J hp hbp hT h9 hJ hle
    have hL := hT.2.1
    obtain ⟨hb, h33⟩ := hT.2.2 p (by omega)
    have el := m_isL (h := (I, J)) hb
    rw [eM_nextToken_98]
    unfold run
    by_cases c : isL (bt p) = true
    · rw [if_pos c]
      have hcl : 97 ≤ bt p ∧ bt p ≤ 122 := of_decide_eq_true c
      rw [c] at el
      have es : hv bt b (p + 1 - b) = if hv bt b (p - b) ≤ 9999999999999 then hv bt b (p - b) * 27 + bt p - 96 else hv bt b (p - b) := by
        rw [show p + 1 - b = (p - b) + 1 by omega, hv_s, show b + (p - b) = p by omega]
      have hle2 : hv bt b (p + 1 - b) ≤ 270000000000000 := by rw [es]; split <;> omega
      obtain ⟨I', J', e', g', j', o', oj⟩ := ih (p + 1) (up2 I 44 9 (nI (p + 1))) (up2 J 44 10 (lN (hv bt b (p + 1 - b)))) (by omega) (by omega) ((oN.up (J := J) (by decide)).tp hT) up2_eq up2_eq hle2
      refine ⟨I', J', ?_, g', j', oW.up.trans o', fun q j hq => (oj q j hq).trans (up2_na hq)⟩
      have ec : (lg_cmp (lN (hv bt b (p - b))) 9999999999999 ≤ 0) = (hv bt b (p - b) ≤ 9999999999999) := lgle (c := 9999999999999) (by omega) (by decide)
      by_cases cc : hv bt b (p - b) ≤ 9999999999999
      · rw [if_pos cc] at es
        have ev : lN (hv bt b (p - b)) * 27 + (nI (bt p)).toInt64 - 96 = lN (hv bt b (p + 1 - b)) := by
          rw [es, nI_l (by omega), show (27 : Int64) = lN 27 from rfl, lN_mul, lN_add, show (96 : Int64) = lN 96 from rfl, lN_sub (by omega)]
        simp only [eM_nextToken_99, eM_nextToken_102, eM_nextToken_103, eM_nextToken_106, eM_nextToken_109, eM_nextToken_110, eM_nextToken_113, eM_nextToken_114, eM_nextToken_117, eM_nextToken_118, eM_nextToken_121, eM_nextToken_124, eM_nextToken_125, eM_nextToken_126, eM_nextToken_129, eM_nextToken_132, eM_nextToken_133, eM_nextToken_136, eM_nextToken_137, eM_nextToken_140, eM_nextToken_143, eM_nextToken_144, eM_nextToken_147, eM_nextToken_150, eM_nextToken_151, eM_nextToken_152, eM_nextToken_155, eM_nextToken_156, eM_nextToken_159, eM_nextToken_160, eM_nextToken_161, eM_nextToken_162, eM_nextToken_165, eM_nextToken_166, eM_nextToken_169, eM_nextToken_170, eM_nextToken_171, eM_nextToken_174, eM_nextToken_175, eM_nextToken_176, eM_nextToken_179, eq_self, hr_k_some, Option.toList, List.cons_append, List.nil_append, is2k_n, is2k_i, is2k_r, is2k_0, oc_44, ro_m0, ro_m1, ro_m2, ro_m4, ro_m5, ro_m11, ro_m12, ro_m13, ro_m14, ro_m15, ro_m16, ro_m17, ak_45, ak_46, ak_47, ak_48, ak_49, ak_50, ak_51, ak_52, ak_53, ak_54, ak_55, ak_56, al_45, al_46, al_47, al_48, al_49, al_50, al_51, al_52, al_53, al_54, al_55, al_56, l45, l46, l47, l48, l49, l50, l51, l52, l53, l54, a45, a46, a47, a48, a49, a50, a51, a52, a53, a54, in46_0, in46_1, in46_2, in46_3, in46_4, in46_5, cn_0, cn_1, cn_2, cn_3, cn_4, cn_5, i10, i01, zb_t, zb_f, not_true_eq_false, not_false_eq_true, if_true, if_false, true_or, sp_in1, md_1, md_6, md_5, h9, hT.1, leF (show p < L by omega) (show L < 2 ^ 31 by omega), in_120 (show p < 120 by omega), cl_nI (show p < 100000 by omega), h33, el, hJ, ec.trans (eq_true cc), ev, nI_1]
        exact e'
      · rw [if_neg cc] at es
        rw [es] at e'
        simp only [eM_nextToken_99, eM_nextToken_102, eM_nextToken_103, eM_nextToken_106, eM_nextToken_109, eM_nextToken_110, eM_nextToken_113, eM_nextToken_114, eM_nextToken_117, eM_nextToken_118, eM_nextToken_121, eM_nextToken_124, eM_nextToken_125, eM_nextToken_126, eM_nextToken_129, eM_nextToken_132, eM_nextToken_133, eM_nextToken_136, eM_nextToken_137, eM_nextToken_140, eM_nextToken_143, eM_nextToken_144, eM_nextToken_147, eM_nextToken_150, eM_nextToken_151, eM_nextToken_152, eM_nextToken_155, eM_nextToken_156, eM_nextToken_159, eM_nextToken_160, eM_nextToken_161, eM_nextToken_162, eM_nextToken_165, eM_nextToken_166, eM_nextToken_169, eM_nextToken_170, eM_nextToken_171, eM_nextToken_174, eM_nextToken_175, eM_nextToken_176, eM_nextToken_179, eq_self, hr_k_some, Option.toList, List.cons_append, List.nil_append, is2k_n, is2k_i, is2k_r, is2k_0, oc_44, ro_m0, ro_m1, ro_m2, ro_m4, ro_m5, ro_m11, ro_m12, ro_m13, ro_m14, ro_m15, ro_m16, ro_m17, ak_45, ak_46, ak_47, ak_48, ak_49, ak_50, ak_51, ak_52, ak_53, ak_54, ak_55, ak_56, al_45, al_46, al_47, al_48, al_49, al_50, al_51, al_52, al_53, al_54, al_55, al_56, l45, l46, l47, l48, l49, l50, l51, l52, l53, l54, a45, a46, a47, a48, a49, a50, a51, a52, a53, a54, in46_0, in46_1, in46_2, in46_3, in46_4, in46_5, cn_0, cn_1, cn_2, cn_3, cn_4, cn_5, i10, i01, zb_t, zb_f, not_true_eq_false, not_false_eq_true, if_true, if_false, true_or, sp_in1, md_1, md_6, md_5, h9, hT.1, leF (show p < L by omega) (show L < 2 ^ 31 by omega), in_120 (show p < 120 by omega), cl_nI (show p < 100000 by omega), h33, el, hJ, ec.trans (eq_false cc), nI_1]
        exact e'
    · rw [if_neg c]
      rw [show isL (bt p) = false from Bool.not_eq_true _ ▸ c] at el
      refine ⟨I, J, ?_, h9, hJ, oW.rfl, fun _ _ _ => rfl⟩
      simp only [eM_nextToken_99, eM_nextToken_102, eM_nextToken_103, eM_nextToken_106, eM_nextToken_109, eM_nextToken_110, eM_nextToken_113, eM_nextToken_114, eM_nextToken_117, eM_nextToken_118, eM_nextToken_121, eM_nextToken_124, eM_nextToken_125, eM_nextToken_126, eM_nextToken_129, eM_nextToken_132, eM_nextToken_133, eM_nextToken_136, eM_nextToken_137, eM_nextToken_140, eM_nextToken_143, eM_nextToken_144, eM_nextToken_147, eM_nextToken_150, eM_nextToken_151, eM_nextToken_152, eM_nextToken_155, eM_nextToken_156, eM_nextToken_159, eM_nextToken_160, eM_nextToken_161, eM_nextToken_162, eM_nextToken_165, eM_nextToken_166, eM_nextToken_169, eM_nextToken_170, eM_nextToken_171, eM_nextToken_174, eM_nextToken_175, eM_nextToken_176, eM_nextToken_179, eM_nextToken_337, eq_self, hr_k_some, Option.toList, List.cons_append, List.nil_append, is2k_n, is2k_i, is2k_r, is2k_0, oc_44, ro_m0, ro_m1, ro_m2, ro_m4, ro_m5, ro_m11, ro_m12, ro_m13, ro_m14, ro_m15, ro_m16, ro_m17, ak_45, ak_46, ak_47, ak_48, ak_49, ak_50, ak_51, ak_52, ak_53, ak_54, ak_55, ak_56, al_45, al_46, al_47, al_48, al_49, al_50, al_51, al_52, al_53, al_54, al_55, al_56, l45, l46, l47, l48, l49, l50, l51, l52, l53, l54, a45, a46, a47, a48, a49, a50, a51, a52, a53, a54, in46_0, in46_1, in46_2, in46_3, in46_4, in46_5, cn_0, cn_1, cn_2, cn_3, cn_4, cn_5, i10, i01, zb_t, zb_f, not_true_eq_false, not_false_eq_true, if_true, if_false, true_or, sp_in1, md_1, md_6, md_5, h9, hT.1, leF (show p < L by omega) (show L < 2 ^ 31 by omega), in_120 (show p < 120 by omega), cl_nI (show p < 100000 by omega), h33, el]
theorem mdig_loop : ∀ (d p v : Nat) (I : Nat → Nat → Int32) (J : Nat → Nat → Int64), p + d = L → MTp I bt L → I 44 9 = nI p → J 44 10 = lN v → v ≤ 9999 → ∃ I' J', den nM_nextToken (197, [some (.ref 44)], [], (I, J)) = den nM_nextToken (281, [some (.ref 44)], [], (I', J')) ∧ I' 44 9 = nI (run isD bt d p) ∧ J' 44 10 = lN (dgv bt d p v) ∧ oW 9 I I' ∧ ∀ q j, q ≠ 44 → J' q j = J q j := by
  intro d
  induction d with
  | zero =>
    intro p v I J hp hT h9 hJ hle
    have hL := hT.2.1
    refine ⟨I, J, ?_, h9, hJ, oW.rfl, fun _ _ _ => rfl⟩
    rw [eM_nextToken_197]
    simp only [eM_nextToken_198, eM_nextToken_201, eM_nextToken_202, eM_nextToken_205, eM_nextToken_208, eM_nextToken_209, eM_nextToken_212, eM_nextToken_213, eM_nextToken_216, eM_nextToken_217, eM_nextToken_220, eM_nextToken_223, eM_nextToken_224, eM_nextToken_225, eM_nextToken_228, eM_nextToken_231, eM_nextToken_232, eM_nextToken_235, eM_nextToken_236, eM_nextToken_239, eM_nextToken_242, eM_nextToken_243, eM_nextToken_246, eM_nextToken_249, eM_nextToken_250, eM_nextToken_251, eM_nextToken_254, eM_nextToken_255, eM_nextToken_258, eM_nextToken_259, eM_nextToken_260, eM_nextToken_261, eM_nextToken_264, eM_nextToken_265, eM_nextToken_268, eM_nextToken_269, eM_nextToken_270, eM_nextToken_273, eM_nextToken_274, eM_nextToken_275, eM_nextToken_278, eq_self, hr_k_some, Option.toList, List.cons_append, List.nil_append, is2k_n, is2k_i, is2k_r, is2k_0, oc_44, ro_m0, ro_m1, ro_m2, ro_m4, ro_m5, ro_m11, ro_m12, ro_m13, ro_m14, ro_m15, ro_m16, ro_m17, ak_45, ak_46, ak_47, ak_48, ak_49, ak_50, ak_51, ak_52, ak_53, ak_54, ak_55, ak_56, al_45, al_46, al_47, al_48, al_49, al_50, al_51, al_52, al_53, al_54, al_55, al_56, l45, l46, l47, l48, l49, l50, l51, l52, l53, l54, a45, a46, a47, a48, a49, a50, a51, a52, a53, a54, in46_0, in46_1, in46_2, in46_3, in46_4, in46_5, cn_0, cn_1, cn_2, cn_3, cn_4, cn_5, i10, i01, zb_t, zb_f, not_true_eq_false, not_false_eq_true, if_true, if_false, true_or, sp_in1, md_1, md_6, md_5, h9, hT.1, leT (show L ≤ p by omega) (show p < 2 ^ 31 by omega)]
  | succ d ih =>
    intro p v I J hp hT h9 hJ hle
    have hL := hT.2.1
    obtain ⟨hb, h33⟩ := hT.2.2 p (by omega)
    have el := m_isD (h := (I, J)) hb
    rw [eM_nextToken_197]
    unfold run dgv
    by_cases c : isD (bt p) = true
    · rw [if_pos c, if_pos c]
      have hcl : 48 ≤ bt p ∧ bt p ≤ 57 := of_decide_eq_true c
      rw [c] at el
      have hle2 : (if v ≤ 999 then v * 10 + bt p - 48 else v) ≤ 9999 := by split <;> omega
      obtain ⟨I', J', e', g', j', o', oj⟩ := ih (p + 1) (if v ≤ 999 then v * 10 + bt p - 48 else v) (up2 I 44 9 (nI (p + 1))) (up2 J 44 10 (lN (if v ≤ 999 then v * 10 + bt p - 48 else v))) (by omega) ((oN.up (J := J) (by decide)).tp hT) up2_eq up2_eq hle2
      refine ⟨I', J', ?_, g', j', oW.up.trans o', fun q j hq => (oj q j hq).trans (up2_na hq)⟩
      have ec : (lg_cmp (lN v) 999 ≤ 0) = (v ≤ 999) := lgle (c := 999) (by omega) (by decide)
      by_cases cc : v ≤ 999
      · rw [if_pos cc] at e'
        have ev : lN v * 10 + (nI (bt p)).toInt64 - 48 = lN (v * 10 + bt p - 48) := by
          rw [nI_l (by omega), show (10 : Int64) = lN 10 from rfl, lN_mul, lN_add, show (48 : Int64) = lN 48 from rfl, lN_sub (by omega)]
        simp only [eM_nextToken_198, eM_nextToken_201, eM_nextToken_202, eM_nextToken_205, eM_nextToken_208, eM_nextToken_209, eM_nextToken_212, eM_nextToken_213, eM_nextToken_216, eM_nextToken_217, eM_nextToken_220, eM_nextToken_223, eM_nextToken_224, eM_nextToken_225, eM_nextToken_228, eM_nextToken_231, eM_nextToken_232, eM_nextToken_235, eM_nextToken_236, eM_nextToken_239, eM_nextToken_242, eM_nextToken_243, eM_nextToken_246, eM_nextToken_249, eM_nextToken_250, eM_nextToken_251, eM_nextToken_254, eM_nextToken_255, eM_nextToken_258, eM_nextToken_259, eM_nextToken_260, eM_nextToken_261, eM_nextToken_264, eM_nextToken_265, eM_nextToken_268, eM_nextToken_269, eM_nextToken_270, eM_nextToken_273, eM_nextToken_274, eM_nextToken_275, eM_nextToken_278, eq_self, hr_k_some, Option.toList, List.cons_append, List.nil_append, is2k_n, is2k_i, is2k_r, is2k_0, oc_44, ro_m0, ro_m1, ro_m2, ro_m4, ro_m5, ro_m11, ro_m12, ro_m13, ro_m14, ro_m15, ro_m16, ro_m17, ak_45, ak_46, ak_47, ak_48, ak_49, ak_50, ak_51, ak_52, ak_53, ak_54, ak_55, ak_56, al_45, al_46, al_47, al_48, al_49, al_50, al_51, al_52, al_53, al_54, al_55, al_56, l45, l46, l47, l48, l49, l50, l51, l52, l53, l54, a45, a46, a47, a48, a49, a50, a51, a52, a53, a54, in46_0, in46_1, in46_2, in46_3, in46_4, in46_5, cn_0, cn_1, cn_2, cn_3, cn_4, cn_5, i10, i01, zb_t, zb_f, not_true_eq_false, not_false_eq_true, if_true, if_false, true_or, sp_in1, md_1, md_6, md_5, h9, hT.1, leF (show p < L by omega) (show L < 2 ^ 31 by omega), in_120 (show p < 120 by omega), cl_nI (show p < 100000 by omega), h33, el, hJ, ec.trans (eq_true cc), ev, nI_1]
        exact e'
      · rw [if_neg cc] at e'
        simp only [eM_nextToken_198, eM_nextToken_201, eM_nextToken_202, eM_nextToken_205, eM_nextToken_208, eM_nextToken_209, eM_nextToken_212, eM_nextToken_213, eM_nextToken_216, eM_nextToken_217, eM_nextToken_220, eM_nextToken_223, eM_nextToken_224, eM_nextToken_225, eM_nextToken_228, eM_nextToken_231, eM_nextToken_232, eM_nextToken_235, eM_nextToken_236, eM_nextToken_239, eM_nextToken_242, eM_nextToken_243, eM_nextToken_246, eM_nextToken_249, eM_nextToken_250, eM_nextToken_251, eM_nextToken_254, eM_nextToken_255, eM_nextToken_258, eM_nextToken_259, eM_nextToken_260, eM_nextToken_261, eM_nextToken_264, eM_nextToken_265, eM_nextToken_268, eM_nextToken_269, eM_nextToken_270, eM_nextToken_273, eM_nextToken_274, eM_nextToken_275, eM_nextToken_278, eq_self, hr_k_some, Option.toList, List.cons_append, List.nil_append, is2k_n, is2k_i, is2k_r, is2k_0, oc_44, ro_m0, ro_m1, ro_m2, ro_m4, ro_m5, ro_m11, ro_m12, ro_m13, ro_m14, ro_m15, ro_m16, ro_m17, ak_45, ak_46, ak_47, ak_48, ak_49, ak_50, ak_51, ak_52, ak_53, ak_54, ak_55, ak_56, al_45, al_46, al_47, al_48, al_49, al_50, al_51, al_52, al_53, al_54, al_55, al_56, l45, l46, l47, l48, l49, l50, l51, l52, l53, l54, a45, a46, a47, a48, a49, a50, a51, a52, a53, a54, in46_0, in46_1, in46_2, in46_3, in46_4, in46_5, cn_0, cn_1, cn_2, cn_3, cn_4, cn_5, i10, i01, zb_t, zb_f, not_true_eq_false, not_false_eq_true, if_true, if_false, true_or, sp_in1, md_1, md_6, md_5, h9, hT.1, leF (show p < L by omega) (show L < 2 ^ 31 by omega), in_120 (show p < 120 by omega), cl_nI (show p < 100000 by omega), h33, el, hJ, ec.trans (eq_false cc), nI_1]
        exact e'
    · rw [if_neg c, if_neg c]
      rw [show isD (bt p) = false from Bool.not_eq_true _ ▸ c] at el
      refine ⟨I, J, ?_, h9, hJ, oW.rfl, fun _ _ _ => rfl⟩
      simp only [eM_nextToken_198, eM_nextToken_201, eM_nextToken_202, eM_nextToken_205, eM_nextToken_208, eM_nextToken_209, eM_nextToken_212, eM_nextToken_213, eM_nextToken_216, eM_nextToken_217, eM_nextToken_220, eM_nextToken_223, eM_nextToken_224, eM_nextToken_225, eM_nextToken_228, eM_nextToken_231, eM_nextToken_232, eM_nextToken_235, eM_nextToken_236, eM_nextToken_239, eM_nextToken_242, eM_nextToken_243, eM_nextToken_246, eM_nextToken_249, eM_nextToken_250, eM_nextToken_251, eM_nextToken_254, eM_nextToken_255, eM_nextToken_258, eM_nextToken_259, eM_nextToken_260, eM_nextToken_261, eM_nextToken_264, eM_nextToken_265, eM_nextToken_268, eM_nextToken_269, eM_nextToken_270, eM_nextToken_273, eM_nextToken_274, eM_nextToken_275, eM_nextToken_278, eq_self, hr_k_some, Option.toList, List.cons_append, List.nil_append, is2k_n, is2k_i, is2k_r, is2k_0, oc_44, ro_m0, ro_m1, ro_m2, ro_m4, ro_m5, ro_m11, ro_m12, ro_m13, ro_m14, ro_m15, ro_m16, ro_m17, ak_45, ak_46, ak_47, ak_48, ak_49, ak_50, ak_51, ak_52, ak_53, ak_54, ak_55, ak_56, al_45, al_46, al_47, al_48, al_49, al_50, al_51, al_52, al_53, al_54, al_55, al_56, l45, l46, l47, l48, l49, l50, l51, l52, l53, l54, a45, a46, a47, a48, a49, a50, a51, a52, a53, a54, in46_0, in46_1, in46_2, in46_3, in46_4, in46_5, cn_0, cn_1, cn_2, cn_3, cn_4, cn_5, i10, i01, zb_t, zb_f, not_true_eq_false, not_false_eq_true, if_true, if_false, true_or, sp_in1, md_1, md_6, md_5, h9, hT.1, leF (show p < L by omega) (show L < 2 ^ 31 by omega), in_120 (show p < 120 by omega), cl_nI (show p < 100000 by omega), h33, el]
/-- the kind of token that the model tells -/
def mk (bt : Nat → Nat) (L b : Nat) : Nat := if kdT bt L b = 2 ∧ 999 < vlT bt L b then 4 else kdT bt L b
/-- the token that begins at b is looked at -/
def MK (I : Nat → Nat → Int32) (J : Nat → Nat → Int64) (bt : Nat → Nat) (L b : Nat) : Prop := b ≤ L ∧ I 44 7 = nI (mk bt L b) ∧ I 44 8 = nI b ∧ I 44 9 = nI (enT bt L b) ∧ (kdT bt L b = 1 → J 44 10 = lN (hv bt b (enT bt L b - b))) ∧ (kdT bt L b = 2 → J 44 10 = lN (vlT bt L b))
theorem oWr {k : Nat} (h : oW k I I') {b j : Nat} (hj : j ≠ k) : I' b j = I b j := h b j (fun q => hj q.2)
theorem m_next {e : Nat} (he : e ≤ L) (hT : MTp I bt L) (h9 : I 44 9 = nI e) : ∃ I' J', den nM_nextToken (0, [some (.ref 44)], [], (I, J)) = some (none, (I', J')) ∧ MK I' J' bt L (bgT bt L e) ∧ oN I I' J J' := by
  have hL := hT.2.1
  have o0 : oW 8 I (up2 I 44 8 (nI e)) := oW.up
  obtain ⟨I1, e1, g1, o1⟩ := mskip_loop (J := J) (L - e) e (up2 I 44 8 (nI e)) (by omega) ((oN.up (J := J) (by decide)).tp hT) up2_eq
  have o01 := o0.trans o1
  have n01 : oN I I1 J J := o01.n (by decide)
  have hb := bgT_le (bt := bt) he
  have g1 : I1 44 8 = nI (bgT bt L e) := g1
  have T1 := n01.tp hT
  generalize bgT bt L e = b at *
  have e0 : den nM_nextToken (0, [some (.ref 44)], [], (I, J)) = den nM_nextToken (59, [some (.ref 44)], [], (up2 I1 44 9 (nI b), up2 J 44 10 0)) := by
    simp only [eM_nextToken_0, eM_nextToken_1, eM_nextToken_2, eM_nextToken_5, eq_self, hr_k_some, Option.toList, List.cons_append, List.nil_append, is2k_n, is2k_i, is2k_r, is2k_0, oc_44, ro_m0, ro_m1, ro_m2, ro_m4, ro_m5, ro_m11, ro_m12, ro_m13, ro_m14, ro_m15, ro_m16, ro_m17, ak_45, ak_46, ak_47, ak_48, ak_49, ak_50, ak_51, ak_52, ak_53, ak_54, ak_55, ak_56, al_45, al_46, al_47, al_48, al_49, al_50, al_51, al_52, al_53, al_54, al_55, al_56, l45, l46, l47, l48, l49, l50, l51, l52, l53, l54, a45, a46, a47, a48, a49, a50, a51, a52, a53, a54, in46_0, in46_1, in46_2, in46_3, in46_4, in46_5, cn_0, cn_1, cn_2, cn_3, cn_4, cn_5, i10, i01, zb_t, zb_f, not_true_eq_false, not_false_eq_true, if_true, if_false, true_or, sp_in1, md_1, md_6, md_5, h9]
    rw [e1]
    simp only [eM_nextToken_46, eM_nextToken_47, eM_nextToken_48, eM_nextToken_51, eM_nextToken_54, eM_nextToken_55, eM_nextToken_56, eq_self, hr_k_some, Option.toList, List.cons_append, List.nil_append, is2k_n, is2k_i, is2k_r, is2k_0, oc_44, ro_m0, ro_m1, ro_m2, ro_m4, ro_m5, ro_m11, ro_m12, ro_m13, ro_m14, ro_m15, ro_m16, ro_m17, ak_45, ak_46, ak_47, ak_48, ak_49, ak_50, ak_51, ak_52, ak_53, ak_54, ak_55, ak_56, al_45, al_46, al_47, al_48, al_49, al_50, al_51, al_52, al_53, al_54, al_55, al_56, l45, l46, l47, l48, l49, l50, l51, l52, l53, l54, a45, a46, a47, a48, a49, a50, a51, a52, a53, a54, in46_0, in46_1, in46_2, in46_3, in46_4, in46_5, cn_0, cn_1, cn_2, cn_3, cn_4, cn_5, i10, i01, zb_t, zb_f, not_true_eq_false, not_false_eq_true, if_true, if_false, true_or, sp_in1, md_1, md_6, md_5, g1]
  rw [e0]
  have n2 : oN I (up2 I1 44 9 (nI b)) J (up2 J 44 10 0) := n01.trans ((oN.up (by decide)).trans oN.upJ)
  have T2 := n2.tp hT
  have f8 : up2 I1 44 9 (nI b) 44 8 = nI b := (up2_nk (by decide)).trans g1
  have f9 : up2 I1 44 9 (nI b) 44 9 = nI b := up2_eq
  have fJ : up2 J 44 10 (0 : Int64) 44 10 = lN 0 := up2_eq
  have f6 := T2.1
  generalize hI2 : up2 I1 44 9 (nI b) = I2 at *
  generalize hJ2 : up2 J 44 10 (0 : Int64) = J2 at *
  by_cases cL : b = L
  · have eL : (nI b = nI L) = True := eq_true (by rw [cL])
    have k0 : kdT bt L b = 0 := if_pos (by omega)
    refine ⟨up2 I2 44 7 0, J2, ?_, ⟨by omega, ?_, (up2_nk (by decide)).trans f8, ?_, fun q => by omega, fun q => by omega⟩, n2.trans (oN.up (by decide))⟩
    · simp only [eM_nextToken_59, eM_nextToken_60, eM_nextToken_63, eM_nextToken_64, eM_nextToken_67, eM_nextToken_70, eM_nextToken_71, eM_nextToken_72, eM_nextToken_75, eM_nextToken_337, eq_self, hr_k_some, Option.toList, List.cons_append, List.nil_append, is2k_n, is2k_i, is2k_r, is2k_0, oc_44, ro_m0, ro_m1, ro_m2, ro_m4, ro_m5, ro_m11, ro_m12, ro_m13, ro_m14, ro_m15, ro_m16, ro_m17, ak_45, ak_46, ak_47, ak_48, ak_49, ak_50, ak_51, ak_52, ak_53, ak_54, ak_55, ak_56, al_45, al_46, al_47, al_48, al_49, al_50, al_51, al_52, al_53, al_54, al_55, al_56, l45, l46, l47, l48, l49, l50, l51, l52, l53, l54, a45, a46, a47, a48, a49, a50, a51, a52, a53, a54, in46_0, in46_1, in46_2, in46_3, in46_4, in46_5, cn_0, cn_1, cn_2, cn_3, cn_4, cn_5, i10, i01, zb_t, zb_f, not_true_eq_false, not_false_eq_true, if_true, if_false, true_or, sp_in1, md_1, md_6, md_5, f8, f6, eL]
    · rw [up2_eq]; unfold mk; rw [k0]; rfl
    · rw [up2_nk (by decide), f9, show enT bt L b = b from if_pos (by omega)]
  · have eL : (nI b = nI L) = False := nq cL (by omega) (by omega)
    obtain ⟨hb2, h33⟩ := T2.2.2 b (by omega)
    have el := m_isL (h := (I2, J2)) hb2
    have ed := m_isD (h := (I2, J2)) hb2
    by_cases c1 : isL (bt b) = true
    · have k1 : kdT bt L b = 1 := by unfold kdT; rw [if_neg (by omega), if_pos c1]
      have en : enT bt L b = run isL bt (L - b) b := by unfold enT; rw [if_neg (by omega), if_pos c1]
      rw [c1] at el
      obtain ⟨I3, J3, e3, g3, j3, o3, oj3⟩ := mlet_loop (b := b) (L - b) b (up2 I2 44 7 1) J2 (by omega) (Nat.le_refl _) ((oN.up (J := J2) (by decide)).tp T2) ((up2_nk (by decide)).trans f9) (by rw [Nat.sub_self]; exact fJ) (by rw [Nat.sub_self]; exact Nat.zero_le _)
      refine ⟨I3, J3, ?_, ⟨by omega, ?_, ?_, ?_, fun _ => by rw [en]; exact j3, fun q => by omega⟩, n2.trans ((oN.up (k := 7) (by decide)).trans ⟨fun q j hq => o3 q j (by omega), oj3⟩)⟩
      · simp only [eM_nextToken_59, eM_nextToken_60, eM_nextToken_63, eM_nextToken_64, eM_nextToken_67, eM_nextToken_70, eM_nextToken_71, eM_nextToken_72, eM_nextToken_75, eM_nextToken_78, eM_nextToken_79, eM_nextToken_82, eM_nextToken_83, eM_nextToken_86, eM_nextToken_87, eM_nextToken_90, eM_nextToken_93, eM_nextToken_94, eM_nextToken_95, eq_self, hr_k_some, Option.toList, List.cons_append, List.nil_append, is2k_n, is2k_i, is2k_r, is2k_0, oc_44, ro_m0, ro_m1, ro_m2, ro_m4, ro_m5, ro_m11, ro_m12, ro_m13, ro_m14, ro_m15, ro_m16, ro_m17, ak_45, ak_46, ak_47, ak_48, ak_49, ak_50, ak_51, ak_52, ak_53, ak_54, ak_55, ak_56, al_45, al_46, al_47, al_48, al_49, al_50, al_51, al_52, al_53, al_54, al_55, al_56, l45, l46, l47, l48, l49, l50, l51, l52, l53, l54, a45, a46, a47, a48, a49, a50, a51, a52, a53, a54, in46_0, in46_1, in46_2, in46_3, in46_4, in46_5, cn_0, cn_1, cn_2, cn_3, cn_4, cn_5, i10, i01, zb_t, zb_f, not_true_eq_false, not_false_eq_true, if_true, if_false, true_or, sp_in1, md_1, md_6, md_5, f8, f6, eL, in_120 (show b < 120 by omega), cl_nI (show b < 100000 by omega), h33, el]
        exact e3
      · rw [oWr o3 (by decide), up2_eq]; unfold mk; rw [k1]; rfl
      · rw [oWr o3 (by decide), up2_nk (by decide)]; exact f8
      · rw [g3, en]
    · have c1' : isL (bt b) = false := Bool.not_eq_true _ ▸ c1
      rw [c1'] at el
      by_cases c2 : isD (bt b) = true
      · have k2 : kdT bt L b = 2 := by unfold kdT; rw [if_neg (by omega), if_neg c1, if_pos c2]
        have en : enT bt L b = run isD bt (L - b) b := by unfold enT; rw [if_neg (by omega), if_neg c1, if_pos c2]
        rw [c2] at ed
        obtain ⟨I3, J3, e3, g3, j3, o3, oj3⟩ := mdig_loop (L - b) b 0 I2 J2 (by omega) T2 f9 fJ (by omega)
        have hle : vlT bt L b ≤ 9999 := dgv_le _ _ _ (by omega)
        have j3' : J3 44 10 = lN (vlT bt L b) := j3
        have ec : (lg_cmp (lN (vlT bt L b)) 999 ≤ 0) = (vlT bt L b ≤ 999) := lgle (c := 999) (by omega) (by decide)
        refine ⟨up2 I3 44 7 (nI (mk bt L b)), J3, ?_, ⟨by omega, up2_eq, ?_, ?_, fun q => by omega, fun _ => j3'⟩, n2.trans ⟨fun q j hq => (if_neg (by omega)).trans (o3 q j (by omega)), oj3⟩⟩
        · simp only [eM_nextToken_59, eM_nextToken_60, eM_nextToken_63, eM_nextToken_64, eM_nextToken_67, eM_nextToken_70, eM_nextToken_71, eM_nextToken_72, eM_nextToken_75, eM_nextToken_78, eM_nextToken_79, eM_nextToken_82, eM_nextToken_83, eM_nextToken_86, eM_nextToken_87, eM_nextToken_90, eM_nextToken_93, eM_nextToken_94, eM_nextToken_95, eM_nextToken_182, eM_nextToken_183, eM_nextToken_186, eM_nextToken_187, eM_nextToken_190, eM_nextToken_191, eM_nextToken_194, eq_self, hr_k_some, Option.toList, List.cons_append, List.nil_append, is2k_n, is2k_i, is2k_r, is2k_0, oc_44, ro_m0, ro_m1, ro_m2, ro_m4, ro_m5, ro_m11, ro_m12, ro_m13, ro_m14, ro_m15, ro_m16, ro_m17, ak_45, ak_46, ak_47, ak_48, ak_49, ak_50, ak_51, ak_52, ak_53, ak_54, ak_55, ak_56, al_45, al_46, al_47, al_48, al_49, al_50, al_51, al_52, al_53, al_54, al_55, al_56, l45, l46, l47, l48, l49, l50, l51, l52, l53, l54, a45, a46, a47, a48, a49, a50, a51, a52, a53, a54, in46_0, in46_1, in46_2, in46_3, in46_4, in46_5, cn_0, cn_1, cn_2, cn_3, cn_4, cn_5, i10, i01, zb_t, zb_f, not_true_eq_false, not_false_eq_true, if_true, if_false, true_or, sp_in1, md_1, md_6, md_5, f8, f6, eL, in_120 (show b < 120 by omega), cl_nI (show b < 100000 by omega), h33, el, ed]
          rw [e3]
          unfold mk
          by_cases cv : vlT bt L b ≤ 999
          · rw [if_neg (fun q => by omega), k2]
            simp only [eM_nextToken_281, eM_nextToken_282, eM_nextToken_283, eM_nextToken_286, eM_nextToken_289, eM_nextToken_290, eM_nextToken_293, eM_nextToken_294, eM_nextToken_297, eM_nextToken_298, eM_nextToken_301, eM_nextToken_337, eq_self, hr_k_some, Option.toList, List.cons_append, List.nil_append, is2k_n, is2k_i, is2k_r, is2k_0, oc_44, ro_m0, ro_m1, ro_m2, ro_m4, ro_m5, ro_m11, ro_m12, ro_m13, ro_m14, ro_m15, ro_m16, ro_m17, ak_45, ak_46, ak_47, ak_48, ak_49, ak_50, ak_51, ak_52, ak_53, ak_54, ak_55, ak_56, al_45, al_46, al_47, al_48, al_49, al_50, al_51, al_52, al_53, al_54, al_55, al_56, l45, l46, l47, l48, l49, l50, l51, l52, l53, l54, a45, a46, a47, a48, a49, a50, a51, a52, a53, a54, in46_0, in46_1, in46_2, in46_3, in46_4, in46_5, cn_0, cn_1, cn_2, cn_3, cn_4, cn_5, i10, i01, zb_t, zb_f, not_true_eq_false, not_false_eq_true, if_true, if_false, true_or, sp_in1, md_1, md_6, md_5, j3', ec.trans (eq_true cv)]
            rfl
          · rw [if_pos ⟨k2, by omega⟩]
            simp only [eM_nextToken_281, eM_nextToken_282, eM_nextToken_283, eM_nextToken_286, eM_nextToken_289, eM_nextToken_290, eM_nextToken_293, eM_nextToken_294, eM_nextToken_297, eM_nextToken_298, eM_nextToken_301, eM_nextToken_337, eq_self, hr_k_some, Option.toList, List.cons_append, List.nil_append, is2k_n, is2k_i, is2k_r, is2k_0, oc_44, ro_m0, ro_m1, ro_m2, ro_m4, ro_m5, ro_m11, ro_m12, ro_m13, ro_m14, ro_m15, ro_m16, ro_m17, ak_45, ak_46, ak_47, ak_48, ak_49, ak_50, ak_51, ak_52, ak_53, ak_54, ak_55, ak_56, al_45, al_46, al_47, al_48, al_49, al_50, al_51, al_52, al_53, al_54, al_55, al_56, l45, l46, l47, l48, l49, l50, l51, l52, l53, l54, a45, a46, a47, a48, a49, a50, a51, a52, a53, a54, in46_0, in46_1, in46_2, in46_3, in46_4, in46_5, cn_0, cn_1, cn_2, cn_3, cn_4, cn_5, i10, i01, zb_t, zb_f, not_true_eq_false, not_false_eq_true, if_true, if_false, true_or, sp_in1, md_1, md_6, md_5, j3', ec.trans (eq_false cv)]
            rfl
        · rw [up2_nk (by decide), oWr o3 (by decide)]; exact f8
        · rw [up2_nk (by decide), g3, en]
      · have c2' : isD (bt b) = false := Bool.not_eq_true _ ▸ c2
        rw [c2'] at ed
        have en : enT bt L b = b + 1 := by unfold enT; rw [if_neg (by omega), if_neg c1, if_neg c2]
        have e59 : (nI (bt b) = 59) = (bt b = 59) := nI_lit _ 59 (by omega) (by decide)
        have k3 : kdT bt L b = if bt b = 59 then 3 else 4 := by unfold kdT; rw [if_neg (by omega), if_neg c1, if_neg c2]
        have hm : mk bt L b = if bt b = 59 then 3 else 4 := by
          unfold mk
          rw [if_neg (fun q => by have := q.1; rw [k3] at this; split at this <;> omega), k3]
        have kn1 : kdT bt L b ≠ 1 := by rw [k3]; split <;> omega
        have kn2 : kdT bt L b ≠ 2 := by rw [k3]; split <;> omega
        have f9' : ∀ x, up2 I2 44 7 x 44 9 = nI b := fun x => (up2_nk (by decide)).trans f9
        refine ⟨up2 (up2 I2 44 7 (nI (mk bt L b))) 44 9 (nI (b + 1)), J2, ?_, ⟨by omega, (up2_nk (by decide)).trans up2_eq, ?_, by rw [en]; exact up2_eq, fun q => absurd q kn1, fun q => absurd q kn2⟩, n2.trans ((oN.up (by decide)).trans (oN.up (by decide)))⟩
        · rw [hm]
          by_cases c3 : bt b = 59
          · rw [if_pos c3]
            simp only [eM_nextToken_59, eM_nextToken_60, eM_nextToken_63, eM_nextToken_64, eM_nextToken_67, eM_nextToken_70, eM_nextToken_71, eM_nextToken_72, eM_nextToken_75, eM_nextToken_78, eM_nextToken_79, eM_nextToken_82, eM_nextToken_83, eM_nextToken_86, eM_nextToken_87, eM_nextToken_90, eM_nextToken_93, eM_nextToken_94, eM_nextToken_95, eM_nextToken_182, eM_nextToken_183, eM_nextToken_186, eM_nextToken_187, eM_nextToken_190, eM_nextToken_191, eM_nextToken_194, eM_nextToken_304, eM_nextToken_305, eM_nextToken_306, eM_nextToken_309, eM_nextToken_310, eM_nextToken_313, eM_nextToken_314, eM_nextToken_316, eM_nextToken_319, eM_nextToken_320, eM_nextToken_323, eM_nextToken_324, eM_nextToken_327, eM_nextToken_328, eM_nextToken_329, eM_nextToken_332, eM_nextToken_333, eM_nextToken_334, eM_nextToken_337, eq_self, hr_k_some, Option.toList, List.cons_append, List.nil_append, is2k_n, is2k_i, is2k_r, is2k_0, oc_44, ro_m0, ro_m1, ro_m2, ro_m4, ro_m5, ro_m11, ro_m12, ro_m13, ro_m14, ro_m15, ro_m16, ro_m17, ak_45, ak_46, ak_47, ak_48, ak_49, ak_50, ak_51, ak_52, ak_53, ak_54, ak_55, ak_56, al_45, al_46, al_47, al_48, al_49, al_50, al_51, al_52, al_53, al_54, al_55, al_56, l45, l46, l47, l48, l49, l50, l51, l52, l53, l54, a45, a46, a47, a48, a49, a50, a51, a52, a53, a54, in46_0, in46_1, in46_2, in46_3, in46_4, in46_5, cn_0, cn_1, cn_2, cn_3, cn_4, cn_5, i10, i01, zb_t, zb_f, not_true_eq_false, not_false_eq_true, if_true, if_false, true_or, sp_in1, md_1, md_6, md_5, f8, f6, eL, in_120 (show b < 120 by omega), cl_nI (show b < 100000 by omega), h33, el, ed, e59.trans (eq_true c3), f9', nI_1]
            rfl
          · rw [if_neg c3]
            simp only [eM_nextToken_59, eM_nextToken_60, eM_nextToken_63, eM_nextToken_64, eM_nextToken_67, eM_nextToken_70, eM_nextToken_71, eM_nextToken_72, eM_nextToken_75, eM_nextToken_78, eM_nextToken_79, eM_nextToken_82, eM_nextToken_83, eM_nextToken_86, eM_nextToken_87, eM_nextToken_90, eM_nextToken_93, eM_nextToken_94, eM_nextToken_95, eM_nextToken_182, eM_nextToken_183, eM_nextToken_186, eM_nextToken_187, eM_nextToken_190, eM_nextToken_191, eM_nextToken_194, eM_nextToken_304, eM_nextToken_305, eM_nextToken_306, eM_nextToken_309, eM_nextToken_310, eM_nextToken_313, eM_nextToken_314, eM_nextToken_316, eM_nextToken_319, eM_nextToken_320, eM_nextToken_323, eM_nextToken_324, eM_nextToken_327, eM_nextToken_328, eM_nextToken_329, eM_nextToken_332, eM_nextToken_333, eM_nextToken_334, eM_nextToken_337, eq_self, hr_k_some, Option.toList, List.cons_append, List.nil_append, is2k_n, is2k_i, is2k_r, is2k_0, oc_44, ro_m0, ro_m1, ro_m2, ro_m4, ro_m5, ro_m11, ro_m12, ro_m13, ro_m14, ro_m15, ro_m16, ro_m17, ak_45, ak_46, ak_47, ak_48, ak_49, ak_50, ak_51, ak_52, ak_53, ak_54, ak_55, ak_56, al_45, al_46, al_47, al_48, al_49, al_50, al_51, al_52, al_53, al_54, al_55, al_56, l45, l46, l47, l48, l49, l50, l51, l52, l53, l54, a45, a46, a47, a48, a49, a50, a51, a52, a53, a54, in46_0, in46_1, in46_2, in46_3, in46_4, in46_5, cn_0, cn_1, cn_2, cn_3, cn_4, cn_5, i10, i01, zb_t, zb_f, not_true_eq_false, not_false_eq_true, if_true, if_false, true_or, sp_in1, md_1, md_6, md_5, f8, f6, eL, in_120 (show b < 120 by omega), cl_nI (show b < 100000 by omega), h33, el, ed, e59.trans (eq_false c3), f9', nI_1]
            rfl
        · rw [up2_nk (by decide), up2_nk (by decide)]; exact f8
/-- from a token to the next -/
theorem m_nx {b : Nat} (hK : MK I J bt L b) (hT : MTp I bt L) : ∃ I' J', den nM_nextToken (0, [some (.ref 44)], [], (I, J)) = some (none, (I', J')) ∧ MK I' J' bt L (nxT bt L b) ∧ oN I I' J J' := m_next (enT_le hK.1).2 hT hK.2.2.2.1
end
