/-! ===== words of the model ===== -/
def AW (k : Nat) : Nat := if k = 0 then 6 else if k = 1 then 4 else 3
def wid (k w : Nat) : Nat := if k = 0 then kwd w else if k = 1 then 9 + w else w
theorem wid_lt : ∀ k, k < 3 → ∀ w, w < AW k → wid k w < 13 := by decide +kernel
def wv (c : Nat → Nat) (w : Nat) : Nat → Nat
  | 0 => 0
  | j + 1 => if c (8 * w + j) = 32 then wv c w j else wv c w j * 27 + c (8 * w + j) - 96
theorem wv_s {c : Nat → Nat} {w j : Nat} : wv c w (j + 1) = if c (8 * w + j) = 32 then wv c w j else wv c w j * 27 + c (8 * w + j) - 96 := rfl
theorem wv_W : ∀ k, k < 3 → ∀ w, w < AW k → wv (ltr k) w 8 = hW (wid k w) (wl (wid k w)) ∧ wv (ltr k) w 8 ≤ 9999999999999 := by decide +kernel
theorem ltr_c : ∀ k, k < 3 → ∀ j, j < 8 * AW k → ltr k j = 32 ∨ (97 ≤ ltr k j ∧ ltr k j ≤ 122) := by decide +kernel
theorem wd_inj : ∀ a, a < 13 → ∀ c, c < 13 → wl a = wl c → (∀ i, i < wl a → wc a i = wc c i) → a = c := by decide +kernel
/-- which word stands, and 1; 0: none -/
def woF (bt : Nat → Nat) (L k b : Nat) : Nat → Nat
  | 0 => 0
  | w + 1 => if isWd bt L (wid k w) b = true then w + 1 else woF bt L k b w
theorem woF_s {bt : Nat → Nat} {L k b w : Nat} : woF bt L k b (w + 1) = if isWd bt L (wid k w) b = true then w + 1 else woF bt L k b w := rfl
theorem run_all {P : Nat → Bool} {bt : Nat → Nat} : ∀ d p i, i < run P bt d p - p → P (bt (p + i)) = true := by
  intro d
  induction d with
  | zero => intro p i h; unfold run at h; omega
  | succ d ih =>
    intro p i h
    unfold run at h
    by_cases c : P (bt p) = true
    · rw [if_pos c] at h
      cases i with
      | zero => exact c
      | succ i =>
        have := ih (p + 1) i (by omega)
        rwa [show p + 1 + i = p + (i + 1) by omega] at this
    · rw [if_neg c] at h; omega
section
variable {I I' I'' : Nat → Nat → Int32} {J J' J'' : Nat → Nat → Int64} {bt : Nat → Nat} {L : Nat} {t t' : Nat → Nat} {n B : Nat}
theorem isWd_inj {a c b : Nat} (ha : a < 13) (hc : c < 13) (h1 : isWd bt L a b = true) (h2 : isWd bt L c b = true) : a = c := by
  unfold isWd at h1 h2
  simp only [Bool.and_eq_true, decide_eq_true_eq] at h1 h2
  exact wd_inj a ha c hc (by omega) (fun i hi => (h1.2 i hi).symm.trans (h2.2 i (by omega)))
theorem isWd_hv {k b : Nat} (hk : k < 13) (h1 : kdT bt L b = 1) : (hW k (wl k) = hv bt b (enT bt L b - b)) = (isWd bt L k b = true) := by
  have hL : ¬ L ≤ b := fun q => by rw [show kdT bt L b = 0 from if_pos q] at h1; omega
  have hl : isL (bt b) = true := by
    by_cases c : isL (bt b) = true
    · exact c
    · unfold kdT at h1
      rw [if_neg hL, if_neg c] at h1
      split at h1
      · omega
      · split at h1 <;> omega
  have en : enT bt L b = run isL bt (L - b) b := by unfold enT; rw [if_neg hL, if_pos hl]
  have hal : ∀ i, i < enT bt L b - b → 97 ≤ bt (b + i) ∧ bt (b + i) ≤ 122 := fun i hi => by
    rw [en] at hi
    exact of_decide_eq_true (run_all _ _ i hi)
  have := hv_word (bt := bt) (b := b) hk (wl k) (Nat.le_refl _) (enT bt L b - b) hal
  apply propext
  unfold isWd
  simp only [Bool.and_eq_true, decide_eq_true_eq, h1, true_and]
  rw [eq_comm]
  exact this
theorem woF_eq {k b : Nat} (hk : k < 3) : ∀ W, W ≤ AW k → ∀ w, w < W → ((woF bt L k b W = w + 1) = (isWd bt L (wid k w) b = true)) := by
  intro W
  induction W with
  | zero => intro _ w hw; omega
  | succ W ih =>
    intro hW w hw
    apply propext
    unfold woF
    by_cases c : isWd bt L (wid k W) b = true
    · rw [if_pos c]
      constructor
      · intro h
        rw [show w = W by omega]; exact c
      · intro h
        have hinj : ∀ k, k < 3 → ∀ w, w < AW k → ∀ v, v < AW k → wid k w = wid k v → w = v := by decide +kernel
        have := hinj k hk w (by omega) W (by omega) (isWd_inj (wid_lt k hk w (by omega)) (wid_lt k hk W (by omega)) h c)
        omega
    · rw [if_neg c]
      by_cases q : w = W
      · constructor
        · intro h
          have hle : ∀ v, woF bt L k b v ≤ v := by
            intro v
            induction v with
            | zero => exact Nat.le_refl _
            | succ v ih => unfold woF; split <;> omega
          have := hle W
          omega
        · intro h; rw [q] at h; exact absurd h c
      · exact Iff.of_eq (ih (by omega) w (by omega))
theorem woF_le {k b : Nat} : ∀ v, woF bt L k b v ≤ v := by
  intro v
  induction v with
  | zero => exact Nat.le_refl _
  | succ v ih => unfold woF; split <;> omega
theorem woF_0 {k b : Nat} (h : ¬ kdT bt L b = 1) : ∀ v, woF bt L k b v = 0 := by
  intro v
  induction v with
  | zero => rfl
  | succ v ih =>
    unfold woF
    rw [if_neg (fun q => by unfold isWd at q; simp only [Bool.and_eq_true, decide_eq_true_eq] at q; exact h q.1.1)]
    exact ih
theorem wo_eq {k b w : Nat} (hk : k < 3) (hw : w < AW k) : (nI (woF bt L k b (AW k)) - 1 = nI w) = (isWd bt L (wid k w) b = true) := by
  have hl := woF_le (bt := bt) (L := L) (k := k) (b := b) (AW k)
  have hA : AW k ≤ 6 := by unfold AW; split <;> (try split) <;> omega
  rw [← woF_eq (bt := bt) (L := L) (b := b) hk (AW k) (Nat.le_refl _) w hw]
  by_cases c : woF bt L k b (AW k) = 0
  · rw [c]
    have : ∀ w, w < 6 → ¬ (nI 0 - 1 = nI w) := by decide
    exact propext ⟨fun q => absurd q (this w (by omega)), fun q => by omega⟩
  · rw [show nI (woF bt L k b (AW k)) - 1 = nI (woF bt L k b (AW k) - 1) from pk_sub (b := 1) (by omega), nI_lit _ w (by omega) (by omega)]
    exact propext ⟨fun q => by omega, fun q => by omega⟩
theorem kn_wo {b : Nat} : woF bt L 0 b 6 = if knV bt L b = 6 then 0 else knV bt L b + 1 := by
  have ex : ∀ i j, i < 6 → j < 6 → i ≠ j → ¬ (isWd bt L (kwd i) b = true ∧ isWd bt L (kwd j) b = true) := fun i j hi hj hne q => by
    have hk : ∀ i, i < 6 → ∀ j, j < 6 → kwd i = kwd j → i = j := by decide
    exact hne (hk i hi j hj (isWd_inj (kwd_lt hi) (kwd_lt hj) q.1 q.2))
  have e1 : woF bt L 0 b 6 = if isWd bt L (kwd 5) b = true then 6 else if isWd bt L (kwd 4) b = true then 5 else if isWd bt L (kwd 3) b = true then 4 else if isWd bt L (kwd 2) b = true then 3 else if isWd bt L (kwd 1) b = true then 2 else if isWd bt L (kwd 0) b = true then 1 else 0 := rfl
  have e2 : knV bt L b = if isWd bt L (kwd 0) b = true then 0 else if isWd bt L (kwd 1) b = true then 1 else if isWd bt L (kwd 2) b = true then 2 else if isWd bt L (kwd 3) b = true then 3 else if isWd bt L (kwd 4) b = true then 4 else if isWd bt L (kwd 5) b = true then 5 else 6 := rfl
  rw [e1, e2]
  have h01 := ex 0 1 (by decide) (by decide) (by decide)
  have h02 := ex 0 2 (by decide) (by decide) (by decide)
  have h03 := ex 0 3 (by decide) (by decide) (by decide)
  have h04 := ex 0 4 (by decide) (by decide) (by decide)
  have h05 := ex 0 5 (by decide) (by decide) (by decide)
  have h12 := ex 1 2 (by decide) (by decide) (by decide)
  have h13 := ex 1 3 (by decide) (by decide) (by decide)
  have h14 := ex 1 4 (by decide) (by decide) (by decide)
  have h15 := ex 1 5 (by decide) (by decide) (by decide)
  have h23 := ex 2 3 (by decide) (by decide) (by decide)
  have h24 := ex 2 4 (by decide) (by decide) (by decide)
  have h25 := ex 2 5 (by decide) (by decide) (by decide)
  have h34 := ex 3 4 (by decide) (by decide) (by decide)
  have h35 := ex 3 5 (by decide) (by decide) (by decide)
  have h45 := ex 4 5 (by decide) (by decide) (by decide)
  clear ex e1 e2
  generalize isWd bt L (kwd 0) b = b0 at *
  generalize isWd bt L (kwd 1) b = b1 at *
  generalize isWd bt L (kwd 2) b = b2 at *
  generalize isWd bt L (kwd 3) b = b3 at *
  generalize isWd bt L (kwd 4) b = b4 at *
  generalize isWd bt L (kwd 5) b = b5 at *
  cases b0 <;> cases b1 <;> cases b2 <;> cases b3 <;> cases b4 <;> cases b5 <;> first | rfl | exact absurd ⟨rfl, rfl⟩ ‹¬ (true = true ∧ true = true)›
/-- the numbers of the words of a row -/
theorem mw_in {a w : Nat} {N : Nat} {c : Nat → Nat} {x2 : Int32} (ha4 : hr_ak a = 4) (hal : ∀ h, hr_al h a = N) (hN : N ≤ 48) (hrd : ∀ j, j < N → hr_ai (I, J) a j = nI (c j)) (hc : ∀ j, j < N → c j = 32 ∨ (97 ≤ c j ∧ c j ≤ 122)) (hw : 8 * w + 8 ≤ N) : ∀ (d j : Nat), j + d = 8 → den nM_wordOf (27, [some (.ref 44), some (.ref a), some (.int x2), some (.int (nI w)), some (.long (lN (wv c w j))), none, some (.int (nI j))], [], (I, J)) = den nM_wordOf (82, [some (.ref 44), some (.ref a), some (.int x2), some (.int (nI w)), some (.long (lN (wv c w 8))), none, some (.int (nI 8))], [], (I, J)) := by
  have e8 : (8 : Int32) * nI w = nI (8 * w) := pk_mul 8 w
  intro d
  induction d with
  | zero =>
    intro j hj
    have hj' : j = 8 := by omega
    subst hj'
    have ec : ((8 : Int32) ≤ nI 8) = True := eq_true (by decide)
    rw [eM_wordOf_27]
    simp only [eM_wordOf_29, eM_wordOf_31, eM_wordOf_34, eM_wordOf_35, eM_wordOf_37, eM_wordOf_38, eM_wordOf_39, eM_wordOf_41, eM_wordOf_42, eM_wordOf_43, eM_wordOf_45, eM_wordOf_48, eM_wordOf_50, eM_wordOf_53, eM_wordOf_55, eM_wordOf_58, eM_wordOf_59, eM_wordOf_60, eM_wordOf_62, eM_wordOf_63, eM_wordOf_64, eM_wordOf_66, eM_wordOf_67, eM_wordOf_68, eM_wordOf_69, eM_wordOf_70, eM_wordOf_73, eM_wordOf_74, eM_wordOf_76, eM_wordOf_79, eq_self, hr_k_some, Option.toList, List.cons_append, List.nil_append, is2k_n, is2k_i, is2k_r, is2k_0, oc_44, ro_m0, ro_m1, ro_m2, ro_m4, ro_m5, ro_m11, ro_m12, ro_m13, ro_m14, ro_m15, ro_m16, ro_m17, ak_45, ak_46, ak_47, ak_48, ak_49, ak_50, ak_51, ak_52, ak_53, ak_54, ak_55, ak_56, al_45, al_46, al_47, al_48, al_49, al_50, al_51, al_52, al_53, al_54, al_55, al_56, l45, l46, l47, l48, l49, l50, l51, l52, l53, l54, a45, a46, a47, a48, a49, a50, a51, a52, a53, a54, in46_0, in46_1, in46_2, in46_3, in46_4, in46_5, cn_0, cn_1, cn_2, cn_3, cn_4, cn_5, i10, i01, zb_t, zb_f, not_true_eq_false, not_false_eq_true, if_true, if_false, true_or, sp_in1, md_1, md_6, md_5, ec]
  | succ d ih =>
    intro j hj
    have ec : ((8 : Int32) ≤ nI j) = False := leF (a := 8) (by omega) (by decide)
    have ih' := ih (j + 1) (by omega)
    have hr := hrd (8 * w + j) (by omega)
    have hcj := hc (8 * w + j) (by omega)
    have e32 : (nI (c (8 * w + j)) = 32) = (c (8 * w + j) = 32) := nI_lit _ 32 (by omega) (by decide)
    rw [wv_s] at ih'
    rw [eM_wordOf_27]
    by_cases cc : c (8 * w + j) = 32
    · rw [if_pos cc] at ih'
      simp only [eM_wordOf_29, eM_wordOf_31, eM_wordOf_34, eM_wordOf_35, eM_wordOf_37, eM_wordOf_38, eM_wordOf_39, eM_wordOf_41, eM_wordOf_42, eM_wordOf_43, eM_wordOf_45, eM_wordOf_48, eM_wordOf_50, eM_wordOf_53, eM_wordOf_55, eM_wordOf_58, eM_wordOf_59, eM_wordOf_60, eM_wordOf_62, eM_wordOf_63, eM_wordOf_64, eM_wordOf_66, eM_wordOf_67, eM_wordOf_68, eM_wordOf_69, eM_wordOf_70, eM_wordOf_73, eM_wordOf_74, eM_wordOf_76, eM_wordOf_79, eq_self, hr_k_some, Option.toList, List.cons_append, List.nil_append, is2k_n, is2k_i, is2k_r, is2k_0, oc_44, ro_m0, ro_m1, ro_m2, ro_m4, ro_m5, ro_m11, ro_m12, ro_m13, ro_m14, ro_m15, ro_m16, ro_m17, ak_45, ak_46, ak_47, ak_48, ak_49, ak_50, ak_51, ak_52, ak_53, ak_54, ak_55, ak_56, al_45, al_46, al_47, al_48, al_49, al_50, al_51, al_52, al_53, al_54, al_55, al_56, l45, l46, l47, l48, l49, l50, l51, l52, l53, l54, a45, a46, a47, a48, a49, a50, a51, a52, a53, a54, in46_0, in46_1, in46_2, in46_3, in46_4, in46_5, cn_0, cn_1, cn_2, cn_3, cn_4, cn_5, i10, i01, zb_t, zb_f, not_true_eq_false, not_false_eq_true, if_true, if_false, true_or, sp_in1, md_1, md_6, md_5, ec, ha4, hal, e8, nI_add, in_k (show 8 * w + j < N by omega) (show N < 2 ^ 31 by omega), cl_nI (show 8 * w + j < 100000 by omega), hr, e32.trans (eq_true cc), nI_1]
      exact ih'
    · rw [if_neg cc] at ih'
      have ev : lN (wv c w j) * 27 + (nI (c (8 * w + j))).toInt64 - 96 = lN (wv c w j * 27 + c (8 * w + j) - 96) := by
        rw [nI_l (by omega), show (27 : Int64) = lN 27 from rfl, lN_mul, lN_add, show (96 : Int64) = lN 96 from rfl, lN_sub (by omega)]
      simp only [eM_wordOf_29, eM_wordOf_31, eM_wordOf_34, eM_wordOf_35, eM_wordOf_37, eM_wordOf_38, eM_wordOf_39, eM_wordOf_41, eM_wordOf_42, eM_wordOf_43, eM_wordOf_45, eM_wordOf_48, eM_wordOf_50, eM_wordOf_53, eM_wordOf_55, eM_wordOf_58, eM_wordOf_59, eM_wordOf_60, eM_wordOf_62, eM_wordOf_63, eM_wordOf_64, eM_wordOf_66, eM_wordOf_67, eM_wordOf_68, eM_wordOf_69, eM_wordOf_70, eM_wordOf_73, eM_wordOf_74, eM_wordOf_76, eM_wordOf_79, eq_self, hr_k_some, Option.toList, List.cons_append, List.nil_append, is2k_n, is2k_i, is2k_r, is2k_0, oc_44, ro_m0, ro_m1, ro_m2, ro_m4, ro_m5, ro_m11, ro_m12, ro_m13, ro_m14, ro_m15, ro_m16, ro_m17, ak_45, ak_46, ak_47, ak_48, ak_49, ak_50, ak_51, ak_52, ak_53, ak_54, ak_55, ak_56, al_45, al_46, al_47, al_48, al_49, al_50, al_51, al_52, al_53, al_54, al_55, al_56, l45, l46, l47, l48, l49, l50, l51, l52, l53, l54, a45, a46, a47, a48, a49, a50, a51, a52, a53, a54, in46_0, in46_1, in46_2, in46_3, in46_4, in46_5, cn_0, cn_1, cn_2, cn_3, cn_4, cn_5, i10, i01, zb_t, zb_f, not_true_eq_false, not_false_eq_true, if_true, if_false, true_or, sp_in1, md_1, md_6, md_5, ec, ha4, hal, e8, nI_add, in_k (show 8 * w + j < N by omega) (show N < 2 ^ 31 by omega), cl_nI (show 8 * w + j < 100000 by omega), hr, e32.trans (eq_false cc), ev, nI_1]
      exact ih'
theorem mw_loop {k b : Nat} (hk : k < 3) (hV : I 44 7 = nI 1) (h1 : kdT bt L b = 1) (hJ : J 44 10 = lN (hv bt b (enT bt L b - b))) (hle : hv bt b (enT bt L b - b) ≤ 270000000000000) (ha4 : hr_ak (50 + k) = 4) (hal : ∀ h, hr_al h (50 + k) = 8 * AW k) (hrd : ∀ j, j < 8 * AW k → hr_ai (I, J) (50 + k) j = nI (ltr k j)) : ∀ (d w : Nat) (x4 x6 : Option Value), w + d = AW k → den nM_wordOf (4, [some (.ref 44), some (.ref (50 + k)), some (.int (nI (woF bt L k b w) - 1)), some (.int (nI w)), x4, none, x6], [], (I, J)) = some (some (.int (nI (woF bt L k b (AW k)) - 1)), (I, J)) := by
  have hA : AW k ≤ 6 ∧ 0 < AW k := by unfold AW; split <;> (try split) <;> omega
  have en : Int32.ofNat (8 * AW k) / 8 = nI (AW k) := by
    have : nI (8 * AW k) / nI 8 = nI (8 * AW k / 8) := pk_div (by omega) (by decide) (by decide)
    rw [show 8 * AW k / 8 = AW k by omega] at this
    exact this
  have hak0 : (0 < hr_ak (50 + k)) = True := eq_true (by rw [ha4]; decide)
  have e11 : (nI 1 = (1 : Int32)) = True := eq_true rfl
  intro d
  induction d with
  | zero =>
    intro w x4 x6 hw
    have hw' : w = AW k := by omega
    rw [hw', eM_wordOf_4]
    simp only [eM_wordOf_5, eM_wordOf_6, eM_wordOf_7, eM_wordOf_9, eM_wordOf_10, eM_wordOf_13, eM_wordOf_14, eM_wordOf_17, eM_wordOf_18, eM_wordOf_104, eM_wordOf_105, eq_self, hr_k_some, Option.toList, List.cons_append, List.nil_append, is2k_n, is2k_i, is2k_r, is2k_0, oc_44, ro_m0, ro_m1, ro_m2, ro_m4, ro_m5, ro_m11, ro_m12, ro_m13, ro_m14, ro_m15, ro_m16, ro_m17, ak_45, ak_46, ak_47, ak_48, ak_49, ak_50, ak_51, ak_52, ak_53, ak_54, ak_55, ak_56, al_45, al_46, al_47, al_48, al_49, al_50, al_51, al_52, al_53, al_54, al_55, al_56, l45, l46, l47, l48, l49, l50, l51, l52, l53, l54, a45, a46, a47, a48, a49, a50, a51, a52, a53, a54, in46_0, in46_1, in46_2, in46_3, in46_4, in46_5, cn_0, cn_1, cn_2, cn_3, cn_4, cn_5, i10, i01, zb_t, zb_f, not_true_eq_false, not_false_eq_true, if_true, if_false, true_or, sp_in1, md_1, md_6, md_5, hak0, hal, n8, en, leT (Nat.le_refl (AW k)) (show AW k < 2 ^ 31 by omega)]
  | succ d ih =>
    intro w x4 x6 hw
    obtain ⟨w1, w2⟩ := wv_W k hk w (by omega)
    have ein := mw_in (I := I) (J := J) (a := 50 + k) (w := w) (N := 8 * AW k) (c := ltr k) (x2 := nI (woF bt L k b w) - 1) ha4 hal (by omega) hrd (ltr_c k hk) (by omega) 8 0 (by omega)
    have ein' : den nM_wordOf (27, [some (.ref 44), some (.ref (50 + k)), some (.int (nI (woF bt L k b w) - 1)), some (.int (nI w)), some (.long 0), none, some (.int 0)], [], (I, J)) = _ := ein
    have ec : (lg_cmp (lN (wv (ltr k) w 8)) (lN (hv bt b (enT bt L b - b))) = 0) = (isWd bt L (wid k w) b = true) := by
      rw [← isWd_hv (wid_lt k hk w (by omega)) h1, ← w1]
      apply propext
      rw [lg_cmp_eq, pk_lEQ (by omega) (by omega)]
    have ih' := ih (w + 1)
    rw [woF_s] at ih'
    rw [eM_wordOf_4]
    simp only [eM_wordOf_5, eM_wordOf_6, eM_wordOf_7, eM_wordOf_9, eM_wordOf_10, eM_wordOf_13, eM_wordOf_14, eM_wordOf_17, eM_wordOf_18, eM_wordOf_21, eM_wordOf_22, eM_wordOf_24, eM_wordOf_25, eq_self, hr_k_some, Option.toList, List.cons_append, List.nil_append, is2k_n, is2k_i, is2k_r, is2k_0, oc_44, ro_m0, ro_m1, ro_m2, ro_m4, ro_m5, ro_m11, ro_m12, ro_m13, ro_m14, ro_m15, ro_m16, ro_m17, ak_45, ak_46, ak_47, ak_48, ak_49, ak_50, ak_51, ak_52, ak_53, ak_54, ak_55, ak_56, al_45, al_46, al_47, al_48, al_49, al_50, al_51, al_52, al_53, al_54, al_55, al_56, l45, l46, l47, l48, l49, l50, l51, l52, l53, l54, a45, a46, a47, a48, a49, a50, a51, a52, a53, a54, in46_0, in46_1, in46_2, in46_3, in46_4, in46_5, cn_0, cn_1, cn_2, cn_3, cn_4, cn_5, i10, i01, zb_t, zb_f, not_true_eq_false, not_false_eq_true, if_true, if_false, true_or, sp_in1, md_1, md_6, md_5, hak0, hal, n8, en, leF (show w < AW k by omega) (show AW k < 2 ^ 31 by omega), hV, e11]
    rw [ein']
    by_cases c : isWd bt L (wid k w) b = true
    · have ih2 := ih' (some (.long (lN (wv (ltr k) w 8)))) (some (.int (nI 8))) (by omega)
      rw [if_pos c, nI_pred] at ih2
      simp only [eM_wordOf_82, eM_wordOf_84, eM_wordOf_85, eM_wordOf_88, eM_wordOf_89, eM_wordOf_92, eM_wordOf_93, eM_wordOf_96, eM_wordOf_97, eM_wordOf_98, eM_wordOf_101, eq_self, hr_k_some, Option.toList, List.cons_append, List.nil_append, is2k_n, is2k_i, is2k_r, is2k_0, oc_44, ro_m0, ro_m1, ro_m2, ro_m4, ro_m5, ro_m11, ro_m12, ro_m13, ro_m14, ro_m15, ro_m16, ro_m17, ak_45, ak_46, ak_47, ak_48, ak_49, ak_50, ak_51, ak_52, ak_53, ak_54, ak_55, ak_56, al_45, al_46, al_47, al_48, al_49, al_50, al_51, al_52, al_53, al_54, al_55, al_56, l45, l46, l47, l48, l49, l50, l51, l52, l53, l54, a45, a46, a47, a48, a49, a50, a51, a52, a53, a54, in46_0, in46_1, in46_2, in46_3, in46_4, in46_5, cn_0, cn_1, cn_2, cn_3, cn_4, cn_5, i10, i01, zb_t, zb_f, not_true_eq_false, not_false_eq_true, if_true, if_false, true_or, sp_in1, md_1, md_6, md_5, hJ, ec.trans (eq_true c), nI_1]
      exact ih2
    · have ih2 := ih' (some (.long (lN (wv (ltr k) w 8)))) (some (.int (nI 8))) (by omega)
      rw [if_neg c] at ih2
      simp only [eM_wordOf_82, eM_wordOf_84, eM_wordOf_85, eM_wordOf_88, eM_wordOf_89, eM_wordOf_92, eM_wordOf_93, eM_wordOf_96, eM_wordOf_97, eM_wordOf_98, eM_wordOf_101, eq_self, hr_k_some, Option.toList, List.cons_append, List.nil_append, is2k_n, is2k_i, is2k_r, is2k_0, oc_44, ro_m0, ro_m1, ro_m2, ro_m4, ro_m5, ro_m11, ro_m12, ro_m13, ro_m14, ro_m15, ro_m16, ro_m17, ak_45, ak_46, ak_47, ak_48, ak_49, ak_50, ak_51, ak_52, ak_53, ak_54, ak_55, ak_56, al_45, al_46, al_47, al_48, al_49, al_50, al_51, al_52, al_53, al_54, al_55, al_56, l45, l46, l47, l48, l49, l50, l51, l52, l53, l54, a45, a46, a47, a48, a49, a50, a51, a52, a53, a54, in46_0, in46_1, in46_2, in46_3, in46_4, in46_5, cn_0, cn_1, cn_2, cn_3, cn_4, cn_5, i10, i01, zb_t, zb_f, not_true_eq_false, not_false_eq_true, if_true, if_false, true_or, sp_in1, md_1, md_6, md_5, hJ, ec.trans (eq_false c), nI_1]
      exact ih2
theorem hv_le {b : Nat} : ∀ j, (∀ i, i < j → bt (b + i) ≤ 122) → hv bt b j ≤ 270000000000000 := by
  intro j
  induction j with
  | zero => intro _; exact Nat.zero_le _
  | succ j ih =>
    intro h
    have := ih (fun i hi => h i (by omega))
    have := h j (by omega)
    rw [hv_s]
    split <;> omega
theorem m_wordK {k b : Nat} (hk : k < 3) (hK : MK I J bt L b) (hT : MTp I bt L) (ha4 : hr_ak (50 + k) = 4) (hal : ∀ h, hr_al h (50 + k) = 8 * AW k) (hrd : ∀ j, j < 8 * AW k → hr_ai (I, J) (50 + k) j = nI (ltr k j)) : den nM_wordOf (0, [some (.ref 44), some (.ref (50 + k)), none, none, none, none, none], [], (I, J)) = some (some (.int (nI (woF bt L k b (AW k)) - 1)), (I, J)) := by
  obtain ⟨k1, k2, k3, k4, k5, k6⟩ := hK
  have hA : AW k ≤ 6 ∧ 0 < AW k := by unfold AW; split <;> (try split) <;> omega
  by_cases h1 : kdT bt L b = 1
  · have hm : mk bt L b = 1 := by unfold mk; rw [if_neg (fun q => by omega), h1]
    rw [hm] at k2
    have hL : ¬ L ≤ b := fun q => by rw [show kdT bt L b = 0 from if_pos q] at h1; omega
    have hle : hv bt b (enT bt L b - b) ≤ 270000000000000 := by
      have hb2 := (isWd_hv (bt := bt) (L := L) (k := 0) (by decide) h1)
      by_cases c : isL (bt b) = true
      · have en : enT bt L b = run isL bt (L - b) b := by unfold enT; rw [if_neg hL, if_pos c]
        exact hv_le _ (fun i hi => by
          rw [en] at hi
          exact (of_decide_eq_true (run_all (P := isL) _ _ i hi) : 97 ≤ bt (b + i) ∧ bt (b + i) ≤ 122).2)
      · unfold kdT at h1
        rw [if_neg hL, if_neg c] at h1
        split at h1
        · omega
        · split at h1 <;> omega
    have := mw_loop (I := I) (J := J) hk k2 h1 (k5 h1) hle ha4 hal hrd (AW k) 0 none none (by omega)
    simp only [eM_wordOf_0, eM_wordOf_1, eM_wordOf_2, eM_wordOf_3, eq_self, hr_k_some, Option.toList, List.cons_append, List.nil_append, is2k_n, is2k_i, is2k_r, is2k_0, oc_44, ro_m0, ro_m1, ro_m2, ro_m4, ro_m5, ro_m11, ro_m12, ro_m13, ro_m14, ro_m15, ro_m16, ro_m17, ak_45, ak_46, ak_47, ak_48, ak_49, ak_50, ak_51, ak_52, ak_53, ak_54, ak_55, ak_56, al_45, al_46, al_47, al_48, al_49, al_50, al_51, al_52, al_53, al_54, al_55, al_56, l45, l46, l47, l48, l49, l50, l51, l52, l53, l54, a45, a46, a47, a48, a49, a50, a51, a52, a53, a54, in46_0, in46_1, in46_2, in46_3, in46_4, in46_5, cn_0, cn_1, cn_2, cn_3, cn_4, cn_5, i10, i01, zb_t, zb_f, not_true_eq_false, not_false_eq_true, if_true, if_false, true_or, sp_in1, md_1, md_6, md_5]
    exact this
  · rw [woF_0 h1]
    have hne : ¬ mk bt L b = 1 := by
      unfold mk
      split
      · omega
      · exact h1
    have hlt : mk bt L b < 2 ^ 31 := by
      have := kdT_lt (bt := bt) (L := L) (b := b)
      unfold mk; split <;> omega
    have e1 : (nI (mk bt L b) = 1) = False := nq (c := 1) hne hlt (by decide)
    have en : Int32.ofNat (8 * AW k) / 8 = nI (AW k) := by
      have : nI (8 * AW k) / nI 8 = nI (8 * AW k / 8) := pk_div (by omega) (by decide) (by decide)
      rw [show 8 * AW k / 8 = AW k by omega] at this
      exact this
    have hak0 : (0 < hr_ak (50 + k)) = True := eq_true (by rw [ha4]; decide)
    have e0 : (nI (AW k) ≤ 0) = False := leF (b := 0) (by omega) (by omega)
    simp only [eM_wordOf_0, eM_wordOf_1, eM_wordOf_2, eM_wordOf_3, eM_wordOf_4, eM_wordOf_5, eM_wordOf_6, eM_wordOf_7, eM_wordOf_9, eM_wordOf_10, eM_wordOf_13, eM_wordOf_14, eM_wordOf_17, eM_wordOf_18, eM_wordOf_104, eM_wordOf_105, eq_self, hr_k_some, Option.toList, List.cons_append, List.nil_append, is2k_n, is2k_i, is2k_r, is2k_0, oc_44, ro_m0, ro_m1, ro_m2, ro_m4, ro_m5, ro_m11, ro_m12, ro_m13, ro_m14, ro_m15, ro_m16, ro_m17, ak_45, ak_46, ak_47, ak_48, ak_49, ak_50, ak_51, ak_52, ak_53, ak_54, ak_55, ak_56, al_45, al_46, al_47, al_48, al_49, al_50, al_51, al_52, al_53, al_54, al_55, al_56, l45, l46, l47, l48, l49, l50, l51, l52, l53, l54, a45, a46, a47, a48, a49, a50, a51, a52, a53, a54, in46_0, in46_1, in46_2, in46_3, in46_4, in46_5, cn_0, cn_1, cn_2, cn_3, cn_4, cn_5, i10, i01, zb_t, zb_f, not_true_eq_false, not_false_eq_true, if_true, if_false, true_or, sp_in1, md_1, md_6, md_5, hak0, hal, n8, en, e0, k2, e1]
    rfl
theorem m_w0 {b : Nat} (hK : MK I J bt L b) (hT : MTp I bt L) (hl : Mlt I) : den nM_wordOf (0, [some (.ref 44), some (.ref 50), none, none, none, none, none], [], (I, J)) = some (some (.int (nI (woF bt L 0 b 6) - 1)), (I, J)) :=
  m_wordK (k := 0) (by decide) hK hT ak_50 (fun _ => al_50) (fun j hj => (a50 (I := I) (J := J) (j := j)).trans (hl.1 j hj))
theorem m_w1 {b : Nat} (hK : MK I J bt L b) (hT : MTp I bt L) (hl : Mlt I) : den nM_wordOf (0, [some (.ref 44), some (.ref 51), none, none, none, none, none], [], (I, J)) = some (some (.int (nI (woF bt L 1 b 4) - 1)), (I, J)) :=
  m_wordK (k := 1) (by decide) hK hT ak_51 (fun _ => al_51) (fun j hj => (a51 (I := I) (J := J) (j := j)).trans (hl.2.1 j hj))
theorem m_w2 {b : Nat} (hK : MK I J bt L b) (hT : MTp I bt L) (hl : Mlt I) : den nM_wordOf (0, [some (.ref 44), some (.ref 52), none, none, none, none, none], [], (I, J)) = some (some (.int (nI (woF bt L 2 b 3) - 1)), (I, J)) :=
  m_wordK (k := 2) (by decide) hK hT ak_52 (fun _ => al_52) (fun j hj => (a52 (I := I) (J := J) (j := j)).trans (hl.2.2 j hj))
/-- a number that is taken -/
theorem m_take {m b : Nat} (hm : m < 999) (hK : MK I J bt L b) (hT : MTp I bt L) : ∃ I' J', den nM_takesNumber (0, [some (.ref 44), some (.int 0), some (.int (nI m)), none], [], (I, J)) = some (some (.int (if isNo bt L m b = true then nI (vlT bt L b) else -1)), (I', J')) ∧ MK I' J' bt L (if isNo bt L m b = true then nxT bt L b else b) ∧ oN I I' J J' := by
  have hK0 := hK
  obtain ⟨k1, k2, k3, k4, k5, k6⟩ := hK
  have hlt := kdT_lt (bt := bt) (L := L) (b := b)
  have hml : mk bt L b < 5 := by unfold mk; split <;> omega
  have e2 : (nI (mk bt L b) = 2) = (mk bt L b = 2) := nI_lit _ 2 (by omega) (by decide)
  by_cases c : isNo bt L m b = true
  · have hc : kdT bt L b = 2 ∧ vlT bt L b ≤ m := of_decide_eq_true c
    have hmk : mk bt L b = 2 := by unfold mk; rw [if_neg (fun q => by omega), hc.1]
    have ei : decide ((0 : Int32) ≤ nI (vlT bt L b) ∧ nI (vlT bt L b) ≤ nI m) = true := iy hc.2 (by omega)
    obtain ⟨I1, J1, e1, K1, o1⟩ := m_nx hK0 hT
    rw [if_pos c, if_pos c]
    refine ⟨I1, J1, ?_, K1, o1⟩
    simp only [eM_takesNumber_0, eM_takesNumber_1, eM_takesNumber_4, eM_takesNumber_5, eM_takesNumber_8, eM_takesNumber_9, eM_takesNumber_12, eM_takesNumber_13, eM_takesNumber_14, eM_takesNumber_15, eM_takesNumber_18, eM_takesNumber_21, eM_takesNumber_22, eM_takesNumber_25, eM_takesNumber_26, eM_takesNumber_29, eM_takesNumber_30, eM_takesNumber_31, eM_takesNumber_32, eM_takesNumber_35, eM_takesNumber_36, eM_takesNumber_39, eM_takesNumber_40, eq_self, hr_k_some, Option.toList, List.cons_append, List.nil_append, is2k_n, is2k_i, is2k_r, is2k_0, oc_44, ro_m0, ro_m1, ro_m2, ro_m4, ro_m5, ro_m11, ro_m12, ro_m13, ro_m14, ro_m15, ro_m16, ro_m17, ak_45, ak_46, ak_47, ak_48, ak_49, ak_50, ak_51, ak_52, ak_53, ak_54, ak_55, ak_56, al_45, al_46, al_47, al_48, al_49, al_50, al_51, al_52, al_53, al_54, al_55, al_56, l45, l46, l47, l48, l49, l50, l51, l52, l53, l54, a45, a46, a47, a48, a49, a50, a51, a52, a53, a54, in46_0, in46_1, in46_2, in46_3, in46_4, in46_5, cn_0, cn_1, cn_2, cn_3, cn_4, cn_5, i10, i01, zb_t, zb_f, not_true_eq_false, not_false_eq_true, if_true, if_false, true_or, sp_in1, md_1, md_6, md_5, k2, e2.trans (eq_true hmk), k6 hc.1, lN_i, ei, lt0f (show vlT bt L b < 2 ^ 31 by omega), e1]
  · rw [if_neg c, if_neg c]
    refine ⟨I, J, ?_, hK0, oN.rfl⟩
    by_cases hmk : mk bt L b = 2
    · have hk2 : kdT bt L b = 2 ∧ ¬ 999 < vlT bt L b := by
        unfold mk at hmk
        split at hmk
        · omega
        · rename_i q; exact ⟨hmk, fun r => q ⟨hmk, r⟩⟩
      have hgt : m < vlT bt L b := by
        by_cases q : vlT bt L b ≤ m
        · exact absurd (decide_eq_true ⟨hk2.1, q⟩) c
        · omega
      have ei : decide ((0 : Int32) ≤ nI (vlT bt L b) ∧ nI (vlT bt L b) ≤ nI m) = false := ino (by omega) (fun ⟨j, h1, h2⟩ => by
        have := (nI_eq (by omega) (by omega)).mp h2
        omega)
      simp only [eM_takesNumber_0, eM_takesNumber_1, eM_takesNumber_4, eM_takesNumber_5, eM_takesNumber_8, eM_takesNumber_9, eM_takesNumber_12, eM_takesNumber_13, eM_takesNumber_14, eM_takesNumber_15, eM_takesNumber_18, eM_takesNumber_21, eM_takesNumber_22, eM_takesNumber_25, eM_takesNumber_26, eM_takesNumber_29, eM_takesNumber_30, eM_takesNumber_31, eM_takesNumber_32, eM_takesNumber_35, eM_takesNumber_36, eM_takesNumber_39, eM_takesNumber_40, eq_self, hr_k_some, Option.toList, List.cons_append, List.nil_append, is2k_n, is2k_i, is2k_r, is2k_0, oc_44, ro_m0, ro_m1, ro_m2, ro_m4, ro_m5, ro_m11, ro_m12, ro_m13, ro_m14, ro_m15, ro_m16, ro_m17, ak_45, ak_46, ak_47, ak_48, ak_49, ak_50, ak_51, ak_52, ak_53, ak_54, ak_55, ak_56, al_45, al_46, al_47, al_48, al_49, al_50, al_51, al_52, al_53, al_54, al_55, al_56, l45, l46, l47, l48, l49, l50, l51, l52, l53, l54, a45, a46, a47, a48, a49, a50, a51, a52, a53, a54, in46_0, in46_1, in46_2, in46_3, in46_4, in46_5, cn_0, cn_1, cn_2, cn_3, cn_4, cn_5, i10, i01, zb_t, zb_f, not_true_eq_false, not_false_eq_true, if_true, if_false, true_or, sp_in1, md_1, md_6, md_5, k2, e2.trans (eq_true hmk), k6 hk2.1, lN_i, ei, n10']
    · simp only [eM_takesNumber_0, eM_takesNumber_1, eM_takesNumber_4, eM_takesNumber_5, eM_takesNumber_8, eM_takesNumber_9, eM_takesNumber_12, eM_takesNumber_13, eM_takesNumber_14, eM_takesNumber_15, eM_takesNumber_18, eM_takesNumber_21, eM_takesNumber_22, eM_takesNumber_25, eM_takesNumber_26, eM_takesNumber_29, eM_takesNumber_30, eM_takesNumber_31, eM_takesNumber_32, eM_takesNumber_35, eM_takesNumber_36, eM_takesNumber_39, eM_takesNumber_40, eq_self, hr_k_some, Option.toList, List.cons_append, List.nil_append, is2k_n, is2k_i, is2k_r, is2k_0, oc_44, ro_m0, ro_m1, ro_m2, ro_m4, ro_m5, ro_m11, ro_m12, ro_m13, ro_m14, ro_m15, ro_m16, ro_m17, ak_45, ak_46, ak_47, ak_48, ak_49, ak_50, ak_51, ak_52, ak_53, ak_54, ak_55, ak_56, al_45, al_46, al_47, al_48, al_49, al_50, al_51, al_52, al_53, al_54, al_55, al_56, l45, l46, l47, l48, l49, l50, l51, l52, l53, l54, a45, a46, a47, a48, a49, a50, a51, a52, a53, a54, in46_0, in46_1, in46_2, in46_3, in46_4, in46_5, cn_0, cn_1, cn_2, cn_3, cn_4, cn_5, i10, i01, zb_t, zb_f, not_true_eq_false, not_false_eq_true, if_true, if_false, true_or, sp_in1, md_1, md_6, md_5, k2, e2.trans (eq_false hmk), n10']
end
