section
variable {I I' : Nat → Nat → Int32} {J J' : Nat → Nat → Int64} {t t' : Nat → Nat} {n n' kp B : Nat} {u : Nat → Nat} {m : Nat} {y : Nat → Int32} {bt : Nat → Nat} {L : Nat} {w z : Nat → Nat} {num : Nat → Nat → Int64}
/-! fewest -/
theorem bits_step : ∀ s, s < 256 → s ≠ 0 → (nI s &&& (nI s - 1)) = nI (s &&& (s - 1)) ∧ popc (s &&& (s - 1)) + 1 = popc s ∧ (s &&& (s - 1)) < 256 := by decide +kernel
theorem bits_zero : ∀ s, s < 256 → popc s = 0 → s = 0 := by decide +kernel
theorem bits_loop {x0 : Int32} {h : hr_H} : ∀ (d s c : Nat), popc s = d → s < 256 → c + d < 100 → den nM_bits (4, [some (.int x0), some (.int (nI c)), some (.int (nI s))], [], h) = some (some (.int (nI (c + d))), h) := by
  intro d
  induction d with
  | zero =>
    intro s c hp hs hc
    have h0 := bits_zero s hs hp
    subst h0
    have e : (nI 0 = (0 : Int32)) = True := eq_true rfl
    rw [eM_bits_4]
    simp only [eM_bits_5, eM_bits_8, eM_bits_11, eM_bits_12, eM_bits_13, eM_bits_14, eM_bits_15, eM_bits_16, eM_bits_17, eM_bits_20, eM_bits_21, eq_self, hr_k_some, Option.toList, List.cons_append, List.nil_append, is2k_n, is2k_i, is2k_r, is2k_0, oc_44, ro_m0, ro_m1, ro_m2, ro_m4, ro_m5, ro_m11, ro_m12, ro_m13, ro_m14, ro_m15, ro_m16, ro_m17, ak_45, ak_46, ak_47, ak_48, ak_49, ak_50, ak_51, ak_52, ak_53, ak_54, ak_55, ak_56, al_45, al_46, al_47, al_48, al_49, al_50, al_51, al_52, al_53, al_54, al_55, al_56, l45, l46, l47, l48, l49, l50, l51, l52, l53, l54, a45, a46, a47, a48, a49, a50, a51, a52, a53, a54, in46_0, in46_1, in46_2, in46_3, in46_4, in46_5, cn_0, cn_1, cn_2, cn_3, cn_4, cn_5, i10, i01, zb_t, zb_f, not_true_eq_false, not_false_eq_true, if_true, if_false, true_or, sp_in1, md_1, md_6, md_5, e, Nat.add_zero]
  | succ d ih =>
    intro s c hp hs hc
    have h0 : s ≠ 0 := fun q => by rw [q, show popc 0 = 0 by decide] at hp; omega
    obtain ⟨b1, b2, b3⟩ := bits_step s hs h0
    have e : (nI s = (0 : Int32)) = False := nq (c := 0) h0 (by omega) (by decide)
    have ih' := ih (s &&& (s - 1)) (c + 1) (by omega) b3 (by omega)
    rw [eM_bits_4]
    simp only [eM_bits_5, eM_bits_8, eM_bits_11, eM_bits_12, eM_bits_13, eM_bits_14, eM_bits_15, eM_bits_16, eM_bits_17, eM_bits_20, eM_bits_21, eq_self, hr_k_some, Option.toList, List.cons_append, List.nil_append, is2k_n, is2k_i, is2k_r, is2k_0, oc_44, ro_m0, ro_m1, ro_m2, ro_m4, ro_m5, ro_m11, ro_m12, ro_m13, ro_m14, ro_m15, ro_m16, ro_m17, ak_45, ak_46, ak_47, ak_48, ak_49, ak_50, ak_51, ak_52, ak_53, ak_54, ak_55, ak_56, al_45, al_46, al_47, al_48, al_49, al_50, al_51, al_52, al_53, al_54, al_55, al_56, l45, l46, l47, l48, l49, l50, l51, l52, l53, l54, a45, a46, a47, a48, a49, a50, a51, a52, a53, a54, in46_0, in46_1, in46_2, in46_3, in46_4, in46_5, cn_0, cn_1, cn_2, cn_3, cn_4, cn_5, i10, i01, zb_t, zb_f, not_true_eq_false, not_false_eq_true, if_true, if_false, true_or, sp_in1, md_1, md_6, md_5, e, b1, nI_1]
    rw [ih', show c + 1 + d = c + (d + 1) by omega]
theorem m_bits {s : Nat} (hs : s < 256) {h : hr_H} : den nM_bits (0, [some (.int (nI s)), none, none], [], h) = some (some (.int (nI (popc s))), h) := by
  have := bits_loop (x0 := nI s) (h := h) (popc s) s 0 rfl hs (by have := popc_le s; omega)
  rw [Nat.zero_add] at this
  simp only [eM_bits_0, eM_bits_1, eM_bits_2, eM_bits_3, eq_self, hr_k_some, Option.toList, List.cons_append, List.nil_append, is2k_n, is2k_i, is2k_r, is2k_0, oc_44, ro_m0, ro_m1, ro_m2, ro_m4, ro_m5, ro_m11, ro_m12, ro_m13, ro_m14, ro_m15, ro_m16, ro_m17, ak_45, ak_46, ak_47, ak_48, ak_49, ak_50, ak_51, ak_52, ak_53, ak_54, ak_55, ak_56, al_45, al_46, al_47, al_48, al_49, al_50, al_51, al_52, al_53, al_54, al_55, al_56, l45, l46, l47, l48, l49, l50, l51, l52, l53, l54, a45, a46, a47, a48, a49, a50, a51, a52, a53, a54, in46_0, in46_1, in46_2, in46_3, in46_4, in46_5, cn_0, cn_1, cn_2, cn_3, cn_4, cn_5, i10, i01, zb_t, zb_f, not_true_eq_false, not_false_eq_true, if_true, if_false, true_or, sp_in1, md_1, md_6, md_5]
  exact this
theorem upV_self {j : Nat} : upV t j (t j) = t := by
  funext i
  unfold upV
  split
  · rename_i q; rw [q]
  · rfl
theorem msafe_loop {s c : Nat} (hs : s < 256) (hV : V t n B) : ∀ (d k : Nat) (I : Nat → Nat → Int32), k + d = n → mh I 45 (huV t s k) n → ∃ I', den nM_isSafeBy (6, [some (.ref 44), some (.int (nI s)), some (.int (nI c)), some (.int (nI k))], [], (I, J)) = den nM_isSafeBy (47, [some (.ref 44), some (.int (nI s)), some (.int (nI c)), some (.int (nI n))], [], (I', J)) ∧ mh I' 45 (huV t s n) n ∧ oR 45 I I' := by
  have hn := hV.2.1
  intro d
  induction d with
  | zero =>
    intro k I hk hH
    have hk' : k = n := by omega
    subst hk'
    have f5 := (mfs hH (huV_V hV k (Nat.le_refl _))).2.2.2.2.2
    refine ⟨I, ?_, hH, oR.rfl⟩
    rw [eM_isSafeBy_6]
    simp only [eM_isSafeBy_7, eM_isSafeBy_8, eM_isSafeBy_11, eM_isSafeBy_12, eM_isSafeBy_13, eM_isSafeBy_16, eM_isSafeBy_17, eM_isSafeBy_18, eM_isSafeBy_19, eM_isSafeBy_20, eM_isSafeBy_21, eM_isSafeBy_22, eM_isSafeBy_23, eM_isSafeBy_24, eM_isSafeBy_25, eM_isSafeBy_28, eM_isSafeBy_29, eM_isSafeBy_32, eM_isSafeBy_33, eM_isSafeBy_34, eM_isSafeBy_35, eM_isSafeBy_38, eM_isSafeBy_41, eM_isSafeBy_44, eq_self, hr_k_some, Option.toList, List.cons_append, List.nil_append, is2k_n, is2k_i, is2k_r, is2k_0, oc_44, ro_m0, ro_m1, ro_m2, ro_m4, ro_m5, ro_m11, ro_m12, ro_m13, ro_m14, ro_m15, ro_m16, ro_m17, ak_45, ak_46, ak_47, ak_48, ak_49, ak_50, ak_51, ak_52, ak_53, ak_54, ak_55, ak_56, al_45, al_46, al_47, al_48, al_49, al_50, al_51, al_52, al_53, al_54, al_55, al_56, l45, l46, l47, l48, l49, l50, l51, l52, l53, l54, a45, a46, a47, a48, a49, a50, a51, a52, a53, a54, in46_0, in46_1, in46_2, in46_3, in46_4, in46_5, cn_0, cn_1, cn_2, cn_3, cn_4, cn_5, i10, i01, zb_t, zb_f, not_true_eq_false, not_false_eq_true, if_true, if_false, true_or, sp_in1, md_1, md_6, md_5, f5, leT (Nat.le_refl k) (show k < 2 ^ 31 by omega)]
  | succ d ih =>
    intro k I hk hH
    have hkn : k < n := by omega
    have f5 := (mfs hH (huV_V hV k (by omega))).2.2.2.2.2
    have g4 := gt4 (J := J) hH hn hkn
    have eb := bit_N k (by omega) s hs
    have e1 : (nI (s / 2 ^ k % 2) = 1) = (s / 2 ^ k % 2 = 1) := nI_lit _ 1 (by omega) (by decide)
    rw [eM_isSafeBy_6]
    by_cases cb : s / 2 ^ k % 2 = 1
    · obtain ⟨I2, e2, h2, o2⟩ := ih (k + 1) (up2 I 45 (10 + 5 * k) 1) (by omega) (by rw [huV_s, if_pos cb]; exact hH.up (j := 10 + 5 * k) (x := 1))
      refine ⟨I2, ?_, h2, oR.up.trans o2⟩
      simp only [eM_isSafeBy_7, eM_isSafeBy_8, eM_isSafeBy_11, eM_isSafeBy_12, eM_isSafeBy_13, eM_isSafeBy_16, eM_isSafeBy_17, eM_isSafeBy_18, eM_isSafeBy_19, eM_isSafeBy_20, eM_isSafeBy_21, eM_isSafeBy_22, eM_isSafeBy_23, eM_isSafeBy_24, eM_isSafeBy_25, eM_isSafeBy_28, eM_isSafeBy_29, eM_isSafeBy_32, eM_isSafeBy_33, eM_isSafeBy_34, eM_isSafeBy_35, eM_isSafeBy_38, eM_isSafeBy_41, eM_isSafeBy_44, eq_self, hr_k_some, Option.toList, List.cons_append, List.nil_append, is2k_n, is2k_i, is2k_r, is2k_0, oc_44, ro_m0, ro_m1, ro_m2, ro_m4, ro_m5, ro_m11, ro_m12, ro_m13, ro_m14, ro_m15, ro_m16, ro_m17, ak_45, ak_46, ak_47, ak_48, ak_49, ak_50, ak_51, ak_52, ak_53, ak_54, ak_55, ak_56, al_45, al_46, al_47, al_48, al_49, al_50, al_51, al_52, al_53, al_54, al_55, al_56, l45, l46, l47, l48, l49, l50, l51, l52, l53, l54, a45, a46, a47, a48, a49, a50, a51, a52, a53, a54, in46_0, in46_1, in46_2, in46_3, in46_4, in46_5, cn_0, cn_1, cn_2, cn_3, cn_4, cn_5, i10, i01, zb_t, zb_f, not_true_eq_false, not_false_eq_true, if_true, if_false, true_or, sp_in1, md_1, md_6, md_5, f5, leF hkn (show n < 2 ^ 31 by omega), eb, e1.trans (eq_true cb), pt4 (show k < 8 by omega), nI_1]
      exact e2
    · obtain ⟨I2, e2, h2, o2⟩ := ih (k + 1) (up2 I 45 (10 + 5 * k) (nI (huV t s k (10 + 5 * k)))) (by omega) (by
        rw [huV_s, if_neg cb]
        have := hH.up (j := 10 + 5 * k) (x := huV t s k (10 + 5 * k))
        rwa [upV_self] at this)
      refine ⟨I2, ?_, h2, oR.up.trans o2⟩
      simp only [eM_isSafeBy_7, eM_isSafeBy_8, eM_isSafeBy_11, eM_isSafeBy_12, eM_isSafeBy_13, eM_isSafeBy_16, eM_isSafeBy_17, eM_isSafeBy_18, eM_isSafeBy_19, eM_isSafeBy_20, eM_isSafeBy_21, eM_isSafeBy_22, eM_isSafeBy_23, eM_isSafeBy_24, eM_isSafeBy_25, eM_isSafeBy_28, eM_isSafeBy_29, eM_isSafeBy_32, eM_isSafeBy_33, eM_isSafeBy_34, eM_isSafeBy_35, eM_isSafeBy_38, eM_isSafeBy_41, eM_isSafeBy_44, eq_self, hr_k_some, Option.toList, List.cons_append, List.nil_append, is2k_n, is2k_i, is2k_r, is2k_0, oc_44, ro_m0, ro_m1, ro_m2, ro_m4, ro_m5, ro_m11, ro_m12, ro_m13, ro_m14, ro_m15, ro_m16, ro_m17, ak_45, ak_46, ak_47, ak_48, ak_49, ak_50, ak_51, ak_52, ak_53, ak_54, ak_55, ak_56, al_45, al_46, al_47, al_48, al_49, al_50, al_51, al_52, al_53, al_54, al_55, al_56, l45, l46, l47, l48, l49, l50, l51, l52, l53, l54, a45, a46, a47, a48, a49, a50, a51, a52, a53, a54, in46_0, in46_1, in46_2, in46_3, in46_4, in46_5, cn_0, cn_1, cn_2, cn_3, cn_4, cn_5, i10, i01, zb_t, zb_f, not_true_eq_false, not_false_eq_true, if_true, if_false, true_or, sp_in1, md_1, md_6, md_5, f5, leF hkn (show n < 2 ^ 31 by omega), eb, e1.trans (eq_false cb), g4, pt4 (show k < 8 by omega), nI_1]
      exact e2
theorem m_safe {s c : Nat} (hs : s < 256) (hc : c < 1000) (hV : V t n 99999) (hH : mh I 45 t n) : ∃ I', den nM_isSafeBy (0, [some (.ref 44), some (.int (nI s)), some (.int (nI c)), none], [], (I, J)) = some (some (.int (zb (decide (¬ goN (huV t s n) n c 4 = 1)))), (I', J)) ∧ lb I I' := by
  have hn := hV.2.1
  have hVh := huV_V (s := s) hV n (Nat.le_refl _)
  obtain ⟨I1, e1, h1, a1⟩ := m_asideL (J := J) hH
  obtain ⟨I2, e2, h2, o2⟩ := msafe_loop (J := J) (c := c) hs hV n 0 I1 (by omega) h1
  obtain ⟨I3, e3, h3, o3⟩ := m_goes (J := J) hc h2 hVh (by omega)
  obtain ⟨I4, e4, l4⟩ := m_backL (J := J) (a1.up (o2.trans o3))
  have g4 : I3 45 4 = nI (goN (huV t s n) n c 4) := h3 4 (by omega)
  have v4 := (goN_V c hVh).2.2.2.2.2.2.1
  have ec : (nI (goN (huV t s n) n c 4) = 1) = (goN (huV t s n) n c 4 = 1) := nI_lit _ 1 (by omega) (by decide)
  have e2' : den nM_isSafeBy (6, [some (.ref 44), some (.int (nI s)), some (.int (nI c)), some (.int 0)], [], (I1, J)) = _ := e2
  refine ⟨I4, ?_, l4⟩
  simp only [eM_isSafeBy_0, eM_isSafeBy_1, eM_isSafeBy_4, eM_isSafeBy_5, eq_self, hr_k_some, Option.toList, List.cons_append, List.nil_append, is2k_n, is2k_i, is2k_r, is2k_0, oc_44, ro_m0, ro_m1, ro_m2, ro_m4, ro_m5, ro_m11, ro_m12, ro_m13, ro_m14, ro_m15, ro_m16, ro_m17, ak_45, ak_46, ak_47, ak_48, ak_49, ak_50, ak_51, ak_52, ak_53, ak_54, ak_55, ak_56, al_45, al_46, al_47, al_48, al_49, al_50, al_51, al_52, al_53, al_54, al_55, al_56, l45, l46, l47, l48, l49, l50, l51, l52, l53, l54, a45, a46, a47, a48, a49, a50, a51, a52, a53, a54, in46_0, in46_1, in46_2, in46_3, in46_4, in46_5, cn_0, cn_1, cn_2, cn_3, cn_4, cn_5, i10, i01, zb_t, zb_f, not_true_eq_false, not_false_eq_true, if_true, if_false, true_or, sp_in1, md_1, md_6, md_5, e1]
  rw [e2']
  by_cases cc : goN (huV t s n) n c 4 = 1
  · rw [decide_eq_false (fun q => q cc)]
    simp only [eM_isSafeBy_47, eM_isSafeBy_48, eM_isSafeBy_49, eM_isSafeBy_52, eM_isSafeBy_53, eM_isSafeBy_56, eM_isSafeBy_57, eM_isSafeBy_58, eM_isSafeBy_59, eM_isSafeBy_62, eM_isSafeBy_63, eM_isSafeBy_66, eM_isSafeBy_67, eM_isSafeBy_68, eM_isSafeBy_69, eM_isSafeBy_72, eM_isSafeBy_73, eq_self, hr_k_some, Option.toList, List.cons_append, List.nil_append, is2k_n, is2k_i, is2k_r, is2k_0, oc_44, ro_m0, ro_m1, ro_m2, ro_m4, ro_m5, ro_m11, ro_m12, ro_m13, ro_m14, ro_m15, ro_m16, ro_m17, ak_45, ak_46, ak_47, ak_48, ak_49, ak_50, ak_51, ak_52, ak_53, ak_54, ak_55, ak_56, al_45, al_46, al_47, al_48, al_49, al_50, al_51, al_52, al_53, al_54, al_55, al_56, l45, l46, l47, l48, l49, l50, l51, l52, l53, l54, a45, a46, a47, a48, a49, a50, a51, a52, a53, a54, in46_0, in46_1, in46_2, in46_3, in46_4, in46_5, cn_0, cn_1, cn_2, cn_3, cn_4, cn_5, i10, i01, zb_t, zb_f, not_true_eq_false, not_false_eq_true, if_true, if_false, true_or, sp_in1, md_1, md_6, md_5, e3, g4, ec.trans (eq_true cc), e4, zb_n0]
  · rw [decide_eq_true cc]
    simp only [eM_isSafeBy_47, eM_isSafeBy_48, eM_isSafeBy_49, eM_isSafeBy_52, eM_isSafeBy_53, eM_isSafeBy_56, eM_isSafeBy_57, eM_isSafeBy_58, eM_isSafeBy_59, eM_isSafeBy_62, eM_isSafeBy_63, eM_isSafeBy_66, eM_isSafeBy_67, eM_isSafeBy_68, eM_isSafeBy_69, eM_isSafeBy_72, eM_isSafeBy_73, eq_self, hr_k_some, Option.toList, List.cons_append, List.nil_append, is2k_n, is2k_i, is2k_r, is2k_0, oc_44, ro_m0, ro_m1, ro_m2, ro_m4, ro_m5, ro_m11, ro_m12, ro_m13, ro_m14, ro_m15, ro_m16, ro_m17, ak_45, ak_46, ak_47, ak_48, ak_49, ak_50, ak_51, ak_52, ak_53, ak_54, ak_55, ak_56, al_45, al_46, al_47, al_48, al_49, al_50, al_51, al_52, al_53, al_54, al_55, al_56, l45, l46, l47, l48, l49, l50, l51, l52, l53, l54, a45, a46, a47, a48, a49, a50, a51, a52, a53, a54, in46_0, in46_1, in46_2, in46_3, in46_4, in46_5, cn_0, cn_1, cn_2, cn_3, cn_4, cn_5, i10, i01, zb_t, zb_f, not_true_eq_false, not_false_eq_true, if_true, if_false, true_or, sp_in1, md_1, md_6, md_5, e3, g4, ec.trans (eq_false cc), e4, zb_n1]
theorem goN_f (hn : n ≤ 8) : ∀ (c : Nat) (t : Nat → Nat), ¬ t 4 = 0 → goN t n c 4 = t 4 := by
  intro c
  induction c with
  | zero => intro t _; rfl
  | succ c ih =>
    intro t h
    have e := (goV_f (n := n) h hn).1
    show goN (goV t n) n c 4 = t 4
    rw [ih _ (by rw [e]; exact h), e]
theorem fi_struck (hn : n ≤ 8) : ∀ (c : Nat) (t : Nat → Nat), (fiV (ftV 1) t n (c + 1) ≤ c) = (goN t n c 4 = 1) := by
  intro c
  induction c with
  | zero =>
    intro t
    apply propext
    by_cases q : t 4 = 1
    · rw [fiV_0 (decide_eq_true q)]; exact ⟨fun _ => q, fun _ => Nat.le_refl _⟩
    · rw [fiV_s (fun z => q (of_decide_eq_true z))]; exact ⟨fun z => by omega, fun z => absurd z q⟩
  | succ c ih =>
    intro t
    apply propext
    by_cases q : t 4 = 1
    · rw [fiV_0 (decide_eq_true q), goN_f hn _ _ (by omega)]
      exact ⟨fun _ => q, fun _ => Nat.zero_le _⟩
    · rw [fiV_s (fun z => q (of_decide_eq_true z))]
      have := ih (goV t n)
      show fiV (ftV 1) (goV t n) n (c + 1) + 1 ≤ c + 1 ↔ goN (goV t n) n c 4 = 1
      rw [← this]
      omega
theorem fwF_p {c : Nat} : ∀ s, ((fwF t n c s).1 = 0 → (fwF t n c s).2 = 9) ∧ ((fwF t n c s).1 ≠ 0 → (fwF t n c s).2 = popc ((fwF t n c s).1 - 1)) := by
  intro s
  induction s with
  | zero => exact ⟨fun _ => rfl, fun h => absurd rfl h⟩
  | succ s ih =>
    rw [fwF_s]
    split
    · exact ⟨fun h => by simp at h, fun _ => rfl⟩
    · exact ih
theorem mfw_loop {c : Nat} (hc : 1 ≤ c ∧ c ≤ 40) (hV : V t n 99999) : ∀ (d s : Nat) (I : Nat → Nat → Int32) (x4 : Option Value), s + d = 2 ^ n → mh I 45 t n → ∃ I' x4', den nM_fewest (20, [some (.ref 44), some (.int (nI c)), some (.int (nI (fwF t n c s).1 - 1)), some (.int (nI s)), x4], [], (I, J)) = den nM_fewest (80, [some (.ref 44), some (.int (nI c)), some (.int (nI (fwF t n c (2 ^ n)).1 - 1)), some (.int (nI (2 ^ n))), x4'], [], (I', J)) ∧ lb I I' := by
  have hn := hV.2.1
  have hp := pow_le hn
  have el := shl_N n (by omega)
  intro d
  induction d with
  | zero =>
    intro s I x4 hs hH
    have hs' : s = 2 ^ n := by omega
    obtain ⟨f0, f1, f2, f3, f4, f5⟩ := mfs hH hV
    refine ⟨I, x4, ?_, lb.rfl⟩
    rw [hs', eM_fewest_20]
    simp only [eM_fewest_21, eM_fewest_22, eM_fewest_23, eM_fewest_26, eM_fewest_27, eM_fewest_28, eM_fewest_29, eM_fewest_32, eM_fewest_33, eM_fewest_36, eM_fewest_37, eM_fewest_40, eM_fewest_41, eM_fewest_44, eM_fewest_47, eM_fewest_48, eM_fewest_51, eM_fewest_52, eM_fewest_54, eM_fewest_56, eM_fewest_59, eM_fewest_60, eM_fewest_61, eM_fewest_62, eM_fewest_65, eM_fewest_68, eM_fewest_69, eM_fewest_72, eM_fewest_73, eM_fewest_74, eM_fewest_77, eq_self, hr_k_some, Option.toList, List.cons_append, List.nil_append, is2k_n, is2k_i, is2k_r, is2k_0, oc_44, ro_m0, ro_m1, ro_m2, ro_m4, ro_m5, ro_m11, ro_m12, ro_m13, ro_m14, ro_m15, ro_m16, ro_m17, ak_45, ak_46, ak_47, ak_48, ak_49, ak_50, ak_51, ak_52, ak_53, ak_54, ak_55, ak_56, al_45, al_46, al_47, al_48, al_49, al_50, al_51, al_52, al_53, al_54, al_55, al_56, l45, l46, l47, l48, l49, l50, l51, l52, l53, l54, a45, a46, a47, a48, a49, a50, a51, a52, a53, a54, in46_0, in46_1, in46_2, in46_3, in46_4, in46_5, cn_0, cn_1, cn_2, cn_3, cn_4, cn_5, i10, i01, zb_t, zb_f, not_true_eq_false, not_false_eq_true, if_true, if_false, true_or, sp_in1, md_1, md_6, md_5, f5, el, leT (Nat.le_refl (2 ^ n)) (show 2 ^ n < 2 ^ 31 by omega)]
  | succ d ih =>
    intro s I x4 hs hH
    obtain ⟨f0, f1, f2, f3, f4, f5⟩ := mfs hH hV
    obtain ⟨p0, p1⟩ := fwF_p (t := t) (n := n) (c := c) s
    have hle := (fwF_le (t := t) (n := n) (c := c) s).1
    have hpc := popc_le s
    obtain ⟨I1, e1, l1⟩ := m_safe (J := J) (s := s) (c := c) (by omega) (by omega) hV hH
    have es := fi_struck hn c (huV t s n)
    have eb := m_bits (s := s) (h := (I, J)) (by omega)
    have key : ∀ (f : Int32), (f = 1 ∧ popc s < (fwF t n c s).2 ∨ f = 0 ∧ ¬ popc s < (fwF t n c s).2) → ∃ I' x4', den nM_fewest (52, [some (.ref 44), some (.int (nI c)), some (.int (nI (fwF t n c s).1 - 1)), some (.int (nI s)), x4], [.int f], (I, J)) = den nM_fewest (80, [some (.ref 44), some (.int (nI c)), some (.int (nI (fwF t n c (2 ^ n)).1 - 1)), some (.int (nI (2 ^ n))), x4'], [], (I', J)) ∧ lb I I' := by
      intro f hf
      rcases hf with ⟨rfl, hlt⟩ | ⟨rfl, hlt⟩
      · obtain ⟨I2, x2, e2, l2⟩ := ih (s + 1) I1 (some (.int 1)) (by omega) (l1.mh hH hn)
        refine ⟨I2, x2, ?_, l1.trans l2⟩
        rw [fwF_s] at e2
        by_cases cs : goN (huV t s n) n c 4 = 1
        · rw [if_neg (fun q => q.2 (es.mpr cs))] at e2
          simp only [cs, not_true_eq_false, decide_false] at e1
          simp only [eM_fewest_52, eM_fewest_54, eM_fewest_56, eM_fewest_59, eM_fewest_60, eM_fewest_61, eM_fewest_62, eM_fewest_65, eM_fewest_68, eM_fewest_69, eM_fewest_72, eM_fewest_73, eM_fewest_74, eM_fewest_77, eq_self, hr_k_some, Option.toList, List.cons_append, List.nil_append, is2k_n, is2k_i, is2k_r, is2k_0, oc_44, ro_m0, ro_m1, ro_m2, ro_m4, ro_m5, ro_m11, ro_m12, ro_m13, ro_m14, ro_m15, ro_m16, ro_m17, ak_45, ak_46, ak_47, ak_48, ak_49, ak_50, ak_51, ak_52, ak_53, ak_54, ak_55, ak_56, al_45, al_46, al_47, al_48, al_49, al_50, al_51, al_52, al_53, al_54, al_55, al_56, l45, l46, l47, l48, l49, l50, l51, l52, l53, l54, a45, a46, a47, a48, a49, a50, a51, a52, a53, a54, in46_0, in46_1, in46_2, in46_3, in46_4, in46_5, cn_0, cn_1, cn_2, cn_3, cn_4, cn_5, i10, i01, zb_t, zb_f, not_true_eq_false, not_false_eq_true, if_true, if_false, true_or, sp_in1, md_1, md_6, md_5, e1, nI_1]
          exact e2
        · rw [if_pos ⟨hlt, fun q => cs (es.mp q)⟩, nI_pred] at e2
          simp only [cs, not_false_eq_true, decide_true] at e1
          simp only [eM_fewest_52, eM_fewest_54, eM_fewest_56, eM_fewest_59, eM_fewest_60, eM_fewest_61, eM_fewest_62, eM_fewest_65, eM_fewest_68, eM_fewest_69, eM_fewest_72, eM_fewest_73, eM_fewest_74, eM_fewest_77, eq_self, hr_k_some, Option.toList, List.cons_append, List.nil_append, is2k_n, is2k_i, is2k_r, is2k_0, oc_44, ro_m0, ro_m1, ro_m2, ro_m4, ro_m5, ro_m11, ro_m12, ro_m13, ro_m14, ro_m15, ro_m16, ro_m17, ak_45, ak_46, ak_47, ak_48, ak_49, ak_50, ak_51, ak_52, ak_53, ak_54, ak_55, ak_56, al_45, al_46, al_47, al_48, al_49, al_50, al_51, al_52, al_53, al_54, al_55, al_56, l45, l46, l47, l48, l49, l50, l51, l52, l53, l54, a45, a46, a47, a48, a49, a50, a51, a52, a53, a54, in46_0, in46_1, in46_2, in46_3, in46_4, in46_5, cn_0, cn_1, cn_2, cn_3, cn_4, cn_5, i10, i01, zb_t, zb_f, not_true_eq_false, not_false_eq_true, if_true, if_false, true_or, sp_in1, md_1, md_6, md_5, e1, nI_1]
          exact e2
      · obtain ⟨I2, x2, e2, l2⟩ := ih (s + 1) I (some (.int 0)) (by omega) hH
        refine ⟨I2, x2, ?_, l2⟩
        rw [fwF_s, if_neg (fun q => hlt q.1)] at e2
        simp only [eM_fewest_52, eM_fewest_54, eM_fewest_56, eM_fewest_59, eM_fewest_60, eM_fewest_61, eM_fewest_62, eM_fewest_65, eM_fewest_68, eM_fewest_69, eM_fewest_72, eM_fewest_73, eM_fewest_74, eM_fewest_77, eq_self, hr_k_some, Option.toList, List.cons_append, List.nil_append, is2k_n, is2k_i, is2k_r, is2k_0, oc_44, ro_m0, ro_m1, ro_m2, ro_m4, ro_m5, ro_m11, ro_m12, ro_m13, ro_m14, ro_m15, ro_m16, ro_m17, ak_45, ak_46, ak_47, ak_48, ak_49, ak_50, ak_51, ak_52, ak_53, ak_54, ak_55, ak_56, al_45, al_46, al_47, al_48, al_49, al_50, al_51, al_52, al_53, al_54, al_55, al_56, l45, l46, l47, l48, l49, l50, l51, l52, l53, l54, a45, a46, a47, a48, a49, a50, a51, a52, a53, a54, in46_0, in46_1, in46_2, in46_3, in46_4, in46_5, cn_0, cn_1, cn_2, cn_3, cn_4, cn_5, i10, i01, zb_t, zb_f, not_true_eq_false, not_false_eq_true, if_true, if_false, true_or, sp_in1, md_1, md_6, md_5, nI_1]
        exact e2
    rw [eM_fewest_20]
    by_cases c0 : (fwF t n c s).1 = 0
    · have en : (nI (fwF t n c s).1 - 1 < 0) = True := eq_true (by rw [c0]; decide)
      have := p0 c0
      simp only [eM_fewest_21, eM_fewest_22, eM_fewest_23, eM_fewest_26, eM_fewest_27, eM_fewest_28, eM_fewest_29, eM_fewest_32, eM_fewest_33, eM_fewest_36, eM_fewest_37, eM_fewest_40, eM_fewest_41, eM_fewest_44, eM_fewest_47, eM_fewest_48, eM_fewest_51, eq_self, hr_k_some, Option.toList, List.cons_append, List.nil_append, is2k_n, is2k_i, is2k_r, is2k_0, oc_44, ro_m0, ro_m1, ro_m2, ro_m4, ro_m5, ro_m11, ro_m12, ro_m13, ro_m14, ro_m15, ro_m16, ro_m17, ak_45, ak_46, ak_47, ak_48, ak_49, ak_50, ak_51, ak_52, ak_53, ak_54, ak_55, ak_56, al_45, al_46, al_47, al_48, al_49, al_50, al_51, al_52, al_53, al_54, al_55, al_56, l45, l46, l47, l48, l49, l50, l51, l52, l53, l54, a45, a46, a47, a48, a49, a50, a51, a52, a53, a54, in46_0, in46_1, in46_2, in46_3, in46_4, in46_5, cn_0, cn_1, cn_2, cn_3, cn_4, cn_5, i10, i01, zb_t, zb_f, not_true_eq_false, not_false_eq_true, if_true, if_false, true_or, sp_in1, md_1, md_6, md_5, f5, el, leF (show s < 2 ^ n by omega) (show 2 ^ n < 2 ^ 31 by omega), en]
      exact key 1 (Or.inl ⟨rfl, by omega⟩)
    · have e3 : nI (fwF t n c s).1 - 1 = nI ((fwF t n c s).1 - 1) := pk_sub (b := 1) (by omega)
      have en : (nI ((fwF t n c s).1 - 1) < 0) = False := lt0f (by omega)
      have eb2 := m_bits (s := (fwF t n c s).1 - 1) (h := (I, J)) (by omega)
      have hp2 := popc_le ((fwF t n c s).1 - 1)
      have := p1 c0
      have ec : (nI (popc ((fwF t n c s).1 - 1)) ≤ nI (popc s)) = (popc ((fwF t n c s).1 - 1) ≤ popc s) := propext (nI_leI (by omega) (by omega))
      rw [e3] at key ⊢
      by_cases cc : popc ((fwF t n c s).1 - 1) ≤ popc s
      · simp only [eM_fewest_21, eM_fewest_22, eM_fewest_23, eM_fewest_26, eM_fewest_27, eM_fewest_28, eM_fewest_29, eM_fewest_32, eM_fewest_33, eM_fewest_36, eM_fewest_37, eM_fewest_40, eM_fewest_41, eM_fewest_44, eM_fewest_47, eM_fewest_48, eM_fewest_51, eq_self, hr_k_some, Option.toList, List.cons_append, List.nil_append, is2k_n, is2k_i, is2k_r, is2k_0, oc_44, ro_m0, ro_m1, ro_m2, ro_m4, ro_m5, ro_m11, ro_m12, ro_m13, ro_m14, ro_m15, ro_m16, ro_m17, ak_45, ak_46, ak_47, ak_48, ak_49, ak_50, ak_51, ak_52, ak_53, ak_54, ak_55, ak_56, al_45, al_46, al_47, al_48, al_49, al_50, al_51, al_52, al_53, al_54, al_55, al_56, l45, l46, l47, l48, l49, l50, l51, l52, l53, l54, a45, a46, a47, a48, a49, a50, a51, a52, a53, a54, in46_0, in46_1, in46_2, in46_3, in46_4, in46_5, cn_0, cn_1, cn_2, cn_3, cn_4, cn_5, i10, i01, zb_t, zb_f, not_true_eq_false, not_false_eq_true, if_true, if_false, true_or, sp_in1, md_1, md_6, md_5, f5, el, leF (show s < 2 ^ n by omega) (show 2 ^ n < 2 ^ 31 by omega), en, eb, eb2, ec.trans (eq_true cc)]
        exact key 0 (Or.inr ⟨rfl, by omega⟩)
      · simp only [eM_fewest_21, eM_fewest_22, eM_fewest_23, eM_fewest_26, eM_fewest_27, eM_fewest_28, eM_fewest_29, eM_fewest_32, eM_fewest_33, eM_fewest_36, eM_fewest_37, eM_fewest_40, eM_fewest_41, eM_fewest_44, eM_fewest_47, eM_fewest_48, eM_fewest_51, eq_self, hr_k_some, Option.toList, List.cons_append, List.nil_append, is2k_n, is2k_i, is2k_r, is2k_0, oc_44, ro_m0, ro_m1, ro_m2, ro_m4, ro_m5, ro_m11, ro_m12, ro_m13, ro_m14, ro_m15, ro_m16, ro_m17, ak_45, ak_46, ak_47, ak_48, ak_49, ak_50, ak_51, ak_52, ak_53, ak_54, ak_55, ak_56, al_45, al_46, al_47, al_48, al_49, al_50, al_51, al_52, al_53, al_54, al_55, al_56, l45, l46, l47, l48, l49, l50, l51, l52, l53, l54, a45, a46, a47, a48, a49, a50, a51, a52, a53, a54, in46_0, in46_1, in46_2, in46_3, in46_4, in46_5, cn_0, cn_1, cn_2, cn_3, cn_4, cn_5, i10, i01, zb_t, zb_f, not_true_eq_false, not_false_eq_true, if_true, if_false, true_or, sp_in1, md_1, md_6, md_5, f5, el, leF (show s < 2 ^ n by omega) (show 2 ^ n < 2 ^ 31 by omega), en, eb, eb2, ec.trans (eq_false cc)]
        exact key 1 (Or.inl ⟨rfl, by omega⟩)
theorem M_fewest_ok (h : Md I J t n kp u m y bt L w z num) {c : Nat} (hc : 1 ≤ c ∧ c ≤ 40) : MR nM_fewest [some (.ref 44), some (.int (nI c)), none, none, none] I J (bestR (fwF t n c (2 ^ n)).1) (fun I' J' => Md I' J' t n kp u m (bestY y (fwF t n c (2 ^ n)).1) bt L w z num) := by
  have ec : decide ((1 : Int32) ≤ nI c ∧ nI c ≤ 40) = true := wi_yes (a := 1) (b := 40) hc.1 hc.2 (by decide)
  obtain ⟨I1, x4, e1, l1⟩ := mfw_loop (J := J) hc h.2.1 (2 ^ n) 0 I none (by omega) h.1
  have e1' : den nM_fewest (20, [some (.ref 44), some (.int (nI c)), some (.int (-1)), some (.int 0), none], [], (I, J)) = _ := e1
  have hb := (fwF_le (t := t) (n := n) (c := c) (2 ^ n)).1
  have hp := pow_le h.2.1.2.1
  refine MRbest h l1 (fun q => ?_) (fun q => ?_)
  · simp only [eM_fewest_0, eM_fewest_1, eM_fewest_2, eM_fewest_4, eM_fewest_7, eM_fewest_10, eM_fewest_11, eM_fewest_12, eM_fewest_15, eM_fewest_16, eM_fewest_17, eM_fewest_18, eM_fewest_19, eq_self, hr_k_some, Option.toList, List.cons_append, List.nil_append, is2k_n, is2k_i, is2k_r, is2k_0, oc_44, ro_m0, ro_m1, ro_m2, ro_m4, ro_m5, ro_m11, ro_m12, ro_m13, ro_m14, ro_m15, ro_m16, ro_m17, ak_45, ak_46, ak_47, ak_48, ak_49, ak_50, ak_51, ak_52, ak_53, ak_54, ak_55, ak_56, al_45, al_46, al_47, al_48, al_49, al_50, al_51, al_52, al_53, al_54, al_55, al_56, l45, l46, l47, l48, l49, l50, l51, l52, l53, l54, a45, a46, a47, a48, a49, a50, a51, a52, a53, a54, in46_0, in46_1, in46_2, in46_3, in46_4, in46_5, cn_0, cn_1, cn_2, cn_3, cn_4, cn_5, i10, i01, zb_t, zb_f, not_true_eq_false, not_false_eq_true, if_true, if_false, true_or, sp_in1, md_1, md_6, md_5, ec]
    rw [e1']
    simp only [eM_fewest_80, eM_fewest_81, eM_fewest_84, eM_fewest_85, eM_fewest_86, eM_fewest_89, eM_fewest_92, eM_fewest_93, eq_self, hr_k_some, Option.toList, List.cons_append, List.nil_append, is2k_n, is2k_i, is2k_r, is2k_0, oc_44, ro_m0, ro_m1, ro_m2, ro_m4, ro_m5, ro_m11, ro_m12, ro_m13, ro_m14, ro_m15, ro_m16, ro_m17, ak_45, ak_46, ak_47, ak_48, ak_49, ak_50, ak_51, ak_52, ak_53, ak_54, ak_55, ak_56, al_45, al_46, al_47, al_48, al_49, al_50, al_51, al_52, al_53, al_54, al_55, al_56, l45, l46, l47, l48, l49, l50, l51, l52, l53, l54, a45, a46, a47, a48, a49, a50, a51, a52, a53, a54, in46_0, in46_1, in46_2, in46_3, in46_4, in46_5, cn_0, cn_1, cn_2, cn_3, cn_4, cn_5, i10, i01, zb_t, zb_f, not_true_eq_false, not_false_eq_true, if_true, if_false, true_or, sp_in1, md_1, md_6, md_5, b0 (show (fwF t n c (2 ^ n)).1 < 2000 by omega) q, sp_no3]
  · simp only [eM_fewest_0, eM_fewest_1, eM_fewest_2, eM_fewest_4, eM_fewest_7, eM_fewest_10, eM_fewest_11, eM_fewest_12, eM_fewest_15, eM_fewest_16, eM_fewest_17, eM_fewest_18, eM_fewest_19, eq_self, hr_k_some, Option.toList, List.cons_append, List.nil_append, is2k_n, is2k_i, is2k_r, is2k_0, oc_44, ro_m0, ro_m1, ro_m2, ro_m4, ro_m5, ro_m11, ro_m12, ro_m13, ro_m14, ro_m15, ro_m16, ro_m17, ak_45, ak_46, ak_47, ak_48, ak_49, ak_50, ak_51, ak_52, ak_53, ak_54, ak_55, ak_56, al_45, al_46, al_47, al_48, al_49, al_50, al_51, al_52, al_53, al_54, al_55, al_56, l45, l46, l47, l48, l49, l50, l51, l52, l53, l54, a45, a46, a47, a48, a49, a50, a51, a52, a53, a54, in46_0, in46_1, in46_2, in46_3, in46_4, in46_5, cn_0, cn_1, cn_2, cn_3, cn_4, cn_5, i10, i01, zb_t, zb_f, not_true_eq_false, not_false_eq_true, if_true, if_false, true_or, sp_in1, md_1, md_6, md_5, ec]
    rw [e1', b1 (by omega) q]
    simp only [eM_fewest_80, eM_fewest_81, eM_fewest_84, eM_fewest_85, eM_fewest_86, eM_fewest_89, eM_fewest_92, eM_fewest_93, eq_self, hr_k_some, Option.toList, List.cons_append, List.nil_append, is2k_n, is2k_i, is2k_r, is2k_0, oc_44, ro_m0, ro_m1, ro_m2, ro_m4, ro_m5, ro_m11, ro_m12, ro_m13, ro_m14, ro_m15, ro_m16, ro_m17, ak_45, ak_46, ak_47, ak_48, ak_49, ak_50, ak_51, ak_52, ak_53, ak_54, ak_55, ak_56, al_45, al_46, al_47, al_48, al_49, al_50, al_51, al_52, al_53, al_54, al_55, al_56, l45, l46, l47, l48, l49, l50, l51, l52, l53, l54, a45, a46, a47, a48, a49, a50, a51, a52, a53, a54, in46_0, in46_1, in46_2, in46_3, in46_4, in46_5, cn_0, cn_1, cn_2, cn_3, cn_4, cn_5, i10, i01, zb_t, zb_f, not_true_eq_false, not_false_eq_true, if_true, if_false, true_or, sp_in1, md_1, md_6, md_5, b2 (show (fwF t n c (2 ^ n)).1 - 1 < 2000 by omega)]
theorem M_fewest_no (h : Md I J t n kp u m y bt L w z num) {a1 : Int32} (hb : ¬ ∃ c, 1 ≤ c ∧ c ≤ 40 ∧ a1 = nI c) : MR nM_fewest [some (.ref 44), some (.int a1), none, none, none] I J (.int (fnd 0)) (fun I' J' => Md I' J' t n kp u m (inc y 0) bt L w z num) := by
  refine MR.fnd (by decide) h ?_
  have ec : decide ((1 : Int32) ≤ a1 ∧ a1 ≤ 40) = false := wi_no1 (a := 1) (b := 40) (by decide) (by decide) hb
  simp only [eM_fewest_0, eM_fewest_1, eM_fewest_2, eM_fewest_4, eM_fewest_7, eM_fewest_10, eM_fewest_11, eM_fewest_12, eM_fewest_15, eM_fewest_16, eM_fewest_17, eM_fewest_18, eM_fewest_19, eq_self, hr_k_some, Option.toList, List.cons_append, List.nil_append, is2k_n, is2k_i, is2k_r, is2k_0, oc_44, ro_m0, ro_m1, ro_m2, ro_m4, ro_m5, ro_m11, ro_m12, ro_m13, ro_m14, ro_m15, ro_m16, ro_m17, ak_45, ak_46, ak_47, ak_48, ak_49, ak_50, ak_51, ak_52, ak_53, ak_54, ak_55, ak_56, al_45, al_46, al_47, al_48, al_49, al_50, al_51, al_52, al_53, al_54, al_55, al_56, l45, l46, l47, l48, l49, l50, l51, l52, l53, l54, a45, a46, a47, a48, a49, a50, a51, a52, a53, a54, in46_0, in46_1, in46_2, in46_3, in46_4, in46_5, cn_0, cn_1, cn_2, cn_3, cn_4, cn_5, i10, i01, zb_t, zb_f, not_true_eq_false, not_false_eq_true, if_true, if_false, true_or, sp_in1, md_1, md_6, md_5, ec, sp_no0]
end
