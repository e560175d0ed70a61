section
variable {I I' : Nat → Nat → Int32} {J J' : Nat → Nat → Int64} {t t' : Nat → Nat} {n n' kp kp' B : Nat} {u u' : Nat → Nat} {m m' : Nat} {y : Nat → Int32} {bt bt' : Nat → Nat} {L L' : Nat} {w z w' z' : Nat → Nat} {num num' : Nat → Nat → Int64}
/-! copy -/
theorem cp_loop1 {s r f g c : Nat} (hs : s < 4) (hf : f + c ≤ 40) (F : Nat → Int64) : ∀ (d k : Nat) (J : Nat → Nat → Int64), k + d = c → (∀ i, i < 40 → J 55 (40 * s + i) = F i) → (∀ i, i < k → J 56 i = F (f + i)) → ∃ J', den nM_copy (115, [some (.ref 44), some (.int (nI s)), some (.int (nI f)), some (.int (nI r)), some (.int (nI g)), some (.int (nI c)), some (.int (nI k))], [], (I, J)) = den nM_copy (144, [some (.ref 44), some (.int (nI s)), some (.int (nI f)), some (.int (nI r)), some (.int (nI g)), some (.int (nI c)), some (.int (nI c))], [], (I, J')) ∧ (∀ i, i < c → J' 56 i = F (f + i)) ∧ ∀ q j, q ≠ 56 → J' q j = J q j := by
  intro d
  induction d with
  | zero =>
    intro k J hk hF h0
    have hk' : k = c := by omega
    subst hk'
    refine ⟨J, ?_, h0, fun _ _ _ => rfl⟩
    rw [eM_copy_115]
    simp only [eM_copy_117, eM_copy_119, eM_copy_122, eM_copy_123, eM_copy_126, eM_copy_128, eM_copy_129, eM_copy_130, eM_copy_131, eM_copy_133, eM_copy_134, eM_copy_137, eM_copy_138, eM_copy_141, eq_self, hr_k_some, Option.toList, List.cons_append, List.nil_append, is2k_n, is2k_i, is2k_r, is2k_0, oc_44, ro_m0, ro_m1, ro_m2, ro_m4, ro_m5, ro_m11, ro_m12, ro_m13, ro_m14, ro_m15, ro_m16, ro_m17, ak_45, ak_46, ak_47, ak_48, ak_49, ak_50, ak_51, ak_52, ak_53, ak_54, ak_55, ak_56, al_45, al_46, al_47, al_48, al_49, al_50, al_51, al_52, al_53, al_54, al_55, al_56, l45, l46, l47, l48, l49, l50, l51, l52, l53, l54, a45, a46, a47, a48, a49, a50, a51, a52, a53, a54, in46_0, in46_1, in46_2, in46_3, in46_4, in46_5, cn_0, cn_1, cn_2, cn_3, cn_4, cn_5, i10, i01, zb_t, zb_f, not_true_eq_false, not_false_eq_true, if_true, if_false, true_or, sp_in1, md_1, md_6, md_5, leT (Nat.le_refl k) (show k < 2 ^ 31 by omega)]
  | succ d ih =>
    intro k J hk hF h0
    have et := m_told (I := I) (J := J) hs (show f + k < 40 by omega)
    rw [hF (f + k) (by omega)] at et
    obtain ⟨J', e', h', o'⟩ := ih (k + 1) (up2 J 56 k (F (f + k))) (by omega) (fun i hi => (up2_na (by decide)).trans (hF i hi)) (fun i hi => by
      by_cases q : i = k
      · subst q; exact up2_eq
      · rw [up2_nk q]; exact h0 i (by omega))
    refine ⟨J', ?_, h', fun q j hq => (o' q j hq).trans (up2_na hq)⟩
    rw [eM_copy_115]
    simp only [eM_copy_117, eM_copy_119, eM_copy_122, eM_copy_123, eM_copy_126, eM_copy_128, eM_copy_129, eM_copy_130, eM_copy_131, eM_copy_133, eM_copy_134, eM_copy_137, eM_copy_138, eM_copy_141, eq_self, hr_k_some, Option.toList, List.cons_append, List.nil_append, is2k_n, is2k_i, is2k_r, is2k_0, oc_44, ro_m0, ro_m1, ro_m2, ro_m4, ro_m5, ro_m11, ro_m12, ro_m13, ro_m14, ro_m15, ro_m16, ro_m17, ak_45, ak_46, ak_47, ak_48, ak_49, ak_50, ak_51, ak_52, ak_53, ak_54, ak_55, ak_56, al_45, al_46, al_47, al_48, al_49, al_50, al_51, al_52, al_53, al_54, al_55, al_56, l45, l46, l47, l48, l49, l50, l51, l52, l53, l54, a45, a46, a47, a48, a49, a50, a51, a52, a53, a54, in46_0, in46_1, in46_2, in46_3, in46_4, in46_5, cn_0, cn_1, cn_2, cn_3, cn_4, cn_5, i10, i01, zb_t, zb_f, not_true_eq_false, not_false_eq_true, if_true, if_false, true_or, sp_in1, md_1, md_6, md_5, leF (show k < c by omega) (show c < 2 ^ 31 by omega), nI_add, et, in_40 (show k < 40 by omega), cl_nI (show k < 100000 by omega), nI_1]
    exact e'
theorem cp_loop2 {s r f g c : Nat} (hr : r < 4) (hg : g + c ≤ 40) (F : Nat → Int64) : ∀ (d k : Nat) (J : Nat → Nat → Int64), k + d = c → (∀ i, i < c → J 56 i = F (f + i)) → (∀ i, i < k → J 55 (40 * r + g + i) = F (f + i)) → ∃ J', den nM_copy (147, [some (.ref 44), some (.int (nI s)), some (.int (nI f)), some (.int (nI r)), some (.int (nI g)), some (.int (nI c)), some (.int (nI k))], [], (I, J)) = some (some (.int (nI c)), (I, J')) ∧ (∀ i, i < c → J' 55 (40 * r + g + i) = F (f + i)) ∧ ∀ q j, (q ≠ 55 ∨ j < 40 * r + g ∨ 40 * r + g + c ≤ j) → J' q j = J q j := by
  intro d
  induction d with
  | zero =>
    intro k J hk hF h0
    have hk' : k = c := by omega
    subst hk'
    refine ⟨J, ?_, h0, fun _ _ _ => rfl⟩
    rw [eM_copy_147]
    simp only [eM_copy_149, eM_copy_151, eM_copy_154, eM_copy_155, eM_copy_158, eM_copy_160, eM_copy_161, eM_copy_162, eM_copy_164, eM_copy_165, eM_copy_167, eM_copy_168, eM_copy_169, eM_copy_172, eM_copy_174, eM_copy_175, eM_copy_176, eM_copy_179, eM_copy_182, eM_copy_184, eq_self, hr_k_some, Option.toList, List.cons_append, List.nil_append, is2k_n, is2k_i, is2k_r, is2k_0, oc_44, ro_m0, ro_m1, ro_m2, ro_m4, ro_m5, ro_m11, ro_m12, ro_m13, ro_m14, ro_m15, ro_m16, ro_m17, ak_45, ak_46, ak_47, ak_48, ak_49, ak_50, ak_51, ak_52, ak_53, ak_54, ak_55, ak_56, al_45, al_46, al_47, al_48, al_49, al_50, al_51, al_52, al_53, al_54, al_55, al_56, l45, l46, l47, l48, l49, l50, l51, l52, l53, l54, a45, a46, a47, a48, a49, a50, a51, a52, a53, a54, in46_0, in46_1, in46_2, in46_3, in46_4, in46_5, cn_0, cn_1, cn_2, cn_3, cn_4, cn_5, i10, i01, zb_t, zb_f, not_true_eq_false, not_false_eq_true, if_true, if_false, true_or, sp_in1, md_1, md_6, md_5, leT (Nat.le_refl k) (show k < 2 ^ 31 by omega)]
  | succ d ih =>
    intro k J hk hF h0
    obtain ⟨J', e', h', o'⟩ := ih (k + 1) (up2 J 55 (40 * r + g + k) (F (f + k))) (by omega) (fun i hi => (up2_na (by decide)).trans (hF i hi)) (fun i hi => by
      by_cases q : i = k
      · subst q; exact up2_eq
      · rw [up2_nk (by omega)]; exact h0 i (by omega))
    refine ⟨J', ?_, h', fun q j hq => (o' q j hq).trans ?_⟩
    · rw [eM_copy_147]
      simp only [eM_copy_149, eM_copy_151, eM_copy_154, eM_copy_155, eM_copy_158, eM_copy_160, eM_copy_161, eM_copy_162, eM_copy_164, eM_copy_165, eM_copy_167, eM_copy_168, eM_copy_169, eM_copy_172, eM_copy_174, eM_copy_175, eM_copy_176, eM_copy_179, eM_copy_182, eM_copy_184, eq_self, hr_k_some, Option.toList, List.cons_append, List.nil_append, is2k_n, is2k_i, is2k_r, is2k_0, oc_44, ro_m0, ro_m1, ro_m2, ro_m4, ro_m5, ro_m11, ro_m12, ro_m13, ro_m14, ro_m15, ro_m16, ro_m17, ak_45, ak_46, ak_47, ak_48, ak_49, ak_50, ak_51, ak_52, ak_53, ak_54, ak_55, ak_56, al_45, al_46, al_47, al_48, al_49, al_50, al_51, al_52, al_53, al_54, al_55, al_56, l45, l46, l47, l48, l49, l50, l51, l52, l53, l54, a45, a46, a47, a48, a49, a50, a51, a52, a53, a54, in46_0, in46_1, in46_2, in46_3, in46_4, in46_5, cn_0, cn_1, cn_2, cn_3, cn_4, cn_5, i10, i01, zb_t, zb_f, not_true_eq_false, not_false_eq_true, if_true, if_false, true_or, sp_in1, md_1, md_6, md_5, leF (show k < c by omega) (show c < 2 ^ 31 by omega), md_40, nI_add, in_40 (show k < 40 by omega), cl_nI (show k < 100000 by omega), hF k (by omega), in_160 (show 40 * r + g + k < 160 by omega), cl_nI (show 40 * r + g + k < 100000 by omega), nI_1]
      exact e'
    · by_cases e5 : q = 55
      · subst e5; exact up2_nk (by omega)
      · exact up2_na e5
theorem sub40 {e k : Nat} (he : e ≤ 40) (hk : k < 2 ^ 31) : (nI e - nI k).toInt = (e : Int) - k := by
  rw [Int32.toInt_sub, nI_toInt (by omega), nI_toInt (by omega)]
  exact Int.bmod_eq_of_le (by omega) (by omega)
theorem cp_gt {e i k : Nat} (he : e ≤ 40) (hi : i < 2 ^ 31) (hk : k < 2 ^ 31) : (nI e - nI k < nI i) = ¬ (i + k ≤ e) := by
  apply propext
  rw [Int32.lt_iff_toInt_lt, sub40 he hk, nI_toInt hi]
  omega
theorem cp_le {e i k : Nat} (he : e ≤ 40) (hi : i < 2 ^ 31) (hk : k < 2 ^ 31) : (nI i ≤ nI e - nI k) = (i + k ≤ e) := by
  apply propext
  rw [Int32.le_iff_toInt_le, sub40 he hk, nI_toInt hi]
  omega
theorem cp_go (h : Md I J t n kp u m y bt L w z num) {s r : Nat} {f g c : Int32} (hs : s < 4) (hr : r < 4) (hw : w s ≠ 0) (he : w s = w r) : den nM_copy (0, [some (.ref 44), some (.int (nI s)), some (.int f), some (.int (nI r)), some (.int g), some (.int c), none], [], (I, J)) = den nM_copy (65, [some (.ref 44), some (.int (nI s)), some (.int f), some (.int (nI r)), some (.int g), some (.int c), none], [], (I, J)) := by
  obtain ⟨a1, a2, a3, a4, a5⟩ := h.sh hs
  obtain ⟨b1, b2, b3, b4, b5⟩ := h.sh hr
  have e1 := (m_isSh (x := nI s) (h := (I, J))).1 ⟨s, hs, rfl⟩
  have e2 := (m_isSh (x := nI r) (h := (I, J))).1 ⟨r, hr, rfl⟩
  have e3 : (nI (w s) = 0) = False := nq (c := 0) hw (by omega) (by decide)
  have e4 : (nI (w r) = 0) = False := nq (c := 0) (he ▸ hw) (by omega) (by decide)
  have e5 : (nI (w s) = nI (w r)) = True := eq_true (by rw [he])
  simp only [eM_copy_0, eM_copy_1, eM_copy_4, eM_copy_7, eM_copy_8, eM_copy_11, eM_copy_14, eM_copy_15, eM_copy_16, eM_copy_19, eM_copy_20, eM_copy_21, eM_copy_24, eM_copy_25, eM_copy_26, eM_copy_29, eM_copy_30, eM_copy_33, eM_copy_34, eM_copy_35, eM_copy_38, eM_copy_39, eM_copy_40, eM_copy_43, eM_copy_44, eM_copy_45, eM_copy_48, eM_copy_49, eM_copy_50, eM_copy_51, eM_copy_54, eM_copy_55, eM_copy_56, eM_copy_59, eM_copy_60, eM_copy_61, eM_copy_64, eq_self, hr_k_some, Option.toList, List.cons_append, List.nil_append, is2k_n, is2k_i, is2k_r, is2k_0, oc_44, ro_m0, ro_m1, ro_m2, ro_m4, ro_m5, ro_m11, ro_m12, ro_m13, ro_m14, ro_m15, ro_m16, ro_m17, ak_45, ak_46, ak_47, ak_48, ak_49, ak_50, ak_51, ak_52, ak_53, ak_54, ak_55, ak_56, al_45, al_46, al_47, al_48, al_49, al_50, al_51, al_52, al_53, al_54, al_55, al_56, l45, l46, l47, l48, l49, l50, l51, l52, l53, l54, a45, a46, a47, a48, a49, a50, a51, a52, a53, a54, in46_0, in46_1, in46_2, in46_3, in46_4, in46_5, cn_0, cn_1, cn_2, cn_3, cn_4, cn_5, i10, i01, zb_t, zb_f, not_true_eq_false, not_false_eq_true, if_true, if_false, true_or, sp_in1, md_1, md_6, md_5, e1, e2, in_4 hs, in_4 hr, cl_nI (show s < 100000 by omega), cl_nI (show r < 100000 by omega), a1, b1, e3, e4, e5]
theorem M_copy_ok (h : Md I J t n kp u m y bt L w z num) {s r f g c : Nat} (hs : s < 4) (hr : r < 4) (hw : w s ≠ 0) (he : w s = w r) (hf : f + c ≤ z s) (hg : g + c ≤ z r) : MR nM_copy [some (.ref 44), some (.int (nI s)), some (.int (nI f)), some (.int (nI r)), some (.int (nI g)), some (.int (nI c)), none] I J (.int (nI c)) (fun I' J' => Md I' J' t n kp u m y bt L w z (cpN num s f r g c)) := by
  obtain ⟨a1, a2, a3, a4, a5⟩ := h.sh hs
  obtain ⟨b1, b2, b3, b4, b5⟩ := h.sh hr
  obtain ⟨J1, e1, h1, o1⟩ := cp_loop1 (I := I) (r := r) (g := g) (c := c) (f := f) hs (by omega) (num s) c 0 J (by omega) a5 (fun i hi => by omega)
  obtain ⟨J2, e2, h2, o2⟩ := cp_loop2 (I := I) (s := s) (f := f) (c := c) (g := g) hr (by omega) (num s) c 0 J1 (by omega) h1 (fun i hi => by omega)
  have e1' : den nM_copy (115, [some (.ref 44), some (.int (nI s)), some (.int (nI f)), some (.int (nI r)), some (.int (nI g)), some (.int (nI c)), some (.int 0)], [], (I, J)) = _ := e1
  have e2' : den nM_copy (147, [some (.ref 44), some (.int (nI s)), some (.int (nI f)), some (.int (nI r)), some (.int (nI g)), some (.int (nI c)), some (.int 0)], [], (I, J1)) = _ := e2
  refine ⟨I, J2, ?_, fun q hq j => ⟨rfl, (o2 q j (by omega)).trans (o1 q j (by omega))⟩, h.shs (fun q hq => ?_) (fun _ _ _ _ _ _ => rfl)⟩
  · rw [cp_go h hs hr hw he]
    have l1 := cp_gt (e := z s) (i := f) (k := c) a4 (by omega) (by omega)
    have l2 := cp_le (e := z r) (i := g) (k := c) b4 (by omega) (by omega)
    simp only [eM_copy_65, eM_copy_67, eM_copy_70, eM_copy_71, eM_copy_74, eM_copy_76, eM_copy_79, eM_copy_80, eM_copy_81, eM_copy_84, eM_copy_85, eM_copy_86, eM_copy_88, eM_copy_89, eM_copy_92, eM_copy_94, eM_copy_95, eM_copy_98, eM_copy_99, eM_copy_100, eM_copy_102, eM_copy_103, eM_copy_106, eM_copy_107, eM_copy_108, eM_copy_111, eM_copy_112, eM_copy_113, eq_self, hr_k_some, Option.toList, List.cons_append, List.nil_append, is2k_n, is2k_i, is2k_r, is2k_0, oc_44, ro_m0, ro_m1, ro_m2, ro_m4, ro_m5, ro_m11, ro_m12, ro_m13, ro_m14, ro_m15, ro_m16, ro_m17, ak_45, ak_46, ak_47, ak_48, ak_49, ak_50, ak_51, ak_52, ak_53, ak_54, ak_55, ak_56, al_45, al_46, al_47, al_48, al_49, al_50, al_51, al_52, al_53, al_54, al_55, al_56, l45, l46, l47, l48, l49, l50, l51, l52, l53, l54, a45, a46, a47, a48, a49, a50, a51, a52, a53, a54, in46_0, in46_1, in46_2, in46_3, in46_4, in46_5, cn_0, cn_1, cn_2, cn_3, cn_4, cn_5, i10, i01, zb_t, zb_f, not_true_eq_false, not_false_eq_true, if_true, if_false, true_or, sp_in1, md_1, md_6, md_5, in_4 hs, in_4 hr, cl_nI (show s < 100000 by omega), cl_nI (show r < 100000 by omega), a3, b3, lt0f (show c < 2 ^ 31 by omega), lt0f (show f < 2 ^ 31 by omega), lt0f (show g < 2 ^ 31 by omega), l1, l2, hf, hg]
    rw [e1']
    simp only [eM_copy_144, eM_copy_145, eq_self, hr_k_some, Option.toList, List.cons_append, List.nil_append, is2k_n, is2k_i, is2k_r, is2k_0, oc_44, ro_m0, ro_m1, ro_m2, ro_m4, ro_m5, ro_m11, ro_m12, ro_m13, ro_m14, ro_m15, ro_m16, ro_m17, ak_45, ak_46, ak_47, ak_48, ak_49, ak_50, ak_51, ak_52, ak_53, ak_54, ak_55, ak_56, al_45, al_46, al_47, al_48, al_49, al_50, al_51, al_52, al_53, al_54, al_55, al_56, l45, l46, l47, l48, l49, l50, l51, l52, l53, l54, a45, a46, a47, a48, a49, a50, a51, a52, a53, a54, in46_0, in46_1, in46_2, in46_3, in46_4, in46_5, cn_0, cn_1, cn_2, cn_3, cn_4, cn_5, i10, i01, zb_t, zb_f, not_true_eq_false, not_false_eq_true, if_true, if_false, true_or, sp_in1, md_1, md_6, md_5]
    exact e2'
  · obtain ⟨d1, d2, d3, d4, d5⟩ := h.sh hq
    refine ⟨d1, d2, d3, d4, fun j hj => ?_⟩
    unfold cpN
    by_cases e : q = r
    · rw [if_pos e]
      subst e
      by_cases k : g ≤ j ∧ j < g + c
      · rw [pk_cpy_in k.1 k.2]
        have := h2 (j - g) (by omega)
        rwa [show 40 * q + g + (j - g) = 40 * q + j by omega] at this
      · rw [pk_cpy_out (by omega), o2 55 _ (by omega), o1 55 _ (by decide)]
        exact d5 j hj
    · rw [if_neg e, o2 55 _ (by omega), o1 55 _ (by decide)]
      exact d5 j hj
theorem M_copy_out (h : Md I J t n kp u m y bt L w z num) {s r : Nat} {f g c : Int32} (hs : s < 4) (hr : r < 4) (hw : w s ≠ 0) (he : w s = w r) (ho : ¬ (inR f c (z s) ∧ inR g c (z r))) : MR nM_copy [some (.ref 44), some (.int (nI s)), some (.int f), some (.int (nI r)), some (.int g), some (.int c), none] I J (.int (fnd 0)) (fun I' J' => Md I' J' t n kp u m (inc y 0) bt L w z num) := by
  refine MR.fnd (by decide) h ?_
  obtain ⟨a1, a2, a3, a4, a5⟩ := h.sh hs
  obtain ⟨b1, b2, b3, b4, b5⟩ := h.sh hr
  rw [cp_go h hs hr hw he]
  by_cases c1 : c < 0
  · simp only [eM_copy_65, eM_copy_67, eM_copy_70, eM_copy_71, eM_copy_74, eM_copy_76, eM_copy_79, eM_copy_80, eM_copy_81, eM_copy_84, eM_copy_85, eM_copy_86, eM_copy_88, eM_copy_89, eM_copy_92, eM_copy_94, eM_copy_95, eM_copy_98, eM_copy_99, eM_copy_100, eM_copy_102, eM_copy_103, eM_copy_106, eM_copy_107, eM_copy_108, eM_copy_111, eM_copy_112, eM_copy_113, eq_self, hr_k_some, Option.toList, List.cons_append, List.nil_append, is2k_n, is2k_i, is2k_r, is2k_0, oc_44, ro_m0, ro_m1, ro_m2, ro_m4, ro_m5, ro_m11, ro_m12, ro_m13, ro_m14, ro_m15, ro_m16, ro_m17, ak_45, ak_46, ak_47, ak_48, ak_49, ak_50, ak_51, ak_52, ak_53, ak_54, ak_55, ak_56, al_45, al_46, al_47, al_48, al_49, al_50, al_51, al_52, al_53, al_54, al_55, al_56, l45, l46, l47, l48, l49, l50, l51, l52, l53, l54, a45, a46, a47, a48, a49, a50, a51, a52, a53, a54, in46_0, in46_1, in46_2, in46_3, in46_4, in46_5, cn_0, cn_1, cn_2, cn_3, cn_4, cn_5, i10, i01, zb_t, zb_f, not_true_eq_false, not_false_eq_true, if_true, if_false, true_or, sp_in1, md_1, md_6, md_5, c1, sp_no0]
  · by_cases c2 : f < 0
    · simp only [eM_copy_65, eM_copy_67, eM_copy_70, eM_copy_71, eM_copy_74, eM_copy_76, eM_copy_79, eM_copy_80, eM_copy_81, eM_copy_84, eM_copy_85, eM_copy_86, eM_copy_88, eM_copy_89, eM_copy_92, eM_copy_94, eM_copy_95, eM_copy_98, eM_copy_99, eM_copy_100, eM_copy_102, eM_copy_103, eM_copy_106, eM_copy_107, eM_copy_108, eM_copy_111, eM_copy_112, eM_copy_113, eq_self, hr_k_some, Option.toList, List.cons_append, List.nil_append, is2k_n, is2k_i, is2k_r, is2k_0, oc_44, ro_m0, ro_m1, ro_m2, ro_m4, ro_m5, ro_m11, ro_m12, ro_m13, ro_m14, ro_m15, ro_m16, ro_m17, ak_45, ak_46, ak_47, ak_48, ak_49, ak_50, ak_51, ak_52, ak_53, ak_54, ak_55, ak_56, al_45, al_46, al_47, al_48, al_49, al_50, al_51, al_52, al_53, al_54, al_55, al_56, l45, l46, l47, l48, l49, l50, l51, l52, l53, l54, a45, a46, a47, a48, a49, a50, a51, a52, a53, a54, in46_0, in46_1, in46_2, in46_3, in46_4, in46_5, cn_0, cn_1, cn_2, cn_3, cn_4, cn_5, i10, i01, zb_t, zb_f, not_true_eq_false, not_false_eq_true, if_true, if_false, true_or, sp_in1, md_1, md_6, md_5, c1, c2, sp_no0]
    · by_cases c3 : g < 0
      · simp only [eM_copy_65, eM_copy_67, eM_copy_70, eM_copy_71, eM_copy_74, eM_copy_76, eM_copy_79, eM_copy_80, eM_copy_81, eM_copy_84, eM_copy_85, eM_copy_86, eM_copy_88, eM_copy_89, eM_copy_92, eM_copy_94, eM_copy_95, eM_copy_98, eM_copy_99, eM_copy_100, eM_copy_102, eM_copy_103, eM_copy_106, eM_copy_107, eM_copy_108, eM_copy_111, eM_copy_112, eM_copy_113, eq_self, hr_k_some, Option.toList, List.cons_append, List.nil_append, is2k_n, is2k_i, is2k_r, is2k_0, oc_44, ro_m0, ro_m1, ro_m2, ro_m4, ro_m5, ro_m11, ro_m12, ro_m13, ro_m14, ro_m15, ro_m16, ro_m17, ak_45, ak_46, ak_47, ak_48, ak_49, ak_50, ak_51, ak_52, ak_53, ak_54, ak_55, ak_56, al_45, al_46, al_47, al_48, al_49, al_50, al_51, al_52, al_53, al_54, al_55, al_56, l45, l46, l47, l48, l49, l50, l51, l52, l53, l54, a45, a46, a47, a48, a49, a50, a51, a52, a53, a54, in46_0, in46_1, in46_2, in46_3, in46_4, in46_5, cn_0, cn_1, cn_2, cn_3, cn_4, cn_5, i10, i01, zb_t, zb_f, not_true_eq_false, not_false_eq_true, if_true, if_false, true_or, sp_in1, md_1, md_6, md_5, c1, c2, c3, sp_no0]
      · obtain ⟨k, hk, rfl⟩ := nI_of c1
        obtain ⟨i, hi, rfl⟩ := nI_of c2
        obtain ⟨j, hj, rfl⟩ := nI_of c3
        have l1 := cp_gt (e := z s) (i := i) (k := k) a4 hi hk
        have l2 := cp_le (e := z r) (i := j) (k := k) b4 hj hk
        by_cases d1 : i + k ≤ z s
        · have d2 : ¬ j + k ≤ z r := fun q => ho ⟨⟨i, k, rfl, rfl, d1⟩, ⟨j, k, rfl, rfl, q⟩⟩
          simp only [eM_copy_65, eM_copy_67, eM_copy_70, eM_copy_71, eM_copy_74, eM_copy_76, eM_copy_79, eM_copy_80, eM_copy_81, eM_copy_84, eM_copy_85, eM_copy_86, eM_copy_88, eM_copy_89, eM_copy_92, eM_copy_94, eM_copy_95, eM_copy_98, eM_copy_99, eM_copy_100, eM_copy_102, eM_copy_103, eM_copy_106, eM_copy_107, eM_copy_108, eM_copy_111, eM_copy_112, eM_copy_113, eq_self, hr_k_some, Option.toList, List.cons_append, List.nil_append, is2k_n, is2k_i, is2k_r, is2k_0, oc_44, ro_m0, ro_m1, ro_m2, ro_m4, ro_m5, ro_m11, ro_m12, ro_m13, ro_m14, ro_m15, ro_m16, ro_m17, ak_45, ak_46, ak_47, ak_48, ak_49, ak_50, ak_51, ak_52, ak_53, ak_54, ak_55, ak_56, al_45, al_46, al_47, al_48, al_49, al_50, al_51, al_52, al_53, al_54, al_55, al_56, l45, l46, l47, l48, l49, l50, l51, l52, l53, l54, a45, a46, a47, a48, a49, a50, a51, a52, a53, a54, in46_0, in46_1, in46_2, in46_3, in46_4, in46_5, cn_0, cn_1, cn_2, cn_3, cn_4, cn_5, i10, i01, zb_t, zb_f, not_true_eq_false, not_false_eq_true, if_true, if_false, true_or, sp_in1, md_1, md_6, md_5, c1, c2, c3, in_4 hs, in_4 hr, cl_nI (show s < 100000 by omega), cl_nI (show r < 100000 by omega), a3, b3, l1, l2, d1, d2, sp_no0]
        · simp only [eM_copy_65, eM_copy_67, eM_copy_70, eM_copy_71, eM_copy_74, eM_copy_76, eM_copy_79, eM_copy_80, eM_copy_81, eM_copy_84, eM_copy_85, eM_copy_86, eM_copy_88, eM_copy_89, eM_copy_92, eM_copy_94, eM_copy_95, eM_copy_98, eM_copy_99, eM_copy_100, eM_copy_102, eM_copy_103, eM_copy_106, eM_copy_107, eM_copy_108, eM_copy_111, eM_copy_112, eM_copy_113, eq_self, hr_k_some, Option.toList, List.cons_append, List.nil_append, is2k_n, is2k_i, is2k_r, is2k_0, oc_44, ro_m0, ro_m1, ro_m2, ro_m4, ro_m5, ro_m11, ro_m12, ro_m13, ro_m14, ro_m15, ro_m16, ro_m17, ak_45, ak_46, ak_47, ak_48, ak_49, ak_50, ak_51, ak_52, ak_53, ak_54, ak_55, ak_56, al_45, al_46, al_47, al_48, al_49, al_50, al_51, al_52, al_53, al_54, al_55, al_56, l45, l46, l47, l48, l49, l50, l51, l52, l53, l54, a45, a46, a47, a48, a49, a50, a51, a52, a53, a54, in46_0, in46_1, in46_2, in46_3, in46_4, in46_5, cn_0, cn_1, cn_2, cn_3, cn_4, cn_5, i10, i01, zb_t, zb_f, not_true_eq_false, not_false_eq_true, if_true, if_false, true_or, sp_in1, md_1, md_6, md_5, c1, c2, c3, in_4 hs, cl_nI (show s < 100000 by omega), a3, l1, d1, sp_no0]
theorem M_copy_kind (h : Md I J t n kp u m y bt L w z num) {s r : Nat} {f g c : Int32} (hs : s < 4) (hr : r < 4) (hw : w s ≠ 0) (hwr : w r ≠ 0) (he : ¬ w s = w r) : MR nM_copy [some (.ref 44), some (.int (nI s)), some (.int f), some (.int (nI r)), some (.int g), some (.int c), none] I J (.int (fnd 2)) (fun I' J' => Md I' J' t n kp u m (inc y 2) bt L w z num) := by
  refine MR.fnd (by decide) h ?_
  obtain ⟨a1, a2, a3, a4, a5⟩ := h.sh hs
  obtain ⟨b1, b2, b3, b4, b5⟩ := h.sh hr
  have e1 := (m_isSh (x := nI s) (h := (I, J))).1 ⟨s, hs, rfl⟩
  have e2 := (m_isSh (x := nI r) (h := (I, J))).1 ⟨r, hr, rfl⟩
  have e3 : (nI (w s) = 0) = False := nq (c := 0) hw (by omega) (by decide)
  have e4 : (nI (w r) = 0) = False := nq (c := 0) hwr (by omega) (by decide)
  have e5 : (nI (w s) = nI (w r)) = False := nq he (by omega) (by omega)
  simp only [eM_copy_0, eM_copy_1, eM_copy_4, eM_copy_7, eM_copy_8, eM_copy_11, eM_copy_14, eM_copy_15, eM_copy_16, eM_copy_19, eM_copy_20, eM_copy_21, eM_copy_24, eM_copy_25, eM_copy_26, eM_copy_29, eM_copy_30, eM_copy_33, eM_copy_34, eM_copy_35, eM_copy_38, eM_copy_39, eM_copy_40, eM_copy_43, eM_copy_44, eM_copy_45, eM_copy_48, eM_copy_49, eM_copy_50, eM_copy_51, eM_copy_54, eM_copy_55, eM_copy_56, eM_copy_59, eM_copy_60, eM_copy_61, eM_copy_64, eq_self, hr_k_some, Option.toList, List.cons_append, List.nil_append, is2k_n, is2k_i, is2k_r, is2k_0, oc_44, ro_m0, ro_m1, ro_m2, ro_m4, ro_m5, ro_m11, ro_m12, ro_m13, ro_m14, ro_m15, ro_m16, ro_m17, ak_45, ak_46, ak_47, ak_48, ak_49, ak_50, ak_51, ak_52, ak_53, ak_54, ak_55, ak_56, al_45, al_46, al_47, al_48, al_49, al_50, al_51, al_52, al_53, al_54, al_55, al_56, l45, l46, l47, l48, l49, l50, l51, l52, l53, l54, a45, a46, a47, a48, a49, a50, a51, a52, a53, a54, in46_0, in46_1, in46_2, in46_3, in46_4, in46_5, cn_0, cn_1, cn_2, cn_3, cn_4, cn_5, i10, i01, zb_t, zb_f, not_true_eq_false, not_false_eq_true, if_true, if_false, true_or, sp_in1, md_1, md_6, md_5, e1, e2, in_4 hs, in_4 hr, cl_nI (show s < 100000 by omega), cl_nI (show r < 100000 by omega), a1, b1, e3, e4, e5, sp_no2]
theorem M_copy_miss (h : Md I J t n kp u m y bt L w z num) {s r : Nat} {f g c : Int32} (hs : s < 4) (hr : r < 4) (hw : w s = 0 ∨ w r = 0) : MR nM_copy [some (.ref 44), some (.int (nI s)), some (.int f), some (.int (nI r)), some (.int g), some (.int c), none] I J (.int (fnd 5)) (fun I' J' => Md I' J' t n kp u m (inc y 5) bt L w z num) := by
  refine MR.fnd (by decide) h ?_
  obtain ⟨a1, a2, a3, a4, a5⟩ := h.sh hs
  obtain ⟨b1, b2, b3, b4, b5⟩ := h.sh hr
  have e1 := (m_isSh (x := nI s) (h := (I, J))).1 ⟨s, hs, rfl⟩
  have e2 := (m_isSh (x := nI r) (h := (I, J))).1 ⟨r, hr, rfl⟩
  by_cases c0 : w s = 0
  · have e3 : (nI (w s) = 0) = True := eq_true (by rw [c0]; rfl)
    simp only [eM_copy_0, eM_copy_1, eM_copy_4, eM_copy_7, eM_copy_8, eM_copy_11, eM_copy_14, eM_copy_15, eM_copy_16, eM_copy_19, eM_copy_20, eM_copy_21, eM_copy_24, eM_copy_25, eM_copy_26, eM_copy_29, eM_copy_30, eM_copy_33, eM_copy_34, eM_copy_35, eM_copy_38, eM_copy_39, eM_copy_40, eM_copy_43, eM_copy_44, eM_copy_45, eM_copy_48, eM_copy_49, eM_copy_50, eM_copy_51, eM_copy_54, eM_copy_55, eM_copy_56, eM_copy_59, eM_copy_60, eM_copy_61, eM_copy_64, eq_self, hr_k_some, Option.toList, List.cons_append, List.nil_append, is2k_n, is2k_i, is2k_r, is2k_0, oc_44, ro_m0, ro_m1, ro_m2, ro_m4, ro_m5, ro_m11, ro_m12, ro_m13, ro_m14, ro_m15, ro_m16, ro_m17, ak_45, ak_46, ak_47, ak_48, ak_49, ak_50, ak_51, ak_52, ak_53, ak_54, ak_55, ak_56, al_45, al_46, al_47, al_48, al_49, al_50, al_51, al_52, al_53, al_54, al_55, al_56, l45, l46, l47, l48, l49, l50, l51, l52, l53, l54, a45, a46, a47, a48, a49, a50, a51, a52, a53, a54, in46_0, in46_1, in46_2, in46_3, in46_4, in46_5, cn_0, cn_1, cn_2, cn_3, cn_4, cn_5, i10, i01, zb_t, zb_f, not_true_eq_false, not_false_eq_true, if_true, if_false, true_or, sp_in1, md_1, md_6, md_5, e1, e2, in_4 hs, cl_nI (show s < 100000 by omega), a1, e3, sp_no5]
  · have e3 : (nI (w s) = 0) = False := nq (c := 0) c0 (by omega) (by decide)
    have e4 : (nI (w r) = 0) = True := eq_true (by rw [hw.resolve_left c0]; rfl)
    simp only [eM_copy_0, eM_copy_1, eM_copy_4, eM_copy_7, eM_copy_8, eM_copy_11, eM_copy_14, eM_copy_15, eM_copy_16, eM_copy_19, eM_copy_20, eM_copy_21, eM_copy_24, eM_copy_25, eM_copy_26, eM_copy_29, eM_copy_30, eM_copy_33, eM_copy_34, eM_copy_35, eM_copy_38, eM_copy_39, eM_copy_40, eM_copy_43, eM_copy_44, eM_copy_45, eM_copy_48, eM_copy_49, eM_copy_50, eM_copy_51, eM_copy_54, eM_copy_55, eM_copy_56, eM_copy_59, eM_copy_60, eM_copy_61, eM_copy_64, eq_self, hr_k_some, Option.toList, List.cons_append, List.nil_append, is2k_n, is2k_i, is2k_r, is2k_0, oc_44, ro_m0, ro_m1, ro_m2, ro_m4, ro_m5, ro_m11, ro_m12, ro_m13, ro_m14, ro_m15, ro_m16, ro_m17, ak_45, ak_46, ak_47, ak_48, ak_49, ak_50, ak_51, ak_52, ak_53, ak_54, ak_55, ak_56, al_45, al_46, al_47, al_48, al_49, al_50, al_51, al_52, al_53, al_54, al_55, al_56, l45, l46, l47, l48, l49, l50, l51, l52, l53, l54, a45, a46, a47, a48, a49, a50, a51, a52, a53, a54, in46_0, in46_1, in46_2, in46_3, in46_4, in46_5, cn_0, cn_1, cn_2, cn_3, cn_4, cn_5, i10, i01, zb_t, zb_f, not_true_eq_false, not_false_eq_true, if_true, if_false, true_or, sp_in1, md_1, md_6, md_5, e1, e2, in_4 hs, in_4 hr, cl_nI (show s < 100000 by omega), cl_nI (show r < 100000 by omega), a1, b1, e3, e4, sp_no5]
theorem M_copy_no (h : Md I J t n kp u m y bt L w z num) {a1 a3 f g c : Int32} (hb : ¬ (rng a1 4 ∧ rng a3 4)) : MR nM_copy [some (.ref 44), some (.int a1), some (.int f), some (.int a3), some (.int g), some (.int c), none] I J (.int (fnd 0)) (fun I' J' => Md I' J' t n kp u m (inc y 0) bt L w z num) := by
  refine MR.fnd (by decide) h ?_
  by_cases c1 : rng a1 4
  · have e1 := (m_isSh (x := a1) (h := (I, J))).1 c1
    have e2 := (m_isSh (x := a3) (h := (I, J))).2 (fun q => hb ⟨c1, q⟩)
    simp only [eM_copy_0, eM_copy_1, eM_copy_4, eM_copy_7, eM_copy_8, eM_copy_11, eM_copy_14, eM_copy_15, eM_copy_16, eM_copy_19, eM_copy_20, eM_copy_21, eM_copy_24, eM_copy_25, eM_copy_26, eM_copy_29, eM_copy_30, eM_copy_33, eM_copy_34, eM_copy_35, eM_copy_38, eM_copy_39, eM_copy_40, eM_copy_43, eM_copy_44, eM_copy_45, eM_copy_48, eM_copy_49, eM_copy_50, eM_copy_51, eM_copy_54, eM_copy_55, eM_copy_56, eM_copy_59, eM_copy_60, eM_copy_61, eM_copy_64, eq_self, hr_k_some, Option.toList, List.cons_append, List.nil_append, is2k_n, is2k_i, is2k_r, is2k_0, oc_44, ro_m0, ro_m1, ro_m2, ro_m4, ro_m5, ro_m11, ro_m12, ro_m13, ro_m14, ro_m15, ro_m16, ro_m17, ak_45, ak_46, ak_47, ak_48, ak_49, ak_50, ak_51, ak_52, ak_53, ak_54, ak_55, ak_56, al_45, al_46, al_47, al_48, al_49, al_50, al_51, al_52, al_53, al_54, al_55, al_56, l45, l46, l47, l48, l49, l50, l51, l52, l53, l54, a45, a46, a47, a48, a49, a50, a51, a52, a53, a54, in46_0, in46_1, in46_2, in46_3, in46_4, in46_5, cn_0, cn_1, cn_2, cn_3, cn_4, cn_5, i10, i01, zb_t, zb_f, not_true_eq_false, not_false_eq_true, if_true, if_false, true_or, sp_in1, md_1, md_6, md_5, e1, e2, sp_no0]
  · have e1 := (m_isSh (x := a1) (h := (I, J))).2 c1
    simp only [eM_copy_0, eM_copy_1, eM_copy_4, eM_copy_7, eM_copy_8, eM_copy_11, eM_copy_14, eM_copy_15, eM_copy_16, eM_copy_19, eM_copy_20, eM_copy_21, eM_copy_24, eM_copy_25, eM_copy_26, eM_copy_29, eM_copy_30, eM_copy_33, eM_copy_34, eM_copy_35, eM_copy_38, eM_copy_39, eM_copy_40, eM_copy_43, eM_copy_44, eM_copy_45, eM_copy_48, eM_copy_49, eM_copy_50, eM_copy_51, eM_copy_54, eM_copy_55, eM_copy_56, eM_copy_59, eM_copy_60, eM_copy_61, eM_copy_64, eq_self, hr_k_some, Option.toList, List.cons_append, List.nil_append, is2k_n, is2k_i, is2k_r, is2k_0, oc_44, ro_m0, ro_m1, ro_m2, ro_m4, ro_m5, ro_m11, ro_m12, ro_m13, ro_m14, ro_m15, ro_m16, ro_m17, ak_45, ak_46, ak_47, ak_48, ak_49, ak_50, ak_51, ak_52, ak_53, ak_54, ak_55, ak_56, al_45, al_46, al_47, al_48, al_49, al_50, al_51, al_52, al_53, al_54, al_55, al_56, l45, l46, l47, l48, l49, l50, l51, l52, l53, l54, a45, a46, a47, a48, a49, a50, a51, a52, a53, a54, in46_0, in46_1, in46_2, in46_3, in46_4, in46_5, cn_0, cn_1, cn_2, cn_3, cn_4, cn_5, i10, i01, zb_t, zb_f, not_true_eq_false, not_false_eq_true, if_true, if_false, true_or, sp_in1, md_1, md_6, md_5, e1, sp_no0]
/-! lays, book, read: how they are refused -/
theorem n50 : ((5 : Int32) < 0) = False := eq_false (by decide)
theorem n00 : ((0 : Int32) < 0) = False := eq_false (by decide)
theorem n10' : ((-1 : Int32) < 0) = True := eq_true (by decide)
theorem M_lays_miss (h : Md I J t n kp u m y bt L w z num) {s : Nat} (hs : s < 4) (hw : w s = 0) : MR nM_lays [some (.ref 44), some (.int (nI s)), none, none, none, none] I J (.int (fnd 5)) (fun I' J' => Md I' J' t n kp u m (inc y 5) bt L w z num) := by
  refine MR.fnd (by decide) h ?_
  simp only [eM_lays_0, eM_lays_1, eM_lays_2, eM_lays_5, eM_lays_6, eM_lays_7, eM_lays_10, eM_lays_11, eM_lays_12, eM_lays_15, eM_lays_16, eM_lays_17, eM_lays_18, eM_lays_19, eq_self, hr_k_some, Option.toList, List.cons_append, List.nil_append, is2k_n, is2k_i, is2k_r, is2k_0, oc_44, ro_m0, ro_m1, ro_m2, ro_m4, ro_m5, ro_m11, ro_m12, ro_m13, ro_m14, ro_m15, ro_m16, ro_m17, ak_45, ak_46, ak_47, ak_48, ak_49, ak_50, ak_51, ak_52, ak_53, ak_54, ak_55, ak_56, al_45, al_46, al_47, al_48, al_49, al_50, al_51, al_52, al_53, al_54, al_55, al_56, l45, l46, l47, l48, l49, l50, l51, l52, l53, l54, a45, a46, a47, a48, a49, a50, a51, a52, a53, a54, in46_0, in46_1, in46_2, in46_3, in46_4, in46_5, cn_0, cn_1, cn_2, cn_3, cn_4, cn_5, i10, i01, zb_t, zb_f, not_true_eq_false, not_false_eq_true, if_true, if_false, true_or, sp_in1, md_1, md_6, md_5, m_wr_miss h hs hw, n50, sp_no5]
theorem M_lays_no (h : Md I J t n kp u m y bt L w z num) {a1 : Int32} (hs : ¬ rng a1 4) : MR nM_lays [some (.ref 44), some (.int a1), none, none, none, none] I J (.int (fnd 0)) (fun I' J' => Md I' J' t n kp u m (inc y 0) bt L w z num) := by
  refine MR.fnd (by decide) h ?_
  simp only [eM_lays_0, eM_lays_1, eM_lays_2, eM_lays_5, eM_lays_6, eM_lays_7, eM_lays_10, eM_lays_11, eM_lays_12, eM_lays_15, eM_lays_16, eM_lays_17, eM_lays_18, eM_lays_19, eq_self, hr_k_some, Option.toList, List.cons_append, List.nil_append, is2k_n, is2k_i, is2k_r, is2k_0, oc_44, ro_m0, ro_m1, ro_m2, ro_m4, ro_m5, ro_m11, ro_m12, ro_m13, ro_m14, ro_m15, ro_m16, ro_m17, ak_45, ak_46, ak_47, ak_48, ak_49, ak_50, ak_51, ak_52, ak_53, ak_54, ak_55, ak_56, al_45, al_46, al_47, al_48, al_49, al_50, al_51, al_52, al_53, al_54, al_55, al_56, l45, l46, l47, l48, l49, l50, l51, l52, l53, l54, a45, a46, a47, a48, a49, a50, a51, a52, a53, a54, in46_0, in46_1, in46_2, in46_3, in46_4, in46_5, cn_0, cn_1, cn_2, cn_3, cn_4, cn_5, i10, i01, zb_t, zb_f, not_true_eq_false, not_false_eq_true, if_true, if_false, true_or, sp_in1, md_1, md_6, md_5, m_wr_no hs, n00, sp_no0]
theorem M_book_miss (h : Md I J t n kp u m y bt L w z num) {s : Nat} (hs : s < 4) (hw : w s = 0) : MR nM_book [some (.ref 44), some (.int (nI s)), none, none] I J (.int (fnd 5)) (fun I' J' => Md I' J' t n kp u m (inc y 5) bt L w z num) := by
  refine MR.fnd (by decide) h ?_
  simp only [eM_book_0, eM_book_1, eM_book_2, eM_book_5, eM_book_6, eM_book_7, eM_book_10, eM_book_11, eM_book_12, eM_book_15, eM_book_16, eM_book_17, eM_book_20, eM_book_21, eq_self, hr_k_some, Option.toList, List.cons_append, List.nil_append, is2k_n, is2k_i, is2k_r, is2k_0, oc_44, ro_m0, ro_m1, ro_m2, ro_m4, ro_m5, ro_m11, ro_m12, ro_m13, ro_m14, ro_m15, ro_m16, ro_m17, ak_45, ak_46, ak_47, ak_48, ak_49, ak_50, ak_51, ak_52, ak_53, ak_54, ak_55, ak_56, al_45, al_46, al_47, al_48, al_49, al_50, al_51, al_52, al_53, al_54, al_55, al_56, l45, l46, l47, l48, l49, l50, l51, l52, l53, l54, a45, a46, a47, a48, a49, a50, a51, a52, a53, a54, in46_0, in46_1, in46_2, in46_3, in46_4, in46_5, cn_0, cn_1, cn_2, cn_3, cn_4, cn_5, i10, i01, zb_t, zb_f, not_true_eq_false, not_false_eq_true, if_true, if_false, true_or, sp_in1, md_1, md_6, md_5, m_wr_miss h hs hw, n50, sp_no5]
theorem M_book_no (h : Md I J t n kp u m y bt L w z num) {a1 : Int32} (hs : ¬ rng a1 4) : MR nM_book [some (.ref 44), some (.int a1), none, none] I J (.int (fnd 0)) (fun I' J' => Md I' J' t n kp u m (inc y 0) bt L w z num) := by
  refine MR.fnd (by decide) h ?_
  simp only [eM_book_0, eM_book_1, eM_book_2, eM_book_5, eM_book_6, eM_book_7, eM_book_10, eM_book_11, eM_book_12, eM_book_15, eM_book_16, eM_book_17, eM_book_20, eM_book_21, eq_self, hr_k_some, Option.toList, List.cons_append, List.nil_append, is2k_n, is2k_i, is2k_r, is2k_0, oc_44, ro_m0, ro_m1, ro_m2, ro_m4, ro_m5, ro_m11, ro_m12, ro_m13, ro_m14, ro_m15, ro_m16, ro_m17, ak_45, ak_46, ak_47, ak_48, ak_49, ak_50, ak_51, ak_52, ak_53, ak_54, ak_55, ak_56, al_45, al_46, al_47, al_48, al_49, al_50, al_51, al_52, al_53, al_54, al_55, al_56, l45, l46, l47, l48, l49, l50, l51, l52, l53, l54, a45, a46, a47, a48, a49, a50, a51, a52, a53, a54, in46_0, in46_1, in46_2, in46_3, in46_4, in46_5, cn_0, cn_1, cn_2, cn_3, cn_4, cn_5, i10, i01, zb_t, zb_f, not_true_eq_false, not_false_eq_true, if_true, if_false, true_or, sp_in1, md_1, md_6, md_5, m_wr_no hs, n00, sp_no0]
theorem M_read_miss (h : Md I J t n kp u m y bt L w z num) {s : Nat} (hs : s < 4) (hw : w s = 0) : MR nM_read [some (.ref 44), some (.int (nI s)), none, none, none] I J (.int (fnd 5)) (fun I' J' => Md I' J' t n kp u m (inc y 5) bt L w z num) := by
  refine MR.fnd (by decide) h ?_
  simp only [eM_read_0, eM_read_1, eM_read_2, eM_read_5, eM_read_6, eM_read_7, eM_read_10, eM_read_11, eM_read_12, eM_read_15, eM_read_16, eM_read_17, eM_read_18, eM_read_19, eM_read_22, eM_read_23, eq_self, hr_k_some, Option.toList, List.cons_append, List.nil_append, is2k_n, is2k_i, is2k_r, is2k_0, oc_44, ro_m0, ro_m1, ro_m2, ro_m4, ro_m5, ro_m11, ro_m12, ro_m13, ro_m14, ro_m15, ro_m16, ro_m17, ak_45, ak_46, ak_47, ak_48, ak_49, ak_50, ak_51, ak_52, ak_53, ak_54, ak_55, ak_56, al_45, al_46, al_47, al_48, al_49, al_50, al_51, al_52, al_53, al_54, al_55, al_56, l45, l46, l47, l48, l49, l50, l51, l52, l53, l54, a45, a46, a47, a48, a49, a50, a51, a52, a53, a54, in46_0, in46_1, in46_2, in46_3, in46_4, in46_5, cn_0, cn_1, cn_2, cn_3, cn_4, cn_5, i10, i01, zb_t, zb_f, not_true_eq_false, not_false_eq_true, if_true, if_false, true_or, sp_in1, md_1, md_6, md_5, m_wr_miss h hs hw, n50, sp_no5]
theorem M_read_no (h : Md I J t n kp u m y bt L w z num) {a1 : Int32} (hs : ¬ rng a1 4) : MR nM_read [some (.ref 44), some (.int a1), none, none, none] I J (.int (fnd 0)) (fun I' J' => Md I' J' t n kp u m (inc y 0) bt L w z num) := by
  refine MR.fnd (by decide) h ?_
  simp only [eM_read_0, eM_read_1, eM_read_2, eM_read_5, eM_read_6, eM_read_7, eM_read_10, eM_read_11, eM_read_12, eM_read_15, eM_read_16, eM_read_17, eM_read_18, eM_read_19, eM_read_22, eM_read_23, eq_self, hr_k_some, Option.toList, List.cons_append, List.nil_append, is2k_n, is2k_i, is2k_r, is2k_0, oc_44, ro_m0, ro_m1, ro_m2, ro_m4, ro_m5, ro_m11, ro_m12, ro_m13, ro_m14, ro_m15, ro_m16, ro_m17, ak_45, ak_46, ak_47, ak_48, ak_49, ak_50, ak_51, ak_52, ak_53, ak_54, ak_55, ak_56, al_45, al_46, al_47, al_48, al_49, al_50, al_51, al_52, al_53, al_54, al_55, al_56, l45, l46, l47, l48, l49, l50, l51, l52, l53, l54, a45, a46, a47, a48, a49, a50, a51, a52, a53, a54, in46_0, in46_1, in46_2, in46_3, in46_4, in46_5, cn_0, cn_1, cn_2, cn_3, cn_4, cn_5, i10, i01, zb_t, zb_f, not_true_eq_false, not_false_eq_true, if_true, if_false, true_or, sp_in1, md_1, md_6, md_5, m_wr_no hs, n00, sp_no0]
/-! lays -/
theorem mlay_loop {s e : Nat} {F : Nat → Int64} (hs : s < 4) (he : e ≤ 40) (hF : ∀ i, i < 40 → J 55 (40 * s + i) = F i) : ∀ (d k : Nat) (I : Nat → Nat → Int32) (x5 : Option Value), k + d = min e n → I 54 s = nI e → mh I 45 (lyV t F k).1 n → V (lyV t F k).1 n 99999 → ∃ I', den nM_lays (21, [some (.ref 44), some (.int (nI s)), some (.int (-1)), some (.int (nI (lyV t F k).2)), some (.int (nI k)), x5], [], (I, J)) = some (some (.int (nI (lyV t F (min e n)).2)), (I', J)) ∧ mh I' 45 (lyV t F (min e n)).1 n ∧ V (lyV t F (min e n)).1 n 99999 ∧ oR 45 I I' := by
  intro d
  induction d with
  | zero =>
    intro k I x5 hk h4 hH hV
    have hn := hV.2.1
    have f5 := (mfs hH hV).2.2.2.2.2
    have hk' : k = min e n := by omega
    rw [← hk']
    refine ⟨I, ?_, hH, hV, oR.rfl⟩
    rw [eM_lays_21]
    by_cases c : e ≤ k
    · simp only [eM_lays_23, eM_lays_24, eM_lays_27, eM_lays_28, eM_lays_29, eM_lays_32, eM_lays_34, eM_lays_35, eM_lays_38, eM_lays_39, eM_lays_40, eM_lays_43, eM_lays_44, eM_lays_45, eM_lays_47, eM_lays_50, eM_lays_51, eM_lays_52, eM_lays_55, eM_lays_56, eM_lays_57, eM_lays_59, eM_lays_62, eM_lays_65, eM_lays_66, eM_lays_69, eM_lays_70, eM_lays_73, eM_lays_74, eM_lays_76, eM_lays_77, eM_lays_79, eM_lays_80, eM_lays_82, eM_lays_85, eM_lays_86, eM_lays_87, eM_lays_89, eM_lays_92, eM_lays_93, eM_lays_96, eM_lays_97, eM_lays_99, eM_lays_100, eM_lays_103, eM_lays_106, eM_lays_107, eM_lays_109, eM_lays_112, eM_lays_113, eM_lays_116, eM_lays_117, eM_lays_118, eM_lays_119, eM_lays_122, eM_lays_125, eM_lays_126, eq_self, hr_k_some, Option.toList, List.cons_append, List.nil_append, is2k_n, is2k_i, is2k_r, is2k_0, oc_44, ro_m0, ro_m1, ro_m2, ro_m4, ro_m5, ro_m11, ro_m12, ro_m13, ro_m14, ro_m15, ro_m16, ro_m17, ak_45, ak_46, ak_47, ak_48, ak_49, ak_50, ak_51, ak_52, ak_53, ak_54, ak_55, ak_56, al_45, al_46, al_47, al_48, al_49, al_50, al_51, al_52, al_53, al_54, al_55, al_56, l45, l46, l47, l48, l49, l50, l51, l52, l53, l54, a45, a46, a47, a48, a49, a50, a51, a52, a53, a54, in46_0, in46_1, in46_2, in46_3, in46_4, in46_5, cn_0, cn_1, cn_2, cn_3, cn_4, cn_5, i10, i01, zb_t, zb_f, not_true_eq_false, not_false_eq_true, if_true, if_false, true_or, sp_in1, md_1, md_6, md_5, in_4 hs, cl_nI (show s < 100000 by omega), h4, leT c (show k < 2 ^ 31 by omega)]
    · simp only [eM_lays_23, eM_lays_24, eM_lays_27, eM_lays_28, eM_lays_29, eM_lays_32, eM_lays_34, eM_lays_35, eM_lays_38, eM_lays_39, eM_lays_40, eM_lays_43, eM_lays_44, eM_lays_45, eM_lays_47, eM_lays_50, eM_lays_51, eM_lays_52, eM_lays_55, eM_lays_56, eM_lays_57, eM_lays_59, eM_lays_62, eM_lays_65, eM_lays_66, eM_lays_69, eM_lays_70, eM_lays_73, eM_lays_74, eM_lays_76, eM_lays_77, eM_lays_79, eM_lays_80, eM_lays_82, eM_lays_85, eM_lays_86, eM_lays_87, eM_lays_89, eM_lays_92, eM_lays_93, eM_lays_96, eM_lays_97, eM_lays_99, eM_lays_100, eM_lays_103, eM_lays_106, eM_lays_107, eM_lays_109, eM_lays_112, eM_lays_113, eM_lays_116, eM_lays_117, eM_lays_118, eM_lays_119, eM_lays_122, eM_lays_125, eM_lays_126, eq_self, hr_k_some, Option.toList, List.cons_append, List.nil_append, is2k_n, is2k_i, is2k_r, is2k_0, oc_44, ro_m0, ro_m1, ro_m2, ro_m4, ro_m5, ro_m11, ro_m12, ro_m13, ro_m14, ro_m15, ro_m16, ro_m17, ak_45, ak_46, ak_47, ak_48, ak_49, ak_50, ak_51, ak_52, ak_53, ak_54, ak_55, ak_56, al_45, al_46, al_47, al_48, al_49, al_50, al_51, al_52, al_53, al_54, al_55, al_56, l45, l46, l47, l48, l49, l50, l51, l52, l53, l54, a45, a46, a47, a48, a49, a50, a51, a52, a53, a54, in46_0, in46_1, in46_2, in46_3, in46_4, in46_5, cn_0, cn_1, cn_2, cn_3, cn_4, cn_5, i10, i01, zb_t, zb_f, not_true_eq_false, not_false_eq_true, if_true, if_false, true_or, sp_in1, md_1, md_6, md_5, in_4 hs, cl_nI (show s < 100000 by omega), h4, leF (show k < e by omega) (show e < 2 ^ 31 by omega), f5, leT (show n ≤ k by omega) (show k < 2 ^ 31 by omega)]
  | succ d ih =>
    intro k I x5 hk h4 hH hV
    have hn := hV.2.1
    have f5 := (mfs hH hV).2.2.2.2.2
    have hke : k < e := by omega
    have hkn : k < n := by omega
    have et := m_told (I := I) (J := J) hs (show k < 40 by omega)
    rw [hF k (by omega)] at et
    have g2 := gt2 (J := J) hH hn hkn
    have l1 : (lg_cmp (F k) 0 < 0) = (F k < 0) := propext (lg_cmp_lt _ _)
    have l2 : (0 < lg_cmp (F k) 99) = (99 < F k) := propext (lg_cmp_gt _ _)
    have bad : ¬ (¬ F k < 0 ∧ ¬ 99 < F k) → ∃ I', den nM_lays (21, [some (.ref 44), some (.int (nI s)), some (.int (-1)), some (.int (nI (lyV t F k).2)), some (.int (nI (k + 1))), some (.int 0)], [], (up2 I 45 (8 + 5 * k) (nI ((lyV t F k).1 (8 + 5 * k))), J)) = some (some (.int (nI (lyV t F (min e n)).2)), (I', J)) ∧ mh I' 45 (lyV t F (min e n)).1 n ∧ V (lyV t F (min e n)).1 n 99999 ∧ oR 45 I I' := by
      intro hb
      have hu := hH.up (j := 8 + 5 * k) (x := (lyV t F k).1 (8 + 5 * k))
      rw [upV_self] at hu
      obtain ⟨I', e', h', v', o'⟩ := ih (k + 1) (up2 I 45 (8 + 5 * k) (nI ((lyV t F k).1 (8 + 5 * k)))) (some (.int 0)) (by omega) ((up2_na (by decide)).trans h4) (by rw [lyV_s, if_neg hb]; exact hu) (by rw [lyV_s, if_neg hb]; exact hV)
      rw [lyV_s, if_neg hb] at e'
      exact ⟨I', e', h', v', oR.up.trans o'⟩
    rw [eM_lays_21]
    by_cases c1 : F k < 0
    · obtain ⟨I', e', h', v', o'⟩ := bad (fun q => q.1 c1)
      refine ⟨I', ?_, h', v', o'⟩
      simp only [eM_lays_23, eM_lays_24, eM_lays_27, eM_lays_28, eM_lays_29, eM_lays_32, eM_lays_34, eM_lays_35, eM_lays_38, eM_lays_39, eM_lays_40, eM_lays_43, eM_lays_44, eM_lays_45, eM_lays_47, eM_lays_50, eM_lays_51, eM_lays_52, eM_lays_55, eM_lays_56, eM_lays_57, eM_lays_59, eM_lays_62, eM_lays_65, eM_lays_66, eM_lays_69, eM_lays_70, eM_lays_73, eM_lays_74, eM_lays_76, eM_lays_77, eM_lays_79, eM_lays_80, eM_lays_82, eM_lays_85, eM_lays_86, eM_lays_87, eM_lays_89, eM_lays_92, eM_lays_93, eM_lays_96, eM_lays_97, eM_lays_99, eM_lays_100, eM_lays_103, eM_lays_106, eM_lays_107, eM_lays_109, eM_lays_112, eM_lays_113, eM_lays_116, eM_lays_117, eM_lays_118, eM_lays_119, eM_lays_122, eM_lays_125, eM_lays_126, eq_self, hr_k_some, Option.toList, List.cons_append, List.nil_append, is2k_n, is2k_i, is2k_r, is2k_0, oc_44, ro_m0, ro_m1, ro_m2, ro_m4, ro_m5, ro_m11, ro_m12, ro_m13, ro_m14, ro_m15, ro_m16, ro_m17, ak_45, ak_46, ak_47, ak_48, ak_49, ak_50, ak_51, ak_52, ak_53, ak_54, ak_55, ak_56, al_45, al_46, al_47, al_48, al_49, al_50, al_51, al_52, al_53, al_54, al_55, al_56, l45, l46, l47, l48, l49, l50, l51, l52, l53, l54, a45, a46, a47, a48, a49, a50, a51, a52, a53, a54, in46_0, in46_1, in46_2, in46_3, in46_4, in46_5, cn_0, cn_1, cn_2, cn_3, cn_4, cn_5, i10, i01, zb_t, zb_f, not_true_eq_false, not_false_eq_true, if_true, if_false, true_or, sp_in1, md_1, md_6, md_5, in_4 hs, cl_nI (show s < 100000 by omega), h4, leF hke (show e < 2 ^ 31 by omega), f5, leF hkn (show n < 2 ^ 31 by omega), et, l1, c1, g2, pt2 (show k < 8 by omega), Int32.add_zero, nI_1]
      exact e'
    · by_cases c2 : 99 < F k
      · obtain ⟨I', e', h', v', o'⟩ := bad (fun q => q.2 c2)
        refine ⟨I', ?_, h', v', o'⟩
        simp only [eM_lays_23, eM_lays_24, eM_lays_27, eM_lays_28, eM_lays_29, eM_lays_32, eM_lays_34, eM_lays_35, eM_lays_38, eM_lays_39, eM_lays_40, eM_lays_43, eM_lays_44, eM_lays_45, eM_lays_47, eM_lays_50, eM_lays_51, eM_lays_52, eM_lays_55, eM_lays_56, eM_lays_57, eM_lays_59, eM_lays_62, eM_lays_65, eM_lays_66, eM_lays_69, eM_lays_70, eM_lays_73, eM_lays_74, eM_lays_76, eM_lays_77, eM_lays_79, eM_lays_80, eM_lays_82, eM_lays_85, eM_lays_86, eM_lays_87, eM_lays_89, eM_lays_92, eM_lays_93, eM_lays_96, eM_lays_97, eM_lays_99, eM_lays_100, eM_lays_103, eM_lays_106, eM_lays_107, eM_lays_109, eM_lays_112, eM_lays_113, eM_lays_116, eM_lays_117, eM_lays_118, eM_lays_119, eM_lays_122, eM_lays_125, eM_lays_126, eq_self, hr_k_some, Option.toList, List.cons_append, List.nil_append, is2k_n, is2k_i, is2k_r, is2k_0, oc_44, ro_m0, ro_m1, ro_m2, ro_m4, ro_m5, ro_m11, ro_m12, ro_m13, ro_m14, ro_m15, ro_m16, ro_m17, ak_45, ak_46, ak_47, ak_48, ak_49, ak_50, ak_51, ak_52, ak_53, ak_54, ak_55, ak_56, al_45, al_46, al_47, al_48, al_49, al_50, al_51, al_52, al_53, al_54, al_55, al_56, l45, l46, l47, l48, l49, l50, l51, l52, l53, l54, a45, a46, a47, a48, a49, a50, a51, a52, a53, a54, in46_0, in46_1, in46_2, in46_3, in46_4, in46_5, cn_0, cn_1, cn_2, cn_3, cn_4, cn_5, i10, i01, zb_t, zb_f, not_true_eq_false, not_false_eq_true, if_true, if_false, true_or, sp_in1, md_1, md_6, md_5, in_4 hs, cl_nI (show s < 100000 by omega), h4, leF hke (show e < 2 ^ 31 by omega), f5, leF hkn (show n < 2 ^ 31 by omega), et, l1, l2, c1, c2, g2, pt2 (show k < 8 by omega), Int32.add_zero, nI_1]
        exact e'
      · obtain ⟨q1, q2⟩ := l2n c1 c2
        have hu := hH.up (j := 6 + 5 * k + 2) (x := (F k).toInt.toNat)
        obtain ⟨I', e', h', v', o'⟩ := ih (k + 1) (up2 I 45 (6 + 5 * k + 2) (nI (F k).toInt.toNat)) (some (.int 1)) (by omega) ((up2_na (by decide)).trans h4) (by rw [lyV_s, if_pos ⟨c1, c2⟩]; exact hu) (by rw [lyV_s, if_pos ⟨c1, c2⟩]; exact set_V hV hkn ⟨by decide, by decide⟩ q2)
        refine ⟨I', ?_, h', v', oR.up.trans o'⟩
        rw [lyV_s, if_pos ⟨c1, c2⟩, show 6 + 5 * k + 2 = 8 + 5 * k by omega] at e'
        simp only [eM_lays_23, eM_lays_24, eM_lays_27, eM_lays_28, eM_lays_29, eM_lays_32, eM_lays_34, eM_lays_35, eM_lays_38, eM_lays_39, eM_lays_40, eM_lays_43, eM_lays_44, eM_lays_45, eM_lays_47, eM_lays_50, eM_lays_51, eM_lays_52, eM_lays_55, eM_lays_56, eM_lays_57, eM_lays_59, eM_lays_62, eM_lays_65, eM_lays_66, eM_lays_69, eM_lays_70, eM_lays_73, eM_lays_74, eM_lays_76, eM_lays_77, eM_lays_79, eM_lays_80, eM_lays_82, eM_lays_85, eM_lays_86, eM_lays_87, eM_lays_89, eM_lays_92, eM_lays_93, eM_lays_96, eM_lays_97, eM_lays_99, eM_lays_100, eM_lays_103, eM_lays_106, eM_lays_107, eM_lays_109, eM_lays_112, eM_lays_113, eM_lays_116, eM_lays_117, eM_lays_118, eM_lays_119, eM_lays_122, eM_lays_125, eM_lays_126, eq_self, hr_k_some, Option.toList, List.cons_append, List.nil_append, is2k_n, is2k_i, is2k_r, is2k_0, oc_44, ro_m0, ro_m1, ro_m2, ro_m4, ro_m5, ro_m11, ro_m12, ro_m13, ro_m14, ro_m15, ro_m16, ro_m17, ak_45, ak_46, ak_47, ak_48, ak_49, ak_50, ak_51, ak_52, ak_53, ak_54, ak_55, ak_56, al_45, al_46, al_47, al_48, al_49, al_50, al_51, al_52, al_53, al_54, al_55, al_56, l45, l46, l47, l48, l49, l50, l51, l52, l53, l54, a45, a46, a47, a48, a49, a50, a51, a52, a53, a54, in46_0, in46_1, in46_2, in46_3, in46_4, in46_5, cn_0, cn_1, cn_2, cn_3, cn_4, cn_5, i10, i01, zb_t, zb_f, not_true_eq_false, not_false_eq_true, if_true, if_false, true_or, sp_in1, md_1, md_6, md_5, in_4 hs, cl_nI (show s < 100000 by omega), h4, leF hke (show e < 2 ^ 31 by omega), f5, leF hkn (show n < 2 ^ 31 by omega), et, l1, l2, c1, c2, q1, pt2 (show k < 8 by omega), nI_1]
        exact e'
theorem M_lays_ok (h : Md I J t n kp u m y bt L w z num) {s : Nat} (hs : s < 4) (hw : w s ≠ 0) : MR nM_lays [some (.ref 44), some (.int (nI s)), none, none, none, none] I J (.int (nI (lyV t (num s) (min (z s) n)).2)) (fun I' J' => Md I' J' (lyV t (num s) (min (z s) n)).1 n kp u m y bt L w z num) := by
  obtain ⟨a1, a2, a3, a4, a5⟩ := h.sh hs
  obtain ⟨I1, e1, h1, v1, o1⟩ := mlay_loop (t := t) hs a4 a5 (min (z s) n) 0 I none (by omega) a3 h.1 h.2.1
  refine MR.mv h o1 h1 v1 ?_
  simp only [eM_lays_0, eM_lays_1, eM_lays_2, eM_lays_5, eM_lays_6, eM_lays_7, eM_lays_10, eM_lays_11, eM_lays_12, eM_lays_15, eM_lays_16, eM_lays_17, eM_lays_18, eM_lays_19, eq_self, hr_k_some, Option.toList, List.cons_append, List.nil_append, is2k_n, is2k_i, is2k_r, is2k_0, oc_44, ro_m0, ro_m1, ro_m2, ro_m4, ro_m5, ro_m11, ro_m12, ro_m13, ro_m14, ro_m15, ro_m16, ro_m17, ak_45, ak_46, ak_47, ak_48, ak_49, ak_50, ak_51, ak_52, ak_53, ak_54, ak_55, ak_56, al_45, al_46, al_47, al_48, al_49, al_50, al_51, al_52, al_53, al_54, al_55, al_56, l45, l46, l47, l48, l49, l50, l51, l52, l53, l54, a45, a46, a47, a48, a49, a50, a51, a52, a53, a54, in46_0, in46_1, in46_2, in46_3, in46_4, in46_5, cn_0, cn_1, cn_2, cn_3, cn_4, cn_5, i10, i01, zb_t, zb_f, not_true_eq_false, not_false_eq_true, if_true, if_false, true_or, sp_in1, md_1, md_6, md_5, m_wr_ok h hs hw, n10']
  exact e1
/-! book -/
theorem mbook_loop {I0 : Nat → Nat → Int32} {s e b : Nat} (hs : s < 4) (he : e ≤ 40) (hb : b < 100) (hV : V t n 99999) (g3 : I0 53 s = nI b) (g4 : I0 54 s = nI e) : ∀ (d k : Nat) (I : Nat → Nat → Int32) (J : Nat → Nat → Int64), k + d = e → la I0 I → mh I 45 (goN t n k) n → (∀ q, q < 4 → ∀ i, i < 40 → J 55 (40 * q + i) = bkN num b s t n k q i) → ∃ I' J', den nM_book (22, [some (.ref 44), some (.int (nI s)), some (.int (-1)), some (.int (nI k))], [], (I, J)) = some (some (.int (nI e)), (I', J')) ∧ lb I0 I' ∧ (∀ q, q < 4 → ∀ i, i < 40 → J' 55 (40 * q + i) = bkN num b s t n e q i) ∧ ∀ q j, q ≠ 55 → J' q j = J q j := by
  intro d
  induction d with
  | zero =>
    intro k I J hk ha hH hX
    have hk' : k = e := by omega
    subst hk'
    have h4 : I 54 s = nI k := (ha.2 54 (by decide) (by decide) s).trans g4
    obtain ⟨I3, e3, l3⟩ := m_backL (J := J) ha
    have h4' : I3 54 s = nI k := (l3.2 54 (by decide) (by decide) s).trans g4
    refine ⟨I3, J, ?_, l3, hX, fun _ _ _ => rfl⟩
    rw [eM_book_22]
    simp only [eM_book_23, eM_book_24, eM_book_27, eM_book_28, eM_book_29, eM_book_32, eM_book_33, eM_book_34, eM_book_35, eM_book_36, eM_book_39, eM_book_40, eM_book_41, eM_book_42, eM_book_45, eM_book_46, eM_book_49, eM_book_52, eM_book_55, eM_book_56, eM_book_59, eM_book_60, eM_book_63, eM_book_64, eM_book_65, eq_self, hr_k_some, Option.toList, List.cons_append, List.nil_append, is2k_n, is2k_i, is2k_r, is2k_0, oc_44, ro_m0, ro_m1, ro_m2, ro_m4, ro_m5, ro_m11, ro_m12, ro_m13, ro_m14, ro_m15, ro_m16, ro_m17, ak_45, ak_46, ak_47, ak_48, ak_49, ak_50, ak_51, ak_52, ak_53, ak_54, ak_55, ak_56, al_45, al_46, al_47, al_48, al_49, al_50, al_51, al_52, al_53, al_54, al_55, al_56, l45, l46, l47, l48, l49, l50, l51, l52, l53, l54, a45, a46, a47, a48, a49, a50, a51, a52, a53, a54, in46_0, in46_1, in46_2, in46_3, in46_4, in46_5, cn_0, cn_1, cn_2, cn_3, cn_4, cn_5, i10, i01, zb_t, zb_f, not_true_eq_false, not_false_eq_true, if_true, if_false, true_or, sp_in1, md_1, md_6, md_5, in_4 hs, cl_nI (show s < 100000 by omega), h4, leT (Nat.le_refl k) (show k < 2 ^ 31 by omega), e3, h4']
  | succ d ih =>
    intro k I J hk ha hH hX
    have h3 : I 53 s = nI b := (ha.2 53 (by decide) (by decide) s).trans g3
    have h4 : I 54 s = nI e := (ha.2 54 (by decide) (by decide) s).trans g4
    have f1 : I 45 1 = nI (goN t n k 1) := hH 1 (by omega)
    obtain ⟨I1, e1, hH1, ho1⟩ := m_watch (J := up2 J 55 (40 * s + k) (nar b (nI (goN t n k 1)).toInt64)) hH (goN_V k hV) (by omega)
    obtain ⟨I2, J2, e2, l2, x2, o2⟩ := ih (k + 1) I1 (up2 J 55 (40 * s + k) (nar b (nI (goN t n k 1)).toInt64)) (by omega) (ha.up ho1) (by rw [goN_s]; exact hH1) (fun q hq i hi => by
      rw [bkN_s]
      unfold upN
      by_cases c : q = s ∧ i = k
      · rw [if_pos c, c.1, c.2]; exact up2_eq
      · rw [if_neg c, up2_nk (by omega)]; exact hX q hq i hi)
    refine ⟨I2, J2, ?_, l2, x2, fun q j hq => (o2 q j hq).trans (up2_na hq)⟩
    rw [eM_book_22]
    simp only [eM_book_23, eM_book_24, eM_book_27, eM_book_28, eM_book_29, eM_book_32, eM_book_33, eM_book_34, eM_book_35, eM_book_36, eM_book_39, eM_book_40, eM_book_41, eM_book_42, eM_book_45, eM_book_46, eM_book_49, eM_book_52, eM_book_55, eM_book_56, eM_book_59, eM_book_60, eM_book_63, eM_book_64, eM_book_65, eq_self, hr_k_some, Option.toList, List.cons_append, List.nil_append, is2k_n, is2k_i, is2k_r, is2k_0, oc_44, ro_m0, ro_m1, ro_m2, ro_m4, ro_m5, ro_m11, ro_m12, ro_m13, ro_m14, ro_m15, ro_m16, ro_m17, ak_45, ak_46, ak_47, ak_48, ak_49, ak_50, ak_51, ak_52, ak_53, ak_54, ak_55, ak_56, al_45, al_46, al_47, al_48, al_49, al_50, al_51, al_52, al_53, al_54, al_55, al_56, l45, l46, l47, l48, l49, l50, l51, l52, l53, l54, a45, a46, a47, a48, a49, a50, a51, a52, a53, a54, in46_0, in46_1, in46_2, in46_3, in46_4, in46_5, cn_0, cn_1, cn_2, cn_3, cn_4, cn_5, i10, i01, zb_t, zb_f, not_true_eq_false, not_false_eq_true, if_true, if_false, true_or, sp_in1, md_1, md_6, md_5, in_4 hs, cl_nI (show s < 100000 by omega), h4, leF (show k < e by omega) (show e < 2 ^ 31 by omega), f1, m_tells hs (show k < 40 by omega) hb h3, e1, nI_1]
    exact e2
theorem M_book_ok (h : Md I J t n kp u m y bt L w z num) {s : Nat} (hs : s < 4) (hw : w s ≠ 0) : MR nM_book [some (.ref 44), some (.int (nI s)), none, none] I J (.int (nI (z s))) (fun I' J' => Md I' J' t n kp u m y bt L w z (bkN num (w s) s t n (z s))) := by
  obtain ⟨a1, a2, a3, a4, a5⟩ := h.sh hs
  obtain ⟨I1, e1, h1, l1⟩ := m_asideL (J := J) h.1
  obtain ⟨I2, J2, e2, l2, x2, o2⟩ := mbook_loop (num := num) hs a4 (w_lt a2) h.2.1 a1 a3 (z s) 0 I1 J (by omega) l1 h1 (fun q hq i hi => (h.sh hq).2.2.2.2 i hi)
  refine ⟨I2, J2, ?_, fun q hq j => ⟨l2.2 q (by omega) (by omega) j, o2 q j (by omega)⟩, (h.lb l2).shs (fun q hq => ?_) (fun _ _ _ _ _ _ => rfl)⟩
  · simp only [eM_book_0, eM_book_1, eM_book_2, eM_book_5, eM_book_6, eM_book_7, eM_book_10, eM_book_11, eM_book_12, eM_book_15, eM_book_16, eM_book_17, eM_book_20, eM_book_21, eq_self, hr_k_some, Option.toList, List.cons_append, List.nil_append, is2k_n, is2k_i, is2k_r, is2k_0, oc_44, ro_m0, ro_m1, ro_m2, ro_m4, ro_m5, ro_m11, ro_m12, ro_m13, ro_m14, ro_m15, ro_m16, ro_m17, ak_45, ak_46, ak_47, ak_48, ak_49, ak_50, ak_51, ak_52, ak_53, ak_54, ak_55, ak_56, al_45, al_46, al_47, al_48, al_49, al_50, al_51, al_52, al_53, al_54, al_55, al_56, l45, l46, l47, l48, l49, l50, l51, l52, l53, l54, a45, a46, a47, a48, a49, a50, a51, a52, a53, a54, in46_0, in46_1, in46_2, in46_3, in46_4, in46_5, cn_0, cn_1, cn_2, cn_3, cn_4, cn_5, i10, i01, zb_t, zb_f, not_true_eq_false, not_false_eq_true, if_true, if_false, true_or, sp_in1, md_1, md_6, md_5, m_wr_ok h hs hw, n10', e1]
    exact e2
  · obtain ⟨b1, b2, b3, b4, b5⟩ := (h.lb l2).sh hq
    exact ⟨b1, b2, b3, b4, x2 q hq⟩
/-! read -/
theorem miso_loop {s e : Nat} {F : Nat → Int64} (hs : s < 4) (he : e ≤ 40) (hF : ∀ i, i < 40 → J 55 (40 * s + i) = F i) (hV : V t n 99999) : ∀ (d k : Nat) (I : Nat → Nat → Int32), k + d = e → (∀ i, i < k → F i = (nI (goN t n i 1)).toInt64) → I 54 s = nI e → mh I 45 (goN t n k) n → ∃ I', den nM_isSo (4, [some (.ref 44), some (.int (nI s)), some (.int 1), some (.int (nI k))], [], (I, J)) = some (some (.int (zb (trk F t n e))), (I', J)) ∧ oR 45 I I' := by
  intro d
  induction d with
  | zero =>
    intro k I hk h0 h4 hH
    have hk' : k = e := by omega
    subst hk'
    refine ⟨I, ?_, oR.rfl⟩
    rw [show trk F t n k = true from decide_eq_true h0, eM_isSo_4]
    simp only [eM_isSo_5, eM_isSo_6, eM_isSo_9, eM_isSo_10, eM_isSo_11, eM_isSo_14, eM_isSo_15, eM_isSo_18, eM_isSo_19, eM_isSo_20, eM_isSo_21, eM_isSo_24, eM_isSo_25, eM_isSo_28, eM_isSo_29, eM_isSo_30, eM_isSo_31, eM_isSo_32, eM_isSo_35, eM_isSo_36, eM_isSo_39, eM_isSo_40, eM_isSo_41, eM_isSo_42, eM_isSo_45, eM_isSo_48, eM_isSo_51, eM_isSo_52, eq_self, hr_k_some, Option.toList, List.cons_append, List.nil_append, is2k_n, is2k_i, is2k_r, is2k_0, oc_44, ro_m0, ro_m1, ro_m2, ro_m4, ro_m5, ro_m11, ro_m12, ro_m13, ro_m14, ro_m15, ro_m16, ro_m17, ak_45, ak_46, ak_47, ak_48, ak_49, ak_50, ak_51, ak_52, ak_53, ak_54, ak_55, ak_56, al_45, al_46, al_47, al_48, al_49, al_50, al_51, al_52, al_53, al_54, al_55, al_56, l45, l46, l47, l48, l49, l50, l51, l52, l53, l54, a45, a46, a47, a48, a49, a50, a51, a52, a53, a54, in46_0, in46_1, in46_2, in46_3, in46_4, in46_5, cn_0, cn_1, cn_2, cn_3, cn_4, cn_5, i10, i01, zb_t, zb_f, not_true_eq_false, not_false_eq_true, if_true, if_false, true_or, sp_in1, md_1, md_6, md_5, in_4 hs, cl_nI (show s < 100000 by omega), h4, leT (Nat.le_refl k) (show k < 2 ^ 31 by omega), zb_n1]
  | succ d ih =>
    intro k I hk h0 h4 hH
    have hke : k < e := by omega
    have f1 : I 45 1 = nI (goN t n k 1) := hH 1 (by omega)
    have et := m_told (I := I) (J := J) hs (show k < 40 by omega)
    rw [hF k (by omega)] at et
    have l1 : (lg_cmp (F k) (nI (goN t n k 1)).toInt64 = 0) = (F k = (nI (goN t n k 1)).toInt64) := propext (lg_cmp_eq _ _)
    obtain ⟨I1, e1, hH1, ho1⟩ := m_watch (J := J) hH (goN_V k hV) (by omega)
    have h4' : I1 54 s = nI e := (ho1 54 (by decide) s).trans h4
    rw [eM_isSo_4]
    by_cases c : F k = (nI (goN t n k 1)).toInt64
    · obtain ⟨I', e', o'⟩ := ih (k + 1) I1 (by omega) (fun i hi => by
        by_cases q : i = k
        · subst q; exact c
        · exact h0 i (by omega)) h4' (by rw [goN_s]; exact hH1)
      refine ⟨I', ?_, ho1.trans o'⟩
      simp only [eM_isSo_5, eM_isSo_6, eM_isSo_9, eM_isSo_10, eM_isSo_11, eM_isSo_14, eM_isSo_15, eM_isSo_18, eM_isSo_19, eM_isSo_20, eM_isSo_21, eM_isSo_24, eM_isSo_25, eM_isSo_28, eM_isSo_29, eM_isSo_30, eM_isSo_31, eM_isSo_32, eM_isSo_35, eM_isSo_36, eM_isSo_39, eM_isSo_40, eM_isSo_41, eM_isSo_42, eM_isSo_45, eM_isSo_48, eM_isSo_51, eM_isSo_52, eq_self, hr_k_some, Option.toList, List.cons_append, List.nil_append, is2k_n, is2k_i, is2k_r, is2k_0, oc_44, ro_m0, ro_m1, ro_m2, ro_m4, ro_m5, ro_m11, ro_m12, ro_m13, ro_m14, ro_m15, ro_m16, ro_m17, ak_45, ak_46, ak_47, ak_48, ak_49, ak_50, ak_51, ak_52, ak_53, ak_54, ak_55, ak_56, al_45, al_46, al_47, al_48, al_49, al_50, al_51, al_52, al_53, al_54, al_55, al_56, l45, l46, l47, l48, l49, l50, l51, l52, l53, l54, a45, a46, a47, a48, a49, a50, a51, a52, a53, a54, in46_0, in46_1, in46_2, in46_3, in46_4, in46_5, cn_0, cn_1, cn_2, cn_3, cn_4, cn_5, i10, i01, zb_t, zb_f, not_true_eq_false, not_false_eq_true, if_true, if_false, true_or, sp_in1, md_1, md_6, md_5, in_4 hs, cl_nI (show s < 100000 by omega), h4, leF hke (show e < 2 ^ 31 by omega), et, f1, l1.trans (eq_true c), e1, nI_1]
      exact e'
    · refine ⟨I1, ?_, ho1⟩
      rw [show trk F t n e = false from decide_eq_false (fun q => c (q k hke))]
      simp only [eM_isSo_5, eM_isSo_6, eM_isSo_9, eM_isSo_10, eM_isSo_11, eM_isSo_14, eM_isSo_15, eM_isSo_18, eM_isSo_19, eM_isSo_20, eM_isSo_21, eM_isSo_24, eM_isSo_25, eM_isSo_28, eM_isSo_29, eM_isSo_30, eM_isSo_31, eM_isSo_32, eM_isSo_35, eM_isSo_36, eM_isSo_39, eM_isSo_40, eM_isSo_41, eM_isSo_42, eM_isSo_45, eM_isSo_48, eM_isSo_51, eM_isSo_52, eq_self, hr_k_some, Option.toList, List.cons_append, List.nil_append, is2k_n, is2k_i, is2k_r, is2k_0, oc_44, ro_m0, ro_m1, ro_m2, ro_m4, ro_m5, ro_m11, ro_m12, ro_m13, ro_m14, ro_m15, ro_m16, ro_m17, ak_45, ak_46, ak_47, ak_48, ak_49, ak_50, ak_51, ak_52, ak_53, ak_54, ak_55, ak_56, al_45, al_46, al_47, al_48, al_49, al_50, al_51, al_52, al_53, al_54, al_55, al_56, l45, l46, l47, l48, l49, l50, l51, l52, l53, l54, a45, a46, a47, a48, a49, a50, a51, a52, a53, a54, in46_0, in46_1, in46_2, in46_3, in46_4, in46_5, cn_0, cn_1, cn_2, cn_3, cn_4, cn_5, i10, i01, zb_t, zb_f, not_true_eq_false, not_false_eq_true, if_true, if_false, true_or, sp_in1, md_1, md_6, md_5, in_4 hs, cl_nI (show s < 100000 by omega), h4, leF hke (show e < 2 ^ 31 by omega), et, f1, l1.trans (eq_false c), e1, nI_1]
      rw [eM_isSo_4]
      by_cases c2 : e ≤ k + 1
      · simp only [eM_isSo_5, eM_isSo_6, eM_isSo_9, eM_isSo_10, eM_isSo_11, eM_isSo_14, eM_isSo_15, eM_isSo_18, eM_isSo_19, eM_isSo_20, eM_isSo_21, eM_isSo_24, eM_isSo_25, eM_isSo_28, eM_isSo_29, eM_isSo_30, eM_isSo_31, eM_isSo_32, eM_isSo_35, eM_isSo_36, eM_isSo_39, eM_isSo_40, eM_isSo_41, eM_isSo_42, eM_isSo_45, eM_isSo_48, eM_isSo_51, eM_isSo_52, eq_self, hr_k_some, Option.toList, List.cons_append, List.nil_append, is2k_n, is2k_i, is2k_r, is2k_0, oc_44, ro_m0, ro_m1, ro_m2, ro_m4, ro_m5, ro_m11, ro_m12, ro_m13, ro_m14, ro_m15, ro_m16, ro_m17, ak_45, ak_46, ak_47, ak_48, ak_49, ak_50, ak_51, ak_52, ak_53, ak_54, ak_55, ak_56, al_45, al_46, al_47, al_48, al_49, al_50, al_51, al_52, al_53, al_54, al_55, al_56, l45, l46, l47, l48, l49, l50, l51, l52, l53, l54, a45, a46, a47, a48, a49, a50, a51, a52, a53, a54, in46_0, in46_1, in46_2, in46_3, in46_4, in46_5, cn_0, cn_1, cn_2, cn_3, cn_4, cn_5, i10, i01, zb_t, zb_f, not_true_eq_false, not_false_eq_true, if_true, if_false, true_or, sp_in1, md_1, md_6, md_5, in_4 hs, cl_nI (show s < 100000 by omega), h4', leT c2 (show k + 1 < 2 ^ 31 by omega), zb_n0]
      · simp only [eM_isSo_5, eM_isSo_6, eM_isSo_9, eM_isSo_10, eM_isSo_11, eM_isSo_14, eM_isSo_15, eM_isSo_18, eM_isSo_19, eM_isSo_20, eM_isSo_21, eM_isSo_24, eM_isSo_25, eM_isSo_28, eM_isSo_29, eM_isSo_30, eM_isSo_31, eM_isSo_32, eM_isSo_35, eM_isSo_36, eM_isSo_39, eM_isSo_40, eM_isSo_41, eM_isSo_42, eM_isSo_45, eM_isSo_48, eM_isSo_51, eM_isSo_52, eq_self, hr_k_some, Option.toList, List.cons_append, List.nil_append, is2k_n, is2k_i, is2k_r, is2k_0, oc_44, ro_m0, ro_m1, ro_m2, ro_m4, ro_m5, ro_m11, ro_m12, ro_m13, ro_m14, ro_m15, ro_m16, ro_m17, ak_45, ak_46, ak_47, ak_48, ak_49, ak_50, ak_51, ak_52, ak_53, ak_54, ak_55, ak_56, al_45, al_46, al_47, al_48, al_49, al_50, al_51, al_52, al_53, al_54, al_55, al_56, l45, l46, l47, l48, l49, l50, l51, l52, l53, l54, a45, a46, a47, a48, a49, a50, a51, a52, a53, a54, in46_0, in46_1, in46_2, in46_3, in46_4, in46_5, cn_0, cn_1, cn_2, cn_3, cn_4, cn_5, i10, i01, zb_t, zb_f, not_true_eq_false, not_false_eq_true, if_true, if_false, true_or, sp_in1, md_1, md_6, md_5, in_4 hs, cl_nI (show s < 100000 by omega), h4', leF (show k + 1 < e by omega) (show e < 2 ^ 31 by omega), zb_n0]
theorem m_backA {I0 : Nat → Nat → Int32} (h : la I0 I) : ∃ I', den nM_laysBack (0, [some (.ref 44), none], [], (I, J)) = some (none, (I', J)) ∧ lb I0 I' ∧ la I0 I' := by
  obtain ⟨I1, e1, h1, o1⟩ := m_back (I := I) (J := J)
  exact ⟨I1, e1, h.back h1 o1, h.up o1⟩
theorem mread_loop {I0 : Nat → Nat → Int32} {s e : Nat} {F : Nat → Int64} (hs : s < 4) (he : e ≤ 40) (hF : ∀ i, i < 40 → J 55 (40 * s + i) = F i) (hV : V t n 99999) (g4 : I0 54 s = nI e) (hH0 : mh I0 45 t n) : ∀ (d k : Nat) (I : Nat → Nat → Int32), k + d = 20 → la I0 I → lb I0 I → ∃ I', den nM_read (25, [some (.ref 44), some (.int (nI s)), some (.int (-1)), some (.int (nI (rdC F t n e k))), some (.int (nI k))], [], (I, J)) = some (some (.int (nI (rdC F t n e 20))), (I', J)) ∧ lb I0 I' := by
  intro d
  induction d with
  | zero =>
    intro k I hk ha hl
    have hk' : k = 20 := by omega
    subst hk'
    have ec : ((20 : Int32) ≤ nI 20) = True := eq_true (by decide)
    refine ⟨I, ?_, hl⟩
    rw [eM_read_25]
    simp only [eM_read_27, eM_read_29, eM_read_32, eM_read_33, eM_read_36, eM_read_37, eM_read_39, eM_read_40, eM_read_41, eM_read_42, eM_read_43, eM_read_46, eM_read_47, eM_read_49, eM_read_50, eM_read_51, eM_read_52, eM_read_53, eM_read_54, eM_read_55, eM_read_58, eM_read_61, eM_read_62, eM_read_65, eM_read_66, eM_read_67, eM_read_68, eM_read_69, eM_read_72, eM_read_75, eM_read_78, eM_read_79, eq_self, hr_k_some, Option.toList, List.cons_append, List.nil_append, is2k_n, is2k_i, is2k_r, is2k_0, oc_44, ro_m0, ro_m1, ro_m2, ro_m4, ro_m5, ro_m11, ro_m12, ro_m13, ro_m14, ro_m15, ro_m16, ro_m17, ak_45, ak_46, ak_47, ak_48, ak_49, ak_50, ak_51, ak_52, ak_53, ak_54, ak_55, ak_56, al_45, al_46, al_47, al_48, al_49, al_50, al_51, al_52, al_53, al_54, al_55, al_56, l45, l46, l47, l48, l49, l50, l51, l52, l53, l54, a45, a46, a47, a48, a49, a50, a51, a52, a53, a54, in46_0, in46_1, in46_2, in46_3, in46_4, in46_5, cn_0, cn_1, cn_2, cn_3, cn_4, cn_5, i10, i01, zb_t, zb_f, not_true_eq_false, not_false_eq_true, if_true, if_false, true_or, sp_in1, md_1, md_6, md_5, ec]
  | succ d ih =>
    intro k I hk ha hl
    have ec : ((20 : Int32) ≤ nI k) = False := leF (a := 20) (by omega) (by decide)
    have hH := hl.mh hH0 hV.2.1
    have hu := (hH.up (j := 2) (x := k / 2)).up (j := 3) (x := k % 2)
    have o1 : oR 45 I (up2 (up2 I 45 2 (nI (k / 2))) 45 3 (nI (k % 2))) := oR.up.trans oR.up
    have h4 : up2 (up2 I 45 2 (nI (k / 2))) 45 3 (nI (k % 2)) 54 s = nI e := ((o1 54 (by decide) s).trans (ha.2 54 (by decide) (by decide) s)).trans g4
    obtain ⟨I2, e2, o2⟩ := miso_loop hs he hF (prV_V hV (show k < 20 by omega)) e 0 _ (by omega) (fun i hi => by omega) h4 hu
    have e2' : den nM_isSo (0, [some (.ref 44), some (.int (nI s)), none, none], [], (up2 (up2 I 45 2 (nI (k / 2))) 45 3 (nI (k % 2)), J)) = some (some (.int (zb (trk F (prV t k) n e))), (I2, J)) := by
      simp only [eM_isSo_0, eM_isSo_1, eM_isSo_2, eM_isSo_3, eq_self, hr_k_some, Option.toList, List.cons_append, List.nil_append, is2k_n, is2k_i, is2k_r, is2k_0, oc_44, ro_m0, ro_m1, ro_m2, ro_m4, ro_m5, ro_m11, ro_m12, ro_m13, ro_m14, ro_m15, ro_m16, ro_m17, ak_45, ak_46, ak_47, ak_48, ak_49, ak_50, ak_51, ak_52, ak_53, ak_54, ak_55, ak_56, al_45, al_46, al_47, al_48, al_49, al_50, al_51, al_52, al_53, al_54, al_55, al_56, l45, l46, l47, l48, l49, l50, l51, l52, l53, l54, a45, a46, a47, a48, a49, a50, a51, a52, a53, a54, in46_0, in46_1, in46_2, in46_3, in46_4, in46_5, cn_0, cn_1, cn_2, cn_3, cn_4, cn_5, i10, i01, zb_t, zb_f, not_true_eq_false, not_false_eq_true, if_true, if_false, true_or, sp_in1, md_1, md_6, md_5]
      exact e2
    obtain ⟨I3, e3, l3, a3⟩ := m_backA (J := J) (ha.up (o1.trans o2))
    obtain ⟨I4, e4, l4⟩ := ih (k + 1) I3 (by omega) a3 l3
    refine ⟨I4, ?_, l4⟩
    have ed : nI k / 2 = nI (k / 2) := pk_div (d := 2) (by omega) (by decide) (by decide)
    have er : nI k - nI (k / 2) * 2 = nI (k % 2) := by rw [← ed]; exact rm2 (by omega)
    rw [rdC_s] at e4
    rw [eM_read_25]
    by_cases c : trk F (prV t k) n e = true
    · rw [if_pos c] at e4
      rw [c] at e2'
      simp only [eM_read_27, eM_read_29, eM_read_32, eM_read_33, eM_read_36, eM_read_37, eM_read_39, eM_read_40, eM_read_41, eM_read_42, eM_read_43, eM_read_46, eM_read_47, eM_read_49, eM_read_50, eM_read_51, eM_read_52, eM_read_53, eM_read_54, eM_read_55, eM_read_58, eM_read_61, eM_read_62, eM_read_65, eM_read_66, eM_read_67, eM_read_68, eM_read_69, eM_read_72, eM_read_75, eM_read_78, eM_read_79, eq_self, hr_k_some, Option.toList, List.cons_append, List.nil_append, is2k_n, is2k_i, is2k_r, is2k_0, oc_44, ro_m0, ro_m1, ro_m2, ro_m4, ro_m5, ro_m11, ro_m12, ro_m13, ro_m14, ro_m15, ro_m16, ro_m17, ak_45, ak_46, ak_47, ak_48, ak_49, ak_50, ak_51, ak_52, ak_53, ak_54, ak_55, ak_56, al_45, al_46, al_47, al_48, al_49, al_50, al_51, al_52, al_53, al_54, al_55, al_56, l45, l46, l47, l48, l49, l50, l51, l52, l53, l54, a45, a46, a47, a48, a49, a50, a51, a52, a53, a54, in46_0, in46_1, in46_2, in46_3, in46_4, in46_5, cn_0, cn_1, cn_2, cn_3, cn_4, cn_5, i10, i01, zb_t, zb_f, not_true_eq_false, not_false_eq_true, if_true, if_false, true_or, sp_in1, md_1, md_6, md_5, ec, n2, ed, er, e2', e3, nI_1]
      exact e4
    · rw [if_neg c] at e4
      rw [show trk F (prV t k) n e = false from Bool.not_eq_true _ ▸ c] at e2'
      simp only [eM_read_27, eM_read_29, eM_read_32, eM_read_33, eM_read_36, eM_read_37, eM_read_39, eM_read_40, eM_read_41, eM_read_42, eM_read_43, eM_read_46, eM_read_47, eM_read_49, eM_read_50, eM_read_51, eM_read_52, eM_read_53, eM_read_54, eM_read_55, eM_read_58, eM_read_61, eM_read_62, eM_read_65, eM_read_66, eM_read_67, eM_read_68, eM_read_69, eM_read_72, eM_read_75, eM_read_78, eM_read_79, eq_self, hr_k_some, Option.toList, List.cons_append, List.nil_append, is2k_n, is2k_i, is2k_r, is2k_0, oc_44, ro_m0, ro_m1, ro_m2, ro_m4, ro_m5, ro_m11, ro_m12, ro_m13, ro_m14, ro_m15, ro_m16, ro_m17, ak_45, ak_46, ak_47, ak_48, ak_49, ak_50, ak_51, ak_52, ak_53, ak_54, ak_55, ak_56, al_45, al_46, al_47, al_48, al_49, al_50, al_51, al_52, al_53, al_54, al_55, al_56, l45, l46, l47, l48, l49, l50, l51, l52, l53, l54, a45, a46, a47, a48, a49, a50, a51, a52, a53, a54, in46_0, in46_1, in46_2, in46_3, in46_4, in46_5, cn_0, cn_1, cn_2, cn_3, cn_4, cn_5, i10, i01, zb_t, zb_f, not_true_eq_false, not_false_eq_true, if_true, if_false, true_or, sp_in1, md_1, md_6, md_5, ec, n2, ed, er, e2', e3, Int32.add_zero, nI_1]
      exact e4
theorem M_read_ok (h : Md I J t n kp u m y bt L w z num) {s : Nat} (hs : s < 4) (hw : w s ≠ 0) : MR nM_read [some (.ref 44), some (.int (nI s)), none, none, none] I J (.int (nI (rdC (num s) t n (z s) 20))) (fun I' J' => Md I' J' t n kp u m y bt L w z num) := by
  obtain ⟨a1, a2, a3, a4, a5⟩ := h.sh hs
  obtain ⟨I1, e1, h1, o1⟩ := m_aside (I := I) (J := J)
  obtain ⟨I2, e2, l2⟩ := mread_loop hs a4 a5 h.2.1 a3 h.1 20 0 I1 (by omega) ⟨h1, fun b h3 h4 j => o1 b h4 j⟩ ⟨fun j _ => o1 45 (by decide) j, fun b h3 h4 j => o1 b h4 j⟩
  refine MR.lb h l2 ?_
  simp only [eM_read_0, eM_read_1, eM_read_2, eM_read_5, eM_read_6, eM_read_7, eM_read_10, eM_read_11, eM_read_12, eM_read_15, eM_read_16, eM_read_17, eM_read_18, eM_read_19, eM_read_22, eM_read_23, eq_self, hr_k_some, Option.toList, List.cons_append, List.nil_append, is2k_n, is2k_i, is2k_r, is2k_0, oc_44, ro_m0, ro_m1, ro_m2, ro_m4, ro_m5, ro_m11, ro_m12, ro_m13, ro_m14, ro_m15, ro_m16, ro_m17, ak_45, ak_46, ak_47, ak_48, ak_49, ak_50, ak_51, ak_52, ak_53, ak_54, ak_55, ak_56, al_45, al_46, al_47, al_48, al_49, al_50, al_51, al_52, al_53, al_54, al_55, al_56, l45, l46, l47, l48, l49, l50, l51, l52, l53, l54, a45, a46, a47, a48, a49, a50, a51, a52, a53, a54, in46_0, in46_1, in46_2, in46_3, in46_4, in46_5, cn_0, cn_1, cn_2, cn_3, cn_4, cn_5, i10, i01, zb_t, zb_f, not_true_eq_false, not_false_eq_true, if_true, if_false, true_or, sp_in1, md_1, md_6, md_5, m_wr_ok h hs hw, n10', e1]
  exact e2
end
