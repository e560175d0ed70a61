section
variable {I I' I'' : Nat → Nat → Int32} {J J' J'' : Nat → Nat → Int64} {bt : Nat → Nat} {L : Nat} {t t' : Nat → Nat} {n B : Nat}
/-- nothing but the token and the state has changed -/
def oP (I I' : Nat → Nat → Int32) (J J' : Nat → Nat → Int64) : Prop := (∀ b j, b ≠ 45 → (b ≠ 44 ∨ j < 7) → I' b j = I b j) ∧ ∀ b j, b ≠ 44 → J' b j = J b j
theorem oP.rfl : oP I I J J := ⟨fun _ _ _ _ => Eq.refl _, fun _ _ _ => Eq.refl _⟩
theorem oP.trans (h : oP I I' J J') (h' : oP I' I'' J' J'') : oP I I'' J J'' := ⟨fun b j q r => (h'.1 b j q r).trans (h.1 b j q r), fun b j q => (h'.2 b j q).trans (h.2 b j q)⟩
theorem oN.p (h : oN I I' J J') : oP I I' J J' := ⟨fun b j _ r => h.1 b j r, h.2⟩
theorem oR.p (h : oR 45 I I') : oP I I' J J := ⟨fun b j q _ => h b q j, fun _ _ _ => Eq.refl _⟩
theorem oP.tp (h : oP I I' J J') (hT : MTp I bt L) : MTp I' bt L := ⟨(h.1 44 6 (by omega) (by omega)).trans hT.1, hT.2.1, fun j hj => ⟨(hT.2.2 j hj).1, (h.1 49 j (by omega) (by omega)).trans (hT.2.2 j hj).2⟩⟩
theorem oP.lt (h : oP I I' J J') (hl : Mlt I) : Mlt I' := ⟨fun j hj => (h.1 50 j (by omega) (by omega)).trans (hl.1 j hj), fun j hj => (h.1 51 j (by omega) (by omega)).trans (hl.2.1 j hj), fun j hj => (h.1 52 j (by omega) (by omega)).trans (hl.2.2 j hj)⟩
theorem oN.mh (h : oN I I' J J') (hH : mh I 45 t n) : mh I' 45 t n := fun j hj => (h.1 45 j (by omega)).trans (hH j hj)
theorem MK.r {b : Nat} (h : MK I J bt L b) (ho : oR 45 I I') : MK I' J bt L b := ⟨h.1, (ho 44 (by decide) _).trans h.2.1, (ho 44 (by decide) _).trans h.2.2.1, (ho 44 (by decide) _).trans h.2.2.2.1, h.2.2.2.2⟩
theorem m_ship_end {b : Nat} {x1 : Int32} {x2 : Option Value} (hT : MTp I bt L) (hl : Mlt I) (hK : MK I J bt L b) (hH : mh I 45 t n) : ∃ I' J', den nM_readsShip (60, [some (.ref 44), some (.int x1), x2], [], (I, J)) = some (some (.int (zb (rsE bt L t b).1)), (I', J')) ∧ MK I' J' bt L (rsE bt L t b).2.1 ∧ mh I' 45 (rsE bt L t b).2.2 n ∧ oP I I' J J' := by
  have ew := m_w2 hK hT hl
  have e2 : (nI (woF bt L 2 b 3) - 1 = 2) = (isWd bt L 2 b = true) := wo_eq (k := 2) (w := 2) (by decide) (by decide)
  unfold rsE
  by_cases c : isWd bt L 2 b = true
  · rw [if_pos c]
    have o1 : oR 45 I (up2 I 45 3 1) := oR.up
    obtain ⟨I1, J1, e1, K1, n1⟩ := m_nx (hK.r o1) ((o1.p (J := J)).tp hT)
    refine ⟨I1, J1, ?_, K1, n1.mh (hH.up (j := 3) (x := 1)), o1.p.trans n1.p⟩
    simp only [eM_readsShip_60, eM_readsShip_61, eM_readsShip_62, eM_readsShip_65, eM_readsShip_68, eM_readsShip_69, eM_readsShip_72, eM_readsShip_73, eM_readsShip_76, eM_readsShip_77, eM_readsShip_78, eM_readsShip_79, eM_readsShip_82, eM_readsShip_83, eM_readsShip_84, eM_readsShip_87, eM_readsShip_88, eM_readsShip_91, eM_readsShip_92, eM_readsShip_93, eM_readsShip_94, eM_readsShip_97, eM_readsShip_98, eM_readsShip_101, eM_readsShip_102, eq_self, hr_k_some, Option.toList, List.cons_append, List.nil_append, is2k_n, is2k_i, is2k_r, is2k_0, oc_44, ro_m0, ro_m1, ro_m2, ro_m4, ro_m5, ro_m11, ro_m12, ro_m13, ro_m14, ro_m15, ro_m16, ro_m17, ak_45, ak_46, ak_47, ak_48, ak_49, ak_50, ak_51, ak_52, ak_53, ak_54, ak_55, ak_56, al_45, al_46, al_47, al_48, al_49, al_50, al_51, al_52, al_53, al_54, al_55, al_56, l45, l46, l47, l48, l49, l50, l51, l52, l53, l54, a45, a46, a47, a48, a49, a50, a51, a52, a53, a54, in46_0, in46_1, in46_2, in46_3, in46_4, in46_5, cn_0, cn_1, cn_2, cn_3, cn_4, cn_5, i10, i01, zb_t, zb_f, not_true_eq_false, not_false_eq_true, if_true, if_false, true_or, sp_in1, md_1, md_6, md_5, ew, e2.trans (eq_true c), e1, zb_n1]
  · rw [if_neg c]
    have o1 : oR 45 I (up2 I 45 3 0) := oR.up
    refine ⟨up2 I 45 3 0, J, ?_, hK.r o1, hH.up (j := 3) (x := 0), o1.p⟩
    simp only [eM_readsShip_60, eM_readsShip_61, eM_readsShip_62, eM_readsShip_65, eM_readsShip_68, eM_readsShip_69, eM_readsShip_72, eM_readsShip_73, eM_readsShip_76, eM_readsShip_77, eM_readsShip_78, eM_readsShip_79, eM_readsShip_82, eM_readsShip_83, eM_readsShip_84, eM_readsShip_87, eM_readsShip_88, eM_readsShip_91, eM_readsShip_92, eM_readsShip_93, eM_readsShip_94, eM_readsShip_97, eM_readsShip_98, eM_readsShip_101, eM_readsShip_102, eq_self, hr_k_some, Option.toList, List.cons_append, List.nil_append, is2k_n, is2k_i, is2k_r, is2k_0, oc_44, ro_m0, ro_m1, ro_m2, ro_m4, ro_m5, ro_m11, ro_m12, ro_m13, ro_m14, ro_m15, ro_m16, ro_m17, ak_45, ak_46, ak_47, ak_48, ak_49, ak_50, ak_51, ak_52, ak_53, ak_54, ak_55, ak_56, al_45, al_46, al_47, al_48, al_49, al_50, al_51, al_52, al_53, al_54, al_55, al_56, l45, l46, l47, l48, l49, l50, l51, l52, l53, l54, a45, a46, a47, a48, a49, a50, a51, a52, a53, a54, in46_0, in46_1, in46_2, in46_3, in46_4, in46_5, cn_0, cn_1, cn_2, cn_3, cn_4, cn_5, i10, i01, zb_t, zb_f, not_true_eq_false, not_false_eq_true, if_true, if_false, true_or, sp_in1, md_1, md_6, md_5, ew, e2.trans (eq_false c), zb_n1]
theorem m_readsShip {b0 : Nat} (hT : MTp I bt L) (hl : Mlt I) (hK : MK I J bt L b0) (hH : mh I 45 t n) : ∃ I' J', den nM_readsShip (0, [some (.ref 44), none, none], [], (I, J)) = some (some (.int (zb (rsV bt L t (nxT bt L b0)).1)), (I', J')) ∧ MK I' J' bt L (rsV bt L t (nxT bt L b0)).2.1 ∧ ((rsV bt L t (nxT bt L b0)).1 = true → mh I' 45 (rsV bt L t (nxT bt L b0)).2.2 n) ∧ oP I I' J J' := by
  obtain ⟨I1, J1, e1, K1, n1⟩ := m_nx hK hT
  have T1 := n1.p.tp hT
  have H1 := n1.mh hH
  generalize nxT bt L b0 = b at *
  obtain ⟨I2, J2, e2, K2, n2⟩ := m_take (m := 63) (by decide) K1 T1
  have e2' : den nM_takesNumber (0, [some (.ref 44), some (.int 0), some (.int 63), none], [], (I1, J1)) = some (some (.int (if isNo bt L 63 b = true then nI (vlT bt L b) else -1)), (I2, J2)) := e2
  have T2 := n2.p.tp T1
  have H2 := n2.mh H1
  unfold rsV
  by_cases c : isNo bt L 63 b = true
  · rw [if_pos c] at e2' K2 ⊢
    have hv := isNo_le c
    have ep := m_places (I := I2) (J := J2) (q := vlT bt L b) (by omega)
    have o3 : oR 45 I2 (up2 (up2 I2 45 1 (nI (vlT bt L b))) 45 4 (nI (if vlT bt L b = 63 then 2 else 0))) := oR.up.trans oR.up
    have H3 : mh (up2 (up2 I2 45 1 (nI (vlT bt L b))) 45 4 (nI (if vlT bt L b = 63 then 2 else 0))) 45 (plV t (vlT bt L b)) n := (H2.up (j := 1) (x := vlT bt L b)).up (j := 4) (x := if vlT bt L b = 63 then 2 else 0)
    have K3 := K2.r o3
    have p3 : oP I _ J J2 := (n1.p.trans n2.p).trans (o3.p (J := J2))
    have T3 := p3.tp hT
    have l3 := p3.lt hl
    have e4 : den nM_readsShip (0, [some (.ref 44), none, none], [], (I, J)) = den nM_readsShip (23, [some (.ref 44), some (.int (nI (vlT bt L b))), none], [], (up2 (up2 I2 45 1 (nI (vlT bt L b))) 45 4 (nI (if vlT bt L b = 63 then 2 else 0)), J2)) := by
      simp only [eM_readsShip_0, eM_readsShip_1, eM_readsShip_4, eM_readsShip_5, eM_readsShip_6, eM_readsShip_8, eM_readsShip_11, eM_readsShip_12, eM_readsShip_13, eM_readsShip_16, eM_readsShip_17, eM_readsShip_18, eM_readsShip_19, eM_readsShip_20, eq_self, hr_k_some, Option.toList, List.cons_append, List.nil_append, is2k_n, is2k_i, is2k_r, is2k_0, oc_44, ro_m0, ro_m1, ro_m2, ro_m4, ro_m5, ro_m11, ro_m12, ro_m13, ro_m14, ro_m15, ro_m16, ro_m17, ak_45, ak_46, ak_47, ak_48, ak_49, ak_50, ak_51, ak_52, ak_53, ak_54, ak_55, ak_56, al_45, al_46, al_47, al_48, al_49, al_50, al_51, al_52, al_53, al_54, al_55, al_56, l45, l46, l47, l48, l49, l50, l51, l52, l53, l54, a45, a46, a47, a48, a49, a50, a51, a52, a53, a54, in46_0, in46_1, in46_2, in46_3, in46_4, in46_5, cn_0, cn_1, cn_2, cn_3, cn_4, cn_5, i10, i01, zb_t, zb_f, not_true_eq_false, not_false_eq_true, if_true, if_false, true_or, sp_in1, md_1, md_6, md_5, e1, e2', pos_nlt (show vlT bt L b < 2 ^ 31 by omega), ep]
    rw [e4]
    generalize up2 (up2 I2 45 1 (nI (vlT bt L b))) 45 4 (nI (if vlT bt L b = 63 then 2 else 0)) = I3 at *
    generalize plV t (vlT bt L b) = t3 at *
    have ew := m_w2 K3 T3 l3
    have ee : (nI (woF bt L 2 (nxT bt L b) 3) - 1 = 1) = (isWd bt L 1 (nxT bt L b) = true) := wo_eq (k := 2) (w := 1) (by decide) (by decide)
    by_cases c1 : isWd bt L 1 (nxT bt L b) = true
    · rw [if_pos c1]
      obtain ⟨I4, J4, e5, K4, n4⟩ := m_nx K3 T3
      have T4 := n4.p.tp T3
      have H4 := n4.mh H3
      obtain ⟨I5, J5, e6, K5, n5⟩ := m_take (m := 9) (by decide) K4 T4
      have e6' : den nM_takesNumber (0, [some (.ref 44), some (.int 0), some (.int 9), none], [], (I4, J4)) = some (some (.int (if isNo bt L 9 (nxT bt L (nxT bt L b)) = true then nI (vlT bt L (nxT bt L (nxT bt L b))) else -1)), (I5, J5)) := e6
      have H5 := n5.mh H4
      by_cases c2 : isNo bt L 9 (nxT bt L (nxT bt L b)) = true
      · rw [if_pos c2] at e6' K5 ⊢
        have hv2 := isNo_le c2
        have o6 : oR 45 I5 (up2 I5 45 2 (nI (vlT bt L (nxT bt L (nxT bt L b))))) := oR.up
        have p6 : oP I (up2 I5 45 2 (nI (vlT bt L (nxT bt L (nxT bt L b))))) J J5 := ((p3.trans n4.p).trans n5.p).trans (o6.p (J := J5))
        obtain ⟨I7, J7, e7, K7, H7, p7⟩ := m_ship_end (x1 := nI (vlT bt L b)) (x2 := some (.int (nI (vlT bt L (nxT bt L (nxT bt L b)))))) (p6.tp hT) (p6.lt hl) (K5.r o6) (H5.up (j := 2) (x := vlT bt L (nxT bt L (nxT bt L b))))
        refine ⟨I7, J7, ?_, K7, fun _ => H7, p6.trans p7⟩
        simp only [eM_readsShip_23, eM_readsShip_24, eM_readsShip_25, eM_readsShip_28, eM_readsShip_31, eM_readsShip_32, eM_readsShip_35, eM_readsShip_36, eM_readsShip_39, eM_readsShip_40, eM_readsShip_41, eM_readsShip_43, eM_readsShip_46, eM_readsShip_47, eM_readsShip_48, eM_readsShip_51, eM_readsShip_52, eM_readsShip_53, eM_readsShip_54, eM_readsShip_57, eM_readsShip_58, eM_readsShip_59, eq_self, hr_k_some, Option.toList, List.cons_append, List.nil_append, is2k_n, is2k_i, is2k_r, is2k_0, oc_44, ro_m0, ro_m1, ro_m2, ro_m4, ro_m5, ro_m11, ro_m12, ro_m13, ro_m14, ro_m15, ro_m16, ro_m17, ak_45, ak_46, ak_47, ak_48, ak_49, ak_50, ak_51, ak_52, ak_53, ak_54, ak_55, ak_56, al_45, al_46, al_47, al_48, al_49, al_50, al_51, al_52, al_53, al_54, al_55, al_56, l45, l46, l47, l48, l49, l50, l51, l52, l53, l54, a45, a46, a47, a48, a49, a50, a51, a52, a53, a54, in46_0, in46_1, in46_2, in46_3, in46_4, in46_5, cn_0, cn_1, cn_2, cn_3, cn_4, cn_5, i10, i01, zb_t, zb_f, not_true_eq_false, not_false_eq_true, if_true, if_false, true_or, sp_in1, md_1, md_6, md_5, ew, ee.trans (eq_true c1), e5, e6', pos_nlt (show vlT bt L (nxT bt L (nxT bt L b)) < 2 ^ 31 by omega)]
        exact e7
      · rw [if_neg c2] at e6' K5 ⊢
        refine ⟨I5, J5, ?_, K5, (fun q => by cases q), (p3.trans n4.p).trans n5.p⟩
        simp only [eM_readsShip_23, eM_readsShip_24, eM_readsShip_25, eM_readsShip_28, eM_readsShip_31, eM_readsShip_32, eM_readsShip_35, eM_readsShip_36, eM_readsShip_39, eM_readsShip_40, eM_readsShip_41, eM_readsShip_43, eM_readsShip_46, eM_readsShip_47, eM_readsShip_48, eM_readsShip_51, eM_readsShip_52, eM_readsShip_53, eM_readsShip_54, eM_readsShip_57, eM_readsShip_58, eM_readsShip_59, eq_self, hr_k_some, Option.toList, List.cons_append, List.nil_append, is2k_n, is2k_i, is2k_r, is2k_0, oc_44, ro_m0, ro_m1, ro_m2, ro_m4, ro_m5, ro_m11, ro_m12, ro_m13, ro_m14, ro_m15, ro_m16, ro_m17, ak_45, ak_46, ak_47, ak_48, ak_49, ak_50, ak_51, ak_52, ak_53, ak_54, ak_55, ak_56, al_45, al_46, al_47, al_48, al_49, al_50, al_51, al_52, al_53, al_54, al_55, al_56, l45, l46, l47, l48, l49, l50, l51, l52, l53, l54, a45, a46, a47, a48, a49, a50, a51, a52, a53, a54, in46_0, in46_1, in46_2, in46_3, in46_4, in46_5, cn_0, cn_1, cn_2, cn_3, cn_4, cn_5, i10, i01, zb_t, zb_f, not_true_eq_false, not_false_eq_true, if_true, if_false, true_or, sp_in1, md_1, md_6, md_5, ew, ee.trans (eq_true c1), e5, e6', neg_lt, zb_n0]
    · rw [if_neg c1]
      obtain ⟨I7, J7, e7, K7, H7, p7⟩ := m_ship_end (x1 := nI (vlT bt L b)) (x2 := none) T3 l3 K3 H3
      refine ⟨I7, J7, ?_, K7, fun _ => H7, p3.trans p7⟩
      simp only [eM_readsShip_23, eM_readsShip_24, eM_readsShip_25, eM_readsShip_28, eM_readsShip_31, eM_readsShip_32, eM_readsShip_35, eM_readsShip_36, eM_readsShip_39, eM_readsShip_40, eM_readsShip_41, eM_readsShip_43, eM_readsShip_46, eM_readsShip_47, eM_readsShip_48, eM_readsShip_51, eM_readsShip_52, eM_readsShip_53, eM_readsShip_54, eM_readsShip_57, eM_readsShip_58, eM_readsShip_59, eq_self, hr_k_some, Option.toList, List.cons_append, List.nil_append, is2k_n, is2k_i, is2k_r, is2k_0, oc_44, ro_m0, ro_m1, ro_m2, ro_m4, ro_m5, ro_m11, ro_m12, ro_m13, ro_m14, ro_m15, ro_m16, ro_m17, ak_45, ak_46, ak_47, ak_48, ak_49, ak_50, ak_51, ak_52, ak_53, ak_54, ak_55, ak_56, al_45, al_46, al_47, al_48, al_49, al_50, al_51, al_52, al_53, al_54, al_55, al_56, l45, l46, l47, l48, l49, l50, l51, l52, l53, l54, a45, a46, a47, a48, a49, a50, a51, a52, a53, a54, in46_0, in46_1, in46_2, in46_3, in46_4, in46_5, cn_0, cn_1, cn_2, cn_3, cn_4, cn_5, i10, i01, zb_t, zb_f, not_true_eq_false, not_false_eq_true, if_true, if_false, true_or, sp_in1, md_1, md_6, md_5, ew, ee.trans (eq_false c1)]
      exact e7
  · rw [if_neg c] at e2' K2 ⊢
    refine ⟨I2, J2, ?_, K2, (fun q => by cases q), n1.p.trans n2.p⟩
    simp only [eM_readsShip_0, eM_readsShip_1, eM_readsShip_4, eM_readsShip_5, eM_readsShip_6, eM_readsShip_8, eM_readsShip_11, eM_readsShip_12, eM_readsShip_13, eM_readsShip_16, eM_readsShip_17, eM_readsShip_18, eM_readsShip_19, eM_readsShip_20, eq_self, hr_k_some, Option.toList, List.cons_append, List.nil_append, is2k_n, is2k_i, is2k_r, is2k_0, oc_44, ro_m0, ro_m1, ro_m2, ro_m4, ro_m5, ro_m11, ro_m12, ro_m13, ro_m14, ro_m15, ro_m16, ro_m17, ak_45, ak_46, ak_47, ak_48, ak_49, ak_50, ak_51, ak_52, ak_53, ak_54, ak_55, ak_56, al_45, al_46, al_47, al_48, al_49, al_50, al_51, al_52, al_53, al_54, al_55, al_56, l45, l46, l47, l48, l49, l50, l51, l52, l53, l54, a45, a46, a47, a48, a49, a50, a51, a52, a53, a54, in46_0, in46_1, in46_2, in46_3, in46_4, in46_5, cn_0, cn_1, cn_2, cn_3, cn_4, cn_5, i10, i01, zb_t, zb_f, not_true_eq_false, not_false_eq_true, if_true, if_false, true_or, sp_in1, md_1, md_6, md_5, e1, e2', neg_lt, zb_n0]
/-! a rock's item -/
theorem mr_end {b : Nat} {x1 x2 : Int32} {x5 : Option Value} (hn : n < 8) (h4 : t (10 + 5 * n) = 0) (hT : MTp I bt L) (hl : Mlt I) (hK : MK I J bt L b) (hH : mh I 45 t (n + 1)) : ∃ I' J', den nM_readsRock (64, [some (.ref 44), some (.int x1), some (.int x2), some (.int (nI n)), some (.int (nI 3)), x5], [], (I, J)) = some (some (.int (zb (rrQ bt L t n b).1)), (I', J')) ∧ MK I' J' bt L (rrQ bt L t n b).2.1 ∧ mh I' 45 (rrQ bt L t n b).2.2 (n + 1) ∧ oP I I' J J' := by
  have ew := m_w1 hK hT hl
  have e2 : (nI (woF bt L 1 b 4) - 1 = nI 3) = (isWd bt L 12 b = true) := wo_eq (k := 1) (w := 3) (by decide) (by decide)
  have g1 : ((4 : Int32) ≤ nI 3) = False := eq_false (by decide)
  have g2 : ((4 : Int32) ≤ nI 4) = True := eq_true (by decide)
  have g3 : (nI 3 = (3 : Int32)) = True := eq_true rfl
  have g4 : (1 : Int32) + nI 3 = 4 := by decide
  have g5 : ((0 : Int32) ≤ 1) = True := eq_true (by decide)
  unfold rrQ
  rw [eM_readsRock_64]
  by_cases c : isWd bt L 12 b = true
  · rw [if_pos c]
    obtain ⟨I1, J1, e1, K1, n1⟩ := m_nx hK hT
    have o2 : oR 45 I1 (up2 I1 45 (10 + 5 * n) 1) := oR.up
    have H1 := (n1.mh hH).up (j := 6 + 5 * n + 4) (x := 1)
    rw [show 6 + 5 * n + 4 = 10 + 5 * n by omega] at H1
    refine ⟨up2 I1 45 (10 + 5 * n) 1, J1, ?_, K1.r o2, ?_, n1.p.trans o2.p⟩
    · simp only [eM_readsRock_66, eM_readsRock_67, eM_readsRock_70, eM_readsRock_71, eM_readsRock_72, eM_readsRock_75, eM_readsRock_78, eM_readsRock_80, eM_readsRock_83, eM_readsRock_84, eM_readsRock_87, eM_readsRock_89, eM_readsRock_90, eM_readsRock_93, eM_readsRock_94, eM_readsRock_97, eM_readsRock_98, eM_readsRock_99, eM_readsRock_101, eM_readsRock_102, eM_readsRock_105, eM_readsRock_107, eM_readsRock_110, eM_readsRock_112, eM_readsRock_115, eM_readsRock_117, eM_readsRock_119, eM_readsRock_122, eM_readsRock_123, eM_readsRock_124, eM_readsRock_125, eM_readsRock_126, eM_readsRock_127, eM_readsRock_129, eM_readsRock_130, eM_readsRock_132, eM_readsRock_135, eM_readsRock_138, eq_self, hr_k_some, Option.toList, List.cons_append, List.nil_append, is2k_n, is2k_i, is2k_r, is2k_0, oc_44, ro_m12, ew, e2.trans (eq_true c), e1, g1, g3, if_true, if_false, not_true_eq_false, not_false_eq_true, g4, g5, pt4 hn, nI_1]
      rw [eM_readsRock_64]
      simp only [eM_readsRock_66, eM_readsRock_67, eM_readsRock_70, eM_readsRock_71, eM_readsRock_72, eM_readsRock_75, eM_readsRock_78, eM_readsRock_80, eM_readsRock_83, eM_readsRock_84, eM_readsRock_87, eM_readsRock_89, eM_readsRock_90, eM_readsRock_93, eM_readsRock_94, eM_readsRock_97, eM_readsRock_98, eM_readsRock_99, eM_readsRock_101, eM_readsRock_102, eM_readsRock_105, eM_readsRock_107, eM_readsRock_110, eM_readsRock_112, eM_readsRock_115, eM_readsRock_117, eM_readsRock_119, eM_readsRock_122, eM_readsRock_123, eM_readsRock_124, eM_readsRock_125, eM_readsRock_126, eM_readsRock_127, eM_readsRock_129, eM_readsRock_130, eM_readsRock_132, eM_readsRock_135, eM_readsRock_138, eM_readsRock_141, eM_readsRock_142, eq_self, hr_k_some, Option.toList, List.cons_append, List.nil_append, is2k_n, is2k_i, is2k_r, is2k_0, g2, if_true, zb_n1]
      rfl
    · show mh _ 45 (chV t n 4 1) (n + 1)
      unfold chV
      rw [show 6 + 5 * n + 4 = 10 + 5 * n by omega]
      exact H1
  · rw [if_neg c]
    refine ⟨I, J, ?_, hK, ?_, oP.rfl⟩
    · simp only [eM_readsRock_66, eM_readsRock_67, eM_readsRock_70, eM_readsRock_71, eM_readsRock_72, eM_readsRock_75, eM_readsRock_78, eM_readsRock_80, eM_readsRock_83, eM_readsRock_84, eM_readsRock_87, eM_readsRock_89, eM_readsRock_90, eM_readsRock_93, eM_readsRock_94, eM_readsRock_97, eM_readsRock_98, eM_readsRock_99, eM_readsRock_101, eM_readsRock_102, eM_readsRock_105, eM_readsRock_107, eM_readsRock_110, eM_readsRock_112, eM_readsRock_115, eM_readsRock_117, eM_readsRock_119, eM_readsRock_122, eM_readsRock_123, eM_readsRock_124, eM_readsRock_125, eM_readsRock_126, eM_readsRock_127, eM_readsRock_129, eM_readsRock_130, eM_readsRock_132, eM_readsRock_135, eM_readsRock_138, eq_self, hr_k_some, Option.toList, List.cons_append, List.nil_append, is2k_n, is2k_i, is2k_r, is2k_0, oc_44, ro_m12, ew, e2.trans (eq_false c), g1, if_true, if_false, not_true_eq_false, not_false_eq_true, nI_1]
      rw [eM_readsRock_64]
      simp only [eM_readsRock_66, eM_readsRock_67, eM_readsRock_70, eM_readsRock_71, eM_readsRock_72, eM_readsRock_75, eM_readsRock_78, eM_readsRock_80, eM_readsRock_83, eM_readsRock_84, eM_readsRock_87, eM_readsRock_89, eM_readsRock_90, eM_readsRock_93, eM_readsRock_94, eM_readsRock_97, eM_readsRock_98, eM_readsRock_99, eM_readsRock_101, eM_readsRock_102, eM_readsRock_105, eM_readsRock_107, eM_readsRock_110, eM_readsRock_112, eM_readsRock_115, eM_readsRock_117, eM_readsRock_119, eM_readsRock_122, eM_readsRock_123, eM_readsRock_124, eM_readsRock_125, eM_readsRock_126, eM_readsRock_127, eM_readsRock_129, eM_readsRock_130, eM_readsRock_132, eM_readsRock_135, eM_readsRock_138, eM_readsRock_141, eM_readsRock_142, eq_self, hr_k_some, Option.toList, List.cons_append, List.nil_append, is2k_n, is2k_i, is2k_r, is2k_0, g2, if_true, zb_n1]
      rfl
    · show mh _ 45 (chV t n 4 0) (n + 1)
      unfold chV
      rw [show 6 + 5 * n + 4 = 10 + 5 * n by omega]
      have : upV t (10 + 5 * n) 0 = t := by
        have := upV_self (t := t) (j := 10 + 5 * n)
        rwa [h4] at this
      rw [this]
      exact hH
theorem mr_sweet {b : Nat} {x1 x2 : Int32} {x5 : Option Value} (hn : n < 8) (h4 : t (10 + 5 * n) = 0) (hT : MTp I bt L) (hl : Mlt I) (hK : MK I J bt L b) (hH : mh I 45 t (n + 1)) : ∃ I' J', den nM_readsRock (64, [some (.ref 44), some (.int x1), some (.int x2), some (.int (nI n)), some (.int (nI 2)), x5], [], (I, J)) = some (some (.int (zb (rrS bt L t n b).1)), (I', J')) ∧ MK I' J' bt L (rrS bt L t n b).2.1 ∧ ((rrS bt L t n b).1 = true → mh I' 45 (rrS bt L t n b).2.2 (n + 1)) ∧ oP I I' J J' := by
  have ew := m_w1 hK hT hl
  have e2 : (nI (woF bt L 1 b 4) - 1 = nI 2) = (isWd bt L 11 b = true) := wo_eq (k := 1) (w := 2) (by decide) (by decide)
  have g1 : ((4 : Int32) ≤ nI 2) = False := eq_false (by decide)
  have g3 : (nI 2 = (3 : Int32)) = False := eq_false (by decide)
  have g6 : (nI 2 = (1 : Int32)) = False := eq_false (by decide)
  have g4 : (1 : Int32) + nI 2 = 3 := by decide
  unfold rrS
  rw [eM_readsRock_64]
  by_cases c : isWd bt L 11 b = true
  · rw [if_pos c]
    obtain ⟨I1, J1, e1, K1, n1⟩ := m_nx hK hT
    have T1 := n1.p.tp hT
    obtain ⟨I2, J2, e3, K2, n2⟩ := m_take (m := 9) (by decide) K1 T1
    have e3' : den nM_takesNumber (0, [some (.ref 44), some (.int 0), some (.int 9), none], [], (I1, J1)) = some (some (.int (if isNo bt L 9 (nxT bt L b) = true then nI (vlT bt L (nxT bt L b)) else -1)), (I2, J2)) := e3
    by_cases c2 : isNo bt L 9 (nxT bt L b) = true
    · rw [if_pos c2] at e3' K2 ⊢
      have hv := isNo_le c2
      have o3 : oR 45 I2 (up2 I2 45 (9 + 5 * n) (nI (vlT bt L (nxT bt L b)))) := oR.up
      have p3 := (n1.p.trans n2.p).trans (o3.p (J := J2))
      have H3 := (n2.mh (n1.mh hH)).up (j := 6 + 5 * n + 3) (x := vlT bt L (nxT bt L b))
      rw [show 6 + 5 * n + 3 = 9 + 5 * n by omega] at H3
      have ec : chV t n 3 (vlT bt L (nxT bt L b)) = upV t (9 + 5 * n) (vlT bt L (nxT bt L b)) := by
        unfold chV; rw [show 6 + 5 * n + 3 = 9 + 5 * n by omega]
      rw [← ec] at H3
      obtain ⟨I4, J4, e5, K5, H5, p5⟩ := mr_end (x1 := x1) (x2 := x2) (x5 := some (.int (nI (vlT bt L (nxT bt L b))))) hn (by rw [ec, upV_ne (by omega)]; exact h4) (p3.tp hT) (p3.lt hl) (K2.r o3) H3
      refine ⟨I4, J4, ?_, K5, fun _ => H5, p3.trans p5⟩
      simp only [eM_readsRock_66, eM_readsRock_67, eM_readsRock_70, eM_readsRock_71, eM_readsRock_72, eM_readsRock_75, eM_readsRock_78, eM_readsRock_80, eM_readsRock_83, eM_readsRock_84, eM_readsRock_87, eM_readsRock_89, eM_readsRock_90, eM_readsRock_93, eM_readsRock_94, eM_readsRock_97, eM_readsRock_98, eM_readsRock_99, eM_readsRock_101, eM_readsRock_102, eM_readsRock_105, eM_readsRock_107, eM_readsRock_110, eM_readsRock_112, eM_readsRock_115, eM_readsRock_117, eM_readsRock_119, eM_readsRock_122, eM_readsRock_123, eM_readsRock_124, eM_readsRock_125, eM_readsRock_126, eM_readsRock_127, eM_readsRock_129, eM_readsRock_130, eM_readsRock_132, eM_readsRock_135, eM_readsRock_138, eq_self, hr_k_some, Option.toList, List.cons_append, List.nil_append, is2k_n, is2k_i, is2k_r, is2k_0, oc_44, ro_m12, ew, e2.trans (eq_true c), e1, g1, g3, g6, if_true, if_false, not_true_eq_false, not_false_eq_true, e3', g4, pos_nlt (show vlT bt L (nxT bt L b) < 2 ^ 31 by omega), pt3 hn, nI_1]
      exact e5
    · rw [if_neg c2] at e3' K2 ⊢
      refine ⟨I2, J2, ?_, K2, (fun q => by cases q), n1.p.trans n2.p⟩
      simp only [eM_readsRock_66, eM_readsRock_67, eM_readsRock_70, eM_readsRock_71, eM_readsRock_72, eM_readsRock_75, eM_readsRock_78, eM_readsRock_80, eM_readsRock_83, eM_readsRock_84, eM_readsRock_87, eM_readsRock_89, eM_readsRock_90, eM_readsRock_93, eM_readsRock_94, eM_readsRock_97, eM_readsRock_98, eM_readsRock_99, eM_readsRock_101, eM_readsRock_102, eM_readsRock_105, eM_readsRock_107, eM_readsRock_110, eM_readsRock_112, eM_readsRock_115, eM_readsRock_117, eM_readsRock_119, eM_readsRock_122, eM_readsRock_123, eM_readsRock_124, eM_readsRock_125, eM_readsRock_126, eM_readsRock_127, eM_readsRock_129, eM_readsRock_130, eM_readsRock_132, eM_readsRock_135, eM_readsRock_138, eq_self, hr_k_some, Option.toList, List.cons_append, List.nil_append, is2k_n, is2k_i, is2k_r, is2k_0, oc_44, ro_m12, ew, e2.trans (eq_true c), e1, g1, g3, g6, if_true, if_false, not_true_eq_false, not_false_eq_true, e3', neg_lt, zb_n0]
      rfl
  · rw [if_neg c]
    obtain ⟨I4, J4, e5, K5, H5, p5⟩ := mr_end (x1 := x1) (x2 := x2) (x5 := x5) hn h4 hT hl hK hH
    refine ⟨I4, J4, ?_, K5, fun _ => H5, p5⟩
    simp only [eM_readsRock_66, eM_readsRock_67, eM_readsRock_70, eM_readsRock_71, eM_readsRock_72, eM_readsRock_75, eM_readsRock_78, eM_readsRock_80, eM_readsRock_83, eM_readsRock_84, eM_readsRock_87, eM_readsRock_89, eM_readsRock_90, eM_readsRock_93, eM_readsRock_94, eM_readsRock_97, eM_readsRock_98, eM_readsRock_99, eM_readsRock_101, eM_readsRock_102, eM_readsRock_105, eM_readsRock_107, eM_readsRock_110, eM_readsRock_112, eM_readsRock_115, eM_readsRock_117, eM_readsRock_119, eM_readsRock_122, eM_readsRock_123, eM_readsRock_124, eM_readsRock_125, eM_readsRock_126, eM_readsRock_127, eM_readsRock_129, eM_readsRock_130, eM_readsRock_132, eM_readsRock_135, eM_readsRock_138, eq_self, hr_k_some, Option.toList, List.cons_append, List.nil_append, is2k_n, is2k_i, is2k_r, is2k_0, oc_44, ro_m12, ew, e2.trans (eq_false c), g1, if_true, if_false, not_true_eq_false, not_false_eq_true, nI_1]
    exact e5
theorem mr_horn {b : Nat} {x1 x2 : Int32} {x5 : Option Value} (hn : n < 8) (h4 : t (10 + 5 * n) = 0) (hT : MTp I bt L) (hl : Mlt I) (hK : MK I J bt L b) (hH : mh I 45 t (n + 1)) : ∃ I' J', den nM_readsRock (64, [some (.ref 44), some (.int x1), some (.int x2), some (.int (nI n)), some (.int (nI 1)), x5], [], (I, J)) = some (some (.int (zb (rrH bt L t n b).1)), (I', J')) ∧ MK I' J' bt L (rrH bt L t n b).2.1 ∧ ((rrH bt L t n b).1 = true → mh I' 45 (rrH bt L t n b).2.2 (n + 1)) ∧ oP I I' J J' := by
  have ew := m_w1 hK hT hl
  have e2 : (nI (woF bt L 1 b 4) - 1 = nI 1) = (isWd bt L 10 b = true) := wo_eq (k := 1) (w := 1) (by decide) (by decide)
  have g1 : ((4 : Int32) ≤ nI 1) = False := eq_false (by decide)
  have g3 : (nI 1 = (3 : Int32)) = False := eq_false (by decide)
  have g6 : (nI 1 = (1 : Int32)) = True := eq_true rfl
  have g4 : (1 : Int32) + nI 1 = 2 := by decide
  unfold rrH
  rw [eM_readsRock_64]
  by_cases c : isWd bt L 10 b = true
  · rw [if_pos c]
    obtain ⟨I1, J1, e1, K1, n1⟩ := m_nx hK hT
    have T1 := n1.p.tp hT
    obtain ⟨I2, J2, e3, K2, n2⟩ := m_take (m := 99) (by decide) K1 T1
    have e3' : den nM_takesNumber (0, [some (.ref 44), some (.int 0), some (.int 99), none], [], (I1, J1)) = some (some (.int (if isNo bt L 99 (nxT bt L b) = true then nI (vlT bt L (nxT bt L b)) else -1)), (I2, J2)) := e3
    by_cases c2 : isNo bt L 99 (nxT bt L b) = true
    · rw [if_pos c2] at e3' K2 ⊢
      have hv := isNo_le c2
      have o3 : oR 45 I2 (up2 I2 45 (8 + 5 * n) (nI (vlT bt L (nxT bt L b)))) := oR.up
      have p3 := (n1.p.trans n2.p).trans (o3.p (J := J2))
      have H3 := (n2.mh (n1.mh hH)).up (j := 6 + 5 * n + 2) (x := vlT bt L (nxT bt L b))
      rw [show 6 + 5 * n + 2 = 8 + 5 * n by omega] at H3
      have ec : chV t n 2 (vlT bt L (nxT bt L b)) = upV t (8 + 5 * n) (vlT bt L (nxT bt L b)) := by
        unfold chV; rw [show 6 + 5 * n + 2 = 8 + 5 * n by omega]
      rw [← ec] at H3
      obtain ⟨I4, J4, e5, K5, H5, p5⟩ := mr_sweet (x1 := x1) (x2 := x2) (x5 := some (.int (nI (vlT bt L (nxT bt L b))))) hn (by rw [ec, upV_ne (by omega)]; exact h4) (p3.tp hT) (p3.lt hl) (K2.r o3) H3
      refine ⟨I4, J4, ?_, K5, H5, p3.trans p5⟩
      simp only [eM_readsRock_66, eM_readsRock_67, eM_readsRock_70, eM_readsRock_71, eM_readsRock_72, eM_readsRock_75, eM_readsRock_78, eM_readsRock_80, eM_readsRock_83, eM_readsRock_84, eM_readsRock_87, eM_readsRock_89, eM_readsRock_90, eM_readsRock_93, eM_readsRock_94, eM_readsRock_97, eM_readsRock_98, eM_readsRock_99, eM_readsRock_101, eM_readsRock_102, eM_readsRock_105, eM_readsRock_107, eM_readsRock_110, eM_readsRock_112, eM_readsRock_115, eM_readsRock_117, eM_readsRock_119, eM_readsRock_122, eM_readsRock_123, eM_readsRock_124, eM_readsRock_125, eM_readsRock_126, eM_readsRock_127, eM_readsRock_129, eM_readsRock_130, eM_readsRock_132, eM_readsRock_135, eM_readsRock_138, eq_self, hr_k_some, Option.toList, List.cons_append, List.nil_append, is2k_n, is2k_i, is2k_r, is2k_0, oc_44, ro_m12, ew, e2.trans (eq_true c), e1, g1, g3, g6, if_true, if_false, not_true_eq_false, not_false_eq_true, e3', g4, pos_nlt (show vlT bt L (nxT bt L b) < 2 ^ 31 by omega), pt2 hn, nI_1]
      exact e5
    · rw [if_neg c2] at e3' K2 ⊢
      refine ⟨I2, J2, ?_, K2, (fun q => by cases q), n1.p.trans n2.p⟩
      simp only [eM_readsRock_66, eM_readsRock_67, eM_readsRock_70, eM_readsRock_71, eM_readsRock_72, eM_readsRock_75, eM_readsRock_78, eM_readsRock_80, eM_readsRock_83, eM_readsRock_84, eM_readsRock_87, eM_readsRock_89, eM_readsRock_90, eM_readsRock_93, eM_readsRock_94, eM_readsRock_97, eM_readsRock_98, eM_readsRock_99, eM_readsRock_101, eM_readsRock_102, eM_readsRock_105, eM_readsRock_107, eM_readsRock_110, eM_readsRock_112, eM_readsRock_115, eM_readsRock_117, eM_readsRock_119, eM_readsRock_122, eM_readsRock_123, eM_readsRock_124, eM_readsRock_125, eM_readsRock_126, eM_readsRock_127, eM_readsRock_129, eM_readsRock_130, eM_readsRock_132, eM_readsRock_135, eM_readsRock_138, eq_self, hr_k_some, Option.toList, List.cons_append, List.nil_append, is2k_n, is2k_i, is2k_r, is2k_0, oc_44, ro_m12, ew, e2.trans (eq_true c), e1, g1, g3, g6, if_true, if_false, not_true_eq_false, not_false_eq_true, e3', neg_lt, zb_n0]
      rfl
  · rw [if_neg c]
    obtain ⟨I4, J4, e5, K5, H5, p5⟩ := mr_sweet (x1 := x1) (x2 := x2) (x5 := x5) hn h4 hT hl hK hH
    refine ⟨I4, J4, ?_, K5, H5, p5⟩
    simp only [eM_readsRock_66, eM_readsRock_67, eM_readsRock_70, eM_readsRock_71, eM_readsRock_72, eM_readsRock_75, eM_readsRock_78, eM_readsRock_80, eM_readsRock_83, eM_readsRock_84, eM_readsRock_87, eM_readsRock_89, eM_readsRock_90, eM_readsRock_93, eM_readsRock_94, eM_readsRock_97, eM_readsRock_98, eM_readsRock_99, eM_readsRock_101, eM_readsRock_102, eM_readsRock_105, eM_readsRock_107, eM_readsRock_110, eM_readsRock_112, eM_readsRock_115, eM_readsRock_117, eM_readsRock_119, eM_readsRock_122, eM_readsRock_123, eM_readsRock_124, eM_readsRock_125, eM_readsRock_126, eM_readsRock_127, eM_readsRock_129, eM_readsRock_130, eM_readsRock_132, eM_readsRock_135, eM_readsRock_138, eq_self, hr_k_some, Option.toList, List.cons_append, List.nil_append, is2k_n, is2k_i, is2k_r, is2k_0, oc_44, ro_m12, ew, e2.trans (eq_false c), g1, if_true, if_false, not_true_eq_false, not_false_eq_true, nI_1]
    exact e5
theorem m_readsRock {b0 kd : Nat} (hn : n < 8) (hV : V t n B) (hT : MTp I bt L) (hl : Mlt I) (hK : MK I J bt L b0) (hH : mh I 45 t n) : ∃ I' J', den nM_readsRock (0, [some (.ref 44), some (.int (nI kd)), none, none, none, none], [], (I, J)) = some (some (.int (zb (rrV bt L t n kd (nxT bt L b0)).1)), (I', J')) ∧ MK I' J' bt L (rrV bt L t n kd (nxT bt L b0)).2.1 ∧ ((rrV bt L t n kd (nxT bt L b0)).1 = true → mh I' 45 (rrV bt L t n kd (nxT bt L b0)).2.2 (n + 1)) ∧ oP I I' J J' := by
  obtain ⟨f0, f1, f2, f3, f4, f5⟩ := mfs hH hV
  have e8 : (nI n = 8) = False := nq (c := 8) (by omega) (by omega) (by decide)
  obtain ⟨I1, J1, e1, K1, n1⟩ := m_nx hK hT
  have T1 := n1.p.tp hT
  have l1 := n1.p.lt hl
  have H1 := n1.mh hH
  generalize nxT bt L b0 = b at *
  have ew := m_w1 K1 T1 l1
  have e2 : (nI (woF bt L 1 b 4) - 1 = 0) = (isWd bt L 9 b = true) := wo_eq (k := 1) (w := 0) (by decide) (by decide)
  unfold rrV
  by_cases c : isWd bt L 9 b = true
  · rw [if_pos c]
    obtain ⟨I2, J2, e3, K2, n2⟩ := m_nx K1 T1
    have T2 := n2.p.tp T1
    have H2 := n2.mh H1
    obtain ⟨I3, J3, e4, K3, n3⟩ := m_take (m := 63) (by decide) K2 T2
    have e4' : den nM_takesNumber (0, [some (.ref 44), some (.int 0), some (.int 63), none], [], (I2, J2)) = some (some (.int (if isNo bt L 63 (nxT bt L b) = true then nI (vlT bt L (nxT bt L b)) else -1)), (I3, J3)) := e4
    have H3 := n3.mh H2
    by_cases c2 : isNo bt L 63 (nxT bt L b) = true
    · rw [if_pos c2] at e4' K3 ⊢
      have hv := isNo_le c2
      have g5 := (mfs H3 hV).2.2.2.2.2
      obtain ⟨I4, e5, H4, o4⟩ := m_adds (J := J3) (kd := kd) (sq := vlT bt L (nxT bt L b)) hn g5 H3
      have p4 := ((n1.p.trans n2.p).trans n3.p).trans (o4.p (J := J3))
      obtain ⟨I5, J5, e6, K6, H6, p6⟩ := mr_horn (x1 := nI kd) (x2 := nI (vlT bt L (nxT bt L b))) (x5 := none) hn (by unfold adV; rw [upV_ne (by omega), upV_same]) (p4.tp hT) (p4.lt hl) (K3.r o4) H4
      have e6' : den nM_readsRock (64, [some (.ref 44), some (.int (nI kd)), some (.int (nI (vlT bt L (nxT bt L b)))), some (.int (nI n)), some (.int 1), none], [], (I4, J3)) = _ := e6
      refine ⟨I5, J5, ?_, K6, H6, p4.trans p6⟩
      simp only [eM_readsRock_0, eM_readsRock_1, eM_readsRock_4, eM_readsRock_5, eM_readsRock_6, eM_readsRock_8, eM_readsRock_11, eM_readsRock_12, eM_readsRock_13, eM_readsRock_14, eM_readsRock_17, eM_readsRock_18, eM_readsRock_19, eM_readsRock_22, eM_readsRock_25, eM_readsRock_28, eM_readsRock_29, eM_readsRock_30, eM_readsRock_31, eM_readsRock_34, eM_readsRock_35, eM_readsRock_36, eM_readsRock_38, eM_readsRock_41, eM_readsRock_42, eM_readsRock_43, eM_readsRock_46, eM_readsRock_47, eM_readsRock_48, eM_readsRock_49, eM_readsRock_52, eM_readsRock_53, eM_readsRock_54, eM_readsRock_55, eM_readsRock_56, eM_readsRock_57, eM_readsRock_58, eM_readsRock_61, eM_readsRock_62, eq_self, hr_k_some, Option.toList, List.cons_append, List.nil_append, is2k_n, is2k_i, is2k_r, is2k_0, oc_44, ro_m0, ro_m1, ro_m2, ro_m4, ro_m5, ro_m11, ro_m12, ro_m13, ro_m14, ro_m15, ro_m16, ro_m17, ak_45, ak_46, ak_47, ak_48, ak_49, ak_50, ak_51, ak_52, ak_53, ak_54, ak_55, ak_56, al_45, al_46, al_47, al_48, al_49, al_50, al_51, al_52, al_53, al_54, al_55, al_56, l45, l46, l47, l48, l49, l50, l51, l52, l53, l54, a45, a46, a47, a48, a49, a50, a51, a52, a53, a54, in46_0, in46_1, in46_2, in46_3, in46_4, in46_5, cn_0, cn_1, cn_2, cn_3, cn_4, cn_5, i10, i01, zb_t, zb_f, not_true_eq_false, not_false_eq_true, if_true, if_false, true_or, sp_in1, md_1, md_6, md_5, f5, e8, e1, ew, e2.trans (eq_true c), e3, e4', pos_nlt (show vlT bt L (nxT bt L b) < 2 ^ 31 by omega), g5, e5]
      exact e6'
    · rw [if_neg c2] at e4' K3 ⊢
      refine ⟨I3, J3, ?_, K3, (fun q => by cases q), (n1.p.trans n2.p).trans n3.p⟩
      simp only [eM_readsRock_0, eM_readsRock_1, eM_readsRock_4, eM_readsRock_5, eM_readsRock_6, eM_readsRock_8, eM_readsRock_11, eM_readsRock_12, eM_readsRock_13, eM_readsRock_14, eM_readsRock_17, eM_readsRock_18, eM_readsRock_19, eM_readsRock_22, eM_readsRock_25, eM_readsRock_28, eM_readsRock_29, eM_readsRock_30, eM_readsRock_31, eM_readsRock_34, eM_readsRock_35, eM_readsRock_36, eM_readsRock_38, eM_readsRock_41, eM_readsRock_42, eM_readsRock_43, eM_readsRock_46, eM_readsRock_47, eM_readsRock_48, eM_readsRock_49, eM_readsRock_52, eM_readsRock_53, eM_readsRock_54, eM_readsRock_55, eM_readsRock_56, eM_readsRock_57, eM_readsRock_58, eM_readsRock_61, eM_readsRock_62, eq_self, hr_k_some, Option.toList, List.cons_append, List.nil_append, is2k_n, is2k_i, is2k_r, is2k_0, oc_44, ro_m0, ro_m1, ro_m2, ro_m4, ro_m5, ro_m11, ro_m12, ro_m13, ro_m14, ro_m15, ro_m16, ro_m17, ak_45, ak_46, ak_47, ak_48, ak_49, ak_50, ak_51, ak_52, ak_53, ak_54, ak_55, ak_56, al_45, al_46, al_47, al_48, al_49, al_50, al_51, al_52, al_53, al_54, al_55, al_56, l45, l46, l47, l48, l49, l50, l51, l52, l53, l54, a45, a46, a47, a48, a49, a50, a51, a52, a53, a54, in46_0, in46_1, in46_2, in46_3, in46_4, in46_5, cn_0, cn_1, cn_2, cn_3, cn_4, cn_5, i10, i01, zb_t, zb_f, not_true_eq_false, not_false_eq_true, if_true, if_false, true_or, sp_in1, md_1, md_6, md_5, f5, e8, e1, ew, e2.trans (eq_true c), e3, e4', neg_lt, zb_n0]
  · rw [if_neg c]
    refine ⟨I1, J1, ?_, K1, (fun q => by cases q), n1.p⟩
    simp only [eM_readsRock_0, eM_readsRock_1, eM_readsRock_4, eM_readsRock_5, eM_readsRock_6, eM_readsRock_8, eM_readsRock_11, eM_readsRock_12, eM_readsRock_13, eM_readsRock_14, eM_readsRock_17, eM_readsRock_18, eM_readsRock_19, eM_readsRock_22, eM_readsRock_25, eM_readsRock_28, eM_readsRock_29, eM_readsRock_30, eM_readsRock_31, eM_readsRock_34, eM_readsRock_35, eM_readsRock_36, eM_readsRock_38, eM_readsRock_41, eM_readsRock_42, eM_readsRock_43, eM_readsRock_46, eM_readsRock_47, eM_readsRock_48, eM_readsRock_49, eM_readsRock_52, eM_readsRock_53, eM_readsRock_54, eM_readsRock_55, eM_readsRock_56, eM_readsRock_57, eM_readsRock_58, eM_readsRock_61, eM_readsRock_62, eq_self, hr_k_some, Option.toList, List.cons_append, List.nil_append, is2k_n, is2k_i, is2k_r, is2k_0, oc_44, ro_m0, ro_m1, ro_m2, ro_m4, ro_m5, ro_m11, ro_m12, ro_m13, ro_m14, ro_m15, ro_m16, ro_m17, ak_45, ak_46, ak_47, ak_48, ak_49, ak_50, ak_51, ak_52, ak_53, ak_54, ak_55, ak_56, al_45, al_46, al_47, al_48, al_49, al_50, al_51, al_52, al_53, al_54, al_55, al_56, l45, l46, l47, l48, l49, l50, l51, l52, l53, l54, a45, a46, a47, a48, a49, a50, a51, a52, a53, a54, in46_0, in46_1, in46_2, in46_3, in46_4, in46_5, cn_0, cn_1, cn_2, cn_3, cn_4, cn_5, i10, i01, zb_t, zb_f, not_true_eq_false, not_false_eq_true, if_true, if_false, true_or, sp_in1, md_1, md_6, md_5, f5, e8, e1, ew, e2.trans (eq_false c), zb_n0]
/-! an item -/
theorem m_readsItem {b : Nat} (hV : V t n B) (hT : MTp I bt L) (hl : Mlt I) (hK : MK I J bt L b) (hH : mh I 45 t n) : ∃ I' J', den nM_readsItem (0, [some (.ref 44), none], [], (I, J)) = some (some (.int (zb (riV bt L t n b).1)), (I', J')) ∧ MK I' J' bt L (riV bt L t n b).2.1 ∧ ((riV bt L t n b).1 = true → mh I' 45 (riV bt L t n b).2.2.1 (riV bt L t n b).2.2.2) ∧ oP I I' J J' := by
  obtain ⟨f0, f1, f2, f3, f4, f5⟩ := mfs hH hV
  have hn := hV.2.1
  have e0 := m_w0 hK hT hl
  have e2 := m_w2 hK hT hl
  have es : (nI (woF bt L 2 b 3) - 1 = 0) = (isWd bt L 0 b = true) := wo_eq (k := 2) (w := 0) (by decide) (by decide)
  have hk6 : knV bt L b ≤ 6 := knF_le _ _ (by decide)
  rw [kn_wo] at e0
  unfold riV
  by_cases c0 : isWd bt L 0 b = true
  · rw [if_pos c0]
    have k6 : knV bt L b = 6 := by
      have hh := kn_wo (bt := bt) (L := L) (b := b)
      by_cases q : knV bt L b = 6
      · exact q
      · rw [if_neg q] at hh
        have : woF bt L 0 b (AW 0) = knV bt L b + 1 := hh
        rw [woF_eq (bt := bt) (L := L) (b := b) (k := 0) (by decide) (AW 0) (Nat.le_refl _) (knV bt L b) (show knV bt L b < 6 by omega)] at this
        have h0 := isWd_inj (wid_lt 0 (by decide) (knV bt L b) (show knV bt L b < 6 by omega)) (by decide) this c0
        have hne : ∀ k, k < 6 → wid 0 k ≠ 0 := by decide
        exact absurd h0 (hne _ (by omega))
    rw [if_pos k6] at e0
    obtain ⟨I1, J1, e3, K1, H1, p1⟩ := m_readsShip hT hl hK hH
    have en : (nI 0 - 1 < (0 : Int32)) = True := eq_true (by decide)
    refine ⟨I1, J1, ?_, K1, H1, p1⟩
    show den nM_readsItem (0, [some (.ref 44), none], [], (I, J)) = some (some (.int (zb (rsV bt L t (nxT bt L b)).1)), (I1, J1))
    cases cr : (rsV bt L t (nxT bt L b)).1 with
    | true =>
      rw [cr] at e3
      simp only [eM_readsItem_0, eM_readsItem_1, eM_readsItem_2, eM_readsItem_5, eM_readsItem_8, eM_readsItem_9, eM_readsItem_10, eM_readsItem_13, eM_readsItem_14, eM_readsItem_15, eM_readsItem_18, eM_readsItem_21, eM_readsItem_22, eM_readsItem_23, eM_readsItem_26, eM_readsItem_29, eM_readsItem_32, eM_readsItem_33, eM_readsItem_36, eM_readsItem_39, eM_readsItem_40, eM_readsItem_43, eM_readsItem_44, eq_self, hr_k_some, Option.toList, List.cons_append, List.nil_append, is2k_n, is2k_i, is2k_r, is2k_0, oc_44, ro_m0, ro_m1, ro_m2, ro_m4, ro_m5, ro_m11, ro_m12, ro_m13, ro_m14, ro_m15, ro_m16, ro_m17, ak_45, ak_46, ak_47, ak_48, ak_49, ak_50, ak_51, ak_52, ak_53, ak_54, ak_55, ak_56, al_45, al_46, al_47, al_48, al_49, al_50, al_51, al_52, al_53, al_54, al_55, al_56, l45, l46, l47, l48, l49, l50, l51, l52, l53, l54, a45, a46, a47, a48, a49, a50, a51, a52, a53, a54, in46_0, in46_1, in46_2, in46_3, in46_4, in46_5, cn_0, cn_1, cn_2, cn_3, cn_4, cn_5, i10, i01, zb_t, zb_f, not_true_eq_false, not_false_eq_true, if_true, if_false, true_or, sp_in1, md_1, md_6, md_5, e0, en, e2, es.trans (eq_true c0), e3, zb_n1]
    | false =>
      rw [cr] at e3
      simp only [eM_readsItem_0, eM_readsItem_1, eM_readsItem_2, eM_readsItem_5, eM_readsItem_8, eM_readsItem_9, eM_readsItem_10, eM_readsItem_13, eM_readsItem_14, eM_readsItem_15, eM_readsItem_18, eM_readsItem_21, eM_readsItem_22, eM_readsItem_23, eM_readsItem_26, eM_readsItem_29, eM_readsItem_32, eM_readsItem_33, eM_readsItem_36, eM_readsItem_39, eM_readsItem_40, eM_readsItem_43, eM_readsItem_44, eq_self, hr_k_some, Option.toList, List.cons_append, List.nil_append, is2k_n, is2k_i, is2k_r, is2k_0, oc_44, ro_m0, ro_m1, ro_m2, ro_m4, ro_m5, ro_m11, ro_m12, ro_m13, ro_m14, ro_m15, ro_m16, ro_m17, ak_45, ak_46, ak_47, ak_48, ak_49, ak_50, ak_51, ak_52, ak_53, ak_54, ak_55, ak_56, al_45, al_46, al_47, al_48, al_49, al_50, al_51, al_52, al_53, al_54, al_55, al_56, l45, l46, l47, l48, l49, l50, l51, l52, l53, l54, a45, a46, a47, a48, a49, a50, a51, a52, a53, a54, in46_0, in46_1, in46_2, in46_3, in46_4, in46_5, cn_0, cn_1, cn_2, cn_3, cn_4, cn_5, i10, i01, zb_t, zb_f, not_true_eq_false, not_false_eq_true, if_true, if_false, true_or, sp_in1, md_1, md_6, md_5, e0, en, e2, es.trans (eq_true c0), e3, zb_n0]
  · rw [if_neg c0]
    by_cases c6 : knV bt L b = 6
    · rw [if_pos (Or.inl c6)]
      rw [if_pos c6] at e0
      have en : (nI 0 - 1 < (0 : Int32)) = True := eq_true (by decide)
      refine ⟨I, J, ?_, hK, (fun q => by cases q), oP.rfl⟩
      simp only [eM_readsItem_0, eM_readsItem_1, eM_readsItem_2, eM_readsItem_5, eM_readsItem_8, eM_readsItem_9, eM_readsItem_10, eM_readsItem_13, eM_readsItem_14, eM_readsItem_15, eM_readsItem_18, eM_readsItem_21, eM_readsItem_22, eM_readsItem_23, eM_readsItem_26, eM_readsItem_29, eM_readsItem_32, eM_readsItem_33, eM_readsItem_36, eM_readsItem_39, eM_readsItem_40, eM_readsItem_43, eM_readsItem_44, eq_self, hr_k_some, Option.toList, List.cons_append, List.nil_append, is2k_n, is2k_i, is2k_r, is2k_0, oc_44, ro_m0, ro_m1, ro_m2, ro_m4, ro_m5, ro_m11, ro_m12, ro_m13, ro_m14, ro_m15, ro_m16, ro_m17, ak_45, ak_46, ak_47, ak_48, ak_49, ak_50, ak_51, ak_52, ak_53, ak_54, ak_55, ak_56, al_45, al_46, al_47, al_48, al_49, al_50, al_51, al_52, al_53, al_54, al_55, al_56, l45, l46, l47, l48, l49, l50, l51, l52, l53, l54, a45, a46, a47, a48, a49, a50, a51, a52, a53, a54, in46_0, in46_1, in46_2, in46_3, in46_4, in46_5, cn_0, cn_1, cn_2, cn_3, cn_4, cn_5, i10, i01, zb_t, zb_f, not_true_eq_false, not_false_eq_true, if_true, if_false, true_or, sp_in1, md_1, md_6, md_5, e0, en, e2, es.trans (eq_false c0), zb_n0]
    · rw [if_neg c6, nI_pred] at e0
      have en := lt0f (show knV bt L b < 2 ^ 31 by omega)
      by_cases c8 : n = 8
      · rw [if_pos (Or.inr c8)]
        have e8 : (nI n = 8) = True := eq_true (by rw [c8]; rfl)
        refine ⟨I, J, ?_, hK, (fun q => by cases q), oP.rfl⟩
        have er : den nM_readsRock (0, [some (.ref 44), some (.int (nI (knV bt L b))), none, none, none, none], [], (I, J)) = some (some (.int 0), (I, J)) := by
          simp only [eM_readsRock_0, eM_readsRock_1, eM_readsRock_4, eM_readsRock_5, eM_readsRock_6, eM_readsRock_8, eM_readsRock_11, eM_readsRock_12, eM_readsRock_13, eM_readsRock_14, eM_readsRock_17, eM_readsRock_18, eM_readsRock_19, eM_readsRock_22, eM_readsRock_25, eM_readsRock_28, eM_readsRock_29, eM_readsRock_30, eM_readsRock_31, eM_readsRock_34, eM_readsRock_35, eM_readsRock_36, eM_readsRock_38, eM_readsRock_41, eM_readsRock_42, eM_readsRock_43, eM_readsRock_46, eM_readsRock_47, eM_readsRock_48, eM_readsRock_49, eM_readsRock_52, eM_readsRock_53, eM_readsRock_54, eM_readsRock_55, eM_readsRock_56, eM_readsRock_57, eM_readsRock_58, eM_readsRock_61, eM_readsRock_62, eq_self, hr_k_some, Option.toList, List.cons_append, List.nil_append, is2k_n, is2k_i, is2k_r, is2k_0, oc_44, ro_m0, ro_m1, ro_m2, ro_m4, ro_m5, ro_m11, ro_m12, ro_m13, ro_m14, ro_m15, ro_m16, ro_m17, ak_45, ak_46, ak_47, ak_48, ak_49, ak_50, ak_51, ak_52, ak_53, ak_54, ak_55, ak_56, al_45, al_46, al_47, al_48, al_49, al_50, al_51, al_52, al_53, al_54, al_55, al_56, l45, l46, l47, l48, l49, l50, l51, l52, l53, l54, a45, a46, a47, a48, a49, a50, a51, a52, a53, a54, in46_0, in46_1, in46_2, in46_3, in46_4, in46_5, cn_0, cn_1, cn_2, cn_3, cn_4, cn_5, i10, i01, zb_t, zb_f, not_true_eq_false, not_false_eq_true, if_true, if_false, true_or, sp_in1, md_1, md_6, md_5, f5, e8, zb_n0]
        simp only [eM_readsItem_0, eM_readsItem_1, eM_readsItem_2, eM_readsItem_5, eM_readsItem_8, eM_readsItem_9, eM_readsItem_10, eM_readsItem_13, eM_readsItem_14, eM_readsItem_15, eM_readsItem_18, eM_readsItem_21, eM_readsItem_22, eM_readsItem_23, eM_readsItem_26, eM_readsItem_29, eM_readsItem_32, eM_readsItem_33, eM_readsItem_36, eM_readsItem_39, eM_readsItem_40, eM_readsItem_43, eM_readsItem_44, eq_self, hr_k_some, Option.toList, List.cons_append, List.nil_append, is2k_n, is2k_i, is2k_r, is2k_0, oc_44, ro_m0, ro_m1, ro_m2, ro_m4, ro_m5, ro_m11, ro_m12, ro_m13, ro_m14, ro_m15, ro_m16, ro_m17, ak_45, ak_46, ak_47, ak_48, ak_49, ak_50, ak_51, ak_52, ak_53, ak_54, ak_55, ak_56, al_45, al_46, al_47, al_48, al_49, al_50, al_51, al_52, al_53, al_54, al_55, al_56, l45, l46, l47, l48, l49, l50, l51, l52, l53, l54, a45, a46, a47, a48, a49, a50, a51, a52, a53, a54, in46_0, in46_1, in46_2, in46_3, in46_4, in46_5, cn_0, cn_1, cn_2, cn_3, cn_4, cn_5, i10, i01, zb_t, zb_f, not_true_eq_false, not_false_eq_true, if_true, if_false, true_or, sp_in1, md_1, md_6, md_5, e0, en, er, zb_n0]
      · rw [if_neg (fun q => q.elim c6 c8)]
        obtain ⟨I1, J1, e3, K1, H1, p1⟩ := m_readsRock (kd := knV bt L b) (show n < 8 by omega) hV hT hl hK hH
        refine ⟨I1, J1, ?_, K1, H1, p1⟩
        simp only [eM_readsItem_0, eM_readsItem_1, eM_readsItem_2, eM_readsItem_5, eM_readsItem_8, eM_readsItem_9, eM_readsItem_10, eM_readsItem_13, eM_readsItem_14, eM_readsItem_15, eM_readsItem_18, eM_readsItem_21, eM_readsItem_22, eM_readsItem_23, eM_readsItem_26, eM_readsItem_29, eM_readsItem_32, eM_readsItem_33, eM_readsItem_36, eM_readsItem_39, eM_readsItem_40, eM_readsItem_43, eM_readsItem_44, eq_self, hr_k_some, Option.toList, List.cons_append, List.nil_append, is2k_n, is2k_i, is2k_r, is2k_0, oc_44, ro_m0, ro_m1, ro_m2, ro_m4, ro_m5, ro_m11, ro_m12, ro_m13, ro_m14, ro_m15, ro_m16, ro_m17, ak_45, ak_46, ak_47, ak_48, ak_49, ak_50, ak_51, ak_52, ak_53, ak_54, ak_55, ak_56, al_45, al_46, al_47, al_48, al_49, al_50, al_51, al_52, al_53, al_54, al_55, al_56, l45, l46, l47, l48, l49, l50, l51, l52, l53, l54, a45, a46, a47, a48, a49, a50, a51, a52, a53, a54, in46_0, in46_1, in46_2, in46_3, in46_4, in46_5, cn_0, cn_1, cn_2, cn_3, cn_4, cn_5, i10, i01, zb_t, zb_f, not_true_eq_false, not_false_eq_true, if_true, if_false, true_or, sp_in1, md_1, md_6, md_5, e0, en, e3, zb_nar]
end
