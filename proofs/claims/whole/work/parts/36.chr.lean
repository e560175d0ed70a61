/-! ===== the call chart ===== -/
def rcR (r : Bool × Nat × (Nat → Nat) × Nat) : Int32 := if r.1 = true then nI r.2.1 else -1 - nI r.2.1
section
variable {I I' I'' : Nat → Nat → Int32} {J J' : Nat → Nat → Int64} {bt : Nat → Nat} {L : Nat} {t t' : Nat → Nat} {n B : Nat} {kp m : Nat} {u : Nat → Nat} {y : Nat → Int32} {w z : Nat → Nat} {num : Nat → Nat → Int64}
theorem rcV_s {d i b : Nat} : rcV bt L (d + 1) i b t n = (if (riV bt L t n b).1 = true then
      if kdT bt L (riV bt L t n b).2.1 = 0 then (true, i, (riV bt L t n b).2.2.1, (riV bt L t n b).2.2.2)
      else if kdT bt L (riV bt L t n b).2.1 = 3 then rcV bt L d (i + 1) (nxT bt L (riV bt L t n b).2.1) (riV bt L t n b).2.2.1 (riV bt L t n b).2.2.2
      else (false, (riV bt L t n b).2.1, t, n)
    else (false, (riV bt L t n b).2.1, t, n)) := rfl
theorem kdT_lt {b : Nat} : kdT bt L b < 5 := by
  unfold kdT
  repeat' split
  all_goals omega
theorem rc_loop : ∀ (d i b : Nat) (t : Nat → Nat) (n : Nat) (I : Nat → Nat → Int32), i + d = 121 → V t n B → Tp I bt L → Tk I bt L b → hold I 11 t n → ∃ I', den nT_readChart (11, [some (.ref 32), some (.ref 11), some (.int (nI i))], [], (I, J)) = some (some (.int (rcR (rcV bt L d i b t n))), (I', J)) ∧ ((rcV bt L d i b t n).1 = true → hold I' 11 (rcV bt L d i b t n).2.2.1 (rcV bt L d i b t n).2.2.2 ∧ V (rcV bt L d i b t n).2.2.1 (rcV bt L d i b t n).2.2.2 B ∧ (rcV bt L d i b t n).2.1 ≤ 120) ∧ ((rcV bt L d i b t n).1 = false → (rcV bt L d i b t n).2.1 ≤ 120) ∧ oX I I' := by
  intro d
  induction d with
  | zero =>
    intro i b t n I hi hV hT hK hH
    have hL := hT.2.1
    have hi' : i = 121 := by omega
    subst hi'
    have e1 : ((120 : Int32) < nI 121) = True := eq_true (by decide)
    refine ⟨I, ?_, (fun q => by cases q), (fun _ => Nat.le_trans hK.1 hL), oX.rfl⟩
    simp only [eT_readChart_0, eT_readChart_1, eT_readChart_2, eT_readChart_5, eT_readChart_6, eT_readChart_9, eT_readChart_10, eT_readChart_11, eT_readChart_12, eT_readChart_14, eT_readChart_17, eT_readChart_18, eT_readChart_19, eT_readChart_22, eT_readChart_25, eT_readChart_26, eT_readChart_27, eT_readChart_30, eT_readChart_31, eT_readChart_32, eT_readChart_33, eT_readChart_36, eT_readChart_39, eT_readChart_40, eT_readChart_41, eT_readChart_42, eT_readChart_45, eT_readChart_46, eT_readChart_49, eT_readChart_50, eT_readChart_51, eT_readChart_54, eT_readChart_55, eT_readChart_56, eT_readChart_57, eT_readChart_60, eT_readChart_63, eT_readChart_66, eT_readChart_67, eT_readChart_68, eT_readChart_71, eT_readChart_72, eq_self, hr_k_some, Option.toList, List.cons_append, List.nil_append, is2k_n, is2k_i, is2k_r, is2k_0, oc_0, ro_00, ro_01, ro_02, ro_04, ro_05, ro_06, ro_07, oc_1, oc_11, oc_21, oc_31, oc_32, ro_16, ro_b6, ak_2, ak_12, al_2, al_12, ra_2, ra_12, i10, i01, zb_t, zb_f, not_true_eq_false, not_false_eq_true, if_true, if_false, sp_found0, sp_found1, sp_found2, sp_found3, sp_found4, sp_found5, sp_found6, true_or, e1, hK.2.2.1]
    rfl
  | succ d ih =>
    intro i b t n I hi hV hT hK hH
    have hL := hT.2.1
    have e1 : ((120 : Int32) < nI i) = False := gtF (a := 120) (by omega) (by decide)
    obtain ⟨I1, g1, k1, h1, o1⟩ := sp_readItem (J := J) hV hT hK hH
    have hT1 := o1.tp hT
    have hb := k1.1
    have hk5 : kdT bt L (riV bt L t n b).2.1 < 5 := kdT_lt
    have ez : (nI (kdT bt L (riV bt L t n b).2.1) = 0) = (kdT bt L (riV bt L t n b).2.1 = 0) := nI_lit _ 0 (by omega) (by decide)
    have e3 : (nI (kdT bt L (riV bt L t n b).2.1) = 3) = (kdT bt L (riV bt L t n b).2.1 = 3) := nI_lit _ 3 (by omega) (by decide)
    rw [rcV_s, eT_readChart_11]
    by_cases c1 : (riV bt L t n b).1 = true
    · rw [c1] at g1
      by_cases c2 : kdT bt L (riV bt L t n b).2.1 = 0
      · rw [if_pos c1, if_pos c2]
        refine ⟨I1, ?_, (fun _ => ⟨h1 c1, riV_V hV c1, by show i ≤ 120; omega⟩), (fun q => by cases q), o1⟩
        simp only [eT_readChart_12, eT_readChart_14, eT_readChart_17, eT_readChart_18, eT_readChart_19, eT_readChart_22, eT_readChart_25, eT_readChart_26, eT_readChart_27, eT_readChart_30, eT_readChart_31, eT_readChart_32, eT_readChart_33, eT_readChart_36, eT_readChart_39, eT_readChart_40, eT_readChart_41, eT_readChart_42, eT_readChart_45, eT_readChart_46, eT_readChart_49, eT_readChart_50, eT_readChart_51, eT_readChart_54, eT_readChart_55, eT_readChart_56, eT_readChart_57, eT_readChart_60, eT_readChart_63, eT_readChart_66, eT_readChart_67, eT_readChart_68, eT_readChart_71, eT_readChart_72, eq_self, hr_k_some, Option.toList, List.cons_append, List.nil_append, is2k_n, is2k_i, is2k_r, is2k_0, oc_0, ro_00, ro_01, ro_02, ro_04, ro_05, ro_06, ro_07, oc_1, oc_11, oc_21, oc_31, oc_32, ro_16, ro_b6, ak_2, ak_12, al_2, al_12, ra_2, ra_12, i10, i01, zb_t, zb_f, not_true_eq_false, not_false_eq_true, if_true, if_false, sp_found0, sp_found1, sp_found2, sp_found3, sp_found4, sp_found5, sp_found6, true_or, e1, g1, k1.2.1, ez.trans (eq_true c2)]
        rfl
      · by_cases c3 : kdT bt L (riV bt L t n b).2.1 = 3
        · rw [if_pos c1, if_neg c2, if_pos c3]
          obtain ⟨I2, g2, k2, o2⟩ := sp_advance (J := J) (enT_le (bt := bt) k1.1).2 hT1 k1.2.2.2.1
          have hn2 := (riV_V hV c1).2.1
          obtain ⟨I3, g3, h3, h4, o3⟩ := ih (i + 1) (nxT bt L (riV bt L t n b).2.1) _ _ I2 (by omega) (riV_V hV c1) (o2.tp hT1) k2 (o2.hold (h1 c1) hn2)
          refine ⟨I3, ?_, h3, h4, o1.trans (o2.x.trans o3)⟩
          simp only [eT_readChart_12, eT_readChart_14, eT_readChart_17, eT_readChart_18, eT_readChart_19, eT_readChart_22, eT_readChart_25, eT_readChart_26, eT_readChart_27, eT_readChart_30, eT_readChart_31, eT_readChart_32, eT_readChart_33, eT_readChart_36, eT_readChart_39, eT_readChart_40, eT_readChart_41, eT_readChart_42, eT_readChart_45, eT_readChart_46, eT_readChart_49, eT_readChart_50, eT_readChart_51, eT_readChart_54, eT_readChart_55, eT_readChart_56, eT_readChart_57, eT_readChart_60, eT_readChart_63, eT_readChart_66, eT_readChart_67, eT_readChart_68, eT_readChart_71, eT_readChart_72, eq_self, hr_k_some, Option.toList, List.cons_append, List.nil_append, is2k_n, is2k_i, is2k_r, is2k_0, oc_0, ro_00, ro_01, ro_02, ro_04, ro_05, ro_06, ro_07, oc_1, oc_11, oc_21, oc_31, oc_32, ro_16, ro_b6, ak_2, ak_12, al_2, al_12, ra_2, ra_12, i10, i01, zb_t, zb_f, not_true_eq_false, not_false_eq_true, if_true, if_false, sp_found0, sp_found1, sp_found2, sp_found3, sp_found4, sp_found5, sp_found6, true_or, e1, g1, k1.2.1, ez.trans (eq_false c2), e3.trans (eq_true c3), g2, nI_1]
          exact g3
        · rw [if_pos c1, if_neg c2, if_neg c3]
          refine ⟨I1, ?_, (fun q => by cases q), (fun _ => Nat.le_trans hb hL), o1⟩
          simp only [eT_readChart_12, eT_readChart_14, eT_readChart_17, eT_readChart_18, eT_readChart_19, eT_readChart_22, eT_readChart_25, eT_readChart_26, eT_readChart_27, eT_readChart_30, eT_readChart_31, eT_readChart_32, eT_readChart_33, eT_readChart_36, eT_readChart_39, eT_readChart_40, eT_readChart_41, eT_readChart_42, eT_readChart_45, eT_readChart_46, eT_readChart_49, eT_readChart_50, eT_readChart_51, eT_readChart_54, eT_readChart_55, eT_readChart_56, eT_readChart_57, eT_readChart_60, eT_readChart_63, eT_readChart_66, eT_readChart_67, eT_readChart_68, eT_readChart_71, eT_readChart_72, eq_self, hr_k_some, Option.toList, List.cons_append, List.nil_append, is2k_n, is2k_i, is2k_r, is2k_0, oc_0, ro_00, ro_01, ro_02, ro_04, ro_05, ro_06, ro_07, oc_1, oc_11, oc_21, oc_31, oc_32, ro_16, ro_b6, ak_2, ak_12, al_2, al_12, ra_2, ra_12, i10, i01, zb_t, zb_f, not_true_eq_false, not_false_eq_true, if_true, if_false, sp_found0, sp_found1, sp_found2, sp_found3, sp_found4, sp_found5, sp_found6, true_or, e1, g1, k1.2.1, ez.trans (eq_false c2), e3.trans (eq_false c3), k1.2.2.1]
          rfl
    · have c1' : (riV bt L t n b).1 = false := Bool.not_eq_true _ ▸ c1
      rw [c1'] at g1
      rw [if_neg c1]
      refine ⟨I1, ?_, (fun q => by cases q), (fun _ => Nat.le_trans hb hL), o1⟩
      simp only [eT_readChart_12, eT_readChart_14, eT_readChart_17, eT_readChart_18, eT_readChart_19, eT_readChart_22, eT_readChart_25, eT_readChart_26, eT_readChart_27, eT_readChart_30, eT_readChart_31, eT_readChart_32, eT_readChart_33, eT_readChart_36, eT_readChart_39, eT_readChart_40, eT_readChart_41, eT_readChart_42, eT_readChart_45, eT_readChart_46, eT_readChart_49, eT_readChart_50, eT_readChart_51, eT_readChart_54, eT_readChart_55, eT_readChart_56, eT_readChart_57, eT_readChart_60, eT_readChart_63, eT_readChart_66, eT_readChart_67, eT_readChart_68, eT_readChart_71, eT_readChart_72, eq_self, hr_k_some, Option.toList, List.cons_append, List.nil_append, is2k_n, is2k_i, is2k_r, is2k_0, oc_0, ro_00, ro_01, ro_02, ro_04, ro_05, ro_06, ro_07, oc_1, oc_11, oc_21, oc_31, oc_32, ro_16, ro_b6, ak_2, ak_12, al_2, al_12, ra_2, ra_12, i10, i01, zb_t, zb_f, not_true_eq_false, not_false_eq_true, if_true, if_false, sp_found0, sp_found1, sp_found2, sp_found3, sp_found4, sp_found5, sp_found6, true_or, e1, g1, k1.2.2.1]
      rfl
/-- the whole chart -/
def rdV (bt : Nat → Nat) (L : Nat) (t : Nat → Nat) (n : Nat) : Bool × Nat × (Nat → Nat) × Nat := rcV bt L 120 1 (bgT bt L 0) t n
theorem sp_readChart (hV : V t n B) (hT : Tp I bt L) (hH : hold I 11 t n) : ∃ I', den nT_readChart (0, [some (.ref 32), some (.ref 11), none], [], (I, J)) = some (some (.int (rcR (rdV bt L t n))), (I', J)) ∧ ((rdV bt L t n).1 = true → hold I' 11 (rdV bt L t n).2.2.1 (rdV bt L t n).2.2.2 ∧ V (rdV bt L t n).2.2.1 (rdV bt L t n).2.2.2 B ∧ (rdV bt L t n).2.1 ≤ 120) ∧ ((rdV bt L t n).1 = false → (rdV bt L t n).2.1 ≤ 120) ∧ oX I I' := by
  have o0 : oF 4 I (up2 I 32 4 (nI 0)) := oF.up
  have o0 := o0.t (by decide)
  obtain ⟨I1, e1, k1, o1⟩ := sp_advance (J := J) (e := 0) (by omega) (o0.tp hT) up2_eq
  have o01 := o0.trans o1
  obtain ⟨I2, e2, h2, h3, o2⟩ := rc_loop (J := J) 120 1 _ t n I1 (by omega) hV (o01.tp hT) k1 (o01.hold hH hV.2.1)
  refine ⟨I2, ?_, h2, h3, o01.x.trans o2⟩
  have e1 : den nT_advance (0, [some (.ref 32)], [], (up2 I 32 4 0, J)) = some (none, (I1, J)) := e1
  simp only [eT_readChart_0, eT_readChart_1, eT_readChart_2, eT_readChart_5, eT_readChart_6, eT_readChart_9, eT_readChart_10, eq_self, hr_k_some, Option.toList, List.cons_append, List.nil_append, is2k_n, is2k_i, is2k_r, is2k_0, oc_0, ro_00, ro_01, ro_02, ro_04, ro_05, ro_06, ro_07, oc_1, oc_11, oc_21, oc_31, oc_32, ro_16, ro_b6, ak_2, ak_12, al_2, al_12, ra_2, ra_12, i10, i01, zb_t, zb_f, not_true_eq_false, not_false_eq_true, if_true, if_false, sp_found0, sp_found1, sp_found2, sp_found3, sp_found4, sp_found5, sp_found6, true_or, e1]
  exact e2
theorem Cl.ox (h : Cl I J t n kp u m y bt L w z num) (ho : oX I I') : Cl I' J t n kp u m y bt L w z num := by
  obtain ⟨h1, h2, ⟨h3, h4, h5⟩, h6, hT, h10⟩ := h
  refine ⟨h1.congr (fun b _ _ j => ho b j (by omega) (by omega)) h2.2.1, h2, ⟨by rw [ho 0 3 (by omega) (by omega)]; exact h3, h4, fun hk => ?_⟩, fun j hj => by rw [ho 43 j (by omega) (by omega)]; exact h6 j hj, ho.tp hT, fun s hs => ?_⟩
  · obtain ⟨g1, g2⟩ := h5 hk
    exact ⟨g1.congr (fun b _ _ j => ho b j (by omega) (by omega)) g2.2.1, g2⟩
  · obtain ⟨a1, a2, a3, a4, a5⟩ := h10 s hs
    exact ⟨by rw [ho _ _ (by omega) (by omega)]; exact a1, a2, by rw [ho _ _ (by omega) (by omega)]; exact a3, a4, a5⟩
theorem Cl.wipe (h : Cl I J t n kp u m y bt L w z num) : Cl (up2 I 32 1 0) J t n kp u m y bt 0 w z num := h.tape ⟨up2_eq, by omega, fun j hj => by omega⟩ (fun b hb _ j => up2_na hb)
theorem X_chart_all (h : Cl I J t n kp u m y bt L w z num) : XR nX_chart [some (.ref 0), none] I J (.int (rcR (rdV bt L t n))) (fun I' J' => Cl I' J' (if (rdV bt L t n).1 = true then (rdV bt L t n).2.2.1 else t) (if (rdV bt L t n).1 = true then (rdV bt L t n).2.2.2 else n) kp u m y bt 0 w z num) := by
  have hT : Tp I bt L := h.2.2.2.2.1
  have o1 := (try_off h).x
  obtain ⟨I2, e2, h2, h3, o2⟩ := sp_readChart (J := J) h.2.1 (o1.tp hT) (try_hold h)
  have o12 := o1.trans o2
  have hc := h.ox o12
  have hfr : ∀ b, 44 ≤ b → ∀ j, I2 b j = I b j := fun b hb j => o12 b j (by omega) (by omega)
  by_cases c : (rdV bt L t n).1 = true
  · obtain ⟨g1, g2, g3⟩ := h2 c
    have g5 : I2 11 5 = nI (rdV bt L t n).2.2.2 := by rw [g1.1.2.2.2.2.2, g2.1]
    have eb := sp_become (I := I2) (J := J) (b := 1) (c := 11) is1 is11 (by decide) g2.2.1 g5
    have ho := bI_off (I := I2) (b := 1) (c := 11) (rdV bt L t n).2.2.2 g2.2.1
    have hh : hold (bI I2 1 11 (rdV bt L t n).2.2.2) 1 (rdV bt L t n).2.2.1 (rdV bt L t n).2.2.2 := bI_hold g1
    rw [if_pos c, if_pos c]
    refine ⟨up2 (bI I2 1 11 (rdV bt L t n).2.2.2) 32 1 0, J, ?_, fun b hb j => ⟨by rw [up2_na (by omega), ho b (by omega)]; exact hfr b hb j, rfl⟩, (hc.move (offX.of1 ho) hh g2).wipe⟩
    have er : rcR (rdV bt L t n) = nI (rdV bt L t n).2.1 := if_pos c
    rw [er] at e2 ⊢
    simp only [eX_chart_0, eX_chart_1, eX_chart_4, eX_chart_5, eX_chart_8, eX_chart_9, eX_chart_12, eX_chart_15, eX_chart_16, eX_chart_17, eX_chart_20, eX_chart_21, eX_chart_24, eX_chart_25, eX_chart_28, eX_chart_31, eX_chart_32, eX_chart_35, eX_chart_36, eX_chart_39, eX_chart_40, eq_self, hr_k_some, Option.toList, List.cons_append, List.nil_append, is2k_n, is2k_i, is2k_r, is2k_0, oc_0, ro_00, ro_01, ro_02, ro_04, ro_05, ro_06, ro_07, oc_1, oc_11, oc_21, oc_31, oc_32, ro_16, ro_b6, ak_2, ak_12, al_2, al_12, ra_2, ra_12, i10, i01, zb_t, zb_f, not_true_eq_false, not_false_eq_true, if_true, if_false, sp_found0, sp_found1, sp_found2, sp_found3, sp_found4, sp_found5, sp_found6, true_or, sp_try h, e2, lt0f (show (rdV bt L t n).2.1 < 2 ^ 31 by omega), eb]
  · have c' : (rdV bt L t n).1 = false := Bool.not_eq_true _ ▸ c
    have g3 := h3 c'
    rw [if_neg c, if_neg c]
    refine ⟨up2 I2 32 1 0, J, ?_, fun b hb j => ⟨by rw [up2_na (by omega)]; exact hfr b hb j, rfl⟩, hc.wipe⟩
    have er : rcR (rdV bt L t n) = -1 - nI (rdV bt L t n).2.1 := if_neg c
    have hneg : ∀ k, k < 121 → (-1 - nI k : Int32) < 0 := by decide +kernel
    rw [er] at e2 ⊢
    simp only [eX_chart_0, eX_chart_1, eX_chart_4, eX_chart_5, eX_chart_8, eX_chart_9, eX_chart_12, eX_chart_15, eX_chart_16, eX_chart_17, eX_chart_20, eX_chart_21, eX_chart_24, eX_chart_25, eX_chart_28, eX_chart_31, eX_chart_32, eX_chart_35, eX_chart_36, eX_chart_39, eX_chart_40, eq_self, hr_k_some, Option.toList, List.cons_append, List.nil_append, is2k_n, is2k_i, is2k_r, is2k_0, oc_0, ro_00, ro_01, ro_02, ro_04, ro_05, ro_06, ro_07, oc_1, oc_11, oc_21, oc_31, oc_32, ro_16, ro_b6, ak_2, ak_12, al_2, al_12, ra_2, ra_12, i10, i01, zb_t, zb_f, not_true_eq_false, not_false_eq_true, if_true, if_false, sp_found0, sp_found1, sp_found2, sp_found3, sp_found4, sp_found5, sp_found6, true_or, sp_try h, e2, eq_true (hneg (rdV bt L t n).2.1 (by omega))]
end
