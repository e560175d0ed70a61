/-! ===== the next token ===== -/
section
variable {I I' : Nat → Nat → Int32} {J J' : Nat → Nat → Int64} {bt : Nat → Nat} {L : Nat}
theorem letter_loop : ∀ (d p : Nat) (I : Nat → Nat → Int32), p + d = L → Tp I bt L → I 32 4 = nI p → ∃ I', den nT_advance (93, [some (.ref 32)], [], (I, J)) = some (none, (I', J)) ∧ I' 32 4 = nI (run isL bt d p) ∧ oF 4 I I' := by
  intro d
  induction d with
  | zero =>
    intro p I hp hT h4
    have hL := hT.2.1
    refine ⟨I, ?_, h4, oF.rfl⟩
    simp only [eT_advance_93, eT_advance_94, eT_advance_97, eT_advance_98, eT_advance_101, eT_advance_104, eT_advance_105, eT_advance_108, eT_advance_109, eT_advance_112, eT_advance_113, eT_advance_116, eT_advance_119, eT_advance_120, eT_advance_121, eT_advance_124, eT_advance_125, eT_advance_126, eT_advance_129, eT_advance_132, eT_advance_133, eT_advance_136, eT_advance_137, eT_advance_140, eT_advance_141, eT_advance_144, eT_advance_147, eT_advance_148, eT_advance_149, eT_advance_152, eT_advance_153, eT_advance_156, eT_advance_159, eT_advance_160, eT_advance_161, eT_advance_164, eT_advance_165, eT_advance_168, eT_advance_169, eT_advance_171, eT_advance_174, eT_advance_175, eT_advance_178, eT_advance_179, eT_advance_182, eT_advance_183, eT_advance_184, eT_advance_187, eT_advance_188, eT_advance_189, eT_advance_192, eq_self, hr_k_some, Option.toList, List.cons_append, List.nil_append, is2k_n, is2k_i, is2k_r, is2k_0, oc_0, ro_00, ro_01, ro_02, ro_04, ro_05, ro_06, ro_07, oc_1, oc_11, oc_21, oc_31, oc_32, ro_16, ro_b6, ak_2, ak_12, al_2, al_12, ra_2, ra_12, i10, i01, zb_t, zb_f, not_true_eq_false, not_false_eq_true, if_true, if_false, sp_found0, sp_found1, sp_found2, sp_found3, sp_found4, sp_found5, sp_found6, true_or, h4, hT.1, leT (show L ≤ p by omega) (show p < 2 ^ 31 by omega)]
  | succ d ih =>
    intro p I hp hT h4
    have hL := hT.2.1
    obtain ⟨hb, h33⟩ := hT.2.2 p (by omega)
    rw [eT_advance_93]
    simp only [eT_advance_94, eT_advance_97, eT_advance_98, eT_advance_101, eT_advance_104, eT_advance_105, eT_advance_108, eT_advance_109, eT_advance_112, eT_advance_113, eT_advance_116, eT_advance_192, eq_self, hr_k_some, Option.toList, List.cons_append, List.nil_append, is2k_n, is2k_i, is2k_r, is2k_0, oc_0, ro_00, ro_01, ro_02, ro_04, ro_05, ro_06, ro_07, oc_1, oc_11, oc_21, oc_31, oc_32, ro_16, ro_b6, ak_2, ak_12, al_2, al_12, ra_2, ra_12, i10, i01, zb_t, zb_f, not_true_eq_false, not_false_eq_true, if_true, if_false, sp_found0, sp_found1, sp_found2, sp_found3, sp_found4, sp_found5, sp_found6, true_or, h4, hT.1, leF (show p < L by omega) (show L < 2 ^ 31 by omega), ro_t0, ak_33, al_33, in_120 (show p < 120 by omega), cl_nI (show p < 100000 by omega), ai_lt (show 33 < 60 by decide), h33, sp_isL hb]
    unfold run
    by_cases c : isL (bt p) = true
    · rw [if_pos c]
      obtain ⟨I', e', g', o'⟩ := ih (p + 1) (up2 I 32 4 (nI (p + 1))) (by omega) (oF.up.tp (by decide) hT) up2_eq
      refine ⟨I', ?_, g', oF.up.trans o'⟩
      simp only [c, eT_advance_119, eT_advance_120, eT_advance_121, eT_advance_124, eT_advance_125, eT_advance_126, eT_advance_129, eq_self, hr_k_some, Option.toList, List.cons_append, List.nil_append, is2k_n, is2k_i, is2k_r, is2k_0, oc_0, ro_00, ro_01, ro_02, ro_04, ro_05, ro_06, ro_07, oc_1, oc_11, oc_21, oc_31, oc_32, ro_16, ro_b6, ak_2, ak_12, al_2, al_12, ra_2, ra_12, i10, i01, zb_t, zb_f, not_true_eq_false, not_false_eq_true, if_true, if_false, sp_found0, sp_found1, sp_found2, sp_found3, sp_found4, sp_found5, sp_found6, true_or, h4, nI_1]
      exact e'
    · rw [if_neg c]
      refine ⟨I, ?_, h4, oF.rfl⟩
      rw [Bool.not_eq_true] at c
      simp only [c, eq_self, hr_k_some, Option.toList, List.cons_append, List.nil_append, is2k_n, is2k_i, is2k_r, is2k_0, oc_0, ro_00, ro_01, ro_02, ro_04, ro_05, ro_06, ro_07, oc_1, oc_11, oc_21, oc_31, oc_32, ro_16, ro_b6, ak_2, ak_12, al_2, al_12, ra_2, ra_12, i10, i01, zb_t, zb_f, not_true_eq_false, not_false_eq_true, if_true, if_false, sp_found0, sp_found1, sp_found2, sp_found3, sp_found4, sp_found5, sp_found6, true_or]
/-- nothing but two fields of the tape has changed -/
def oG (I I' : Nat → Nat → Int32) : Prop := ∀ b j, ¬ (b = 32 ∧ (j = 4 ∨ j = 5)) → I' b j = I b j
theorem oG.tp (h : oG I I') (hT : Tp I bt L) : Tp I' bt L := ⟨by rw [h 32 1 (by omega)]; exact hT.1, hT.2.1, fun j hj => ⟨(hT.2.2 j hj).1, by rw [h 33 j (by omega)]; exact (hT.2.2 j hj).2⟩⟩
theorem digit_loop : ∀ (d p v : Nat) (I : Nat → Nat → Int32), p + d = L → v ≤ 9999 → Tp I bt L → I 32 4 = nI p → I 32 5 = nI v → ∃ I', den nT_readDigits (5, [some (.ref 32)], [], (I, J)) = some (none, (I', J)) ∧ I' 32 4 = nI (run isD bt d p) ∧ I' 32 5 = nI (dgv bt d p v) ∧ oG I I' := by
  intro d
  induction d with
  | zero =>
    intro p v I hp hv hT h4 h5
    have hL := hT.2.1
    refine ⟨I, ?_, h4, h5, fun _ _ _ => rfl⟩
    simp only [eT_readDigits_0, eT_readDigits_1, eT_readDigits_2, eT_readDigits_5, eT_readDigits_6, eT_readDigits_9, eT_readDigits_10, eT_readDigits_13, eT_readDigits_16, eT_readDigits_17, eT_readDigits_20, eT_readDigits_21, eT_readDigits_24, eT_readDigits_25, eT_readDigits_28, eT_readDigits_31, eT_readDigits_32, eT_readDigits_35, eT_readDigits_38, eT_readDigits_41, eT_readDigits_42, eT_readDigits_43, eT_readDigits_46, eT_readDigits_48, eT_readDigits_49, eT_readDigits_50, eT_readDigits_53, eT_readDigits_54, eT_readDigits_57, eT_readDigits_58, eT_readDigits_59, eT_readDigits_61, eT_readDigits_62, eT_readDigits_65, eT_readDigits_66, eT_readDigits_67, eT_readDigits_70, eT_readDigits_71, eT_readDigits_72, eT_readDigits_75, eT_readDigits_78, eq_self, hr_k_some, Option.toList, List.cons_append, List.nil_append, is2k_n, is2k_i, is2k_r, is2k_0, oc_0, ro_00, ro_01, ro_02, ro_04, ro_05, ro_06, ro_07, oc_1, oc_11, oc_21, oc_31, oc_32, ro_16, ro_b6, ak_2, ak_12, al_2, al_12, ra_2, ra_12, i10, i01, zb_t, zb_f, not_true_eq_false, not_false_eq_true, if_true, if_false, sp_found0, sp_found1, sp_found2, sp_found3, sp_found4, sp_found5, sp_found6, true_or, h4, hT.1, leT (show L ≤ p by omega) (show p < 2 ^ 31 by omega)]
  | succ d ih =>
    intro p v I hp hv hT h4 h5
    have hL := hT.2.1
    obtain ⟨hb, h33⟩ := hT.2.2 p (by omega)
    rw [eT_readDigits_5]
    simp only [eT_readDigits_6, eT_readDigits_9, eT_readDigits_10, eT_readDigits_13, eT_readDigits_16, eT_readDigits_17, eT_readDigits_20, eT_readDigits_21, eT_readDigits_24, eT_readDigits_25, eT_readDigits_28, eT_readDigits_78, eq_self, hr_k_some, Option.toList, List.cons_append, List.nil_append, is2k_n, is2k_i, is2k_r, is2k_0, oc_0, ro_00, ro_01, ro_02, ro_04, ro_05, ro_06, ro_07, oc_1, oc_11, oc_21, oc_31, oc_32, ro_16, ro_b6, ak_2, ak_12, al_2, al_12, ra_2, ra_12, i10, i01, zb_t, zb_f, not_true_eq_false, not_false_eq_true, if_true, if_false, sp_found0, sp_found1, sp_found2, sp_found3, sp_found4, sp_found5, sp_found6, true_or, h4, hT.1, leF (show p < L by omega) (show L < 2 ^ 31 by omega), ro_t0, ak_33, al_33, in_120 (show p < 120 by omega), cl_nI (show p < 100000 by omega), ai_lt (show 33 < 60 by decide), h33, sp_isD hb]
    unfold run dgv
    by_cases c : isD (bt p) = true
    · rw [if_pos c, if_pos c]
      have hd : 48 ≤ bt p ∧ bt p ≤ 57 := of_decide_eq_true c
      by_cases c9 : v ≤ 999
      · rw [if_pos c9]
        have f9 : ((999 : Int32) < nI v) = False := gtF (a := 999) c9 (by decide)
        have fa : nI v * 10 + sbt (bt p) - 48 = nI (v * 10 + bt p - 48) := by
          rw [sb_lt _ (by omega)]
          have : nI v * 10 = nI (v * 10) := pk_mul v 10
          rw [this, nI_add]
          exact pk_sub (a := v * 10 + bt p) (b := 48) (by omega)
        have hT2 : oG I (up2 (up2 I 32 5 (nI (v * 10 + bt p - 48))) 32 4 (nI (p + 1))) := fun b j h => by rw [up2, if_neg (by omega), up2, if_neg (by omega)]
        obtain ⟨I', e', g4, g5, o'⟩ := ih (p + 1) (v * 10 + bt p - 48) (up2 (up2 I 32 5 (nI (v * 10 + bt p - 48))) 32 4 (nI (p + 1))) (by omega) (by omega) (hT2.tp hT) up2_eq ((up2_nk (by decide)).trans up2_eq)
        refine ⟨I', ?_, g4, g5, fun b j q => (o' b j q).trans (hT2 b j q)⟩
        have h4' : ∀ x, up2 I 32 5 x 32 4 = nI p := fun x => (up2_nk (by decide)).trans h4
        simp only [c, eT_readDigits_31, eT_readDigits_32, eT_readDigits_35, eT_readDigits_38, eT_readDigits_41, eT_readDigits_42, eT_readDigits_43, eT_readDigits_46, eT_readDigits_48, eT_readDigits_49, eT_readDigits_50, eT_readDigits_53, eT_readDigits_54, eT_readDigits_57, eT_readDigits_58, eT_readDigits_59, eT_readDigits_61, eT_readDigits_62, eT_readDigits_65, eT_readDigits_66, eT_readDigits_67, eT_readDigits_70, eT_readDigits_71, eT_readDigits_72, eT_readDigits_75, eq_self, hr_k_some, Option.toList, List.cons_append, List.nil_append, is2k_n, is2k_i, is2k_r, is2k_0, oc_0, ro_00, ro_01, ro_02, ro_04, ro_05, ro_06, ro_07, oc_1, oc_11, oc_21, oc_31, oc_32, ro_16, ro_b6, ak_2, ak_12, al_2, al_12, ra_2, ra_12, i10, i01, zb_t, zb_f, not_true_eq_false, not_false_eq_true, if_true, if_false, sp_found0, sp_found1, sp_found2, sp_found3, sp_found4, sp_found5, sp_found6, true_or, h5, f9, h4, h4', ro_t0, ak_33, al_33, in_120 (show p < 120 by omega), cl_nI (show p < 100000 by omega), ai_lt (show 33 < 60 by decide), h33, fa, nI_1]
        exact e'
      · rw [if_neg c9]
        have f9 : ((999 : Int32) < nI v) = True := eq_true (nI_lt (a := 999) (by omega) (by omega))
        have hT2 : oG I (up2 I 32 4 (nI (p + 1))) := fun b j h => by rw [up2, if_neg (by omega)]
        obtain ⟨I', e', g4, g5, o'⟩ := ih (p + 1) v (up2 I 32 4 (nI (p + 1))) (by omega) hv (hT2.tp hT) up2_eq ((up2_nk (by decide)).trans h5)
        refine ⟨I', ?_, g4, g5, fun b j q => (o' b j q).trans (hT2 b j q)⟩
        simp only [c, eT_readDigits_31, eT_readDigits_32, eT_readDigits_35, eT_readDigits_38, eT_readDigits_41, eT_readDigits_42, eT_readDigits_43, eT_readDigits_46, eT_readDigits_48, eT_readDigits_49, eT_readDigits_50, eT_readDigits_53, eT_readDigits_54, eT_readDigits_57, eT_readDigits_58, eT_readDigits_59, eT_readDigits_61, eT_readDigits_62, eT_readDigits_65, eT_readDigits_66, eT_readDigits_67, eT_readDigits_70, eT_readDigits_71, eT_readDigits_72, eT_readDigits_75, eq_self, hr_k_some, Option.toList, List.cons_append, List.nil_append, is2k_n, is2k_i, is2k_r, is2k_0, oc_0, ro_00, ro_01, ro_02, ro_04, ro_05, ro_06, ro_07, oc_1, oc_11, oc_21, oc_31, oc_32, ro_16, ro_b6, ak_2, ak_12, al_2, al_12, ra_2, ra_12, i10, i01, zb_t, zb_f, not_true_eq_false, not_false_eq_true, if_true, if_false, sp_found0, sp_found1, sp_found2, sp_found3, sp_found4, sp_found5, sp_found6, true_or, h5, f9, h4, nI_1]
        exact e'
    · rw [if_neg c, if_neg c]
      refine ⟨I, ?_, h4, h5, fun _ _ _ => rfl⟩
      rw [Bool.not_eq_true] at c
      simp only [c, eq_self, hr_k_some, Option.toList, List.cons_append, List.nil_append, is2k_n, is2k_i, is2k_r, is2k_0, oc_0, ro_00, ro_01, ro_02, ro_04, ro_05, ro_06, ro_07, oc_1, oc_11, oc_21, oc_31, oc_32, ro_16, ro_b6, ak_2, ak_12, al_2, al_12, ra_2, ra_12, i10, i01, zb_t, zb_f, not_true_eq_false, not_false_eq_true, if_true, if_false, sp_found0, sp_found1, sp_found2, sp_found3, sp_found4, sp_found5, sp_found6, true_or]
/-- the token that begins at b is looked at -/
def Tk (I : Nat → Nat → Int32) (bt : Nat → Nat) (L b : Nat) : Prop := b ≤ L ∧ I 32 2 = nI (kdT bt L b) ∧ I 32 3 = nI b ∧ I 32 4 = nI (enT bt L b) ∧ (kdT bt L b = 2 → I 32 5 = nI (vlT bt L b))
/-- nothing but the token has changed -/
def oT (I I' : Nat → Nat → Int32) : Prop := ∀ b j, (b ≠ 32 ∨ j = 1) → I' b j = I b j
theorem oT.rfl : oT I I := fun _ _ _ => Eq.refl _
theorem oT.trans {I'' : Nat → Nat → Int32} (h : oT I I') (h' : oT I' I'') : oT I I'' := fun b j q => (h' b j q).trans (h b j q)
theorem oF.t {k : Nat} (h : oF k I I') (hk : k ≠ 1) : oT I I' := fun b j q => h b j (by omega)
theorem oG.t (h : oG I I') : oT I I' := fun b j q => h b j (by omega)
theorem oT.tp (h : oT I I') (hT : Tp I bt L) : Tp I' bt L := ⟨by rw [h 32 1 (by omega)]; exact hT.1, hT.2.1, fun j hj => ⟨(hT.2.2 j hj).1, by rw [h 33 j (by omega)]; exact (hT.2.2 j hj).2⟩⟩
theorem sp_advance {e : Nat} (he : e ≤ L) (hT : Tp I bt L) (h4 : I 32 4 = nI e) : ∃ I', den nT_advance (0, [some (.ref 32)], [], (I, J)) = some (none, (I', J)) ∧ Tk I' bt L (bgT bt L e) ∧ oT I I' := by
  have hL := hT.2.1
  have o1 : oF 3 I (up2 I 32 3 (nI e)) := oF.up
  obtain ⟨I1, e1, g1, q1⟩ := skip_loop (J := J) (L - e) e (up2 I 32 3 (nI e)) (by omega) (o1.tp (by decide) hT) up2_eq
  have hT1 := (o1.trans q1).tp (by decide) hT
  obtain ⟨hb1, hb2⟩ := bgT_le (bt := bt) he
  have g1 : I1 32 3 = nI (bgT bt L e) := g1
  generalize bgT bt L e = b at *
  have o2 : oF 4 I1 (up2 I1 32 4 (nI b)) := oF.up
  have hT2 := o2.tp (by decide) hT1
  have g2 : up2 I1 32 4 (nI b) 32 3 = nI b := (up2_nk (by decide)).trans g1
  have oo : oT I (up2 I1 32 4 (nI b)) := ((o1.trans q1).t (by decide)).trans (o2.t (by decide))
  by_cases c0 : L ≤ b
  · have k0 : kdT bt L b = 0 := if_pos c0
    have e0 : enT bt L b = b := if_pos c0
    refine ⟨up2 (up2 I1 32 4 (nI b)) 32 2 0, ?_, ⟨hb2, by rw [k0]; exact up2_eq, (up2_nk (by decide)).trans g2, by rw [e0, up2_nk (by decide)]; exact up2_eq, fun q => by omega⟩, oo.trans (oF.up.t (by decide))⟩
    have f0 : (nI b < nI L) = False := gtF c0 (by omega)
    simp only [eT_advance_0, eT_advance_1, eT_advance_2, eT_advance_5, eq_self, hr_k_some, Option.toList, List.cons_append, List.nil_append, is2k_n, is2k_i, is2k_r, is2k_0, oc_0, ro_00, ro_01, ro_02, ro_04, ro_05, ro_06, ro_07, oc_1, oc_11, oc_21, oc_31, oc_32, ro_16, ro_b6, ak_2, ak_12, al_2, al_12, ra_2, ra_12, i10, i01, zb_t, zb_f, not_true_eq_false, not_false_eq_true, if_true, if_false, sp_found0, sp_found1, sp_found2, sp_found3, sp_found4, sp_found5, sp_found6, true_or, h4]
    rw [e1]
    simp only [eT_advance_46, eT_advance_47, eT_advance_48, eT_advance_51, eT_advance_54, eT_advance_55, eT_advance_58, eT_advance_59, eT_advance_62, eT_advance_65, eT_advance_66, eT_advance_67, eT_advance_70, eT_advance_192, eq_self, hr_k_some, Option.toList, List.cons_append, List.nil_append, is2k_n, is2k_i, is2k_r, is2k_0, oc_0, ro_00, ro_01, ro_02, ro_04, ro_05, ro_06, ro_07, oc_1, oc_11, oc_21, oc_31, oc_32, ro_16, ro_b6, ak_2, ak_12, al_2, al_12, ra_2, ra_12, i10, i01, zb_t, zb_f, not_true_eq_false, not_false_eq_true, if_true, if_false, sp_found0, sp_found1, sp_found2, sp_found3, sp_found4, sp_found5, sp_found6, true_or, g1, g2, hT2.1, f0]
  · obtain ⟨hbb, h33⟩ := hT2.2.2 b (by omega)
    have f0 : (nI b < nI L) = True := eq_true (nI_lt (by omega) (by omega))
    by_cases cL : isL (bt b) = true
    · have k0 : kdT bt L b = 1 := (if_neg c0).trans (if_pos cL)
      have e0 : enT bt L b = run isL bt (L - b) b := (if_neg c0).trans (if_pos cL)
      have o3 : oF 2 (up2 I1 32 4 (nI b)) (up2 (up2 I1 32 4 (nI b)) 32 2 1) := oF.up
      obtain ⟨I4, e4, g4, q4⟩ := letter_loop (J := J) (L - b) b _ (by omega) (o3.tp (by decide) hT2) ((up2_nk (by decide)).trans up2_eq)
      refine ⟨I4, ?_, ⟨hb2, ?_, ?_, by rw [e0]; exact g4, fun q => by omega⟩, (oo.trans (o3.t (by decide))).trans (q4.t (by decide))⟩
      · simp only [eT_advance_0, eT_advance_1, eT_advance_2, eT_advance_5, eq_self, hr_k_some, Option.toList, List.cons_append, List.nil_append, is2k_n, is2k_i, is2k_r, is2k_0, oc_0, ro_00, ro_01, ro_02, ro_04, ro_05, ro_06, ro_07, oc_1, oc_11, oc_21, oc_31, oc_32, ro_16, ro_b6, ak_2, ak_12, al_2, al_12, ra_2, ra_12, i10, i01, zb_t, zb_f, not_true_eq_false, not_false_eq_true, if_true, if_false, sp_found0, sp_found1, sp_found2, sp_found3, sp_found4, sp_found5, sp_found6, true_or, h4]
        rw [e1]
        simp only [eT_advance_46, eT_advance_47, eT_advance_48, eT_advance_51, eT_advance_54, eT_advance_55, eT_advance_58, eT_advance_59, eT_advance_62, eT_advance_65, eT_advance_66, eT_advance_67, eT_advance_70, eT_advance_73, eT_advance_74, eT_advance_77, eT_advance_78, eT_advance_81, eT_advance_82, eT_advance_85, eT_advance_88, eT_advance_89, eT_advance_90, eq_self, hr_k_some, Option.toList, List.cons_append, List.nil_append, is2k_n, is2k_i, is2k_r, is2k_0, oc_0, ro_00, ro_01, ro_02, ro_04, ro_05, ro_06, ro_07, oc_1, oc_11, oc_21, oc_31, oc_32, ro_16, ro_b6, ak_2, ak_12, al_2, al_12, ra_2, ra_12, i10, i01, zb_t, zb_f, not_true_eq_false, not_false_eq_true, if_true, if_false, sp_found0, sp_found1, sp_found2, sp_found3, sp_found4, sp_found5, sp_found6, true_or, g1, g2, hT2.1, f0, ro_t0, ak_33, al_33, in_120 (show b < 120 by omega), cl_nI (show b < 100000 by omega), ai_lt (show 33 < 60 by decide), h33, sp_isL hbb, cL]
        exact e4
      · rw [k0, q4 32 2 (by omega)]; exact up2_eq
      · rw [q4 32 3 (by omega), up2_nk (by decide)]; exact g2
    · have cL' : isL (bt b) = false := Bool.not_eq_true _ ▸ cL
      by_cases cD : isD (bt b) = true
      · have k0 : kdT bt L b = 2 := (if_neg c0).trans ((if_neg cL).trans (if_pos cD))
        have e0 : enT bt L b = run isD bt (L - b) b := (if_neg c0).trans ((if_neg cL).trans (if_pos cD))
        have o3 : oF 2 (up2 I1 32 4 (nI b)) (up2 (up2 I1 32 4 (nI b)) 32 2 2) := oF.up
        have o4 : oF 5 (up2 (up2 I1 32 4 (nI b)) 32 2 2) (up2 (up2 (up2 I1 32 4 (nI b)) 32 2 2) 32 5 0) := oF.up
        obtain ⟨I4, e4, g4, g5, q4⟩ := digit_loop (J := J) (L - b) b 0 _ (by omega) (by omega) (o4.tp (by decide) (o3.tp (by decide) hT2)) ((up2_nk (by decide)).trans ((up2_nk (by decide)).trans up2_eq)) up2_eq
        refine ⟨I4, ?_, ⟨hb2, ?_, ?_, by rw [e0]; exact g4, fun _ => g5⟩, ((oo.trans (o3.t (by decide))).trans (o4.t (by decide))).trans q4.t⟩
        · have ed : den nT_readDigits (0, [some (.ref 32)], [], (up2 (up2 I1 32 4 (nI b)) 32 2 2, J)) = some (none, (I4, J)) := by
            simp only [eT_readDigits_0, eT_readDigits_1, eT_readDigits_2, eq_self, hr_k_some, Option.toList, List.cons_append, List.nil_append, is2k_n, is2k_i, is2k_r, is2k_0, oc_0, ro_00, ro_01, ro_02, ro_04, ro_05, ro_06, ro_07, oc_1, oc_11, oc_21, oc_31, oc_32, ro_16, ro_b6, ak_2, ak_12, al_2, al_12, ra_2, ra_12, i10, i01, zb_t, zb_f, not_true_eq_false, not_false_eq_true, if_true, if_false, sp_found0, sp_found1, sp_found2, sp_found3, sp_found4, sp_found5, sp_found6, true_or]
            exact e4
          simp only [eT_advance_0, eT_advance_1, eT_advance_2, eT_advance_5, eq_self, hr_k_some, Option.toList, List.cons_append, List.nil_append, is2k_n, is2k_i, is2k_r, is2k_0, oc_0, ro_00, ro_01, ro_02, ro_04, ro_05, ro_06, ro_07, oc_1, oc_11, oc_21, oc_31, oc_32, ro_16, ro_b6, ak_2, ak_12, al_2, al_12, ra_2, ra_12, i10, i01, zb_t, zb_f, not_true_eq_false, not_false_eq_true, if_true, if_false, sp_found0, sp_found1, sp_found2, sp_found3, sp_found4, sp_found5, sp_found6, true_or, h4]
          rw [e1]
          have h33' : ∀ x k, up2 (up2 I1 32 4 (nI b)) 32 k x 33 b = sbt (bt b) := fun x k => (up2_na (by decide)).trans h33
          simp only [eT_advance_46, eT_advance_47, eT_advance_48, eT_advance_51, eT_advance_54, eT_advance_55, eT_advance_58, eT_advance_59, eT_advance_62, eT_advance_65, eT_advance_66, eT_advance_67, eT_advance_70, eT_advance_73, eT_advance_74, eT_advance_77, eT_advance_78, eT_advance_81, eT_advance_82, eT_advance_85, eT_advance_88, eT_advance_89, eT_advance_90, eT_advance_132, eT_advance_133, eT_advance_136, eT_advance_137, eT_advance_140, eT_advance_141, eT_advance_144, eT_advance_147, eT_advance_148, eT_advance_149, eT_advance_152, eT_advance_153, eT_advance_156, eT_advance_159, eT_advance_160, eT_advance_161, eT_advance_164, eT_advance_165, eT_advance_168, eT_advance_169, eT_advance_171, eT_advance_174, eT_advance_175, eT_advance_178, eT_advance_179, eT_advance_182, eT_advance_183, eT_advance_184, eT_advance_187, eT_advance_188, eT_advance_189, eT_advance_192, eq_self, hr_k_some, Option.toList, List.cons_append, List.nil_append, is2k_n, is2k_i, is2k_r, is2k_0, oc_0, ro_00, ro_01, ro_02, ro_04, ro_05, ro_06, ro_07, oc_1, oc_11, oc_21, oc_31, oc_32, ro_16, ro_b6, ak_2, ak_12, al_2, al_12, ra_2, ra_12, i10, i01, zb_t, zb_f, not_true_eq_false, not_false_eq_true, if_true, if_false, sp_found0, sp_found1, sp_found2, sp_found3, sp_found4, sp_found5, sp_found6, true_or, g1, g2, hT2.1, f0, ro_t0, ak_33, al_33, in_120 (show b < 120 by omega), cl_nI (show b < 100000 by omega), ai_lt (show 33 < 60 by decide), h33, sp_isL hbb, cL', sp_isD hbb, cD, ed]
        · rw [k0, q4 32 2 (by omega), up2_nk (by decide)]; exact up2_eq
        · rw [q4 32 3 (by omega), up2_nk (by decide), up2_nk (by decide)]; exact g2
      · have cD' : isD (bt b) = false := Bool.not_eq_true _ ▸ cD
        have e0 : enT bt L b = b + 1 := (if_neg c0).trans ((if_neg cL).trans (if_neg cD))
        have k0 : kdT bt L b = if bt b = 59 then 3 else 4 := (if_neg c0).trans ((if_neg cL).trans (if_neg cD))
        have e59 := dec_eq (sb_59 _ hbb)
        refine ⟨up2 (up2 (up2 I1 32 4 (nI b)) 32 2 (nI (if bt b = 59 then 3 else 4))) 32 4 (nI (b + 1)), ?_, ⟨hb2, ?_, ?_, by rw [e0]; exact up2_eq, fun q => by rw [k0] at q; split at q <;> omega⟩, (oo.trans (oF.up.t (k := 2) (by decide))).trans (oF.up.t (by decide))⟩
        · simp only [eT_advance_0, eT_advance_1, eT_advance_2, eT_advance_5, eq_self, hr_k_some, Option.toList, List.cons_append, List.nil_append, is2k_n, is2k_i, is2k_r, is2k_0, oc_0, ro_00, ro_01, ro_02, ro_04, ro_05, ro_06, ro_07, oc_1, oc_11, oc_21, oc_31, oc_32, ro_16, ro_b6, ak_2, ak_12, al_2, al_12, ra_2, ra_12, i10, i01, zb_t, zb_f, not_true_eq_false, not_false_eq_true, if_true, if_false, sp_found0, sp_found1, sp_found2, sp_found3, sp_found4, sp_found5, sp_found6, true_or, h4]
          rw [e1]
          have h44 : ∀ x, up2 (up2 I1 32 4 (nI b)) 32 2 x 32 4 = nI b := fun x => (up2_nk (by decide)).trans up2_eq
          simp only [eT_advance_46, eT_advance_47, eT_advance_48, eT_advance_51, eT_advance_54, eT_advance_55, eT_advance_58, eT_advance_59, eT_advance_62, eT_advance_65, eT_advance_66, eT_advance_67, eT_advance_70, eT_advance_73, eT_advance_74, eT_advance_77, eT_advance_78, eT_advance_81, eT_advance_82, eT_advance_85, eT_advance_88, eT_advance_89, eT_advance_90, eT_advance_132, eT_advance_133, eT_advance_136, eT_advance_137, eT_advance_140, eT_advance_141, eT_advance_144, eT_advance_147, eT_advance_148, eT_advance_149, eT_advance_152, eT_advance_153, eT_advance_156, eT_advance_159, eT_advance_160, eT_advance_161, eT_advance_164, eT_advance_165, eT_advance_168, eT_advance_169, eT_advance_171, eT_advance_174, eT_advance_175, eq_self, hr_k_some, Option.toList, List.cons_append, List.nil_append, is2k_n, is2k_i, is2k_r, is2k_0, oc_0, ro_00, ro_01, ro_02, ro_04, ro_05, ro_06, ro_07, oc_1, oc_11, oc_21, oc_31, oc_32, ro_16, ro_b6, ak_2, ak_12, al_2, al_12, ra_2, ra_12, i10, i01, zb_t, zb_f, not_true_eq_false, not_false_eq_true, if_true, if_false, sp_found0, sp_found1, sp_found2, sp_found3, sp_found4, sp_found5, sp_found6, true_or, g1, g2, hT2.1, f0, ro_t0, ak_33, al_33, in_120 (show b < 120 by omega), cl_nI (show b < 100000 by omega), ai_lt (show 33 < 60 by decide), h33, sp_isL hbb, cL', sp_isD hbb, cD', e59]
          by_cases c9 : bt b = 59
          · simp only [c9, not_true_eq_false, if_false, if_true, eT_advance_174, eT_advance_175, eT_advance_178, eT_advance_179, eT_advance_182, eT_advance_183, eT_advance_184, eT_advance_187, eT_advance_188, eT_advance_189, eT_advance_192, eq_self, hr_k_some, Option.toList, List.cons_append, List.nil_append, is2k_n, is2k_i, is2k_r, is2k_0, oc_0, ro_00, ro_01, ro_02, ro_04, ro_05, ro_06, ro_07, oc_1, oc_11, oc_21, oc_31, oc_32, ro_16, ro_b6, ak_2, ak_12, al_2, al_12, ra_2, ra_12, i10, i01, zb_t, zb_f, not_true_eq_false, not_false_eq_true, if_true, if_false, sp_found0, sp_found1, sp_found2, sp_found3, sp_found4, sp_found5, sp_found6, true_or, h44, nI_1]
            rfl
          · simp only [c9, not_false_eq_true, if_true, if_false, eT_advance_174, eT_advance_175, eT_advance_178, eT_advance_179, eT_advance_182, eT_advance_183, eT_advance_184, eT_advance_187, eT_advance_188, eT_advance_189, eT_advance_192, eq_self, hr_k_some, Option.toList, List.cons_append, List.nil_append, is2k_n, is2k_i, is2k_r, is2k_0, oc_0, ro_00, ro_01, ro_02, ro_04, ro_05, ro_06, ro_07, oc_1, oc_11, oc_21, oc_31, oc_32, ro_16, ro_b6, ak_2, ak_12, al_2, al_12, ra_2, ra_12, i10, i01, zb_t, zb_f, not_true_eq_false, not_false_eq_true, if_true, if_false, sp_found0, sp_found1, sp_found2, sp_found3, sp_found4, sp_found5, sp_found6, true_or, h44, nI_1]
            rfl
        · rw [k0, up2_nk (by decide)]; exact up2_eq
        · rw [up2_nk (by decide), up2_nk (by decide)]; exact g2
end
