section
variable {I I' I'' I0 : Nat → Nat → Int32} {J J' J'' J0 : Nat → Nat → Int64} {bt : Nat → Nat} {L : Nat} {t t' : Nat → Nat} {n B kp m : Nat} {u : Nat → Nat} {y : Nat → Int32} {w z : Nat → Nat} {num : Nat → Nat → Int64}
theorem rsE_ge {b : Nat} (hb : b ≤ L) : b ≤ (rsE bt L t b).2.1 := by
  have h1 := nxT_le (bt := bt) hb
  unfold rsE
  split
  · exact h1.1
  · exact Nat.le_refl _
theorem rsV_ge {b : Nat} (hb : b ≤ L) : b ≤ (rsV bt L t b).2.1 := by
  have h1 := nxT_le (bt := bt) hb
  have h2 := nxT_le (bt := bt) h1.2
  have h3 := nxT_le (bt := bt) h2.2
  unfold rsV
  split
  · split
    · split
      · have := rsE_ge (bt := bt) (t := upV (plV t (vlT bt L b)) 2 (vlT bt L (nxT bt L (nxT bt L b)))) h3.2
        omega
      · show b ≤ nxT bt L (nxT bt L b); omega
    · have := rsE_ge (bt := bt) (t := plV t (vlT bt L b)) h1.2
      omega
  · exact Nat.le_refl _
theorem rrQ_ge {b : Nat} (hb : b ≤ L) : b ≤ (rrQ bt L t n b).2.1 := by
  have h1 := nxT_le (bt := bt) hb
  unfold rrQ
  split
  · exact h1.1
  · exact Nat.le_refl _
theorem rrS_ge {b : Nat} (hb : b ≤ L) : b ≤ (rrS bt L t n b).2.1 := by
  have h1 := nxT_le (bt := bt) hb
  have h2 := nxT_le (bt := bt) h1.2
  unfold rrS
  split
  · split
    · have := rrQ_ge (bt := bt) (n := n) (t := chV t n 3 (vlT bt L (nxT bt L b))) h2.2
      omega
    · exact h1.1
  · exact rrQ_ge hb
theorem rrH_ge {b : Nat} (hb : b ≤ L) : b ≤ (rrH bt L t n b).2.1 := by
  have h1 := nxT_le (bt := bt) hb
  have h2 := nxT_le (bt := bt) h1.2
  unfold rrH
  split
  · split
    · have := rrS_ge (bt := bt) (n := n) (t := chV t n 2 (vlT bt L (nxT bt L b))) h2.2
      omega
    · exact h1.1
  · exact rrS_ge hb
theorem rrV_ge {b kd : Nat} (hb : b ≤ L) : b ≤ (rrV bt L t n kd b).2.1 := by
  have h1 := nxT_le (bt := bt) hb
  have h2 := nxT_le (bt := bt) h1.2
  unfold rrV
  split
  · split
    · have := rrH_ge (bt := bt) (n := n) (t := adV t n kd (vlT bt L (nxT bt L b))) h2.2
      omega
    · exact h1.1
  · exact Nat.le_refl _
theorem riV_ge {b : Nat} (hb : b ≤ L) : b ≤ (riV bt L t n b).2.1 := by
  have h1 := nxT_le (bt := bt) hb
  unfold riV
  split
  · have := rsV_ge (bt := bt) (t := t) h1.2
    exact Nat.le_trans h1.1 this
  · split
    · exact Nat.le_refl _
    · have := rrV_ge (bt := bt) (t := t) (n := n) (kd := knV bt L b) h1.2
      exact Nat.le_trans h1.1 this
theorem isWd_0 {k b : Nat} (h : ¬ kdT bt L b = 1) : isWd bt L k b = false := by
  unfold isWd
  rw [decide_eq_false h]
  rfl
theorem ri_end {b : Nat} (hb : L ≤ b) : (riV bt L t n b).1 = false ∧ (riV bt L t n b).2.1 = b := by
  have h0 : ¬ kdT bt L b = 1 := by rw [show kdT bt L b = 0 from if_pos hb]; decide
  have hk : knV bt L b = 6 := by
    have hh := kn_wo (bt := bt) (L := L) (b := b)
    rw [woF_0 h0] at hh
    split at hh
    · assumption
    · omega
  have e : riV bt L t n b = (false, b, t, n) := by
    unfold riV
    rw [isWd_0 h0, if_neg (by decide), if_pos (Or.inl hk)]
  rw [e]
  exact ⟨rfl, rfl⟩
/-- the state lies aside; the token, the state and no more may be others -/
def lk (I0 I : Nat → Nat → Int32) (J0 J : Nat → Nat → Int64) : Prop := (∀ j, j < 46 → I 47 j = I0 45 j) ∧ (∀ b j, b ≠ 45 → b ≠ 47 → (b ≠ 44 ∨ j < 7) → I b j = I0 b j) ∧ ∀ b j, b ≠ 44 → J b j = J0 b j
theorem lk.p (h : lk I0 I J0 J) (ho : oP I I' J J') : lk I0 I' J0 J' := ⟨fun j hj => (ho.1 47 j (by decide) (by omega)).trans (h.1 j hj), fun b j h1 h2 h3 => (ho.1 b j h1 h3).trans (h.2.1 b j h1 h2 h3), fun b j h1 => (ho.2 b j h1).trans (h.2.2 b j h1)⟩
theorem mk_3 {b : Nat} : (mk bt L b = 3) = (kdT bt L b = 3) := by
  unfold mk
  apply propext
  split
  · rename_i q; exact ⟨fun r => by omega, fun r => by omega⟩
  · exact Iff.rfl
theorem mk_0 {b : Nat} : (mk bt L b = 0) = (kdT bt L b = 0) := by
  unfold mk
  apply propext
  split
  · rename_i q; exact ⟨fun r => by omega, fun r => by omega⟩
  · exact Iff.rfl
theorem mk_lt {b : Nat} : mk bt L b < 5 := by
  have := kdT_lt (bt := bt) (L := L) (b := b)
  unfold mk; split <;> omega
theorem mch_loop : ∀ (d i b : Nat) (t : Nat → Nat) (n : Nat) (I : Nat → Nat → Int32) (J : Nat → Nat → Int64), i + d = 120 → i ≤ b + 1 → b ≤ L → V t n B → MTp I bt L → Mlt I → MK I J bt L (riV bt L t n b).2.1 → ((riV bt L t n b).1 = true → mh I 45 (riV bt L t n b).2.2.1 (riV bt L t n b).2.2.2) → lk I0 I J0 J → ∃ I' J' x1, den nM_chart (20, [some (.ref 44), some (.int (nI i)), some (.int (zb (riV bt L t n b).1))], [], (I, J)) = den nM_chart (64, [some (.ref 44), some (.int x1), some (.int (zb (rcV bt L (d + 1) i b t n).1))], [], (I', J')) ∧ ((rcV bt L (d + 1) i b t n).1 = true → x1 = nI (rcV bt L (d + 1) i b t n).2.1 ∧ mh I' 45 (rcV bt L (d + 1) i b t n).2.2.1 (rcV bt L (d + 1) i b t n).2.2.2 ∧ V (rcV bt L (d + 1) i b t n).2.2.1 (rcV bt L (d + 1) i b t n).2.2.2 B) ∧ ((rcV bt L (d + 1) i b t n).1 = false → I' 44 8 = nI (rcV bt L (d + 1) i b t n).2.1) ∧ lk I0 I' J0 J' := by
  intro d
  induction d with
  | zero =>
    intro i b t n I J hi hib hbL hV hT hl hK hH hk
    have hL := hT.2.1
    have hge := riV_ge (bt := bt) (t := t) (n := n) hbL
    have hrV := riV_V (bt := bt) (L := L) (b := b) hV
    rw [rcV_s]
    generalize riV bt L t n b = r at *
    have e3 : (nI (mk bt L r.2.1) = 3) = (kdT bt L r.2.1 = 3) := (nI_lit _ 3 (by have := mk_lt (bt := bt) (L := L) (b := r.2.1); omega) (by decide)).trans mk_3
    have e0 : (nI (mk bt L r.2.1) = 0) = (kdT bt L r.2.1 = 0) := (nI_lit _ 0 (by have := mk_lt (bt := bt) (L := L) (b := r.2.1); omega) (by decide)).trans mk_0
    rw [eM_chart_20]
    cases cr : r.1 with
    | false =>
      rw [if_neg (by decide)]
      refine ⟨I, J, nI i, ?_, (fun q => by cases q), fun _ => hK.2.2.1, hk⟩
      simp only [eM_chart_21, eM_chart_24, eM_chart_25, eM_chart_28, eM_chart_29, eM_chart_32, eM_chart_33, eM_chart_36, eM_chart_37, eM_chart_40, eM_chart_41, eM_chart_44, eM_chart_47, eM_chart_48, eM_chart_51, eM_chart_52, eM_chart_55, eM_chart_58, eM_chart_59, eM_chart_62, eM_chart_63, eq_self, hr_k_some, Option.toList, List.cons_append, List.nil_append, is2k_n, is2k_i, is2k_r, is2k_0, oc_44, ro_m0, ro_m1, ro_m2, ro_m4, ro_m5, ro_m11, ro_m12, ro_m13, ro_m14, ro_m15, ro_m16, ro_m17, ak_45, ak_46, ak_47, ak_48, ak_49, ak_50, ak_51, ak_52, ak_53, ak_54, ak_55, ak_56, al_45, al_46, al_47, al_48, al_49, al_50, al_51, al_52, al_53, al_54, al_55, al_56, l45, l46, l47, l48, l49, l50, l51, l52, l53, l54, a45, a46, a47, a48, a49, a50, a51, a52, a53, a54, in46_0, in46_1, in46_2, in46_3, in46_4, in46_5, cn_0, cn_1, cn_2, cn_3, cn_4, cn_5, i10, i01, zb_t, zb_f, not_true_eq_false, not_false_eq_true, if_true, if_false, true_or, sp_in1, md_1, md_6, md_5]
    | true =>
      rw [if_pos rfl]
      by_cases c3 : kdT bt L r.2.1 = 3
      · rw [if_neg (by omega), if_pos c3]
        have hlt : r.2.1 < L := by
          rcases Nat.lt_or_ge r.2.1 L with q | q
          · exact q
          · rw [show kdT bt L r.2.1 = 0 from if_pos q] at c3; omega
        have hgt := nxT_gt (bt := bt) hlt
        have hle := nxT_le (bt := bt) (Nat.le_of_lt hlt)
        obtain ⟨I1, J1, e1, K1, n1⟩ := m_nx hK hT
        obtain ⟨I2, J2, e2, K2, H2, p2⟩ := m_readsItem (hrV cr) (n1.p.tp hT) (n1.p.lt hl) K1 (n1.mh (hH cr))
        obtain ⟨q1, q2⟩ := ri_end (bt := bt) (t := r.2.2.1) (n := r.2.2.2) (show L ≤ nxT bt L r.2.1 by omega)
        rw [q1] at e2
        rw [q2] at K2
        refine ⟨I2, J2, nI (i + 1), ?_, (fun q => by cases q), fun _ => K2.2.2.1, (hk.p n1.p).p p2⟩
        simp only [eM_chart_21, eM_chart_24, eM_chart_25, eM_chart_28, eM_chart_29, eM_chart_32, eM_chart_33, eM_chart_36, eM_chart_37, eM_chart_40, eM_chart_41, eM_chart_44, eq_self, hr_k_some, Option.toList, List.cons_append, List.nil_append, is2k_n, is2k_i, is2k_r, is2k_0, oc_44, ro_m0, ro_m1, ro_m2, ro_m4, ro_m5, ro_m11, ro_m12, ro_m13, ro_m14, ro_m15, ro_m16, ro_m17, ak_45, ak_46, ak_47, ak_48, ak_49, ak_50, ak_51, ak_52, ak_53, ak_54, ak_55, ak_56, al_45, al_46, al_47, al_48, al_49, al_50, al_51, al_52, al_53, al_54, al_55, al_56, l45, l46, l47, l48, l49, l50, l51, l52, l53, l54, a45, a46, a47, a48, a49, a50, a51, a52, a53, a54, in46_0, in46_1, in46_2, in46_3, in46_4, in46_5, cn_0, cn_1, cn_2, cn_3, cn_4, cn_5, i10, i01, zb_t, zb_f, not_true_eq_false, not_false_eq_true, if_true, if_false, true_or, sp_in1, md_1, md_6, md_5, hK.2.1, e3.trans (eq_true c3), e1, e2, nI_1]
        rw [eM_chart_20]
        simp only [eM_chart_21, eM_chart_24, eM_chart_25, eM_chart_28, eM_chart_29, eM_chart_32, eM_chart_33, eM_chart_36, eM_chart_37, eM_chart_40, eM_chart_41, eM_chart_44, eM_chart_47, eM_chart_48, eM_chart_51, eM_chart_52, eM_chart_55, eM_chart_58, eM_chart_59, eM_chart_62, eM_chart_63, eq_self, hr_k_some, Option.toList, List.cons_append, List.nil_append, is2k_n, is2k_i, is2k_r, is2k_0, oc_44, ro_m0, ro_m1, ro_m2, ro_m4, ro_m5, ro_m11, ro_m12, ro_m13, ro_m14, ro_m15, ro_m16, ro_m17, ak_45, ak_46, ak_47, ak_48, ak_49, ak_50, ak_51, ak_52, ak_53, ak_54, ak_55, ak_56, al_45, al_46, al_47, al_48, al_49, al_50, al_51, al_52, al_53, al_54, al_55, al_56, l45, l46, l47, l48, l49, l50, l51, l52, l53, l54, a45, a46, a47, a48, a49, a50, a51, a52, a53, a54, in46_0, in46_1, in46_2, in46_3, in46_4, in46_5, cn_0, cn_1, cn_2, cn_3, cn_4, cn_5, i10, i01, zb_t, zb_f, not_true_eq_false, not_false_eq_true, if_true, if_false, true_or, sp_in1, md_1, md_6, md_5]
        rfl
      · by_cases c0 : kdT bt L r.2.1 = 0
        · rw [if_pos c0]
          refine ⟨I, J, nI i, ?_, fun _ => ⟨rfl, hH cr, hrV cr⟩, (fun q => by cases q), hk⟩
          simp only [eM_chart_21, eM_chart_24, eM_chart_25, eM_chart_28, eM_chart_29, eM_chart_32, eM_chart_33, eM_chart_36, eM_chart_37, eM_chart_40, eM_chart_41, eM_chart_44, eM_chart_47, eM_chart_48, eM_chart_51, eM_chart_52, eM_chart_55, eM_chart_58, eM_chart_59, eM_chart_62, eM_chart_63, eq_self, hr_k_some, Option.toList, List.cons_append, List.nil_append, is2k_n, is2k_i, is2k_r, is2k_0, oc_44, ro_m0, ro_m1, ro_m2, ro_m4, ro_m5, ro_m11, ro_m12, ro_m13, ro_m14, ro_m15, ro_m16, ro_m17, ak_45, ak_46, ak_47, ak_48, ak_49, ak_50, ak_51, ak_52, ak_53, ak_54, ak_55, ak_56, al_45, al_46, al_47, al_48, al_49, al_50, al_51, al_52, al_53, al_54, al_55, al_56, l45, l46, l47, l48, l49, l50, l51, l52, l53, l54, a45, a46, a47, a48, a49, a50, a51, a52, a53, a54, in46_0, in46_1, in46_2, in46_3, in46_4, in46_5, cn_0, cn_1, cn_2, cn_3, cn_4, cn_5, i10, i01, zb_t, zb_f, not_true_eq_false, not_false_eq_true, if_true, if_false, true_or, sp_in1, md_1, md_6, md_5, hK.2.1, e3.trans (eq_false c3), e0.trans (eq_true c0)]
        · rw [if_neg c0, if_neg c3]
          refine ⟨I, J, nI i, ?_, (fun q => by cases q), fun _ => hK.2.2.1, hk⟩
          simp only [eM_chart_21, eM_chart_24, eM_chart_25, eM_chart_28, eM_chart_29, eM_chart_32, eM_chart_33, eM_chart_36, eM_chart_37, eM_chart_40, eM_chart_41, eM_chart_44, eM_chart_47, eM_chart_48, eM_chart_51, eM_chart_52, eM_chart_55, eM_chart_58, eM_chart_59, eM_chart_62, eM_chart_63, eq_self, hr_k_some, Option.toList, List.cons_append, List.nil_append, is2k_n, is2k_i, is2k_r, is2k_0, oc_44, ro_m0, ro_m1, ro_m2, ro_m4, ro_m5, ro_m11, ro_m12, ro_m13, ro_m14, ro_m15, ro_m16, ro_m17, ak_45, ak_46, ak_47, ak_48, ak_49, ak_50, ak_51, ak_52, ak_53, ak_54, ak_55, ak_56, al_45, al_46, al_47, al_48, al_49, al_50, al_51, al_52, al_53, al_54, al_55, al_56, l45, l46, l47, l48, l49, l50, l51, l52, l53, l54, a45, a46, a47, a48, a49, a50, a51, a52, a53, a54, in46_0, in46_1, in46_2, in46_3, in46_4, in46_5, cn_0, cn_1, cn_2, cn_3, cn_4, cn_5, i10, i01, zb_t, zb_f, not_true_eq_false, not_false_eq_true, if_true, if_false, true_or, sp_in1, md_1, md_6, md_5, hK.2.1, e3.trans (eq_false c3), e0.trans (eq_false c0)]
  | succ d ih =>
    intro i b t n I J hi hib hbL hV hT hl hK hH hk
    have hL := hT.2.1
    have hge := riV_ge (bt := bt) (t := t) (n := n) hbL
    have hrV := riV_V (bt := bt) (L := L) (b := b) hV
    rw [rcV_s]
    generalize riV bt L t n b = r at *
    have e3 : (nI (mk bt L r.2.1) = 3) = (kdT bt L r.2.1 = 3) := (nI_lit _ 3 (by have := mk_lt (bt := bt) (L := L) (b := r.2.1); omega) (by decide)).trans mk_3
    have e0 : (nI (mk bt L r.2.1) = 0) = (kdT bt L r.2.1 = 0) := (nI_lit _ 0 (by have := mk_lt (bt := bt) (L := L) (b := r.2.1); omega) (by decide)).trans mk_0
    rw [eM_chart_20]
    cases cr : r.1 with
    | false =>
      rw [if_neg (by decide)]
      refine ⟨I, J, nI i, ?_, (fun q => by cases q), fun _ => hK.2.2.1, hk⟩
      simp only [eM_chart_21, eM_chart_24, eM_chart_25, eM_chart_28, eM_chart_29, eM_chart_32, eM_chart_33, eM_chart_36, eM_chart_37, eM_chart_40, eM_chart_41, eM_chart_44, eM_chart_47, eM_chart_48, eM_chart_51, eM_chart_52, eM_chart_55, eM_chart_58, eM_chart_59, eM_chart_62, eM_chart_63, eq_self, hr_k_some, Option.toList, List.cons_append, List.nil_append, is2k_n, is2k_i, is2k_r, is2k_0, oc_44, ro_m0, ro_m1, ro_m2, ro_m4, ro_m5, ro_m11, ro_m12, ro_m13, ro_m14, ro_m15, ro_m16, ro_m17, ak_45, ak_46, ak_47, ak_48, ak_49, ak_50, ak_51, ak_52, ak_53, ak_54, ak_55, ak_56, al_45, al_46, al_47, al_48, al_49, al_50, al_51, al_52, al_53, al_54, al_55, al_56, l45, l46, l47, l48, l49, l50, l51, l52, l53, l54, a45, a46, a47, a48, a49, a50, a51, a52, a53, a54, in46_0, in46_1, in46_2, in46_3, in46_4, in46_5, cn_0, cn_1, cn_2, cn_3, cn_4, cn_5, i10, i01, zb_t, zb_f, not_true_eq_false, not_false_eq_true, if_true, if_false, true_or, sp_in1, md_1, md_6, md_5]
    | true =>
      rw [if_pos rfl]
      by_cases c3 : kdT bt L r.2.1 = 3
      · rw [if_neg (by omega), if_pos c3]
        have hlt : r.2.1 < L := by
          rcases Nat.lt_or_ge r.2.1 L with q | q
          · exact q
          · rw [show kdT bt L r.2.1 = 0 from if_pos q] at c3; omega
        have hgt := nxT_gt (bt := bt) hlt
        have hle := nxT_le (bt := bt) (Nat.le_of_lt hlt)
        obtain ⟨I1, J1, e1, K1, n1⟩ := m_nx hK hT
        obtain ⟨I2, J2, e2, K2, H2, p2⟩ := m_readsItem (hrV cr) (n1.p.tp hT) (n1.p.lt hl) K1 (n1.mh (hH cr))
        have p12 := n1.p.trans p2
        obtain ⟨I3, J3, x1, e4, s4, f4, k4⟩ := ih (i + 1) (nxT bt L r.2.1) r.2.2.1 r.2.2.2 I2 J2 (by omega) (by omega) hle.2 (hrV cr) (p12.tp hT) (p12.lt hl) K2 H2 (hk.p p12)
        refine ⟨I3, J3, x1, ?_, s4, f4, k4⟩
        simp only [eM_chart_21, eM_chart_24, eM_chart_25, eM_chart_28, eM_chart_29, eM_chart_32, eM_chart_33, eM_chart_36, eM_chart_37, eM_chart_40, eM_chart_41, eM_chart_44, eq_self, hr_k_some, Option.toList, List.cons_append, List.nil_append, is2k_n, is2k_i, is2k_r, is2k_0, oc_44, ro_m0, ro_m1, ro_m2, ro_m4, ro_m5, ro_m11, ro_m12, ro_m13, ro_m14, ro_m15, ro_m16, ro_m17, ak_45, ak_46, ak_47, ak_48, ak_49, ak_50, ak_51, ak_52, ak_53, ak_54, ak_55, ak_56, al_45, al_46, al_47, al_48, al_49, al_50, al_51, al_52, al_53, al_54, al_55, al_56, l45, l46, l47, l48, l49, l50, l51, l52, l53, l54, a45, a46, a47, a48, a49, a50, a51, a52, a53, a54, in46_0, in46_1, in46_2, in46_3, in46_4, in46_5, cn_0, cn_1, cn_2, cn_3, cn_4, cn_5, i10, i01, zb_t, zb_f, not_true_eq_false, not_false_eq_true, if_true, if_false, true_or, sp_in1, md_1, md_6, md_5, hK.2.1, e3.trans (eq_true c3), e1, e2, nI_1]
        exact e4
      · by_cases c0 : kdT bt L r.2.1 = 0
        · rw [if_pos c0]
          refine ⟨I, J, nI i, ?_, fun _ => ⟨rfl, hH cr, hrV cr⟩, (fun q => by cases q), hk⟩
          simp only [eM_chart_21, eM_chart_24, eM_chart_25, eM_chart_28, eM_chart_29, eM_chart_32, eM_chart_33, eM_chart_36, eM_chart_37, eM_chart_40, eM_chart_41, eM_chart_44, eM_chart_47, eM_chart_48, eM_chart_51, eM_chart_52, eM_chart_55, eM_chart_58, eM_chart_59, eM_chart_62, eM_chart_63, eq_self, hr_k_some, Option.toList, List.cons_append, List.nil_append, is2k_n, is2k_i, is2k_r, is2k_0, oc_44, ro_m0, ro_m1, ro_m2, ro_m4, ro_m5, ro_m11, ro_m12, ro_m13, ro_m14, ro_m15, ro_m16, ro_m17, ak_45, ak_46, ak_47, ak_48, ak_49, ak_50, ak_51, ak_52, ak_53, ak_54, ak_55, ak_56, al_45, al_46, al_47, al_48, al_49, al_50, al_51, al_52, al_53, al_54, al_55, al_56, l45, l46, l47, l48, l49, l50, l51, l52, l53, l54, a45, a46, a47, a48, a49, a50, a51, a52, a53, a54, in46_0, in46_1, in46_2, in46_3, in46_4, in46_5, cn_0, cn_1, cn_2, cn_3, cn_4, cn_5, i10, i01, zb_t, zb_f, not_true_eq_false, not_false_eq_true, if_true, if_false, true_or, sp_in1, md_1, md_6, md_5, hK.2.1, e3.trans (eq_false c3), e0.trans (eq_true c0)]
        · rw [if_neg c0, if_neg c3]
          refine ⟨I, J, nI i, ?_, (fun q => by cases q), fun _ => hK.2.2.1, hk⟩
          simp only [eM_chart_21, eM_chart_24, eM_chart_25, eM_chart_28, eM_chart_29, eM_chart_32, eM_chart_33, eM_chart_36, eM_chart_37, eM_chart_40, eM_chart_41, eM_chart_44, eM_chart_47, eM_chart_48, eM_chart_51, eM_chart_52, eM_chart_55, eM_chart_58, eM_chart_59, eM_chart_62, eM_chart_63, eq_self, hr_k_some, Option.toList, List.cons_append, List.nil_append, is2k_n, is2k_i, is2k_r, is2k_0, oc_44, ro_m0, ro_m1, ro_m2, ro_m4, ro_m5, ro_m11, ro_m12, ro_m13, ro_m14, ro_m15, ro_m16, ro_m17, ak_45, ak_46, ak_47, ak_48, ak_49, ak_50, ak_51, ak_52, ak_53, ak_54, ak_55, ak_56, al_45, al_46, al_47, al_48, al_49, al_50, al_51, al_52, al_53, al_54, al_55, al_56, l45, l46, l47, l48, l49, l50, l51, l52, l53, l54, a45, a46, a47, a48, a49, a50, a51, a52, a53, a54, in46_0, in46_1, in46_2, in46_3, in46_4, in46_5, cn_0, cn_1, cn_2, cn_3, cn_4, cn_5, i10, i01, zb_t, zb_f, not_true_eq_false, not_false_eq_true, if_true, if_false, true_or, sp_in1, md_1, md_6, md_5, hK.2.1, e3.trans (eq_false c3), e0.trans (eq_false c0)]
theorem M_chart_all (h : Md I J t n kp u m y bt L w z num) : MR nM_chart [some (.ref 44), none, none] I J (.int (rcR (rdV bt L t n))) (fun I' J' => Md I' J' (if (rdV bt L t n).1 = true then (rdV bt L t n).2.2.1 else t) (if (rdV bt L t n).1 = true then (rdV bt L t n).2.2.2 else n) kp u m y bt 0 w z num) := by
  have hT : MTp I bt L := h.2.2.2.2.1
  have hl : Mlt I := h.2.2.2.2.2.2
  have hV := h.2.1
  have hn := hV.2.1
  obtain ⟨I1, e1, h1, o1⟩ := m_aside (I := I) (J := J)
  have T1 : MTp I1 bt L := ⟨(o1 44 (by decide) _).trans hT.1, hT.2.1, fun j hj => ⟨(hT.2.2 j hj).1, (o1 49 (by decide) _).trans (hT.2.2 j hj).2⟩⟩
  have l1 : Mlt I1 := ⟨fun j hj => (o1 50 (by decide) _).trans (hl.1 j hj), fun j hj => (o1 51 (by decide) _).trans (hl.2.1 j hj), fun j hj => (o1 52 (by decide) _).trans (hl.2.2 j hj)⟩
  have H1 : mh I1 45 t n := h.1.or o1 (by decide)
  have k1 : lk I I1 J J := ⟨h1, fun b j _ h2 _ => o1 b h2 j, fun _ _ _ => rfl⟩
  have n2 : oN I1 (up2 I1 44 9 0) J J := oN.up (by decide)
  obtain ⟨I2, J2, e2, K2, n3⟩ := m_next (J := J) (e := 0) (Nat.zero_le L) (n2.tp T1) up2_eq
  have e2' : den nM_nextToken (0, [some (.ref 44)], [], (up2 I1 44 9 0, J)) = some (none, (I2, J2)) := e2
  have n23 := n2.trans n3
  have hb := bgT_le (bt := bt) (L := L) (e := 0) (Nat.zero_le L)
  obtain ⟨I3, J3, e3, K3, H3, p3⟩ := m_readsItem hV (n23.p.tp T1) (n23.p.lt l1) K2 (n23.mh H1)
  have p123 := n23.p.trans p3
  obtain ⟨I4, J4, x1, e4, s4, f4, k4⟩ := mch_loop 119 1 (bgT bt L 0) t n I3 J3 (by decide) (by omega) hb.2 hV (p123.tp T1) (p123.lt l1) K3 H3 (k1.p p123)
  have e4' : den nM_chart (20, [some (.ref 44), some (.int 1), some (.int (zb (riV bt L t n (bgT bt L 0)).1))], [], (I3, J3)) = _ := e4
  have er : rcV bt L (119 + 1) 1 (bgT bt L 0) t n = rdV bt L t n := rfl
  rw [er] at e4' s4 f4
  have e5 : den nM_chart (0, [some (.ref 44), none, none], [], (I, J)) = den nM_chart (64, [some (.ref 44), some (.int x1), some (.int (zb (rdV bt L t n).1))], [], (I4, J4)) := by
    simp only [eM_chart_0, eM_chart_1, eM_chart_4, eM_chart_5, eM_chart_6, eM_chart_9, eM_chart_10, eM_chart_13, eM_chart_14, eM_chart_15, eM_chart_16, eM_chart_19, eq_self, hr_k_some, Option.toList, List.cons_append, List.nil_append, is2k_n, is2k_i, is2k_r, is2k_0, oc_44, ro_m0, ro_m1, ro_m2, ro_m4, ro_m5, ro_m11, ro_m12, ro_m13, ro_m14, ro_m15, ro_m16, ro_m17, ak_45, ak_46, ak_47, ak_48, ak_49, ak_50, ak_51, ak_52, ak_53, ak_54, ak_55, ak_56, al_45, al_46, al_47, al_48, al_49, al_50, al_51, al_52, al_53, al_54, al_55, al_56, l45, l46, l47, l48, l49, l50, l51, l52, l53, l54, a45, a46, a47, a48, a49, a50, a51, a52, a53, a54, in46_0, in46_1, in46_2, in46_3, in46_4, in46_5, cn_0, cn_1, cn_2, cn_3, cn_4, cn_5, i10, i01, zb_t, zb_f, not_true_eq_false, not_false_eq_true, if_true, if_false, true_or, sp_in1, md_1, md_6, md_5, e1, e2', e3]
    exact e4'
  have ob : ∀ b j, b ≠ 45 → b ≠ 47 → (b ≠ 44 ∨ j < 6) → up2 I4 44 6 0 b j = I b j := fun b j q1 q2 q3 => (if_neg (by omega)).trans (k4.2.1 b j q1 q2 (by omega))
  cases c : (rdV bt L t n).1 with
  | true =>
    obtain ⟨s1, s2, s3⟩ := s4 c
    rw [if_pos rfl, if_pos rfl]
    have ec : rcR (rdV bt L t n) = nI (rdV bt L t n).2.1 := if_pos c
    rw [ec]
    refine ⟨up2 I4 44 6 0, J4, ?_, fun b q j => ⟨ob b j (by omega) (by omega) (by omega), k4.2.2 b j (by omega)⟩, h.gen (fun j hj => (up2_na (by decide)).trans (s2 j hj)) s3 ⟨up2_eq, by omega, fun j hj => by omega⟩ (fun b j g1 g2 g3 g4 g5 g6 => ob b j g3 g4 (by omega)) (fun j => k4.2.2 55 j (by decide))⟩
    rw [e5, c, s1]
    simp only [eM_chart_64, eM_chart_65, eM_chart_66, eM_chart_69, eM_chart_70, eM_chart_73, eM_chart_74, eM_chart_77, eM_chart_78, eM_chart_79, eM_chart_82, eM_chart_83, eM_chart_84, eM_chart_85, eq_self, hr_k_some, Option.toList, List.cons_append, List.nil_append, is2k_n, is2k_i, is2k_r, is2k_0, oc_44, ro_m0, ro_m1, ro_m2, ro_m4, ro_m5, ro_m11, ro_m12, ro_m13, ro_m14, ro_m15, ro_m16, ro_m17, ak_45, ak_46, ak_47, ak_48, ak_49, ak_50, ak_51, ak_52, ak_53, ak_54, ak_55, ak_56, al_45, al_46, al_47, al_48, al_49, al_50, al_51, al_52, al_53, al_54, al_55, al_56, l45, l46, l47, l48, l49, l50, l51, l52, l53, l54, a45, a46, a47, a48, a49, a50, a51, a52, a53, a54, in46_0, in46_1, in46_2, in46_3, in46_4, in46_5, cn_0, cn_1, cn_2, cn_3, cn_4, cn_5, i10, i01, zb_t, zb_f, not_true_eq_false, not_false_eq_true, if_true, if_false, true_or, sp_in1, md_1, md_6, md_5]
  | false =>
    have f1 := f4 c
    rw [if_neg (by decide), if_neg (by decide)]
    have ec : rcR (rdV bt L t n) = -1 - nI (rdV bt L t n).2.1 := if_neg (by rw [c]; decide)
    rw [ec]
    obtain ⟨I5, e6, h6, o6⟩ := m_back (I := up2 I4 44 6 0) (J := J4)
    have g8 : I5 44 8 = nI (rdV bt L t n).2.1 := ((o6 44 (by decide) _).trans (up2_nk (by decide))).trans f1
    refine ⟨I5, J4, ?_, fun b q j => ⟨(o6 b (by omega) j).trans (ob b j (by omega) (by omega) (by omega)), k4.2.2 b j (by omega)⟩, h.gen (fun j hj => ?_) hV ⟨(o6 44 (by decide) _).trans up2_eq, by omega, fun j hj => by omega⟩ (fun b j g1 g2 g3 g4 g5 g6 => (o6 b g3 j).trans (ob b j g3 g4 (by omega))) (fun j => k4.2.2 55 j (by decide))⟩
    · rw [e5, c]
      simp only [eM_chart_64, eM_chart_65, eM_chart_66, eM_chart_69, eM_chart_70, eM_chart_73, eM_chart_74, eM_chart_77, eM_chart_78, eM_chart_79, eM_chart_82, eM_chart_83, eM_chart_84, eM_chart_85, eq_self, hr_k_some, Option.toList, List.cons_append, List.nil_append, is2k_n, is2k_i, is2k_r, is2k_0, oc_44, ro_m0, ro_m1, ro_m2, ro_m4, ro_m5, ro_m11, ro_m12, ro_m13, ro_m14, ro_m15, ro_m16, ro_m17, ak_45, ak_46, ak_47, ak_48, ak_49, ak_50, ak_51, ak_52, ak_53, ak_54, ak_55, ak_56, al_45, al_46, al_47, al_48, al_49, al_50, al_51, al_52, al_53, al_54, al_55, al_56, l45, l46, l47, l48, l49, l50, l51, l52, l53, l54, a45, a46, a47, a48, a49, a50, a51, a52, a53, a54, in46_0, in46_1, in46_2, in46_3, in46_4, in46_5, cn_0, cn_1, cn_2, cn_3, cn_4, cn_5, i10, i01, zb_t, zb_f, not_true_eq_false, not_false_eq_true, if_true, if_false, true_or, sp_in1, md_1, md_6, md_5, e6, g8]
    · rw [h6 j (by omega), up2_na (by decide), k4.1 j (by omega)]
      exact h.1 j hj
end
