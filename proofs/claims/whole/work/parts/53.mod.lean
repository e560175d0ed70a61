section
variable {I I' : Nat → Nat → Int32} {J J' : Nat → Nat → Int64} {t t' : Nat → Nat} {n B : Nat}
theorem mh.or {a b : Nat} (h : mh I a t n) (ho : oR b I I') (hab : a ≠ b) : mh I' a t n := fun j hj => (ho a hab j).trans (h j hj)
theorem mgo_loop {c : Nat} (hc : c < 1000) : ∀ (d k : Nat) (I : Nat → Nat → Int32) (t : Nat → Nat) (B : Nat), k + d = c → mh I 45 t n → V t n B → B + d < 2 ^ 28 → ∃ I', den nM_goes (2, [some (.ref 44), some (.int (nI c)), some (.int (nI k))], [], (I, J)) = some (none, (I', J)) ∧ mh I' 45 (goN t n d) n ∧ oR 45 I I' := by
  intro d
  induction d with
  | zero =>
    intro k I t B hk hH hV hB
    have hkc : k = c := by omega
    subst hkc
    refine ⟨I, ?_, hH, oR.rfl⟩
    simp only [eM_goes_0, eM_goes_1, eM_goes_2, eM_goes_3, eM_goes_4, eM_goes_7, eM_goes_8, eM_goes_11, eM_goes_14, eM_goes_17, eq_self, hr_k_some, Option.toList, List.cons_append, List.nil_append, is2k_n, is2k_i, is2k_r, is2k_0, oc_44, ro_m0, ro_m1, ro_m2, ro_m4, ro_m5, ro_m11, ro_m12, ro_m13, ro_m14, ro_m15, ro_m16, ro_m17, ak_45, ak_46, ak_47, ak_48, ak_49, ak_50, ak_51, ak_52, ak_53, ak_54, ak_55, ak_56, al_45, al_46, al_47, al_48, al_49, al_50, al_51, al_52, al_53, al_54, al_55, al_56, l45, l46, l47, l48, l49, l50, l51, l52, l53, l54, a45, a46, a47, a48, a49, a50, a51, a52, a53, a54, in46_0, in46_1, in46_2, in46_3, in46_4, in46_5, cn_0, cn_1, cn_2, cn_3, cn_4, cn_5, i10, i01, zb_t, zb_f, not_true_eq_false, not_false_eq_true, if_true, if_false, true_or, sp_in1, md_1, md_6, md_5, leT (Nat.le_refl k) (show k < 2 ^ 31 by omega)]
  | succ d ih =>
    intro k I t B hk hH hV hB
    obtain ⟨I1, e1, hH1, ho1⟩ := m_watch (J := J) hH hV (by omega)
    obtain ⟨I2, e2, hH2, ho2⟩ := ih (k + 1) I1 (goV t n) (B + 1) (by omega) hH1 (goV_V hV) (by omega)
    refine ⟨I2, ?_, hH2, ho1.trans ho2⟩
    rw [eM_goes_2]
    simp only [eM_goes_0, eM_goes_1, eM_goes_3, eM_goes_4, eM_goes_7, eM_goes_8, eM_goes_11, eM_goes_14, eM_goes_17, eq_self, hr_k_some, Option.toList, List.cons_append, List.nil_append, is2k_n, is2k_i, is2k_r, is2k_0, oc_44, ro_m0, ro_m1, ro_m2, ro_m4, ro_m5, ro_m11, ro_m12, ro_m13, ro_m14, ro_m15, ro_m16, ro_m17, ak_45, ak_46, ak_47, ak_48, ak_49, ak_50, ak_51, ak_52, ak_53, ak_54, ak_55, ak_56, al_45, al_46, al_47, al_48, al_49, al_50, al_51, al_52, al_53, al_54, al_55, al_56, l45, l46, l47, l48, l49, l50, l51, l52, l53, l54, a45, a46, a47, a48, a49, a50, a51, a52, a53, a54, in46_0, in46_1, in46_2, in46_3, in46_4, in46_5, cn_0, cn_1, cn_2, cn_3, cn_4, cn_5, i10, i01, zb_t, zb_f, not_true_eq_false, not_false_eq_true, if_true, if_false, true_or, sp_in1, md_1, md_6, md_5, leF (show k < c by omega) (show c < 2 ^ 31 by omega), e1, nI_1]
    exact e2
theorem m_goes {c : Nat} (hc : c < 1000) (hH : mh I 45 t n) (hV : V t n B) (hB : B + c < 2 ^ 28) : ∃ I', den nM_goes (0, [some (.ref 44), some (.int (nI c)), none], [], (I, J)) = some (none, (I', J)) ∧ mh I' 45 (goN t n c) n ∧ oR 45 I I' := by
  simp only [eM_goes_0, eM_goes_1, eq_self, hr_k_some, Option.toList, List.cons_append, List.nil_append, is2k_n, is2k_i, is2k_r, is2k_0]
  exact mgo_loop hc c 0 I t B (by omega) hH hV hB
/-- the state is as it was; what lies aside is free -/
def lb (I I' : Nat → Nat → Int32) : Prop := (∀ j, j < 46 → I' 45 j = I 45 j) ∧ ∀ b, b ≠ 45 → b ≠ 47 → ∀ j, I' b j = I b j
/-- the state lies aside, and may be another -/
def la (I I' : Nat → Nat → Int32) : Prop := (∀ j, j < 46 → I' 47 j = I 45 j) ∧ ∀ b, b ≠ 45 → b ≠ 47 → ∀ j, I' b j = I b j
theorem lb.rfl : lb I I := ⟨fun _ _ => Eq.refl _, fun _ _ _ _ => Eq.refl _⟩
theorem lb.trans {I'' : Nat → Nat → Int32} (h : lb I I') (h' : lb I' I'') : lb I I'' := ⟨fun j hj => (h'.1 j hj).trans (h.1 j hj), fun b h1 h2 j => (h'.2 b h1 h2 j).trans (h.2 b h1 h2 j)⟩
theorem la.up {K : Nat → Nat → Int32} (h : la I I') (h' : oR 45 I' K) : la I K := ⟨fun j hj => (h' 47 (by decide) j).trans (h.1 j hj), fun b h1 h2 j => (h' b h1 j).trans (h.2 b h1 h2 j)⟩
theorem la.back {I'' : Nat → Nat → Int32} (h : la I I') (h1 : ∀ j, j < 46 → I'' 45 j = I' 47 j) (h2 : oR 45 I' I'') : lb I I'' := ⟨fun j hj => (h1 j hj).trans (h.1 j hj), fun b h3 h4 j => (h2 b h3 j).trans (h.2 b h3 h4 j)⟩
theorem m_asideL (h : mh I 45 t n) : ∃ I', den nM_setsAside (0, [some (.ref 44), none], [], (I, J)) = some (none, (I', J)) ∧ mh I' 45 t n ∧ la I I' := by
  obtain ⟨I1, e1, h1, o1⟩ := m_aside (I := I) (J := J)
  exact ⟨I1, e1, h.or o1 (by decide), h1, fun b h3 h4 j => o1 b h4 j⟩
theorem lb.mh (h : lb I I') (hH : mh I 45 t n) (hn : n ≤ 8) : mh I' 45 t n := fun j hj => (h.1 j (by omega)).trans (hH j hj)
theorem m_backL {I0 : Nat → Nat → Int32} (h : la I0 I) : ∃ I', den nM_laysBack (0, [some (.ref 44), none], [], (I, J)) = some (none, (I', J)) ∧ lb I0 I' := by
  obtain ⟨I1, e1, h1, o1⟩ := m_back (I := I) (J := J)
  exact ⟨I1, e1, h.back h1 o1⟩
theorem m_then {p c : Nat} (hp : p < 6 + 5 * n) (hc : c < 1000) (hH : mh I 45 t n) (hV : V t n B) (hB : B + c < 2 ^ 28) : ∃ I', den nM_thenAt (0, [some (.ref 44), some (.int (nI p)), some (.int (nI c)), none], [], (I, J)) = some (some (.int (nI (goN t n c p))), (I', J)) ∧ lb I I' := by
  have hn := hV.2.1
  obtain ⟨I1, e1, h1, a1⟩ := m_asideL (J := J) hH
  obtain ⟨I2, e2, h2, o2⟩ := m_goes (J := J) hc h1 hV hB
  obtain ⟨I3, e3, h3⟩ := m_backL (J := J) (a1.up o2)
  refine ⟨I3, ?_, h3⟩
  simp only [eM_thenAt_0, eM_thenAt_1, eM_thenAt_4, eM_thenAt_5, eM_thenAt_6, eM_thenAt_9, eM_thenAt_10, eM_thenAt_13, eM_thenAt_14, eM_thenAt_15, eM_thenAt_16, eM_thenAt_17, eM_thenAt_20, eM_thenAt_21, eq_self, hr_k_some, Option.toList, List.cons_append, List.nil_append, is2k_n, is2k_i, is2k_r, is2k_0, oc_44, ro_m0, ro_m1, ro_m2, ro_m4, ro_m5, ro_m11, ro_m12, ro_m13, ro_m14, ro_m15, ro_m16, ro_m17, ak_45, ak_46, ak_47, ak_48, ak_49, ak_50, ak_51, ak_52, ak_53, ak_54, ak_55, ak_56, al_45, al_46, al_47, al_48, al_49, al_50, al_51, al_52, al_53, al_54, al_55, al_56, l45, l46, l47, l48, l49, l50, l51, l52, l53, l54, a45, a46, a47, a48, a49, a50, a51, a52, a53, a54, in46_0, in46_1, in46_2, in46_3, in46_4, in46_5, cn_0, cn_1, cn_2, cn_3, cn_4, cn_5, i10, i01, zb_t, zb_f, not_true_eq_false, not_false_eq_true, if_true, if_false, true_or, sp_in1, md_1, md_6, md_5, e1, e2, in_46 (show p < 46 by omega), cl_nI (show p < 100000 by omega), h2 p hp, e3]
theorem mfb_loop {I0 : Nat → Nat → Int32} {p v m : Nat} (hp : p = 1 ∨ p = 4) (hv : v < 64) (hm : m < 1000) : ∀ (d k : Nat) (I : Nat → Nat → Int32) (t : Nat → Nat) (B : Nat), k + d = m + 1 → mh I 45 t n → V t n B → B + d < 2 ^ 28 → la I0 I → ∃ I', den nM_firstBy (3, [some (.ref 44), some (.int (nI p)), some (.int (nI v)), some (.int (nI m)), some (.int (nI k))], [], (I, J)) = some (some (.int (nI (k + fiV (fun t => decide (t p = v)) t n d))), (I', J)) ∧ lb I0 I' := by
  intro d
  induction d with
  | zero =>
    intro k I t B hk hH hV hB ha
    obtain ⟨I3, e3, h3⟩ := m_backL (J := J) ha
    refine ⟨I3, ?_, h3⟩
    have hle : (nI m < nI k) = True := eq_true (nI_lt (by omega) (by omega))
    simp only [eM_firstBy_0, eM_firstBy_1, eM_firstBy_3, eM_firstBy_5, eM_firstBy_6, eM_firstBy_9, eM_firstBy_10, eM_firstBy_13, eM_firstBy_14, eM_firstBy_15, eM_firstBy_16, eM_firstBy_19, eM_firstBy_20, eM_firstBy_23, eM_firstBy_26, eM_firstBy_29, eM_firstBy_30, eM_firstBy_33, eM_firstBy_35, eq_self, hr_k_some, Option.toList, List.cons_append, List.nil_append, is2k_n, is2k_i, is2k_r, is2k_0, oc_44, ro_m0, ro_m1, ro_m2, ro_m4, ro_m5, ro_m11, ro_m12, ro_m13, ro_m14, ro_m15, ro_m16, ro_m17, ak_45, ak_46, ak_47, ak_48, ak_49, ak_50, ak_51, ak_52, ak_53, ak_54, ak_55, ak_56, al_45, al_46, al_47, al_48, al_49, al_50, al_51, al_52, al_53, al_54, al_55, al_56, l45, l46, l47, l48, l49, l50, l51, l52, l53, l54, a45, a46, a47, a48, a49, a50, a51, a52, a53, a54, in46_0, in46_1, in46_2, in46_3, in46_4, in46_5, cn_0, cn_1, cn_2, cn_3, cn_4, cn_5, i10, i01, zb_t, zb_f, not_true_eq_false, not_false_eq_true, if_true, if_false, true_or, sp_in1, md_1, md_6, md_5, hle, e3]
    rfl
  | succ d ih =>
    intro k I t B hk hH hV hB ha
    have hle : (nI m < nI k) = False := eq_false (nI_nlt (by omega) (by omega))
    have hr : I 45 p = nI (t p) := hH p (by omega)
    have hb : t p < 64 := by
      rcases hp with rfl | rfl
      · exact hV.2.2.2.1
      · have := hV.2.2.2.2.2.2.1; omega
    have he : (nI (t p) = nI v) = (t p = v) := nI_lit _ v (by omega) (by omega)
    by_cases c : t p = v
    · obtain ⟨I3, e3, h3⟩ := m_backL (J := J) ha
      refine ⟨I3, ?_, h3⟩
      rw [fiV_0 (by simp [c])]
      simp only [eM_firstBy_0, eM_firstBy_1, eM_firstBy_3, eM_firstBy_5, eM_firstBy_6, eM_firstBy_9, eM_firstBy_10, eM_firstBy_13, eM_firstBy_14, eM_firstBy_15, eM_firstBy_16, eM_firstBy_19, eM_firstBy_20, eM_firstBy_23, eM_firstBy_26, eM_firstBy_29, eM_firstBy_30, eM_firstBy_33, eM_firstBy_35, eq_self, hr_k_some, Option.toList, List.cons_append, List.nil_append, is2k_n, is2k_i, is2k_r, is2k_0, oc_44, ro_m0, ro_m1, ro_m2, ro_m4, ro_m5, ro_m11, ro_m12, ro_m13, ro_m14, ro_m15, ro_m16, ro_m17, ak_45, ak_46, ak_47, ak_48, ak_49, ak_50, ak_51, ak_52, ak_53, ak_54, ak_55, ak_56, al_45, al_46, al_47, al_48, al_49, al_50, al_51, al_52, al_53, al_54, al_55, al_56, l45, l46, l47, l48, l49, l50, l51, l52, l53, l54, a45, a46, a47, a48, a49, a50, a51, a52, a53, a54, in46_0, in46_1, in46_2, in46_3, in46_4, in46_5, cn_0, cn_1, cn_2, cn_3, cn_4, cn_5, i10, i01, zb_t, zb_f, not_true_eq_false, not_false_eq_true, if_true, if_false, true_or, sp_in1, md_1, md_6, md_5, hle, in_46 (show p < 46 by omega), cl_nI (show p < 100000 by omega), hr, he.trans (eq_true c), e3, Nat.add_zero]
    · obtain ⟨I1, e1, hH1, ho1⟩ := m_watch (J := J) hH hV (by omega)
      obtain ⟨I2, e2, h2⟩ := ih (k + 1) I1 (goV t n) (B + 1) (by omega) hH1 (goV_V hV) (by omega) (ha.up ho1)
      refine ⟨I2, ?_, h2⟩
      rw [fiV_s (by simp [c]), eM_firstBy_3]
      simp only [eM_firstBy_0, eM_firstBy_1, eM_firstBy_5, eM_firstBy_6, eM_firstBy_9, eM_firstBy_10, eM_firstBy_13, eM_firstBy_14, eM_firstBy_15, eM_firstBy_16, eM_firstBy_19, eM_firstBy_20, eM_firstBy_23, eM_firstBy_26, eM_firstBy_29, eM_firstBy_30, eM_firstBy_33, eM_firstBy_35, eq_self, hr_k_some, Option.toList, List.cons_append, List.nil_append, is2k_n, is2k_i, is2k_r, is2k_0, oc_44, ro_m0, ro_m1, ro_m2, ro_m4, ro_m5, ro_m11, ro_m12, ro_m13, ro_m14, ro_m15, ro_m16, ro_m17, ak_45, ak_46, ak_47, ak_48, ak_49, ak_50, ak_51, ak_52, ak_53, ak_54, ak_55, ak_56, al_45, al_46, al_47, al_48, al_49, al_50, al_51, al_52, al_53, al_54, al_55, al_56, l45, l46, l47, l48, l49, l50, l51, l52, l53, l54, a45, a46, a47, a48, a49, a50, a51, a52, a53, a54, in46_0, in46_1, in46_2, in46_3, in46_4, in46_5, cn_0, cn_1, cn_2, cn_3, cn_4, cn_5, i10, i01, zb_t, zb_f, not_true_eq_false, not_false_eq_true, if_true, if_false, true_or, sp_in1, md_1, md_6, md_5, hle, in_46 (show p < 46 by omega), cl_nI (show p < 100000 by omega), hr, he.trans (eq_false c), e1, nI_1]
      rw [e2, show k + 1 + fiV (fun t => decide (t p = v)) (goV t n) n d = k + (fiV (fun t => decide (t p = v)) (goV t n) n d + 1) by omega]
theorem m_first {I0 : Nat → Nat → Int32} {p v m : Nat} (hp : p = 1 ∨ p = 4) (hv : v < 64) (hm : m < 1000) (hH : mh I 45 t n) (hV : V t n B) (hB : B + m + 1 < 2 ^ 28) (ha : la I0 I) : ∃ I', den nM_firstBy (0, [some (.ref 44), some (.int (nI p)), some (.int (nI v)), some (.int (nI m)), none], [], (I, J)) = some (some (.int (nI (fiV (fun t => decide (t p = v)) t n (m + 1)))), (I', J)) ∧ lb I0 I' := by
  simp only [eM_firstBy_0, eM_firstBy_1, eq_self, hr_k_some, Option.toList, List.cons_append, List.nil_append, is2k_n, is2k_i, is2k_r, is2k_0]
  have := mfb_loop (J := J) hp hv hm (m + 1) 0 I t B (by omega) hH hV (by omega) ha
  rwa [Nat.zero_add] at this
end
