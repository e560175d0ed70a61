section
variable {I I' : Nat → Nat → Int32} {J J' : Nat → Nat → Int64} {t t' : Nat → Nat} {n n' kp kp' B : Nat} {u u' : Nat → Nat} {m m' : Nat} {y : Nat → Int32} {bt bt' : Nat → Nat} {L L' : Nat} {w z w' z' : Nat → Nat} {num num' : Nat → Nat → Int64}
theorem Md.gen (h : Md I J t n kp u m y bt L w z num) (hH : mh I' 45 t' n') (hV : V t' n' 99999) (hT : MTp I' bt' L') (ho : ∀ b j, 44 ≤ b → b < 57 → b ≠ 45 → b ≠ 47 → b ≠ 49 → (b = 44 → j = 3) → I' b j = I b j) (hJ : ∀ j, J' 55 j = J 55 j) : Md I' J' t' n' kp u m y bt' L' w z num := by
  obtain ⟨h1, h2, ⟨h3, h4, h5⟩, h6, -, h10, h11, h12, h13⟩ := h
  have o := fun b j (h1 : 44 ≤ b ∧ b < 57 ∧ b ≠ 45 ∧ b ≠ 47 ∧ b ≠ 49 ∧ (b = 44 → j = 3)) => ho b j h1.1 h1.2.1 h1.2.2.1 h1.2.2.2.1 h1.2.2.2.2.1 h1.2.2.2.2.2
  refine ⟨hH, hV, ⟨(o 44 3 (by omega)).trans h3, h4, fun hk => ⟨fun j hj => (o 46 j (by omega)).trans ((h5 hk).1 j hj), (h5 hk).2⟩⟩, fun j hj => (o 48 j (by omega)).trans (h6 j hj), hT, fun s hs => ?_, fun j hj => (o 50 j (by omega)).trans (h11 j hj), fun j hj => (o 51 j (by omega)).trans (h12 j hj), fun j hj => (o 52 j (by omega)).trans (h13 j hj)⟩
  obtain ⟨a1, a2, a3, a4, a5⟩ := h10 s hs
  exact ⟨(o 53 s (by omega)).trans a1, a2, (o 54 s (by omega)).trans a3, a4, fun i hi => (hJ _).trans (a5 i hi)⟩
theorem Md.kpt (h : Md I J t n kp u m y bt L w z num) (hH : mh I' 45 t' n') (hV : V t' n' 99999) (h3' : I' 44 3 = nI kp') (h4' : kp' < 2) (h5' : kp' = 1 → mh I' 46 u' m' ∧ V u' m' 99999) (ho : ∀ b j, 44 ≤ b → b < 57 → b ≠ 45 → b ≠ 46 → b ≠ 47 → (b = 44 → j = 6) → I' b j = I b j) : Md I' J t' n' kp' u' m' y bt L w z num := by
  obtain ⟨h1, h2, -, h6, ⟨h7, h8, h9⟩, h10, h11, h12, h13⟩ := h
  have o := fun b j (h1 : 44 ≤ b ∧ b < 57 ∧ b ≠ 45 ∧ b ≠ 46 ∧ b ≠ 47 ∧ (b = 44 → j = 6)) => ho b j h1.1 h1.2.1 h1.2.2.1 h1.2.2.2.1 h1.2.2.2.2.1 h1.2.2.2.2.2
  refine ⟨hH, hV, ⟨h3', h4', h5'⟩, fun j hj => (o 48 j (by omega)).trans (h6 j hj), ⟨(o 44 6 (by omega)).trans h7, h8, fun j hj => ⟨(h9 j hj).1, (o 49 j (by omega)).trans (h9 j hj).2⟩⟩, fun s hs => ?_, fun j hj => (o 50 j (by omega)).trans (h11 j hj), fun j hj => (o 51 j (by omega)).trans (h12 j hj), fun j hj => (o 52 j (by omega)).trans (h13 j hj)⟩
  obtain ⟨a1, a2, a3, a4, a5⟩ := h10 s hs
  exact ⟨(o 53 s (by omega)).trans a1, a2, (o 54 s (by omega)).trans a3, a4, a5⟩
theorem Md.shs (h : Md I J t n kp u m y bt L w z num) (hX : Msh I' J' w' z' num') (ho : ∀ b j, 44 ≤ b → b < 57 → b ≠ 53 → b ≠ 54 → I' b j = I b j) : Md I' J' t n kp u m y bt L w' z' num' := by
  obtain ⟨h1, h2, ⟨h3, h4, h5⟩, h6, ⟨h7, h8, h9⟩, -, h11, h12, h13⟩ := h
  have o := fun b j (h1 : 44 ≤ b ∧ b < 57 ∧ b ≠ 53 ∧ b ≠ 54) => ho b j h1.1 h1.2.1 h1.2.2.1 h1.2.2.2
  exact ⟨fun j hj => (o 45 j (by omega)).trans (h1 j hj), h2, ⟨(o 44 3 (by omega)).trans h3, h4, fun hk => ⟨fun j hj => (o 46 j (by omega)).trans ((h5 hk).1 j hj), (h5 hk).2⟩⟩, fun j hj => (o 48 j (by omega)).trans (h6 j hj), ⟨(o 44 6 (by omega)).trans h7, h8, fun j hj => ⟨(h9 j hj).1, (o 49 j (by omega)).trans (h9 j hj).2⟩⟩, hX, fun j hj => (o 50 j (by omega)).trans (h11 j hj), fun j hj => (o 51 j (by omega)).trans (h12 j hj), fun j hj => (o 52 j (by omega)).trans (h13 j hj)⟩
/-! feed -/
theorem mfeed_loop {x q : Int32} : ∀ (c L : Nat) (I : Nat → Nat → Int32) (bt : Nat → Nat), L + c ≤ 120 → MTp I bt L → ∃ I', den nM_feed (36, [some (.ref 44), some (.int x), some (.int q), some (.int (dnN c))], [], (I, J)) = some (some (.int (nI (L + c))), (I', J)) ∧ MTp I' (fdB x c bt L) (L + c) ∧ ∀ b j, b ≠ 49 → (b = 44 → j ≠ 6) → I' b j = I b j := by
  intro c
  induction c with
  | zero =>
    intro L I bt hc h
    refine ⟨I, ?_, h, fun _ _ _ _ => rfl⟩
    simp only [eM_feed_0, eM_feed_1, eM_feed_2, eM_feed_3, eM_feed_6, eM_feed_9, eM_feed_10, eM_feed_11, eM_feed_14, eM_feed_15, eM_feed_16, eM_feed_19, eM_feed_20, eM_feed_21, eM_feed_23, eM_feed_26, eM_feed_27, eM_feed_28, eM_feed_31, eM_feed_32, eM_feed_33, eM_feed_34, eM_feed_35, eM_feed_36, eM_feed_37, eM_feed_40, eM_feed_41, eM_feed_44, eM_feed_45, eM_feed_48, eM_feed_49, eM_feed_51, eM_feed_52, eM_feed_53, eM_feed_54, eM_feed_57, eM_feed_58, eM_feed_59, eM_feed_60, eM_feed_61, eM_feed_64, eM_feed_65, eM_feed_66, eM_feed_69, eM_feed_72, eM_feed_75, eM_feed_76, eM_feed_79, eq_self, hr_k_some, Option.toList, List.cons_append, List.nil_append, is2k_n, is2k_i, is2k_r, is2k_0, oc_44, ro_m0, ro_m1, ro_m2, ro_m4, ro_m5, ro_m11, ro_m12, ro_m13, ro_m14, ro_m15, ro_m16, ro_m17, ak_45, ak_46, ak_47, ak_48, ak_49, ak_50, ak_51, ak_52, ak_53, ak_54, ak_55, ak_56, al_45, al_46, al_47, al_48, al_49, al_50, al_51, al_52, al_53, al_54, al_55, al_56, l45, l46, l47, l48, l49, l50, l51, l52, l53, l54, a45, a46, a47, a48, a49, a50, a51, a52, a53, a54, in46_0, in46_1, in46_2, in46_3, in46_4, in46_5, cn_0, cn_1, cn_2, cn_3, cn_4, cn_5, i10, i01, zb_t, zb_f, not_true_eq_false, not_false_eq_true, if_true, if_false, true_or, sp_in1, md_1, md_6, md_5, dnN_0, h.1, Nat.add_zero]
  | succ c ih =>
    intro L I bt hc h
    obtain ⟨h1, h2, h3⟩ := h
    have hL : L < 120 := by omega
    have ht : MTp (up2 (up2 I 49 L (nI (fb x c))) 44 6 (nI (L + 1))) (upV bt L (fb x c)) (L + 1) := by
      refine ⟨up2_eq, by omega, fun j hj => ?_⟩
      rw [up2_na (by decide)]
      by_cases e : j = L
      · subst e
        rw [up2_eq, upV_same]
        exact ⟨fb_lt _ _, rfl⟩
      · rw [up2_nk e, upV_ne e]
        exact h3 j (by omega)
    obtain ⟨I', e', h', o'⟩ := ih (L + 1) _ _ (by omega) ht
    refine ⟨I', ?_, ?_, fun b j hb hb' => ?_⟩
    · rw [eM_feed_36]
      have hq : ∀ k, (up2 I 49 L k) 44 6 = nI L := fun k => (up2_na (by decide)).trans h1
      simp only [eM_feed_37, eM_feed_40, eM_feed_41, eM_feed_44, eM_feed_45, eM_feed_48, eM_feed_49, eM_feed_51, eM_feed_52, eM_feed_53, eM_feed_54, eM_feed_57, eM_feed_58, eM_feed_59, eM_feed_60, eM_feed_61, eM_feed_64, eM_feed_65, eM_feed_66, eM_feed_69, eM_feed_72, eM_feed_75, eM_feed_76, eq_self, hr_k_some, Option.toList, List.cons_append, List.nil_append, is2k_n, is2k_i, is2k_r, is2k_0, oc_44, ro_m0, ro_m1, ro_m2, ro_m4, ro_m5, ro_m11, ro_m12, ro_m13, ro_m14, ro_m15, ro_m16, ro_m17, ak_45, ak_46, ak_47, ak_48, ak_49, ak_50, ak_51, ak_52, ak_53, ak_54, ak_55, ak_56, al_45, al_46, al_47, al_48, al_49, al_50, al_51, al_52, al_53, al_54, al_55, al_56, l45, l46, l47, l48, l49, l50, l51, l52, l53, l54, a45, a46, a47, a48, a49, a50, a51, a52, a53, a54, in46_0, in46_1, in46_2, in46_3, in46_4, in46_5, cn_0, cn_1, cn_2, cn_3, cn_4, cn_5, i10, i01, zb_t, zb_f, not_true_eq_false, not_false_eq_true, if_true, if_false, true_or, sp_in1, md_1, md_6, md_5, dnN_s, lt0f (show c < 2 ^ 31 by omega), h1, in_120 hL, cl_nI (show L < 100000 by omega), fb_and, hq, nI_1, dnN_d]
      rw [e', show L + 1 + c = L + (c + 1) by omega]
    · rw [show L + (c + 1) = L + 1 + c by omega]
      exact h'
    · rw [o' b j hb hb']
      by_cases e : b = 44
      · rw [e, up2_nk (hb' e), up2_na (by decide)]
      · rw [up2_na e, up2_na hb]
theorem M_feed_ok (h : Md I J t n kp u m y bt L w z num) {x : Int32} {c : Nat} (hc : 1 ≤ c ∧ c ≤ 4) (hL : L + c ≤ 120) : MR nM_feed [some (.ref 44), some (.int x), some (.int (nI c)), none] I J (.int (nI (L + c))) (fun I' J' => Md I' J' t n kp u m y (fdB x c bt L) (L + c) w z num) := by
  have ew : decide ((1 : Int32) ≤ nI c ∧ nI c ≤ 4) = true := wi_yes (a := 1) (b := 4) hc.1 hc.2 (by decide)
  have hT : MTp I bt L := h.2.2.2.2.1
  obtain ⟨I', e', h', o'⟩ := mfeed_loop (J := J) (x := x) (q := nI c) c L I bt hL hT
  refine ⟨I', J, ?_, fun b hb j => ⟨o' b j (by omega) (by omega), rfl⟩, h.gen (fun j hj => (o' 45 j (by decide) (by omega)).trans (h.1 j hj)) h.2.1 h' (fun b j h1 h2 h3 h4 h5 h6 => o' b j h5 (fun q => by rw [h6 q]; decide)) (fun _ => rfl)⟩
  have e1 : (nI (L + c) ≤ (120 : Int32)) = True := leT (a := L + c) (b := 120) hL (by decide)
  simp only [eM_feed_0, eM_feed_1, eM_feed_2, eM_feed_3, eM_feed_6, eM_feed_9, eM_feed_10, eM_feed_11, eM_feed_14, eM_feed_15, eM_feed_16, eM_feed_19, eM_feed_20, eM_feed_21, eM_feed_23, eM_feed_26, eM_feed_27, eM_feed_28, eM_feed_31, eM_feed_32, eM_feed_33, eM_feed_34, eM_feed_35, eq_self, hr_k_some, Option.toList, List.cons_append, List.nil_append, is2k_n, is2k_i, is2k_r, is2k_0, oc_44, ro_m0, ro_m1, ro_m2, ro_m4, ro_m5, ro_m11, ro_m12, ro_m13, ro_m14, ro_m15, ro_m16, ro_m17, ak_45, ak_46, ak_47, ak_48, ak_49, ak_50, ak_51, ak_52, ak_53, ak_54, ak_55, ak_56, al_45, al_46, al_47, al_48, al_49, al_50, al_51, al_52, al_53, al_54, al_55, al_56, l45, l46, l47, l48, l49, l50, l51, l52, l53, l54, a45, a46, a47, a48, a49, a50, a51, a52, a53, a54, in46_0, in46_1, in46_2, in46_3, in46_4, in46_5, cn_0, cn_1, cn_2, cn_3, cn_4, cn_5, i10, i01, zb_t, zb_f, not_true_eq_false, not_false_eq_true, if_true, if_false, true_or, sp_in1, md_1, md_6, md_5, ew, hT.1, nI_add, e1]
  exact e'
theorem M_feed_full (h : Md I J t n kp u m y bt L w z num) {x : Int32} {c : Nat} (hc : 1 ≤ c ∧ c ≤ 4) (hL : ¬ L + c ≤ 120) : MR nM_feed [some (.ref 44), some (.int x), some (.int (nI c)), none] I J (.int (fnd 1)) (fun I' J' => Md I' J' t n kp u m (inc y 1) bt L w z num) := by
  refine MR.fnd (by decide) h ?_
  have ew : decide ((1 : Int32) ≤ nI c ∧ nI c ≤ 4) = true := wi_yes (a := 1) (b := 4) hc.1 hc.2 (by decide)
  have hT : MTp I bt L := h.2.2.2.2.1
  have hL' := hT.2.1
  have e1 : (nI (L + c) ≤ (120 : Int32)) = False := leF (a := L + c) (b := 120) (by omega) (by omega)
  simp only [eM_feed_0, eM_feed_1, eM_feed_2, eM_feed_3, eM_feed_6, eM_feed_9, eM_feed_10, eM_feed_11, eM_feed_14, eM_feed_15, eM_feed_16, eM_feed_19, eM_feed_20, eM_feed_21, eM_feed_23, eM_feed_26, eM_feed_27, eM_feed_28, eM_feed_31, eM_feed_32, eM_feed_33, eM_feed_34, eM_feed_35, eq_self, hr_k_some, Option.toList, List.cons_append, List.nil_append, is2k_n, is2k_i, is2k_r, is2k_0, oc_44, ro_m0, ro_m1, ro_m2, ro_m4, ro_m5, ro_m11, ro_m12, ro_m13, ro_m14, ro_m15, ro_m16, ro_m17, ak_45, ak_46, ak_47, ak_48, ak_49, ak_50, ak_51, ak_52, ak_53, ak_54, ak_55, ak_56, al_45, al_46, al_47, al_48, al_49, al_50, al_51, al_52, al_53, al_54, al_55, al_56, l45, l46, l47, l48, l49, l50, l51, l52, l53, l54, a45, a46, a47, a48, a49, a50, a51, a52, a53, a54, in46_0, in46_1, in46_2, in46_3, in46_4, in46_5, cn_0, cn_1, cn_2, cn_3, cn_4, cn_5, i10, i01, zb_t, zb_f, not_true_eq_false, not_false_eq_true, if_true, if_false, true_or, sp_in1, md_1, md_6, md_5, ew, hT.1, nI_add, e1, sp_no1]
theorem M_feed_no (h : Md I J t n kp u m y bt L w z num) {x a2 : Int32} (hb : ¬ ∃ c, 1 ≤ c ∧ c ≤ 4 ∧ a2 = nI c) : MR nM_feed [some (.ref 44), some (.int x), some (.int a2), none] I J (.int (fnd 0)) (fun I' J' => Md I' J' t n kp u m (inc y 0) bt L w z num) := by
  refine MR.fnd (by decide) h ?_
  have ew : decide ((1 : Int32) ≤ a2 ∧ a2 ≤ 4) = false := wi_no1 (a := 1) (b := 4) (by decide) (by decide) hb
  simp only [eM_feed_0, eM_feed_1, eM_feed_2, eM_feed_3, eM_feed_6, eM_feed_9, eM_feed_10, eM_feed_11, eM_feed_14, eM_feed_15, eM_feed_16, eM_feed_19, eM_feed_20, eM_feed_21, eM_feed_23, eM_feed_26, eM_feed_27, eM_feed_28, eM_feed_31, eM_feed_32, eM_feed_33, eM_feed_34, eM_feed_35, eq_self, hr_k_some, Option.toList, List.cons_append, List.nil_append, is2k_n, is2k_i, is2k_r, is2k_0, oc_44, ro_m0, ro_m1, ro_m2, ro_m4, ro_m5, ro_m11, ro_m12, ro_m13, ro_m14, ro_m15, ro_m16, ro_m17, ak_45, ak_46, ak_47, ak_48, ak_49, ak_50, ak_51, ak_52, ak_53, ak_54, ak_55, ak_56, al_45, al_46, al_47, al_48, al_49, al_50, al_51, al_52, al_53, al_54, al_55, al_56, l45, l46, l47, l48, l49, l50, l51, l52, l53, l54, a45, a46, a47, a48, a49, a50, a51, a52, a53, a54, in46_0, in46_1, in46_2, in46_3, in46_4, in46_5, cn_0, cn_1, cn_2, cn_3, cn_4, cn_5, i10, i01, zb_t, zb_f, not_true_eq_false, not_false_eq_true, if_true, if_false, true_or, sp_in1, md_1, md_6, md_5, ew, sp_no0]
theorem M_wipe_all (h : Md I J t n kp u m y bt L w z num) : MR nM_wipe [some (.ref 44), none] I J (.int (nI L)) (fun I' J' => Md I' J' t n kp u m y bt 0 w z num) := by
  have hT : MTp I bt L := h.2.2.2.2.1
  refine ⟨up2 I 44 6 0, J, ?_, fun b hb j => ⟨up2_na (by omega), rfl⟩, h.gen (fun j hj => (up2_na (by decide)).trans (h.1 j hj)) h.2.1 ⟨up2_eq, by omega, fun j hj => by omega⟩ (fun b j h1 h2 h3 h4 h5 h6 => ?_) (fun _ => rfl)⟩
  · simp only [eM_wipe_0, eM_wipe_1, eM_wipe_4, eM_wipe_5, eM_wipe_6, eM_wipe_7, eM_wipe_10, eM_wipe_11, eq_self, hr_k_some, Option.toList, List.cons_append, List.nil_append, is2k_n, is2k_i, is2k_r, is2k_0, oc_44, ro_m0, ro_m1, ro_m2, ro_m4, ro_m5, ro_m11, ro_m12, ro_m13, ro_m14, ro_m15, ro_m16, ro_m17, ak_45, ak_46, ak_47, ak_48, ak_49, ak_50, ak_51, ak_52, ak_53, ak_54, ak_55, ak_56, al_45, al_46, al_47, al_48, al_49, al_50, al_51, al_52, al_53, al_54, al_55, al_56, l45, l46, l47, l48, l49, l50, l51, l52, l53, l54, a45, a46, a47, a48, a49, a50, a51, a52, a53, a54, in46_0, in46_1, in46_2, in46_3, in46_4, in46_5, cn_0, cn_1, cn_2, cn_3, cn_4, cn_5, i10, i01, zb_t, zb_f, not_true_eq_false, not_false_eq_true, if_true, if_false, true_or, sp_in1, md_1, md_6, md_5, hT.1]
  · by_cases e : b = 44
    · subst e; rw [h6 rfl]; exact up2_nk (by decide)
    · exact up2_na e
/-! image, undo, tear -/
theorem image_loop : ∀ (d k : Nat) (I : Nat → Nat → Int32), k + d = 46 → (∀ j, j < k → I 46 j = I 45 j) → ∃ I', den nM_image (2, [some (.ref 44), some (.int (nI k))], [], (I, J)) = some (some (.int 1), (up2 I' 44 3 1, J)) ∧ (∀ j, j < 46 → I' 46 j = I 45 j) ∧ oR 46 I I' := by
  intro d
  induction d with
  | zero =>
    intro k I hk h0
    have hk' : k = 46 := by omega
    subst hk'
    have e : ((46 : Int32) ≤ nI 46) = True := eq_true (by decide)
    refine ⟨I, ?_, h0, oR.rfl⟩
    simp only [eM_image_0, eM_image_1, eM_image_2, eM_image_3, eM_image_5, eM_image_8, eM_image_9, eM_image_12, eM_image_13, eM_image_14, eM_image_17, eM_image_18, eM_image_19, eM_image_20, eM_image_23, eM_image_26, eM_image_27, eM_image_28, eM_image_31, eM_image_32, eq_self, hr_k_some, Option.toList, List.cons_append, List.nil_append, is2k_n, is2k_i, is2k_r, is2k_0, oc_44, ro_m0, ro_m1, ro_m2, ro_m4, ro_m5, ro_m11, ro_m12, ro_m13, ro_m14, ro_m15, ro_m16, ro_m17, ak_45, ak_46, ak_47, ak_48, ak_49, ak_50, ak_51, ak_52, ak_53, ak_54, ak_55, ak_56, al_45, al_46, al_47, al_48, al_49, al_50, al_51, al_52, al_53, al_54, al_55, al_56, l45, l46, l47, l48, l49, l50, l51, l52, l53, l54, a45, a46, a47, a48, a49, a50, a51, a52, a53, a54, in46_0, in46_1, in46_2, in46_3, in46_4, in46_5, cn_0, cn_1, cn_2, cn_3, cn_4, cn_5, i10, i01, zb_t, zb_f, not_true_eq_false, not_false_eq_true, if_true, if_false, true_or, sp_in1, md_1, md_6, md_5, e, or_true]
  | succ d ih =>
    intro k I hk h0
    have e : ((46 : Int32) ≤ nI k) = False := leF (a := 46) (show k < 46 by omega) (by decide)
    have hr : ∀ j, up2 I 46 k (I 45 k) 45 j = I 45 j := fun j => up2_na (by decide)
    obtain ⟨I', e', h', o'⟩ := ih (k + 1) (up2 I 46 k (I 45 k)) (by omega) (fun j hj => by
      rw [hr]
      by_cases q : j = k
      · subst q; exact up2_eq
      · rw [up2_nk q]; exact h0 j (by omega))
    refine ⟨I', ?_, fun j hj => (h' j hj).trans (hr j), oR.up.trans o'⟩
    rw [eM_image_2]
    simp only [eM_image_3, eM_image_5, eM_image_8, eM_image_9, eM_image_12, eM_image_13, eM_image_14, eM_image_17, eM_image_18, eM_image_19, eM_image_20, eM_image_23, eq_self, hr_k_some, Option.toList, List.cons_append, List.nil_append, is2k_n, is2k_i, is2k_r, is2k_0, oc_44, ro_m0, ro_m1, ro_m2, ro_m4, ro_m5, ro_m11, ro_m12, ro_m13, ro_m14, ro_m15, ro_m16, ro_m17, ak_45, ak_46, ak_47, ak_48, ak_49, ak_50, ak_51, ak_52, ak_53, ak_54, ak_55, ak_56, al_45, al_46, al_47, al_48, al_49, al_50, al_51, al_52, al_53, al_54, al_55, al_56, l45, l46, l47, l48, l49, l50, l51, l52, l53, l54, a45, a46, a47, a48, a49, a50, a51, a52, a53, a54, in46_0, in46_1, in46_2, in46_3, in46_4, in46_5, cn_0, cn_1, cn_2, cn_3, cn_4, cn_5, i10, i01, zb_t, zb_f, not_true_eq_false, not_false_eq_true, if_true, if_false, true_or, sp_in1, md_1, md_6, md_5, e, in_46 (show k < 46 by omega), cl_nI (show k < 100000 by omega), nI_1]
    exact e'
theorem M_image_all (h : Md I J t n kp u m y bt L w z num) : MR nM_image [some (.ref 44), none] I J (.int 1) (fun I' J' => Md I' J' t n 1 t n y bt L w z num) := by
  have hn := h.2.1.2.1
  obtain ⟨I1, e1, h1, o1⟩ := image_loop (J := J) 46 0 I (by omega) (fun j hj => by omega)
  have o2 : ∀ b j, b ≠ 46 → (b = 44 → j ≠ 3) → up2 I1 44 3 1 b j = I b j := fun b j hb hj => by
    by_cases e : b = 44
    · rw [e, up2_nk (hj e)]; exact o1 44 (by decide) j
    · rw [up2_na e]; exact o1 b hb j
  refine ⟨up2 I1 44 3 1, J, ?_, fun b hb j => ⟨o2 b j (by omega) (by omega), rfl⟩, h.kpt (fun j hj => (o2 45 j (by decide) (by omega)).trans (h.1 j hj)) h.2.1 up2_eq (by decide) (fun _ => ⟨fun j hj => ?_, h.2.1⟩) (fun b j g1 g2 g3 g4 g5 g6 => o2 b j g4 (fun q => by rw [g6 q]; decide))⟩
  · simp only [eM_image_0, eM_image_1, eq_self, hr_k_some, Option.toList, List.cons_append, List.nil_append, is2k_n, is2k_i, is2k_r, is2k_0, oc_44, ro_m0, ro_m1, ro_m2, ro_m4, ro_m5, ro_m11, ro_m12, ro_m13, ro_m14, ro_m15, ro_m16, ro_m17, ak_45, ak_46, ak_47, ak_48, ak_49, ak_50, ak_51, ak_52, ak_53, ak_54, ak_55, ak_56, al_45, al_46, al_47, al_48, al_49, al_50, al_51, al_52, al_53, al_54, al_55, al_56, l45, l46, l47, l48, l49, l50, l51, l52, l53, l54, a45, a46, a47, a48, a49, a50, a51, a52, a53, a54, in46_0, in46_1, in46_2, in46_3, in46_4, in46_5, cn_0, cn_1, cn_2, cn_3, cn_4, cn_5, i10, i01, zb_t, zb_f, not_true_eq_false, not_false_eq_true, if_true, if_false, true_or, sp_in1, md_1, md_6, md_5]
    exact e1
  · rw [up2_na (by decide), h1 j (by omega)]; exact h.1 j hj
theorem undo_loop : ∀ (d k : Nat) (I : Nat → Nat → Int32), k + d = 46 → (∀ j, j < k → I 45 j = I 46 j) → ∃ I', den nM_undo (15, [some (.ref 44), some (.int (nI k))], [], (I, J)) = some (some (.int (I' 45 5)), (I', J)) ∧ (∀ j, j < 46 → I' 45 j = I 46 j) ∧ oR 45 I I' := by
  intro d
  induction d with
  | zero =>
    intro k I hk h0
    have hk' : k = 46 := by omega
    subst hk'
    have e : ((46 : Int32) ≤ nI 46) = True := eq_true (by decide)
    refine ⟨I, ?_, h0, oR.rfl⟩
    simp only [eM_undo_0, eM_undo_1, eM_undo_4, eM_undo_7, eM_undo_8, eM_undo_9, eM_undo_12, eM_undo_13, eM_undo_14, eM_undo_15, eM_undo_16, eM_undo_18, eM_undo_21, eM_undo_22, eM_undo_25, eM_undo_26, eM_undo_27, eM_undo_30, eM_undo_31, eM_undo_32, eM_undo_33, eM_undo_36, eM_undo_39, eM_undo_40, eM_undo_43, eM_undo_44, eM_undo_45, eq_self, hr_k_some, Option.toList, List.cons_append, List.nil_append, is2k_n, is2k_i, is2k_r, is2k_0, oc_44, ro_m0, ro_m1, ro_m2, ro_m4, ro_m5, ro_m11, ro_m12, ro_m13, ro_m14, ro_m15, ro_m16, ro_m17, ak_45, ak_46, ak_47, ak_48, ak_49, ak_50, ak_51, ak_52, ak_53, ak_54, ak_55, ak_56, al_45, al_46, al_47, al_48, al_49, al_50, al_51, al_52, al_53, al_54, al_55, al_56, l45, l46, l47, l48, l49, l50, l51, l52, l53, l54, a45, a46, a47, a48, a49, a50, a51, a52, a53, a54, in46_0, in46_1, in46_2, in46_3, in46_4, in46_5, cn_0, cn_1, cn_2, cn_3, cn_4, cn_5, i10, i01, zb_t, zb_f, not_true_eq_false, not_false_eq_true, if_true, if_false, true_or, sp_in1, md_1, md_6, md_5, e]
  | succ d ih =>
    intro k I hk h0
    have e : ((46 : Int32) ≤ nI k) = False := leF (a := 46) (show k < 46 by omega) (by decide)
    have hr : ∀ j, up2 I 45 k (I 46 k) 46 j = I 46 j := fun j => up2_na (by decide)
    obtain ⟨I', e', h', o'⟩ := ih (k + 1) (up2 I 45 k (I 46 k)) (by omega) (fun j hj => by
      rw [hr]
      by_cases q : j = k
      · subst q; exact up2_eq
      · rw [up2_nk q]; exact h0 j (by omega))
    refine ⟨I', ?_, fun j hj => (h' j hj).trans (hr j), oR.up.trans o'⟩
    rw [eM_undo_15]
    simp only [eM_undo_16, eM_undo_18, eM_undo_21, eM_undo_22, eM_undo_25, eM_undo_26, eM_undo_27, eM_undo_30, eM_undo_31, eM_undo_32, eM_undo_33, eM_undo_36, eq_self, hr_k_some, Option.toList, List.cons_append, List.nil_append, is2k_n, is2k_i, is2k_r, is2k_0, oc_44, ro_m0, ro_m1, ro_m2, ro_m4, ro_m5, ro_m11, ro_m12, ro_m13, ro_m14, ro_m15, ro_m16, ro_m17, ak_45, ak_46, ak_47, ak_48, ak_49, ak_50, ak_51, ak_52, ak_53, ak_54, ak_55, ak_56, al_45, al_46, al_47, al_48, al_49, al_50, al_51, al_52, al_53, al_54, al_55, al_56, l45, l46, l47, l48, l49, l50, l51, l52, l53, l54, a45, a46, a47, a48, a49, a50, a51, a52, a53, a54, in46_0, in46_1, in46_2, in46_3, in46_4, in46_5, cn_0, cn_1, cn_2, cn_3, cn_4, cn_5, i10, i01, zb_t, zb_f, not_true_eq_false, not_false_eq_true, if_true, if_false, true_or, sp_in1, md_1, md_6, md_5, e, in_46 (show k < 46 by omega), cl_nI (show k < 100000 by omega), nI_1]
    exact e'
theorem M_undo_ok (h : Md I J t n kp u m y bt L w z num) (hk : kp = 1) : MR nM_undo [some (.ref 44), none] I J (.int (nI m)) (fun I' J' => Md I' J' u m kp u m y bt L w z num) := by
  obtain ⟨g1, g2⟩ := h.2.2.1.2.2 hk
  have hm := g2.2.1
  have e3 : I 44 3 = nI kp := h.2.2.1.1
  have e0 : (nI kp = 0) = False := nq (c := 0) (by omega) (by omega) (by decide)
  obtain ⟨I1, e1, h1, o1⟩ := undo_loop (J := J) 46 0 I (by omega) (fun j hj => by omega)
  have hH : mh I1 45 u m := fun j hj => (h1 j (by omega)).trans (g1 j hj)
  have h5 := (mfs hH g2).2.2.2.2.2
  rw [h5] at e1
  refine MR.mv h o1 hH g2 ?_
  simp only [eM_undo_0, eM_undo_1, eM_undo_4, eM_undo_7, eM_undo_8, eM_undo_9, eM_undo_12, eM_undo_13, eM_undo_14, eq_self, hr_k_some, Option.toList, List.cons_append, List.nil_append, is2k_n, is2k_i, is2k_r, is2k_0, oc_44, ro_m0, ro_m1, ro_m2, ro_m4, ro_m5, ro_m11, ro_m12, ro_m13, ro_m14, ro_m15, ro_m16, ro_m17, ak_45, ak_46, ak_47, ak_48, ak_49, ak_50, ak_51, ak_52, ak_53, ak_54, ak_55, ak_56, al_45, al_46, al_47, al_48, al_49, al_50, al_51, al_52, al_53, al_54, al_55, al_56, l45, l46, l47, l48, l49, l50, l51, l52, l53, l54, a45, a46, a47, a48, a49, a50, a51, a52, a53, a54, in46_0, in46_1, in46_2, in46_3, in46_4, in46_5, cn_0, cn_1, cn_2, cn_3, cn_4, cn_5, i10, i01, zb_t, zb_f, not_true_eq_false, not_false_eq_true, if_true, if_false, true_or, sp_in1, md_1, md_6, md_5, e3, e0]
  exact e1
theorem M_undo_no (h : Md I J t n kp u m y bt L w z num) (hk : kp = 0) : MR nM_undo [some (.ref 44), none] I J (.int (fnd 3)) (fun I' J' => Md I' J' t n kp u m (inc y 3) bt L w z num) := by
  refine MR.fnd (by decide) h ?_
  have e3 : I 44 3 = nI kp := h.2.2.1.1
  have e0 : (nI kp = 0) = True := eq_true (by rw [hk]; rfl)
  simp only [eM_undo_0, eM_undo_1, eM_undo_4, eM_undo_7, eM_undo_8, eM_undo_9, eM_undo_12, eM_undo_13, eM_undo_14, eq_self, hr_k_some, Option.toList, List.cons_append, List.nil_append, is2k_n, is2k_i, is2k_r, is2k_0, oc_44, ro_m0, ro_m1, ro_m2, ro_m4, ro_m5, ro_m11, ro_m12, ro_m13, ro_m14, ro_m15, ro_m16, ro_m17, ak_45, ak_46, ak_47, ak_48, ak_49, ak_50, ak_51, ak_52, ak_53, ak_54, ak_55, ak_56, al_45, al_46, al_47, al_48, al_49, al_50, al_51, al_52, al_53, al_54, al_55, al_56, l45, l46, l47, l48, l49, l50, l51, l52, l53, l54, a45, a46, a47, a48, a49, a50, a51, a52, a53, a54, in46_0, in46_1, in46_2, in46_3, in46_4, in46_5, cn_0, cn_1, cn_2, cn_3, cn_4, cn_5, i10, i01, zb_t, zb_f, not_true_eq_false, not_false_eq_true, if_true, if_false, true_or, sp_in1, md_1, md_6, md_5, e3, e0, sp_no3]
theorem M_tear_all (h : Md I J t n kp u m y bt L w z num) : MR nM_tear [some (.ref 44), none] I J (.int (nI kp)) (fun I' J' => Md I' J' t n 0 u m y bt L w z num) := by
  have e3 : I 44 3 = nI kp := h.2.2.1.1
  have hk2 := h.2.2.1.2.1
  have o2 : ∀ b j, (b = 44 → j ≠ 3) → up2 I 44 3 0 b j = I b j := fun b j hj => by
    by_cases e : b = 44
    · rw [e, up2_nk (hj e)]
    · rw [up2_na e]
  refine ⟨up2 I 44 3 0, J, ?_, fun b hb j => ⟨o2 b j (by omega), rfl⟩, h.kpt (fun j hj => (o2 45 j (by omega)).trans (h.1 j hj)) h.2.1 up2_eq (by decide) (fun q => by omega) (fun b j g1 g2 g3 g4 g5 g6 => o2 b j (fun q => by rw [g6 q]; decide))⟩
  have eo : ((0 : Int32) = 0 ∨ (0 : Int32) = 1) = True := eq_true (by decide)
  rcases (show kp = 0 ∨ kp = 1 by omega) with rfl | rfl
  · have e0 : (nI 0 = (0 : Int32)) = True := eq_true rfl
    simp only [eM_tear_0, eM_tear_1, eM_tear_4, eM_tear_7, eM_tear_8, eM_tear_11, eM_tear_12, eM_tear_13, eM_tear_14, eM_tear_15, eM_tear_18, eM_tear_19, eq_self, hr_k_some, Option.toList, List.cons_append, List.nil_append, is2k_n, is2k_i, is2k_r, is2k_0, oc_44, ro_m0, ro_m1, ro_m2, ro_m4, ro_m5, ro_m11, ro_m12, ro_m13, ro_m14, ro_m15, ro_m16, ro_m17, ak_45, ak_46, ak_47, ak_48, ak_49, ak_50, ak_51, ak_52, ak_53, ak_54, ak_55, ak_56, al_45, al_46, al_47, al_48, al_49, al_50, al_51, al_52, al_53, al_54, al_55, al_56, l45, l46, l47, l48, l49, l50, l51, l52, l53, l54, a45, a46, a47, a48, a49, a50, a51, a52, a53, a54, in46_0, in46_1, in46_2, in46_3, in46_4, in46_5, cn_0, cn_1, cn_2, cn_3, cn_4, cn_5, i10, i01, zb_t, zb_f, not_true_eq_false, not_false_eq_true, if_true, if_false, true_or, sp_in1, md_1, md_6, md_5, e3, e0, eo]
    rfl
  · have e0 : (nI 1 = (0 : Int32)) = False := eq_false (by decide)
    simp only [eM_tear_0, eM_tear_1, eM_tear_4, eM_tear_7, eM_tear_8, eM_tear_11, eM_tear_12, eM_tear_13, eM_tear_14, eM_tear_15, eM_tear_18, eM_tear_19, eq_self, hr_k_some, Option.toList, List.cons_append, List.nil_append, is2k_n, is2k_i, is2k_r, is2k_0, oc_44, ro_m0, ro_m1, ro_m2, ro_m4, ro_m5, ro_m11, ro_m12, ro_m13, ro_m14, ro_m15, ro_m16, ro_m17, ak_45, ak_46, ak_47, ak_48, ak_49, ak_50, ak_51, ak_52, ak_53, ak_54, ak_55, ak_56, al_45, al_46, al_47, al_48, al_49, al_50, al_51, al_52, al_53, al_54, al_55, al_56, l45, l46, l47, l48, l49, l50, l51, l52, l53, l54, a45, a46, a47, a48, a49, a50, a51, a52, a53, a54, in46_0, in46_1, in46_2, in46_3, in46_4, in46_5, cn_0, cn_1, cn_2, cn_3, cn_4, cn_5, i10, i01, zb_t, zb_f, not_true_eq_false, not_false_eq_true, if_true, if_false, true_or, sp_in1, md_1, md_6, md_5, e3, e0, eo]
    rfl
/-! count -/
theorem msu_loop {f : Nat} (hf : f < 5) (h : mh I 45 t n) (hV : V t n B) : ∀ (d k : Nat), k + d = n → den nM_sumOf (4, [some (.ref 44), some (.int (nI f)), some (.int (nI (suV t f k))), some (.int (nI k))], [], (I, J)) = some (some (.int (nI (suV t f n))), (I, J)) := by
  obtain ⟨f0, f1, f2, f3, f4, f5⟩ := mfs h hV
  have hn := hV.2.1
  intro d
  induction d with
  | zero =>
    intro k hk
    have hk' : k = n := by omega
    rw [hk', eM_sumOf_4]
    simp only [eM_sumOf_5, eM_sumOf_6, eM_sumOf_9, eM_sumOf_10, eM_sumOf_11, eM_sumOf_14, eM_sumOf_15, eM_sumOf_16, eM_sumOf_17, eM_sumOf_18, eM_sumOf_21, eM_sumOf_22, eM_sumOf_23, eM_sumOf_26, eM_sumOf_29, eM_sumOf_30, eq_self, hr_k_some, Option.toList, List.cons_append, List.nil_append, is2k_n, is2k_i, is2k_r, is2k_0, oc_44, ro_m0, ro_m1, ro_m2, ro_m4, ro_m5, ro_m11, ro_m12, ro_m13, ro_m14, ro_m15, ro_m16, ro_m17, ak_45, ak_46, ak_47, ak_48, ak_49, ak_50, ak_51, ak_52, ak_53, ak_54, ak_55, ak_56, al_45, al_46, al_47, al_48, al_49, al_50, al_51, al_52, al_53, al_54, al_55, al_56, l45, l46, l47, l48, l49, l50, l51, l52, l53, l54, a45, a46, a47, a48, a49, a50, a51, a52, a53, a54, in46_0, in46_1, in46_2, in46_3, in46_4, in46_5, cn_0, cn_1, cn_2, cn_3, cn_4, cn_5, i10, i01, zb_t, zb_f, not_true_eq_false, not_false_eq_true, if_true, if_false, true_or, sp_in1, md_1, md_6, md_5, f5, leT (Nat.le_refl n) (show n < 2 ^ 31 by omega)]
  | succ d ih =>
    intro k hk
    have hkn : k < n := by omega
    have eg := sp_get (J := J) h hn hkn hf
    have ih' := ih (k + 1) (by omega)
    rw [eM_sumOf_4]
    simp only [eM_sumOf_5, eM_sumOf_6, eM_sumOf_9, eM_sumOf_10, eM_sumOf_11, eM_sumOf_14, eM_sumOf_15, eM_sumOf_16, eM_sumOf_17, eM_sumOf_18, eM_sumOf_21, eM_sumOf_22, eM_sumOf_23, eM_sumOf_26, eM_sumOf_29, eM_sumOf_30, eq_self, hr_k_some, Option.toList, List.cons_append, List.nil_append, is2k_n, is2k_i, is2k_r, is2k_0, oc_44, ro_m0, ro_m1, ro_m2, ro_m4, ro_m5, ro_m11, ro_m12, ro_m13, ro_m14, ro_m15, ro_m16, ro_m17, ak_45, ak_46, ak_47, ak_48, ak_49, ak_50, ak_51, ak_52, ak_53, ak_54, ak_55, ak_56, al_45, al_46, al_47, al_48, al_49, al_50, al_51, al_52, al_53, al_54, al_55, al_56, l45, l46, l47, l48, l49, l50, l51, l52, l53, l54, a45, a46, a47, a48, a49, a50, a51, a52, a53, a54, in46_0, in46_1, in46_2, in46_3, in46_4, in46_5, cn_0, cn_1, cn_2, cn_3, cn_4, cn_5, i10, i01, zb_t, zb_f, not_true_eq_false, not_false_eq_true, if_true, if_false, true_or, sp_in1, md_1, md_6, md_5, f5, leF hkn (show n < 2 ^ 31 by omega), eg, nI_add, nI_1]
    exact ih'
theorem M_count_ok (h : Md I J t n kp u m y bt L w z num) {q : Nat} (hq : q < 4) : MR nM_count [some (.ref 44), some (.int (nI q))] I J (.int (nI (cntV t n L q))) (fun I' J' => Md I' J' t n kp u m y bt L w z num) := by
  refine MR.rd h ?_
  have h5 := h.h5
  have hL := h.2.2.2.2.1.1
  have e4 := msu_loop (J := J) (f := 4) (by decide) h.1 h.2.1 n 0 (by omega)
  have e2 := msu_loop (J := J) (f := 2) (by decide) h.1 h.2.1 n 0 (by omega)
  have e4' : den nM_sumOf (0, [some (.ref 44), some (.int 4), none, none], [], (I, J)) = some (some (.int (nI (suV t 4 n))), (I, J)) := by
    simp only [eM_sumOf_0, eM_sumOf_1, eM_sumOf_2, eM_sumOf_3, eq_self, hr_k_some, Option.toList, List.cons_append, List.nil_append, is2k_n, is2k_i, is2k_r, is2k_0, oc_44, ro_m0, ro_m1, ro_m2, ro_m4, ro_m5, ro_m11, ro_m12, ro_m13, ro_m14, ro_m15, ro_m16, ro_m17, ak_45, ak_46, ak_47, ak_48, ak_49, ak_50, ak_51, ak_52, ak_53, ak_54, ak_55, ak_56, al_45, al_46, al_47, al_48, al_49, al_50, al_51, al_52, al_53, al_54, al_55, al_56, l45, l46, l47, l48, l49, l50, l51, l52, l53, l54, a45, a46, a47, a48, a49, a50, a51, a52, a53, a54, in46_0, in46_1, in46_2, in46_3, in46_4, in46_5, cn_0, cn_1, cn_2, cn_3, cn_4, cn_5, i10, i01, zb_t, zb_f, not_true_eq_false, not_false_eq_true, if_true, if_false, true_or, sp_in1, md_1, md_6, md_5]
    exact e4
  have e2' : den nM_sumOf (0, [some (.ref 44), some (.int 2), none, none], [], (I, J)) = some (some (.int (nI (suV t 2 n))), (I, J)) := by
    simp only [eM_sumOf_0, eM_sumOf_1, eM_sumOf_2, eM_sumOf_3, eq_self, hr_k_some, Option.toList, List.cons_append, List.nil_append, is2k_n, is2k_i, is2k_r, is2k_0, oc_44, ro_m0, ro_m1, ro_m2, ro_m4, ro_m5, ro_m11, ro_m12, ro_m13, ro_m14, ro_m15, ro_m16, ro_m17, ak_45, ak_46, ak_47, ak_48, ak_49, ak_50, ak_51, ak_52, ak_53, ak_54, ak_55, ak_56, al_45, al_46, al_47, al_48, al_49, al_50, al_51, al_52, al_53, al_54, al_55, al_56, l45, l46, l47, l48, l49, l50, l51, l52, l53, l54, a45, a46, a47, a48, a49, a50, a51, a52, a53, a54, in46_0, in46_1, in46_2, in46_3, in46_4, in46_5, cn_0, cn_1, cn_2, cn_3, cn_4, cn_5, i10, i01, zb_t, zb_f, not_true_eq_false, not_false_eq_true, if_true, if_false, true_or, sp_in1, md_1, md_6, md_5]
    exact e2
  unfold cntV
  rcases (show q = 0 ∨ q = 1 ∨ q = 2 ∨ q = 3 by omega) with rfl | rfl | rfl | rfl
  · simp (decide := true) only [eM_count_0, eM_count_1, eM_count_32, eM_count_33, eM_count_36, eM_count_37, eM_count_38, eM_count_39, eM_count_40, eM_count_43, eM_count_44, eM_count_45, eM_count_46, eM_count_49, eM_count_50, eM_count_51, eM_count_52, eM_count_55, eM_count_56, eM_count_57, eM_count_58, eM_count_61, eq_self, hr_k_some, Option.toList, List.cons_append, List.nil_append, is2k_n, is2k_i, is2k_r, is2k_0, oc_44, ro_m0, ro_m1, ro_m2, ro_m4, ro_m5, ro_m11, ro_m12, ro_m13, ro_m14, ro_m15, ro_m16, ro_m17, ak_45, ak_46, ak_47, ak_48, ak_49, ak_50, ak_51, ak_52, ak_53, ak_54, ak_55, ak_56, al_45, al_46, al_47, al_48, al_49, al_50, al_51, al_52, al_53, al_54, al_55, al_56, l45, l46, l47, l48, l49, l50, l51, l52, l53, l54, a45, a46, a47, a48, a49, a50, a51, a52, a53, a54, in46_0, in46_1, in46_2, in46_3, in46_4, in46_5, cn_0, cn_1, cn_2, cn_3, cn_4, cn_5, i10, i01, zb_t, zb_f, not_true_eq_false, not_false_eq_true, if_true, if_false, true_or, sp_in1, md_1, md_6, md_5, h5]
  · simp (decide := true) only [eM_count_0, eM_count_1, eM_count_32, eM_count_33, eM_count_36, eM_count_37, eM_count_38, eM_count_39, eM_count_40, eM_count_43, eM_count_44, eM_count_45, eM_count_46, eM_count_49, eM_count_50, eM_count_51, eM_count_52, eM_count_55, eM_count_56, eM_count_57, eM_count_58, eM_count_61, eq_self, hr_k_some, Option.toList, List.cons_append, List.nil_append, is2k_n, is2k_i, is2k_r, is2k_0, oc_44, ro_m0, ro_m1, ro_m2, ro_m4, ro_m5, ro_m11, ro_m12, ro_m13, ro_m14, ro_m15, ro_m16, ro_m17, ak_45, ak_46, ak_47, ak_48, ak_49, ak_50, ak_51, ak_52, ak_53, ak_54, ak_55, ak_56, al_45, al_46, al_47, al_48, al_49, al_50, al_51, al_52, al_53, al_54, al_55, al_56, l45, l46, l47, l48, l49, l50, l51, l52, l53, l54, a45, a46, a47, a48, a49, a50, a51, a52, a53, a54, in46_0, in46_1, in46_2, in46_3, in46_4, in46_5, cn_0, cn_1, cn_2, cn_3, cn_4, cn_5, i10, i01, zb_t, zb_f, not_true_eq_false, not_false_eq_true, if_true, if_false, true_or, sp_in1, md_1, md_6, md_5, hL]
  · simp (decide := true) only [eM_count_0, eM_count_1, eM_count_32, eM_count_33, eM_count_36, eM_count_37, eM_count_38, eM_count_39, eM_count_40, eM_count_43, eM_count_44, eM_count_45, eM_count_46, eM_count_49, eM_count_50, eM_count_51, eM_count_52, eM_count_55, eM_count_56, eM_count_57, eM_count_58, eM_count_61, eq_self, hr_k_some, Option.toList, List.cons_append, List.nil_append, is2k_n, is2k_i, is2k_r, is2k_0, oc_44, ro_m0, ro_m1, ro_m2, ro_m4, ro_m5, ro_m11, ro_m12, ro_m13, ro_m14, ro_m15, ro_m16, ro_m17, ak_45, ak_46, ak_47, ak_48, ak_49, ak_50, ak_51, ak_52, ak_53, ak_54, ak_55, ak_56, al_45, al_46, al_47, al_48, al_49, al_50, al_51, al_52, al_53, al_54, al_55, al_56, l45, l46, l47, l48, l49, l50, l51, l52, l53, l54, a45, a46, a47, a48, a49, a50, a51, a52, a53, a54, in46_0, in46_1, in46_2, in46_3, in46_4, in46_5, cn_0, cn_1, cn_2, cn_3, cn_4, cn_5, i10, i01, zb_t, zb_f, not_true_eq_false, not_false_eq_true, if_true, if_false, true_or, sp_in1, md_1, md_6, md_5, e4']
  · simp (decide := true) only [eM_count_0, eM_count_1, eM_count_32, eM_count_33, eM_count_36, eM_count_37, eM_count_38, eM_count_39, eM_count_40, eM_count_43, eM_count_44, eM_count_45, eM_count_46, eM_count_49, eM_count_50, eM_count_51, eM_count_52, eM_count_55, eM_count_56, eM_count_57, eM_count_58, eM_count_61, eq_self, hr_k_some, Option.toList, List.cons_append, List.nil_append, is2k_n, is2k_i, is2k_r, is2k_0, oc_44, ro_m0, ro_m1, ro_m2, ro_m4, ro_m5, ro_m11, ro_m12, ro_m13, ro_m14, ro_m15, ro_m16, ro_m17, ak_45, ak_46, ak_47, ak_48, ak_49, ak_50, ak_51, ak_52, ak_53, ak_54, ak_55, ak_56, al_45, al_46, al_47, al_48, al_49, al_50, al_51, al_52, al_53, al_54, al_55, al_56, l45, l46, l47, l48, l49, l50, l51, l52, l53, l54, a45, a46, a47, a48, a49, a50, a51, a52, a53, a54, in46_0, in46_1, in46_2, in46_3, in46_4, in46_5, cn_0, cn_1, cn_2, cn_3, cn_4, cn_5, i10, i01, zb_t, zb_f, not_true_eq_false, not_false_eq_true, if_true, if_false, true_or, sp_in1, md_1, md_6, md_5, e2']
theorem M_count_no (h : Md I J t n kp u m y bt L w z num) {a1 : Int32} (hb : ¬ rng a1 4) : MR nM_count [some (.ref 44), some (.int a1)] I J (.int (fnd 0)) (fun I' J' => Md I' J' t n kp u m (inc y 0) bt L w z num) := by
  refine MR.fnd (by decide) h ?_
  have e0 : (a1 = 0) = False := nlit hb (k := 0) (by decide)
  have e1 : (a1 = 1) = False := nlit hb (k := 1) (by decide)
  have e2 : (a1 = 2) = False := nlit hb (k := 2) (by decide)
  have e3 : (a1 = 3) = False := nlit hb (k := 3) (by decide)
  simp only [eM_count_0, eM_count_1, eM_count_32, eM_count_33, eM_count_36, eM_count_37, eM_count_38, eM_count_39, eM_count_40, eM_count_43, eM_count_44, eM_count_45, eM_count_46, eM_count_49, eM_count_50, eM_count_51, eM_count_52, eM_count_55, eM_count_56, eM_count_57, eM_count_58, eM_count_61, eq_self, hr_k_some, Option.toList, List.cons_append, List.nil_append, is2k_n, is2k_i, is2k_r, is2k_0, oc_44, ro_m0, ro_m1, ro_m2, ro_m4, ro_m5, ro_m11, ro_m12, ro_m13, ro_m14, ro_m15, ro_m16, ro_m17, ak_45, ak_46, ak_47, ak_48, ak_49, ak_50, ak_51, ak_52, ak_53, ak_54, ak_55, ak_56, al_45, al_46, al_47, al_48, al_49, al_50, al_51, al_52, al_53, al_54, al_55, al_56, l45, l46, l47, l48, l49, l50, l51, l52, l53, l54, a45, a46, a47, a48, a49, a50, a51, a52, a53, a54, in46_0, in46_1, in46_2, in46_3, in46_4, in46_5, cn_0, cn_1, cn_2, cn_3, cn_4, cn_5, i10, i01, zb_t, zb_f, not_true_eq_false, not_false_eq_true, if_true, if_false, true_or, sp_in1, md_1, md_6, md_5, e0, e1, e2, e3, sp_no0]
/-! status -/
theorem msm_loop (hy : ∀ j, j < 7 → I 48 j = y j) : ∀ (d k : Nat), k + d = 7 → den nM_status (20, [some (.ref 44), some (.int (-1)), some (.int (smY y k)), some (.int (nI k))], [], (I, J)) = some (some (.int (smY y 7)), (I, J)) := by
  intro d
  induction d with
  | zero =>
    intro k hk
    have e7 : k = 7 := by omega
    subst e7
    have hc : ((7 : Int32) ≤ nI 7) = True := eq_true (by decide)
    rw [eM_status_20]
    simp only [eM_status_21, eM_status_23, eM_status_26, eM_status_27, eM_status_28, eM_status_29, eM_status_32, eM_status_33, eM_status_34, eM_status_37, eM_status_38, eM_status_41, eM_status_42, eM_status_43, eM_status_46, eM_status_47, eM_status_48, eM_status_49, eM_status_52, eM_status_55, eM_status_56, eq_self, hr_k_some, Option.toList, List.cons_append, List.nil_append, is2k_n, is2k_i, is2k_r, is2k_0, oc_44, ro_m0, ro_m1, ro_m2, ro_m4, ro_m5, ro_m11, ro_m12, ro_m13, ro_m14, ro_m15, ro_m16, ro_m17, ak_45, ak_46, ak_47, ak_48, ak_49, ak_50, ak_51, ak_52, ak_53, ak_54, ak_55, ak_56, al_45, al_46, al_47, al_48, al_49, al_50, al_51, al_52, al_53, al_54, al_55, al_56, l45, l46, l47, l48, l49, l50, l51, l52, l53, l54, a45, a46, a47, a48, a49, a50, a51, a52, a53, a54, in46_0, in46_1, in46_2, in46_3, in46_4, in46_5, cn_0, cn_1, cn_2, cn_3, cn_4, cn_5, i10, i01, zb_t, zb_f, not_true_eq_false, not_false_eq_true, if_true, if_false, true_or, sp_in1, md_1, md_6, md_5, hc]
  | succ d ih =>
    intro k hk
    have hk7 : k < 7 := by omega
    have hc : ((7 : Int32) ≤ nI k) = False := leF (a := 7) (b := k) hk7 (by decide)
    rw [eM_status_20]
    simp only [eM_status_21, eM_status_23, eM_status_26, eM_status_27, eM_status_28, eM_status_29, eM_status_32, eM_status_33, eM_status_34, eM_status_37, eM_status_38, eM_status_41, eM_status_42, eM_status_43, eM_status_46, eM_status_47, eM_status_48, eM_status_49, eM_status_52, eM_status_55, eM_status_56, eq_self, hr_k_some, Option.toList, List.cons_append, List.nil_append, is2k_n, is2k_i, is2k_r, is2k_0, oc_44, ro_m0, ro_m1, ro_m2, ro_m4, ro_m5, ro_m11, ro_m12, ro_m13, ro_m14, ro_m15, ro_m16, ro_m17, ak_45, ak_46, ak_47, ak_48, ak_49, ak_50, ak_51, ak_52, ak_53, ak_54, ak_55, ak_56, al_45, al_46, al_47, al_48, al_49, al_50, al_51, al_52, al_53, al_54, al_55, al_56, l45, l46, l47, l48, l49, l50, l51, l52, l53, l54, a45, a46, a47, a48, a49, a50, a51, a52, a53, a54, in46_0, in46_1, in46_2, in46_3, in46_4, in46_5, cn_0, cn_1, cn_2, cn_3, cn_4, cn_5, i10, i01, zb_t, zb_f, not_true_eq_false, not_false_eq_true, if_true, if_false, true_or, sp_in1, md_1, md_6, md_5, hc, in_7 hk7, cl_nI (show k < 100000 by omega), hy k hk7, nI_1]
    exact ih (k + 1) (by omega)
def stY (y : Nat → Int32) (q k : Nat) : Int32 := if q < k then y q else 0
theorem mst_loop (hy : ∀ j, j < 7 → I 48 j = y j) {q : Nat} (hq : q < 7) : ∀ (d k : Nat), k + d = 7 → den nM_status (20, [some (.ref 44), some (.int (nI q)), some (.int (stY y q k)), some (.int (nI k))], [], (I, J)) = some (some (.int (y q)), (I, J)) := by
  have em : (nI q = (-1 : Int32)) = False := by
    apply eq_false
    have : ∀ k, k < 7 → ¬ nI k = (-1 : Int32) := by decide
    exact this q hq
  intro d
  induction d with
  | zero =>
    intro k hk
    have e7 : k = 7 := by omega
    subst e7
    have hc : ((7 : Int32) ≤ nI 7) = True := eq_true (by decide)
    rw [eM_status_20, show stY y q 7 = y q from if_pos hq]
    simp only [eM_status_21, eM_status_23, eM_status_26, eM_status_27, eM_status_28, eM_status_29, eM_status_32, eM_status_33, eM_status_34, eM_status_37, eM_status_38, eM_status_41, eM_status_42, eM_status_43, eM_status_46, eM_status_47, eM_status_48, eM_status_49, eM_status_52, eM_status_55, eM_status_56, eq_self, hr_k_some, Option.toList, List.cons_append, List.nil_append, is2k_n, is2k_i, is2k_r, is2k_0, oc_44, ro_m0, ro_m1, ro_m2, ro_m4, ro_m5, ro_m11, ro_m12, ro_m13, ro_m14, ro_m15, ro_m16, ro_m17, ak_45, ak_46, ak_47, ak_48, ak_49, ak_50, ak_51, ak_52, ak_53, ak_54, ak_55, ak_56, al_45, al_46, al_47, al_48, al_49, al_50, al_51, al_52, al_53, al_54, al_55, al_56, l45, l46, l47, l48, l49, l50, l51, l52, l53, l54, a45, a46, a47, a48, a49, a50, a51, a52, a53, a54, in46_0, in46_1, in46_2, in46_3, in46_4, in46_5, cn_0, cn_1, cn_2, cn_3, cn_4, cn_5, i10, i01, zb_t, zb_f, not_true_eq_false, not_false_eq_true, if_true, if_false, true_or, sp_in1, md_1, md_6, md_5, hc]
  | succ d ih =>
    intro k hk
    have hk7 : k < 7 := by omega
    have hc : ((7 : Int32) ≤ nI k) = False := leF (a := 7) (b := k) hk7 (by decide)
    have ih' := ih (k + 1) (by omega)
    rw [eM_status_20]
    by_cases c : q = k
    · have e1 : stY y q k = 0 := if_neg (by omega)
      have e2 : stY y q (k + 1) = 0 + y k := by rw [show stY y q (k + 1) = y q from if_pos (by omega), c, Int32.zero_add]
      have ec : (nI q = nI k) = True := eq_true (by rw [c])
      rw [e2] at ih'
      rw [e1]
      simp only [eM_status_21, eM_status_23, eM_status_26, eM_status_27, eM_status_28, eM_status_29, eM_status_32, eM_status_33, eM_status_34, eM_status_37, eM_status_38, eM_status_41, eM_status_42, eM_status_43, eM_status_46, eM_status_47, eM_status_48, eM_status_49, eM_status_52, eM_status_55, eM_status_56, eq_self, hr_k_some, Option.toList, List.cons_append, List.nil_append, is2k_n, is2k_i, is2k_r, is2k_0, oc_44, ro_m0, ro_m1, ro_m2, ro_m4, ro_m5, ro_m11, ro_m12, ro_m13, ro_m14, ro_m15, ro_m16, ro_m17, ak_45, ak_46, ak_47, ak_48, ak_49, ak_50, ak_51, ak_52, ak_53, ak_54, ak_55, ak_56, al_45, al_46, al_47, al_48, al_49, al_50, al_51, al_52, al_53, al_54, al_55, al_56, l45, l46, l47, l48, l49, l50, l51, l52, l53, l54, a45, a46, a47, a48, a49, a50, a51, a52, a53, a54, in46_0, in46_1, in46_2, in46_3, in46_4, in46_5, cn_0, cn_1, cn_2, cn_3, cn_4, cn_5, i10, i01, zb_t, zb_f, not_true_eq_false, not_false_eq_true, if_true, if_false, true_or, sp_in1, md_1, md_6, md_5, hc, em, ec, in_7 hk7, cl_nI (show k < 100000 by omega), hy k hk7, nI_1]
      exact ih'
    · have e2 : stY y q (k + 1) = stY y q k + 0 := by
        rw [Int32.add_zero]
        unfold stY
        by_cases g : q < k
        · rw [if_pos g, if_pos (by omega)]
        · rw [if_neg g, if_neg (by omega)]
      have ec : (nI q = nI k) = False := nq c (by omega) (by omega)
      rw [e2] at ih'
      simp only [eM_status_21, eM_status_23, eM_status_26, eM_status_27, eM_status_28, eM_status_29, eM_status_32, eM_status_33, eM_status_34, eM_status_37, eM_status_38, eM_status_41, eM_status_42, eM_status_43, eM_status_46, eM_status_47, eM_status_48, eM_status_49, eM_status_52, eM_status_55, eM_status_56, eq_self, hr_k_some, Option.toList, List.cons_append, List.nil_append, is2k_n, is2k_i, is2k_r, is2k_0, oc_44, ro_m0, ro_m1, ro_m2, ro_m4, ro_m5, ro_m11, ro_m12, ro_m13, ro_m14, ro_m15, ro_m16, ro_m17, ak_45, ak_46, ak_47, ak_48, ak_49, ak_50, ak_51, ak_52, ak_53, ak_54, ak_55, ak_56, al_45, al_46, al_47, al_48, al_49, al_50, al_51, al_52, al_53, al_54, al_55, al_56, l45, l46, l47, l48, l49, l50, l51, l52, l53, l54, a45, a46, a47, a48, a49, a50, a51, a52, a53, a54, in46_0, in46_1, in46_2, in46_3, in46_4, in46_5, cn_0, cn_1, cn_2, cn_3, cn_4, cn_5, i10, i01, zb_t, zb_f, not_true_eq_false, not_false_eq_true, if_true, if_false, true_or, sp_in1, md_1, md_6, md_5, hc, em, ec, nI_1]
      exact ih'
theorem M_status_all (h : Md I J t n kp u m y bt L w z num) : MR nM_status [some (.ref 44), some (.int (-1)), none, none] I J (.int (smY y 7)) (fun I' J' => Md I' J' t n kp u m y bt L w z num) := by
  refine MR.rd h ?_
  have ew : decide ((-1 : Int32) ≤ -1 ∧ (-1 : Int32) ≤ 6) = true := by decide
  have := msm_loop (J := J) h.2.2.2.1 7 0 (by decide)
  simp only [eM_status_0, eM_status_1, eM_status_2, eM_status_4, eM_status_7, eM_status_10, eM_status_11, eM_status_12, eM_status_15, eM_status_16, eM_status_17, eM_status_18, eM_status_19, eq_self, hr_k_some, Option.toList, List.cons_append, List.nil_append, is2k_n, is2k_i, is2k_r, is2k_0, oc_44, ro_m0, ro_m1, ro_m2, ro_m4, ro_m5, ro_m11, ro_m12, ro_m13, ro_m14, ro_m15, ro_m16, ro_m17, ak_45, ak_46, ak_47, ak_48, ak_49, ak_50, ak_51, ak_52, ak_53, ak_54, ak_55, ak_56, al_45, al_46, al_47, al_48, al_49, al_50, al_51, al_52, al_53, al_54, al_55, al_56, l45, l46, l47, l48, l49, l50, l51, l52, l53, l54, a45, a46, a47, a48, a49, a50, a51, a52, a53, a54, in46_0, in46_1, in46_2, in46_3, in46_4, in46_5, cn_0, cn_1, cn_2, cn_3, cn_4, cn_5, i10, i01, zb_t, zb_f, not_true_eq_false, not_false_eq_true, if_true, if_false, true_or, sp_in1, md_1, md_6, md_5, ew]
  exact this
theorem M_status_ok (h : Md I J t n kp u m y bt L w z num) {k : Nat} (hk : k < 7) : MR nM_status [some (.ref 44), some (.int (nI k)), none, none] I J (.int (y k)) (fun I' J' => Md I' J' t n kp u m y bt L w z num) := by
  refine MR.rd h ?_
  have ew : decide ((-1 : Int32) ≤ nI k ∧ nI k ≤ 6) = true := by
    have : ∀ k, k < 7 → decide ((-1 : Int32) ≤ nI k ∧ nI k ≤ 6) = true := by decide
    exact this k hk
  have := mst_loop (J := J) h.2.2.2.1 hk 7 0 (by decide)
  simp only [eM_status_0, eM_status_1, eM_status_2, eM_status_4, eM_status_7, eM_status_10, eM_status_11, eM_status_12, eM_status_15, eM_status_16, eM_status_17, eM_status_18, eM_status_19, eq_self, hr_k_some, Option.toList, List.cons_append, List.nil_append, is2k_n, is2k_i, is2k_r, is2k_0, oc_44, ro_m0, ro_m1, ro_m2, ro_m4, ro_m5, ro_m11, ro_m12, ro_m13, ro_m14, ro_m15, ro_m16, ro_m17, ak_45, ak_46, ak_47, ak_48, ak_49, ak_50, ak_51, ak_52, ak_53, ak_54, ak_55, ak_56, al_45, al_46, al_47, al_48, al_49, al_50, al_51, al_52, al_53, al_54, al_55, al_56, l45, l46, l47, l48, l49, l50, l51, l52, l53, l54, a45, a46, a47, a48, a49, a50, a51, a52, a53, a54, in46_0, in46_1, in46_2, in46_3, in46_4, in46_5, cn_0, cn_1, cn_2, cn_3, cn_4, cn_5, i10, i01, zb_t, zb_f, not_true_eq_false, not_false_eq_true, if_true, if_false, true_or, sp_in1, md_1, md_6, md_5, ew]
  exact this
theorem M_status_no (h : Md I J t n kp u m y bt L w z num) {a1 : Int32} (h1 : ¬ a1 = -1) (hb : ¬ rng a1 7) : MR nM_status [some (.ref 44), some (.int a1), none, none] I J (.int (fnd 0)) (fun I' J' => Md I' J' t n kp u m (inc y 0) bt L w z num) := by
  refine MR.fnd (by decide) h ?_
  have ew : decide ((-1 : Int32) ≤ a1 ∧ a1 ≤ 6) = false := by
    rw [decide_eq_false_iff_not]
    rintro ⟨g1, g2⟩
    by_cases g : a1 < 0
    · rw [Int32.le_iff_toInt_le, show (-1 : Int32).toInt = -1 by decide] at g1
      rw [Int32.lt_iff_toInt_lt, show (0 : Int32).toInt = 0 by decide] at g
      exact h1 (Int32.toInt_inj.mp (by rw [show (-1 : Int32).toInt = -1 by decide]; omega))
    · obtain ⟨j, h3, h4⟩ := nI_of2 (M := 6) (n := 6) (by decide) g g2
      exact hb ⟨j, by omega, h4⟩
  simp only [eM_status_0, eM_status_1, eM_status_2, eM_status_4, eM_status_7, eM_status_10, eM_status_11, eM_status_12, eM_status_15, eM_status_16, eM_status_17, eM_status_18, eM_status_19, eq_self, hr_k_some, Option.toList, List.cons_append, List.nil_append, is2k_n, is2k_i, is2k_r, is2k_0, oc_44, ro_m0, ro_m1, ro_m2, ro_m4, ro_m5, ro_m11, ro_m12, ro_m13, ro_m14, ro_m15, ro_m16, ro_m17, ak_45, ak_46, ak_47, ak_48, ak_49, ak_50, ak_51, ak_52, ak_53, ak_54, ak_55, ak_56, al_45, al_46, al_47, al_48, al_49, al_50, al_51, al_52, al_53, al_54, al_55, al_56, l45, l46, l47, l48, l49, l50, l51, l52, l53, l54, a45, a46, a47, a48, a49, a50, a51, a52, a53, a54, in46_0, in46_1, in46_2, in46_3, in46_4, in46_5, cn_0, cn_1, cn_2, cn_3, cn_4, cn_5, i10, i01, zb_t, zb_f, not_true_eq_false, not_false_eq_true, if_true, if_false, true_or, sp_in1, md_1, md_6, md_5, ew, sp_no0]
end
