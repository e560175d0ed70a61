section
variable {I I' : Nat → Nat → Int32} {J J' : Nat → Nat → Int64} {t t' : Nat → Nat} {n B : Nat}
theorem drV_V2 (hV : V t n B) (m : Nat) : V (drV t m) n B := by
  obtain ⟨v5, v8, v0, v1, v2, v3, v4, v6, vk⟩ := hV
  have e : ∀ j, j < 6 → drV t m j = t j := fun j hj => drV_other m j (fun i _ => by omega)
  refine ⟨by rw [e 5 (by decide)]; exact v5, v8, by rw [e 0 (by decide)]; exact v0, by rw [e 1 (by decide)]; exact v1, by rw [e 2 (by decide)]; exact v2, by rw [e 3 (by decide)]; exact v3, by rw [e 4 (by decide)]; exact v4, by rw [e 4 (by decide), e 1 (by decide)]; exact v6, fun k hk => ?_⟩
  obtain ⟨k0, k1, k2, k3, k4⟩ := vk k hk
  exact ⟨Nat.lt_of_le_of_lt (drV_le m _) k0, Nat.lt_of_le_of_lt (drV_le m _) k1, Nat.lt_of_le_of_lt (drV_le m _) k2, Nat.lt_of_le_of_lt (drV_le m _) k3, Nat.lt_of_le_of_lt (drV_le m _) k4⟩
theorem drV_d1 {k : Nat} : d1V (drV t k) k = d1V t k ∧ drV t k (7 + 5 * k) = t (7 + 5 * k) := by
  have e : ∀ j, 6 + 5 * k ≤ j → drV t k j = t j := fun j hj => drV_other k j (fun i _ => by omega)
  unfold d1V
  rw [e (10 + 5 * k) (by omega), e (7 + 5 * k) (by omega), e (6 + 5 * k) (by omega)]
  exact ⟨rfl, rfl⟩
theorem mdr_loop (hV : V t n B) (hB : B < 2 ^ 29) (h6 : t 0 % 6 = 5) : ∀ (d k : Nat) (I : Nat → Nat → Int32), k + d = n → mh I 45 (drV t k) n → ∃ I', den nM_watch (15, [some (.ref 44), some (.int (nI k))], [], (I, J)) = den nM_watch (49, [some (.ref 44), some (.int (nI n))], [], (I', J)) ∧ mh I' 45 (drV t n) n ∧ oR 45 I I' := by
  have hn := hV.2.1
  have hw := hV.2.2.1
  intro d
  induction d with
  | zero =>
    intro k I hk h
    have hk' : k = n := by omega
    subst hk'
    obtain ⟨f0, f1, f2, f3, f4, f5⟩ := mfs h (drV_V2 hV k)
    refine ⟨I, ?_, h, oR.rfl⟩
    simp only [eM_watch_15, eM_watch_16, eM_watch_17, eM_watch_20, eM_watch_21, eM_watch_22, eM_watch_25, eM_watch_26, eM_watch_29, eM_watch_30, eM_watch_31, eM_watch_33, eM_watch_34, eM_watch_35, eM_watch_38, eM_watch_39, eM_watch_40, eM_watch_43, eM_watch_46, eq_self, hr_k_some, Option.toList, List.cons_append, List.nil_append, is2k_n, is2k_i, is2k_r, is2k_0, oc_44, ro_m0, ro_m1, ro_m2, ro_m4, ro_m5, ro_m11, ro_m12, ro_m13, ro_m14, ro_m15, ro_m16, ro_m17, ak_45, ak_46, ak_47, ak_48, ak_49, ak_50, ak_51, ak_52, ak_53, ak_54, ak_55, ak_56, al_45, al_46, al_47, al_48, al_49, al_50, al_51, al_52, al_53, al_54, al_55, al_56, l45, l46, l47, l48, l49, l50, l51, l52, l53, l54, a45, a46, a47, a48, a49, a50, a51, a52, a53, a54, in46_0, in46_1, in46_2, in46_3, in46_4, in46_5, cn_0, cn_1, cn_2, cn_3, cn_4, cn_5, i10, i01, zb_t, zb_f, not_true_eq_false, not_false_eq_true, if_true, if_false, true_or, sp_in1, md_1, md_6, md_5, f5, leT (Nat.le_refl k) (show k < 2 ^ 31 by omega)]
  | succ d ih =>
    intro k I hk h
    have hVk := drV_V2 hV k
    obtain ⟨f0, f1, f2, f3, f4, f5⟩ := mfs h hVk
    have ed := m_drifts (J := J) h hVk (show k < n by omega)
    rw [drV_d1.1, drV_d1.2] at ed
    rw [drV_other k 0 (fun i _ => by omega)] at f0
    have m6 : nI (t 0) - nI (t 0) / 6 * 6 = 5 := (pk_rem (d := 6) (by omega) (by decide) (by decide)).trans (by rw [h6]; rfl)
    have h2 : mh (if d1V t k = true then up2 I 45 (7 + 5 * k) (nI (t (7 + 5 * k) - 1)) else I) 45 (drV t (k + 1)) n := by
      rw [drV_s]
      split
      · exact h.up
      · exact h
    have o2 : oR 45 I (if d1V t k = true then up2 I 45 (7 + 5 * k) (nI (t (7 + 5 * k) - 1)) else I) := by
      split
      · exact oR.up
      · exact oR.rfl
    obtain ⟨I', e', h', o'⟩ := ih (k + 1) _ (by omega) h2
    refine ⟨I', ?_, h', o2.trans o'⟩
    rw [eM_watch_15]
    simp only [eM_watch_16, eM_watch_17, eM_watch_20, eM_watch_21, eM_watch_22, eM_watch_25, eM_watch_26, eM_watch_29, eM_watch_30, eM_watch_31, eM_watch_33, eM_watch_34, eM_watch_35, eM_watch_38, eM_watch_39, eM_watch_40, eM_watch_43, eM_watch_46, eq_self, hr_k_some, Option.toList, List.cons_append, List.nil_append, is2k_n, is2k_i, is2k_r, is2k_0, oc_44, ro_m0, ro_m1, ro_m2, ro_m4, ro_m5, ro_m11, ro_m12, ro_m13, ro_m14, ro_m15, ro_m16, ro_m17, ak_45, ak_46, ak_47, ak_48, ak_49, ak_50, ak_51, ak_52, ak_53, ak_54, ak_55, ak_56, al_45, al_46, al_47, al_48, al_49, al_50, al_51, al_52, al_53, al_54, al_55, al_56, l45, l46, l47, l48, l49, l50, l51, l52, l53, l54, a45, a46, a47, a48, a49, a50, a51, a52, a53, a54, in46_0, in46_1, in46_2, in46_3, in46_4, in46_5, cn_0, cn_1, cn_2, cn_3, cn_4, cn_5, i10, i01, zb_t, zb_f, not_true_eq_false, not_false_eq_true, if_true, if_false, true_or, sp_in1, md_1, md_6, md_5, f5, leF (show k < n by omega) (show n < 2 ^ 31 by omega), f0, n6, m6, ed, nI_1]
    exact e'
end
