/-! ===== what changes a sea ===== -/
section
variable {I : Nat → Nat → Int32} {J : Nat → Nat → Int64} {a : Nat} {t : Nat → Nat} {n B : Nat}
/-- the heap when the first k rocks have drifted -/
def dI (I : Nat → Nat → Int32) (a : Nat) (t : Nat → Nat) : Nat → (Nat → Nat → Int32)
  | 0 => I
  | k + 1 => if d1V t k = true then up2 (dI I a t k) (a + 2 + k) 1 (nI (t (7 + 5 * k) - 1)) else dI I a t k
theorem dI_s {k : Nat} : dI I a t (k + 1) = if d1V t k = true then up2 (dI I a t k) (a + 2 + k) 1 (nI (t (7 + 5 * k) - 1)) else dI I a t k := rfl
theorem drV_s {k : Nat} : drV t (k + 1) = if d1V t k = true then upV (drV t k) (7 + 5 * k) (t (7 + 5 * k) - 1) else drV t k := rfl
theorem dI_ge : ∀ k b j, (b < a + 2 ∨ a + 2 + k ≤ b) → dI I a t k b j = I b j := by
  intro k
  induction k with
  | zero => intro b j _; rfl
  | succ k ih =>
    intro b j hb
    rw [dI_s]
    split
    · rw [up2_na (by omega)]; exact ih b j (by omega)
    · exact ih b j (by omega)
theorem dI_hold (h : hold I a t n) : ∀ k, k ≤ n → hold (dI I a t k) a (drV t k) n := by
  intro k
  induction k with
  | zero => intro _; exact h
  | succ k ih =>
    intro hk
    rw [dI_s, drV_s]
    split
    · have := (ih (by omega)).rock (k := k) (j := 1) (x := t (7 + 5 * k) - 1) (by decide)
      rwa [show 6 + 5 * k + 1 = 7 + 5 * k by omega] at this
    · exact ih (by omega)
theorem dI_off (hn : n ≤ 8) : off a I (dI I a t n) := fun b hb j => dI_ge n b j (by omega)
theorem le0_N {x : Nat} (h : x < 2 ^ 31) : (nI x ≤ 0) = (x = 0) := by
  apply propext
  rw [lit_nI, nI_leI h (by decide)]
  omega
theorem dr_loop (ha : isSea a) (hH : hold I a t n) (hV : V t n B) : ∀ (d k : Nat), k + d = n → ∀ x2, den nS_driftBars (2, [some (.ref a), some (.int (nI k)), x2], [], (dI I a t k, J)) = some (none, (dI I a t n, J)) := by
  obtain ⟨⟨h0, h1, h2, h3, h4, h5⟩, hR⟩ := hH
  have hn := hV.2.1
  rw [hV.1] at h5
  intro d
  induction d with
  | zero =>
    intro k hk x2
    have hkn : k = n := by omega
    subst hkn
    have hle : (nI k ≤ nI k) = True := eq_true (Int32.le_refl _)
    have h5' : dI I a t k a 5 = nI k := (dI_ge k a 5 (by omega)).trans h5
    simp only [eS_driftBars_0, eS_driftBars_1, eS_driftBars_2, eS_driftBars_3, eS_driftBars_4, eS_driftBars_7, eS_driftBars_10, eS_driftBars_11, eS_driftBars_14, eS_driftBars_15, eS_driftBars_16, eS_driftBars_17, eS_driftBars_18, eS_driftBars_21, eS_driftBars_24, eS_driftBars_25, eS_driftBars_28, eS_driftBars_30, eS_driftBars_31, eS_driftBars_34, eS_driftBars_35, eS_driftBars_36, eS_driftBars_39, eS_driftBars_42, eS_driftBars_43, eS_driftBars_44, eS_driftBars_47, eS_driftBars_48, eS_driftBars_49, eS_driftBars_52, eS_driftBars_55, eS_driftBars_58, eq_self, hr_k_some, Option.toList, List.cons_append, List.nil_append, is2k_n, is2k_i, is2k_r, is2k_0, oc_sea ha, h5', hle, if_true]
  | succ d ih =>
    intro k hk x2
    have hkn : k < n := by omega
    have hk8 : k < 8 := by omega
    obtain ⟨r0, r1, r2, r3, r4⟩ := hR k hkn
    have hle : (nI n ≤ nI k) = False := eq_false (nI_ge hkn (by omega))
    have h5' : dI I a t k a 5 = nI n := (dI_ge k a 5 (by omega)).trans h5
    have r0' : dI I a t k (a + 2 + k) 0 = nI (t (6 + 5 * k)) := (dI_ge k _ _ (by omega)).trans r0
    have r1' : dI I a t k (a + 2 + k) 1 = nI (t (7 + 5 * k)) := (dI_ge k _ _ (by omega)).trans r1
    have r4' : dI I a t k (a + 2 + k) 4 = nI (t (10 + 5 * k)) := (dI_ge k _ _ (by omega)).trans r4
    obtain ⟨k0, k1, k2, k3, k4⟩ := hV.rk hkn
    have hz : (nI (t (10 + 5 * k)) = 0) = (t (10 + 5 * k) = 0) := nI_lit _ 0 (by omega) (by decide)
    have hm : nI (t (7 + 5 * k)) - nI (t (7 + 5 * k)) / 8 * 8 = nI (t (7 + 5 * k) % 8) := pk_rem (by omega) (by decide) (by decide)
    have hik := sp_isOfKind (I := dI I a t k) (J := J) (a := a + 2 + k) (as := 2) (oc_rock ha hk8) r0' k0 (by decide)
    have hl2 : (2 : Int32) = nI 2 := rfl
    rw [eS_driftBars_2]
    simp only [eS_driftBars_0, eS_driftBars_1, eS_driftBars_3, eS_driftBars_4, eS_driftBars_7, eS_driftBars_10, eS_driftBars_11, eS_driftBars_14, eS_driftBars_15, eS_driftBars_16, eS_driftBars_17, eS_driftBars_18, eS_driftBars_21, eS_driftBars_24, eS_driftBars_25, eS_driftBars_28, eS_driftBars_30, eS_driftBars_31, eS_driftBars_34, eS_driftBars_35, eS_driftBars_36, eS_driftBars_39, eS_driftBars_42, eS_driftBars_43, eS_driftBars_44, eS_driftBars_47, eS_driftBars_48, eS_driftBars_49, eS_driftBars_52, eS_driftBars_55, eS_driftBars_58, eq_self, hr_k_some, Option.toList, List.cons_append, List.nil_append, is2k_n, is2k_i, is2k_r, is2k_0, oc_sea ha, h5', hle, if_false, ro_sea ha, ak_sea ha, true_or, al_sea ha, in_8 hk8, cl_nI (show k < 100000 by omega), ra_sea ha, oc_rock ha hk8, r0', r1', r4', n8, not_false_eq_true, hm, hz, le0_N (show t (7 + 5 * k) % 8 < 2 ^ 31 by omega), hl2, hik, zb_eq0, nI_1]
    have ih' := ih (k + 1) (by omega)
    simp only [dI_s] at ih'
    by_cases c1 : t (10 + 5 * k) = 0
    · by_cases c2 : t (7 + 5 * k) % 8 = 0
      · have hd : d1V t k = false := by unfold d1V; simp [c2]
        simp only [c1, c2, not_true_eq_false, if_false, if_true, hd, Bool.false_eq_true] at ih' ⊢
        exact ih' _
      · cases c3 : N_is (t (6 + 5 * k)) 2 with
        | true =>
          have hd : d1V t k = true := by
            unfold d1V N_is at *
            simp only [decide_eq_true_eq] at c3 ⊢
            exact ⟨c1, by omega, by omega⟩
          have e : nI (t (7 + 5 * k)) - 1 = nI (t (7 + 5 * k) - 1) := by rw [lit_nI, pk_sub (by omega)]
          simp only [c1, c2, not_true_eq_false, if_false, if_true, hd, Bool.true_eq_false, e] at ih' ⊢
          exact ih' _
        | false =>
          have hd : d1V t k = false := by
            unfold d1V N_is at *
            simp only [decide_eq_false_iff_not] at c3 ⊢
            rintro ⟨-, -, z | z⟩
            · exact c3 (Or.inl z)
            · exact c3 (Or.inr (Or.inr (Or.inr ⟨z, by trivial⟩)))
          simp only [c1, c2, not_true_eq_false, if_false, if_true, hd, Bool.false_eq_true] at ih' ⊢
          exact ih' _
    · have hd : d1V t k = false := by unfold d1V; simp [c1]
      simp only [c1, not_false_eq_true, if_true, hd, Bool.false_eq_true, if_false] at ih' ⊢
      exact ih' _
theorem sp_driftBars (ha : isSea a) (hH : hold I a t n) (hV : V t n B) : den nS_driftBars (0, [some (.ref a), none, none], [], (I, J)) = some (none, (dI I a t n, J)) := by
  simp only [eS_driftBars_0, eS_driftBars_1, eS_driftBars_3, eS_driftBars_4, eS_driftBars_7, eS_driftBars_10, eS_driftBars_11, eS_driftBars_14, eS_driftBars_15, eS_driftBars_16, eS_driftBars_17, eS_driftBars_18, eS_driftBars_21, eS_driftBars_24, eS_driftBars_25, eS_driftBars_28, eS_driftBars_30, eS_driftBars_31, eS_driftBars_34, eS_driftBars_35, eS_driftBars_36, eS_driftBars_39, eS_driftBars_42, eS_driftBars_43, eS_driftBars_44, eS_driftBars_47, eS_driftBars_48, eS_driftBars_49, eS_driftBars_52, eS_driftBars_55, eS_driftBars_58, eq_self, hr_k_some, Option.toList, List.cons_append, List.nil_append, is2k_n, is2k_i, is2k_r, is2k_0]
  exact dr_loop ha hH hV n 0 (by omega) none
theorem sea_lt (ha : isSea a) : a ≤ 21 := by rcases ha with rfl | rfl | rfl <;> decide
theorem upV_same {j x : Nat} : upV t j x j = x := if_pos rfl
theorem upV_ne {i j x : Nat} (h : i ≠ j) : upV t j x i = t i := if_neg h
theorem moV_lt (hV : V t n B) (hf : t 4 = 0) : moV t n < 64 := by
  obtain ⟨v5, v8, v0, v1, v2, v3, v4, v6, vk⟩ := hV
  have h63 := v6 hf
  unfold moV
  split
  · split <;> omega
  · rename_i hg
    have hg1 := (gdV_lt ⟨v5, v8, v0, v1, v2, v3, v4, v6, vk⟩ n (Nat.le_refl _)).1
    exact by_lt v1 v3 (vk ((gdV t n).1 - 1) (by omega)).2.1
/-- a state whose square and fate are others -/
theorem V.sf (hV : V t n B) {q f : Nat} (hq : q < 64) (hf : f < 3) (h : f = 0 → q ≠ 63) : V (upV (upV t 1 q) 4 f) n B := by
  obtain ⟨v5, v8, v0, v1, v2, v3, v4, v6, vk⟩ := hV
  refine ⟨by rw [upV_ne (by decide), upV_ne (by decide)]; exact v5, v8, by rw [upV_ne (by decide), upV_ne (by decide)]; exact v0, by rw [upV_ne (by decide), upV_same]; exact hq, by rw [upV_ne (by decide), upV_ne (by decide)]; exact v2, by rw [upV_ne (by decide), upV_ne (by decide)]; exact v3, by rw [upV_same]; exact hf, ?_, fun k hk => ?_⟩
  · rw [upV_same, upV_ne (by decide), upV_same]; exact h
  · rw [upV_ne (by omega), upV_ne (by omega), upV_ne (by omega), upV_ne (by omega), upV_ne (by omega), upV_ne (by omega), upV_ne (by omega), upV_ne (by omega), upV_ne (by omega), upV_ne (by omega)]; exact vk k hk
theorem g1V_V (hV : V t n B) : V (g1V t n) n B := by
  unfold g1V
  split
  · rename_i hf
    refine hV.sf (moV_lt hV hf) ?_ ?_
    · repeat' split
      all_goals decide
    · repeat' split
      all_goals (intro h; first | (cases h; done) | assumption)
  · exact hV
theorem drV_other : ∀ k j, (∀ i, i < k → j ≠ 7 + 5 * i) → drV t k j = t j := by
  intro k
  induction k with
  | zero => intro j _; rfl
  | succ k ih =>
    intro j hj
    rw [drV_s]
    split
    · rw [upV_ne (hj k (by omega))]; exact ih j (fun i hi => hj i (by omega))
    · exact ih j (fun i hi => hj i (by omega))
theorem drV_le : ∀ k j, drV t k j ≤ t j := by
  intro k
  induction k with
  | zero => intro j; exact Nat.le_refl _
  | succ k ih =>
    intro j
    rw [drV_s]
    split
    · unfold upV
      split
      · rename_i h; subst h; omega
      · exact ih j
    · exact ih j
theorem drV_V (hV : V t n B) : V (drV t n) n B := by
  obtain ⟨v5, v8, v0, v1, v2, v3, v4, v6, vk⟩ := hV
  have e : ∀ j, j < 6 → drV t n j = t j := fun j hj => drV_other n j (fun i _ => by omega)
  refine ⟨by rw [e 5 (by decide)]; exact v5, v8, by rw [e 0 (by decide)]; exact v0, by rw [e 1 (by decide)]; exact v1, by rw [e 2 (by decide)]; exact v2, by rw [e 3 (by decide)]; exact v3, by rw [e 4 (by decide)]; exact v4, by rw [e 4 (by decide), e 1 (by decide)]; exact v6, fun k hk => ?_⟩
  obtain ⟨k0, k1, k2, k3, k4⟩ := vk k hk
  exact ⟨Nat.lt_of_le_of_lt (drV_le n _) k0, Nat.lt_of_le_of_lt (drV_le n _) k1, Nat.lt_of_le_of_lt (drV_le n _) k2, Nat.lt_of_le_of_lt (drV_le n _) k3, Nat.lt_of_le_of_lt (drV_le n _) k4⟩
theorem V.w (hV : V t n B) {w B' : Nat} (hw : w ≤ B') : V (upV t 0 w) n B' := by
  obtain ⟨v5, v8, v0, v1, v2, v3, v4, v6, vk⟩ := hV
  refine ⟨by rw [upV_ne (by decide)]; exact v5, v8, by rw [upV_same]; exact hw, by rw [upV_ne (by decide)]; exact v1, by rw [upV_ne (by decide)]; exact v2, by rw [upV_ne (by decide)]; exact v3, by rw [upV_ne (by decide)]; exact v4, by rw [upV_ne (by decide), upV_ne (by decide)]; exact v6, fun k hk => ?_⟩
  rw [upV_ne (by omega), upV_ne (by omega), upV_ne (by omega), upV_ne (by omega), upV_ne (by omega)]; exact vk k hk
theorem g2V_V (hV : V t n B) : V (g2V t n) n B := by
  unfold g2V
  split
  · exact drV_V hV
  · exact hV
theorem goV_V (hV : V t n B) : V (goV t n) n (B + 1) := (g2V_V (g1V_V hV)).w (by have := hV.2.2.1; omega)
theorem g1V_0 : g1V t n 0 = t 0 := by
  unfold g1V
  split
  · rw [upV_ne (by decide), upV_ne (by decide)]
  · rfl
theorem lt0_pred {b : Nat} (hb : b < 2 ^ 30) : ((0 : Int32) ≤ nI b - 1) = ¬ (b = 0) := by
  apply propext
  have e : (nI b - 1).toInt = (b : Int) - 1 := by rw [lit_nI, pk_sub_toInt hb (by decide)]; rfl
  rw [Int32.le_iff_toInt_le, e, Int32.toInt_zero]
  omega
theorem sp_goOne (ha : isSea a) (hH : hold I a t n) (hV : V t n B) (hB : B < 2 ^ 28) : ∃ I', den nS_goOneWatch (0, [some (.ref a), none], [], (I, J)) = some (none, (I', J)) ∧ hold I' a (goV t n) n ∧ off a I I' := by
  have hB' : B < 2 ^ 29 := by omega
  have ha21 := sea_lt ha
  obtain ⟨⟨h0, h1, h2, h3, h4, h5⟩, hR⟩ := hH
  have hH : hold I a t n := ⟨⟨h0, h1, h2, h3, h4, h5⟩, hR⟩
  obtain ⟨v5, v8, v0, v1, v2, v3, v4, v6, vk⟩ := id hV
  -- the second half: drift and the watch
  have half : ∀ (I1 : Nat → Nat → Int32) (x1 : Option Value), hold I1 a (g1V t n) n → off a I I1 → ∃ I', den nS_goOneWatch (69, [some (.ref a), x1], [], (I1, J)) = some (none, (I', J)) ∧ hold I' a (goV t n) n ∧ off a I I' := by
    intro I1 x1 hH1 ho1
    have hV1 := g1V_V hV
    have w0 : I1 a 0 = nI (t 0) := by rw [hH1.1.1, g1V_0]
    have hm : nI (t 0) - nI (t 0) / 6 * 6 = nI (t 0 % 6) := pk_rem (by omega) (by decide) (by decide)
    have hz : (nI (t 0 % 6) = 5) = (t 0 % 6 = 5) := nI_lit _ 5 (by omega) (by decide)
    simp only [eS_goOneWatch_0, eS_goOneWatch_1, eS_goOneWatch_4, eS_goOneWatch_7, eS_goOneWatch_8, eS_goOneWatch_11, eS_goOneWatch_12, eS_goOneWatch_13, eS_goOneWatch_14, eS_goOneWatch_17, eS_goOneWatch_18, eS_goOneWatch_21, eS_goOneWatch_24, eS_goOneWatch_25, eS_goOneWatch_26, eS_goOneWatch_29, eS_goOneWatch_30, eS_goOneWatch_31, eS_goOneWatch_34, eS_goOneWatch_37, eS_goOneWatch_40, eS_goOneWatch_41, eS_goOneWatch_44, eS_goOneWatch_47, eS_goOneWatch_48, eS_goOneWatch_49, eS_goOneWatch_52, eS_goOneWatch_55, eS_goOneWatch_56, eS_goOneWatch_59, eS_goOneWatch_61, eS_goOneWatch_64, eS_goOneWatch_65, eS_goOneWatch_66, eS_goOneWatch_69, eS_goOneWatch_70, eS_goOneWatch_73, eS_goOneWatch_75, eS_goOneWatch_76, eS_goOneWatch_77, eS_goOneWatch_80, eS_goOneWatch_81, eS_goOneWatch_84, eS_goOneWatch_85, eS_goOneWatch_86, eS_goOneWatch_89, eS_goOneWatch_90, eS_goOneWatch_91, eS_goOneWatch_94, eq_self, hr_k_some, Option.toList, List.cons_append, List.nil_append, is2k_n, is2k_i, is2k_r, is2k_0, oc_sea ha, w0, n6, not_false_eq_true, hm, hz]
    unfold goV g2V
    rw [g1V_0]
    by_cases c : t 0 % 6 = 5
    · have hd := sp_driftBars (J := J) ha hH1 hV1
      have hh := dI_hold hH1 n (Nat.le_refl _)
      have w1 : dI I1 a (g1V t n) n a 0 = nI (t 0) := (dI_ge n a 0 (by omega)).trans w0
      simp only [c, not_true_eq_false, if_false, if_true, hd, eq_self, hr_k_some, Option.toList, List.cons_append, List.nil_append, is2k_n, is2k_i, is2k_r, is2k_0, eS_goOneWatch_0, eS_goOneWatch_1, eS_goOneWatch_4, eS_goOneWatch_7, eS_goOneWatch_8, eS_goOneWatch_11, eS_goOneWatch_12, eS_goOneWatch_13, eS_goOneWatch_14, eS_goOneWatch_17, eS_goOneWatch_18, eS_goOneWatch_21, eS_goOneWatch_24, eS_goOneWatch_25, eS_goOneWatch_26, eS_goOneWatch_29, eS_goOneWatch_30, eS_goOneWatch_31, eS_goOneWatch_34, eS_goOneWatch_37, eS_goOneWatch_40, eS_goOneWatch_41, eS_goOneWatch_44, eS_goOneWatch_47, eS_goOneWatch_48, eS_goOneWatch_49, eS_goOneWatch_52, eS_goOneWatch_55, eS_goOneWatch_56, eS_goOneWatch_59, eS_goOneWatch_61, eS_goOneWatch_64, eS_goOneWatch_65, eS_goOneWatch_66, eS_goOneWatch_69, eS_goOneWatch_70, eS_goOneWatch_73, eS_goOneWatch_75, eS_goOneWatch_76, eS_goOneWatch_77, eS_goOneWatch_80, eS_goOneWatch_81, eS_goOneWatch_84, eS_goOneWatch_85, eS_goOneWatch_86, eS_goOneWatch_89, eS_goOneWatch_90, eS_goOneWatch_91, eS_goOneWatch_94, oc_sea ha, w1, nI_1]
      exact ⟨_, rfl, hh.sea (by decide), (ho1.trans (dI_off v8)).up ⟨by omega, by omega⟩⟩
    · simp only [c, not_false_eq_true, if_true, if_false, eS_goOneWatch_0, eS_goOneWatch_1, eS_goOneWatch_4, eS_goOneWatch_7, eS_goOneWatch_8, eS_goOneWatch_11, eS_goOneWatch_12, eS_goOneWatch_13, eS_goOneWatch_14, eS_goOneWatch_17, eS_goOneWatch_18, eS_goOneWatch_21, eS_goOneWatch_24, eS_goOneWatch_25, eS_goOneWatch_26, eS_goOneWatch_29, eS_goOneWatch_30, eS_goOneWatch_31, eS_goOneWatch_34, eS_goOneWatch_37, eS_goOneWatch_40, eS_goOneWatch_41, eS_goOneWatch_44, eS_goOneWatch_47, eS_goOneWatch_48, eS_goOneWatch_49, eS_goOneWatch_52, eS_goOneWatch_55, eS_goOneWatch_56, eS_goOneWatch_59, eS_goOneWatch_61, eS_goOneWatch_64, eS_goOneWatch_65, eS_goOneWatch_66, eS_goOneWatch_69, eS_goOneWatch_70, eS_goOneWatch_73, eS_goOneWatch_75, eS_goOneWatch_76, eS_goOneWatch_77, eS_goOneWatch_80, eS_goOneWatch_81, eS_goOneWatch_84, eS_goOneWatch_85, eS_goOneWatch_86, eS_goOneWatch_89, eS_goOneWatch_90, eS_goOneWatch_91, eS_goOneWatch_94, eq_self, hr_k_some, Option.toList, List.cons_append, List.nil_append, is2k_n, is2k_i, is2k_r, is2k_0, oc_sea ha, w0, nI_1]
      exact ⟨_, rfl, hH1.sea (by decide), ho1.up ⟨by omega, by omega⟩⟩
  have hz4 : (nI (t 4) = 0) = (t 4 = 0) := nI_lit _ 0 (by omega) (by decide)
  rw [eS_goOneWatch_0, eS_goOneWatch_1 (oc_sea ha), h4, eS_goOneWatch_4]
  simp only [hz4]
  by_cases c4 : t 4 = 0
  · have hgd := gdV_lt hV n (Nat.le_refl _)
    have hsg := sp_guide (J := J) ha hH hV hB'
    have hg1 : (0 ≤ nI (gdV t n).1 - 1) = ¬ ((gdV t n).1 = 0) := lt0_pred (by omega)
    have h63 := v6 c4
    have hmo := moV_lt hV c4
    -- the square she goes to
    have tail : ∀ (x1 : Option Value), ∃ I', den nS_goOneWatch (40, [some (.ref a), x1], [], (up2 I a 1 (nI (moV t n)), J)) = some (none, (I', J)) ∧ hold I' a (goV t n) n ∧ off a I I' := by
      intro x1
      have hH2 : hold (up2 I a 1 (nI (moV t n))) a (upV t 1 (moV t n)) n := hH.sea (by decide)
      have ho2 : off a I (up2 I a 1 (nI (moV t n))) := off.rfl.up ⟨by omega, by omega⟩
      have hw2 : den nS_isWreckedHere (0, [some (.ref a), none], [], (up2 I a 1 (nI (moV t n)), J)) = some (some (.int (zb (wrV (upV t 1 (moV t n)) n))), (up2 I a 1 (nI (moV t n)), J)) := by
        -- the state on the way: as valid as is needed
        have hV2 : V (upV (upV t 1 (moV t n)) 4 1) n B := hV.sf hmo (by decide) (by intro h; cases h)
        have e : ∀ k, k ≤ n → wrV (upV (upV t 1 (moV t n)) 4 1) k = wrV (upV t 1 (moV t n)) k := by
          intro k
          induction k with
          | zero => intro _; rfl
          | succ k ih =>
            intro hk
            rw [wrV_s, wrV_s, ih (by omega)]
            unfold hitV
            rw [upV_ne (show 7 + 5 * k ≠ 4 by omega), upV_ne (show 1 ≠ 4 by decide), upV_ne (show 6 + 5 * k ≠ 4 by omega), upV_ne (show 0 ≠ 4 by decide)]
        -- isWreckedHere does not look at fate
        have hx : ∀ (d k : Nat), k + d = n → wrV (upV t 1 (moV t n)) k = false → den nS_isWreckedHere (2, [some (.ref a), some (.int (nI k))], [], (up2 I a 1 (nI (moV t n)), J)) = some (some (.int (zb (wrV (upV t 1 (moV t n)) n))), (up2 I a 1 (nI (moV t n)), J)) := by
          intro d k hk hw
          exact wr_loopF ha hH2 (V.wk hV2) hB' d k hk hw
        simp only [eS_isWreckedHere_0, eS_isWreckedHere_1, eS_isWreckedHere_3, eS_isWreckedHere_4, eS_isWreckedHere_7, eS_isWreckedHere_10, eS_isWreckedHere_11, eS_isWreckedHere_14, eS_isWreckedHere_15, eS_isWreckedHere_16, eS_isWreckedHere_19, eS_isWreckedHere_20, eS_isWreckedHere_23, eS_isWreckedHere_26, eS_isWreckedHere_27, eS_isWreckedHere_30, eS_isWreckedHere_31, eS_isWreckedHere_32, eS_isWreckedHere_33, eS_isWreckedHere_36, eS_isWreckedHere_39, eS_isWreckedHere_42, eS_isWreckedHere_43, eS_isWreckedHere_44, eS_isWreckedHere_47, eS_isWreckedHere_50, eS_isWreckedHere_51, eq_self, hr_k_some, Option.toList, List.cons_append, List.nil_append, is2k_n, is2k_i, is2k_r, is2k_0]
        exact hx n 0 (by omega) rfl
      have hq2 : up2 I a 1 (nI (moV t n)) a 1 = nI (moV t n) := up2_eq
      have hz63 : (nI (moV t n) = 63) = (moV t n = 63) := nI_lit _ 63 (by omega) (by decide)
      have h4' : up2 I a 1 (nI (moV t n)) a 4 = nI (t 4) := by rw [up2_nk (by decide)]; exact h4
      have e1 : g1V t n = upV (upV t 1 (moV t n)) 4 (if wrV (upV t 1 (moV t n)) n = true then 1 else if moV t n = 63 then 2 else 0) := if_pos c4
      rw [eS_goOneWatch_40, eS_goOneWatch_41 (oc_sea ha)]
      simp only [hw2, eq_self, hr_k_some, Option.toList, List.cons_append, List.nil_append, is2k_n, is2k_i, is2k_r, is2k_0]
      rw [eS_goOneWatch_44]
      simp only [zb_eq0]
      cases cw : wrV (upV t 1 (moV t n)) n with
      | true =>
        simp only [Bool.true_eq_false, if_false, eS_goOneWatch_0, eS_goOneWatch_1, eS_goOneWatch_4, eS_goOneWatch_7, eS_goOneWatch_8, eS_goOneWatch_11, eS_goOneWatch_12, eS_goOneWatch_13, eS_goOneWatch_14, eS_goOneWatch_17, eS_goOneWatch_18, eS_goOneWatch_21, eS_goOneWatch_24, eS_goOneWatch_25, eS_goOneWatch_26, eS_goOneWatch_29, eS_goOneWatch_30, eS_goOneWatch_31, eS_goOneWatch_34, eS_goOneWatch_37, eS_goOneWatch_40, eS_goOneWatch_41, eS_goOneWatch_44, eS_goOneWatch_47, eS_goOneWatch_48, eS_goOneWatch_49, eS_goOneWatch_52, eS_goOneWatch_55, eS_goOneWatch_56, eS_goOneWatch_59, eS_goOneWatch_61, eS_goOneWatch_64, eS_goOneWatch_65, eS_goOneWatch_66, eS_goOneWatch_70, eS_goOneWatch_73, eS_goOneWatch_75, eS_goOneWatch_76, eS_goOneWatch_77, eS_goOneWatch_80, eS_goOneWatch_81, eS_goOneWatch_84, eS_goOneWatch_85, eS_goOneWatch_86, eS_goOneWatch_89, eS_goOneWatch_90, eS_goOneWatch_91, eS_goOneWatch_94, eq_self, hr_k_some, Option.toList, List.cons_append, List.nil_append, is2k_n, is2k_i, is2k_r, is2k_0, oc_sea ha]
        refine half _ _ ?_ (ho2.up ⟨by omega, by omega⟩)
        rw [e1, cw]
        exact hH2.sea (by decide)
      | false =>
        simp only [if_true, eS_goOneWatch_0, eS_goOneWatch_1, eS_goOneWatch_4, eS_goOneWatch_7, eS_goOneWatch_8, eS_goOneWatch_11, eS_goOneWatch_12, eS_goOneWatch_13, eS_goOneWatch_14, eS_goOneWatch_17, eS_goOneWatch_18, eS_goOneWatch_21, eS_goOneWatch_24, eS_goOneWatch_25, eS_goOneWatch_26, eS_goOneWatch_29, eS_goOneWatch_30, eS_goOneWatch_31, eS_goOneWatch_34, eS_goOneWatch_37, eS_goOneWatch_40, eS_goOneWatch_41, eS_goOneWatch_44, eS_goOneWatch_47, eS_goOneWatch_48, eS_goOneWatch_49, eS_goOneWatch_52, eS_goOneWatch_55, eS_goOneWatch_56, eS_goOneWatch_59, eS_goOneWatch_61, eS_goOneWatch_64, eS_goOneWatch_65, eS_goOneWatch_66, eS_goOneWatch_70, eS_goOneWatch_73, eS_goOneWatch_75, eS_goOneWatch_76, eS_goOneWatch_77, eS_goOneWatch_80, eS_goOneWatch_81, eS_goOneWatch_84, eS_goOneWatch_85, eS_goOneWatch_86, eS_goOneWatch_89, eS_goOneWatch_90, eS_goOneWatch_91, eS_goOneWatch_94, eq_self, hr_k_some, Option.toList, List.cons_append, List.nil_append, is2k_n, is2k_i, is2k_r, is2k_0, oc_sea ha, hq2, hz63]
        by_cases c63 : moV t n = 63
        · simp only [c63, not_true_eq_false, if_false]
          refine half _ _ ?_ (by rw [← c63]; exact ho2.up ⟨by omega, by omega⟩)
          rw [e1, cw]
          simp only [Bool.false_eq_true, if_false, c63, if_true]
          rw [c63] at hH2
          exact hH2.sea (by decide)
        · simp only [c63, not_false_eq_true, if_true]
          refine half _ _ ?_ ho2
          rw [e1, cw]
          simp only [Bool.false_eq_true, if_false, c63]
          have := hH2.sea (j := 4) (x := 0) (by decide)
          refine this.congr (fun b _ _ j => ?_) v8
          by_cases hc : b = a ∧ j = 4
          · obtain ⟨rfl, rfl⟩ := hc
            rw [h4', c4, up2_eq]
          · exact (if_neg hc).symm
    simp only [c4, not_true_eq_false, if_false, eS_goOneWatch_0, eS_goOneWatch_1, eS_goOneWatch_4, eS_goOneWatch_7, eS_goOneWatch_8, eS_goOneWatch_11, eS_goOneWatch_12, eS_goOneWatch_13, eS_goOneWatch_14, eS_goOneWatch_17, eS_goOneWatch_18, eS_goOneWatch_21, eS_goOneWatch_24, eS_goOneWatch_25, eS_goOneWatch_26, eS_goOneWatch_29, eS_goOneWatch_30, eS_goOneWatch_31, eS_goOneWatch_34, eS_goOneWatch_37, eS_goOneWatch_41, eS_goOneWatch_44, eS_goOneWatch_47, eS_goOneWatch_48, eS_goOneWatch_49, eS_goOneWatch_52, eS_goOneWatch_55, eS_goOneWatch_56, eS_goOneWatch_59, eS_goOneWatch_61, eS_goOneWatch_64, eS_goOneWatch_65, eS_goOneWatch_66, eS_goOneWatch_70, eS_goOneWatch_73, eS_goOneWatch_75, eS_goOneWatch_76, eS_goOneWatch_77, eS_goOneWatch_80, eS_goOneWatch_81, eS_goOneWatch_84, eS_goOneWatch_85, eS_goOneWatch_86, eS_goOneWatch_89, eS_goOneWatch_90, eS_goOneWatch_91, eS_goOneWatch_94, eq_self, hr_k_some, Option.toList, List.cons_append, List.nil_append, is2k_n, is2k_i, is2k_r, is2k_0, oc_sea ha, hsg, hg1]
    by_cases cg : (gdV t n).1 = 0
    · have hm8 : P_rm (nI (t 1)) 8 = nI (t 1 % 8) := rm_N (by omega) (by decide) (by decide)
      have hmv : (if 7 ≤ P_rm (nI (t 1)) 8 then (if 63 ≤ nI (t 1) then nI (t 1) else nI (t 1) + 8) else nI (t 1) + 1) = nI (moV t n) := by
        unfold moV
        rw [if_pos cg, hm8]
        simp only [lit_nI, nI_leI (show 7 < 2 ^ 31 by decide) (show t 1 % 8 < 2 ^ 31 by omega), nI_leI (show 63 < 2 ^ 31 by decide) (show t 1 < 2 ^ 31 by omega), nI_add]
        by_cases c8 : t 1 % 8 < 7
        · rw [if_neg (by omega), if_pos c8]
        · rw [if_pos (by omega), if_neg (by omega), if_neg c8]
      simp only [cg, not_true_eq_false, if_false, sp_squareAhead, eq_self, hr_k_some, Option.toList, List.cons_append, List.nil_append, is2k_n, is2k_i, is2k_r, is2k_0, eS_goOneWatch_0, eS_goOneWatch_1, eS_goOneWatch_4, eS_goOneWatch_7, eS_goOneWatch_8, eS_goOneWatch_11, eS_goOneWatch_12, eS_goOneWatch_13, eS_goOneWatch_14, eS_goOneWatch_17, eS_goOneWatch_18, eS_goOneWatch_21, eS_goOneWatch_24, eS_goOneWatch_25, eS_goOneWatch_26, eS_goOneWatch_29, eS_goOneWatch_30, eS_goOneWatch_31, eS_goOneWatch_34, eS_goOneWatch_37, eS_goOneWatch_41, eS_goOneWatch_44, eS_goOneWatch_47, eS_goOneWatch_48, eS_goOneWatch_49, eS_goOneWatch_52, eS_goOneWatch_55, eS_goOneWatch_56, eS_goOneWatch_59, eS_goOneWatch_61, eS_goOneWatch_64, eS_goOneWatch_65, eS_goOneWatch_66, eS_goOneWatch_70, eS_goOneWatch_73, eS_goOneWatch_75, eS_goOneWatch_76, eS_goOneWatch_77, eS_goOneWatch_80, eS_goOneWatch_81, eS_goOneWatch_84, eS_goOneWatch_85, eS_goOneWatch_86, eS_goOneWatch_89, eS_goOneWatch_90, eS_goOneWatch_91, eS_goOneWatch_94, oc_sea ha, h1, hmv]
      exact tail _
    · have hk : (gdV t n).1 - 1 < n := by omega
      have hk8 : (gdV t n).1 - 1 < 8 := by omega
      have er : nI (gdV t n).1 - 1 = nI ((gdV t n).1 - 1) := by rw [lit_nI, pk_sub (by omega)]
      have hr1 := (hR _ hk).2.1
      have hmv : P_by (nI (t 1)) (nI (t 3)) (nI (t (7 + 5 * ((gdV t n).1 - 1)))) = nI (moV t n) := by
        unfold moV
        rw [if_neg cg]
        exact by_N v1 v3 (vk _ hk).2.1
      simp only [cg, not_false_eq_true, if_true, eq_self, hr_k_some, Option.toList, List.cons_append, List.nil_append, is2k_n, is2k_i, is2k_r, is2k_0, eS_goOneWatch_0, eS_goOneWatch_1, eS_goOneWatch_4, eS_goOneWatch_7, eS_goOneWatch_8, eS_goOneWatch_11, eS_goOneWatch_12, eS_goOneWatch_13, eS_goOneWatch_14, eS_goOneWatch_17, eS_goOneWatch_18, eS_goOneWatch_21, eS_goOneWatch_24, eS_goOneWatch_25, eS_goOneWatch_26, eS_goOneWatch_29, eS_goOneWatch_30, eS_goOneWatch_31, eS_goOneWatch_34, eS_goOneWatch_37, eS_goOneWatch_41, eS_goOneWatch_44, eS_goOneWatch_47, eS_goOneWatch_48, eS_goOneWatch_49, eS_goOneWatch_52, eS_goOneWatch_55, eS_goOneWatch_56, eS_goOneWatch_59, eS_goOneWatch_61, eS_goOneWatch_64, eS_goOneWatch_65, eS_goOneWatch_66, eS_goOneWatch_70, eS_goOneWatch_73, eS_goOneWatch_75, eS_goOneWatch_76, eS_goOneWatch_77, eS_goOneWatch_80, eS_goOneWatch_81, eS_goOneWatch_84, eS_goOneWatch_85, eS_goOneWatch_86, eS_goOneWatch_89, eS_goOneWatch_90, eS_goOneWatch_91, eS_goOneWatch_94, oc_sea ha, er, ro_sea ha, ak_sea ha, true_or, al_sea ha, in_8 hk8, cl_nI (show (gdV t n).1 - 1 < 100000 by omega), ra_sea ha, oc_rock ha hk8, hr1, sp_squareBy, h1, h3, hmv]
      exact tail _
  · simp only [c4, not_false_eq_true, if_true]
    refine half I none ?_ off.rfl
    rw [show g1V t n = t from if_neg c4]
    exact hH
end
