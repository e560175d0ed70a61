/-! ===== the state as natural numbers: 0 watch 1 square 2 ear 3 heart 4 fate 5 rocks; rock k: 6+5k kind, 7+5k square, 8+5k horn, 9+5k sweet, 10+5k silent ===== -/
def V (t : Nat → Nat) (n B : Nat) : Prop := t 5 = n ∧ n ≤ 8 ∧ t 0 ≤ B ∧ t 1 < 64 ∧ t 2 < 10 ∧ t 3 < 2 ∧ t 4 < 3 ∧ (t 4 = 0 → t 1 ≠ 63) ∧ ∀ k, k < n → t (6 + 5 * k) < 6 ∧ t (7 + 5 * k) < 64 ∧ t (8 + 5 * k) < 100 ∧ t (9 + 5 * k) < 10 ∧ t (10 + 5 * k) < 2
def hold (I : Nat → Nat → Int32) (a : Nat) (t : Nat → Nat) (n : Nat) : Prop := (I a 0 = nI (t 0) ∧ I a 1 = nI (t 1) ∧ I a 2 = nI (t 2) ∧ I a 3 = nI (t 3) ∧ I a 4 = nI (t 4) ∧ I a 5 = nI (t 5)) ∧ ∀ k, k < n → I (a + 2 + k) 0 = nI (t (6 + 5 * k)) ∧ I (a + 2 + k) 1 = nI (t (7 + 5 * k)) ∧ I (a + 2 + k) 2 = nI (t (8 + 5 * k)) ∧ I (a + 2 + k) 3 = nI (t (9 + 5 * k)) ∧ I (a + 2 + k) 4 = nI (t (10 + 5 * k))
def upV (t : Nat → Nat) (j x : Nat) : Nat → Nat := fun i => if i = j then x else t i
def sndV (t : Nat → Nat) (k q : Nat) : Nat := N_snd (t (6 + 5 * k)) (t (7 + 5 * k)) (t (8 + 5 * k)) (t (9 + 5 * k)) (t (10 + 5 * k)) q (t 0)
def lurV (t : Nat → Nat) (k q : Nat) : Nat := N_lur (t (6 + 5 * k)) (t (7 + 5 * k)) (t (8 + 5 * k)) (t (9 + 5 * k)) (t (10 + 5 * k)) q
def hrsV (t : Nat → Nat) (k : Nat) : Bool := decide (10 ≤ sndV t k (t 1) + t 2)
def wgtV (t : Nat → Nat) (k : Nat) : Nat := if t 3 = 0 then sndV t k (t 1) else lurV t k (t 1)
/-- the rock by which he goes, and what it weighs, of the first k: both and 1; 0: none -/
def gdV (t : Nat → Nat) : Nat → Nat × Nat
  | 0 => (0, 0)
  | k + 1 => if hrsV t k = true ∧ (gdV t k).2 ≤ wgtV t k then (k + 1, wgtV t k + 1) else gdV t k
def heV (t : Nat → Nat) : Nat → Int32
  | 0 => 0
  | k + 1 => if hrsV t k = true then heV t k ||| ((1 : Int32) <<< (nI k &&& 31)) else heV t k
def loV (t : Nat → Nat) (q : Nat) : Nat → Nat × Nat
  | 0 => (0, 0)
  | k + 1 => if (loV t q k).2 ≤ sndV t k q then (k + 1, sndV t k q + 1) else loV t q k
def wrV (t : Nat → Nat) : Nat → Bool
  | 0 => false
  | k + 1 => wrV t k || (decide (t (7 + 5 * k) = t 1) && N_wrk (t (6 + 5 * k)) (t 0))
def d1V (t : Nat → Nat) (k : Nat) : Bool := decide (t (10 + 5 * k) = 0 ∧ 0 < t (7 + 5 * k) % 8 ∧ (t (6 + 5 * k) = 2 ∨ t (6 + 5 * k) = 5))
def drV (t : Nat → Nat) : Nat → (Nat → Nat)
  | 0 => t
  | k + 1 => if d1V t k = true then upV (drV t k) (7 + 5 * k) (t (7 + 5 * k) - 1) else drV t k
def moV (t : Nat → Nat) (n : Nat) : Nat := if (gdV t n).1 = 0 then (if t 1 % 8 < 7 then t 1 + 1 else t 1 + 8) else N_by (t 1) (t 3) (t (7 + 5 * ((gdV t n).1 - 1)))
def g1V (t : Nat → Nat) (n : Nat) : Nat → Nat := if t 4 = 0 then upV (upV t 1 (moV t n)) 4 (if wrV (upV t 1 (moV t n)) n = true then 1 else if moV t n = 63 then 2 else 0) else t
def g2V (t : Nat → Nat) (n : Nat) : Nat → Nat := if t 0 % 6 = 5 then drV t n else t
/-- one watch -/
def goV (t : Nat → Nat) (n : Nat) : Nat → Nat := upV (g2V (g1V t n) n) 0 (t 0 + 1)
theorem V.rk {t : Nat → Nat} {n B k : Nat} (h : V t n B) (hk : k < n) : t (6 + 5 * k) < 6 ∧ t (7 + 5 * k) < 64 ∧ t (8 + 5 * k) < 100 ∧ t (9 + 5 * k) < 10 ∧ t (10 + 5 * k) < 2 := h.2.2.2.2.2.2.2.2 k hk
theorem snd_lt {kd sq ho sw si q w : Nat} (h3 : ho < 100) (h4 : sw < 10) : N_snd kd sq ho sw si q w < 300 := by
  unfold N_snd
  have : ho / (1 + N_far sq q) ≤ ho := Nat.div_le_self _ _
  dsimp only
  repeat' split
  all_goals omega
theorem lur_lt {kd sq ho sw si q : Nat} (h3 : ho < 100) (h4 : sw < 10) : N_lur kd sq ho sw si q < 300 := by
  unfold N_lur
  dsimp only
  repeat' split
  all_goals omega
theorem V.snd {t : Nat → Nat} {n B k q : Nat} (h : V t n B) (hB : B < 2 ^ 29) (hk : k < n) (hq : q < 64) : P_snd (nI (t (6 + 5 * k))) (nI (t (7 + 5 * k))) (nI (t (8 + 5 * k))) (nI (t (9 + 5 * k))) (nI (t (10 + 5 * k))) (nI q) (nI (t 0)) = nI (sndV t k q) := by
  obtain ⟨a1, a2, a3, a4, a5⟩ := h.rk hk
  exact snd_N a1 a2 a3 a4 a5 hq (by have := h.2.2.1; omega)
theorem V.lur {t : Nat → Nat} {n B k q : Nat} (h : V t n B) (hk : k < n) (hq : q < 64) : P_lur (nI (t (6 + 5 * k))) (nI (t (7 + 5 * k))) (nI (t (8 + 5 * k))) (nI (t (9 + 5 * k))) (nI (t (10 + 5 * k))) (nI q) = nI (lurV t k q) := by
  obtain ⟨a1, a2, a3, a4, a5⟩ := h.rk hk
  exact lur_N a1 a2 a3 a4 a5 hq
theorem V.sndl {t : Nat → Nat} {n B k q : Nat} (h : V t n B) (hk : k < n) : sndV t k q < 300 := snd_lt (h.rk hk).2.2.1 (h.rk hk).2.2.2.1
theorem V.lurl {t : Nat → Nat} {n B k q : Nat} (h : V t n B) (hk : k < n) : lurV t k q < 300 := lur_lt (h.rk hk).2.2.1 (h.rk hk).2.2.2.1
theorem far_nz : ∀ a, a < 64 → ∀ b, b < 64 → (1 + P_far (nI a) (nI b) = 0) = False := by
  intro a ha b hb
  apply eq_false
  rw [far_N a ha b hb, lit_nI, lit_nI, nI_add, nI_eq (by have := far_le ha hb; omega) (by decide)]
  omega
theorem V.far {t : Nat → Nat} {n B k q : Nat} (h : V t n B) (hk : k < n) (hq : q < 64) : (1 + P_far (nI (t (7 + 5 * k))) (nI q) = 0) = False := far_nz _ (h.rk hk).2.1 _ hq
theorem sp_isHeard {I : Nat → Nat → Int32} {J : Nat → Nat → Int64} {a : Nat} {x : Int32} (ha : hr_oc a = 2) : den nS_isHeard (0, [some (.ref a), some (.int x)], [], (I, J)) = some (some (.int (zb (decide (10 ≤ x + I a 2)))), (I, J)) := by
  simp only [eS_isHeard_0, eS_isHeard_1, eS_isHeard_2, eS_isHeard_5, eS_isHeard_6, eS_isHeard_8, eS_isHeard_11, eS_isHeard_12, eS_isHeard_15, eS_isHeard_16, eq_self, hr_k_some, Option.toList, List.cons_append, List.nil_append, is2k_n, is2k_i, is2k_r, is2k_0, ha, zb_n0, zb_n1, ite_si]
  congr 4
  by_cases h : 10 ≤ x + I a 2
  · have : ¬ x + I a 2 < 10 := fun z => absurd h (Int32.not_le.mpr z)
    simp only [this, h, if_false, decide_true]; rfl
  · have : x + I a 2 < 10 := Int32.not_le.mp h
    simp only [this, h, if_true, decide_false]; rfl
theorem V.hrs {t : Nat → Nat} {n B k : Nat} (h : V t n B) (hk : k < n) : decide (10 ≤ nI (sndV t k (t 1)) + nI (t 2)) = hrsV t k := by
  unfold hrsV
  have h1 := h.sndl (q := t 1) hk
  have h2 := h.2.2.2.2.1
  simp only [lit_nI, nI_add, nI_leI (show 10 < 2 ^ 31 by decide) (show sndV t k (t 1) + t 2 < 2 ^ 31 by omega)]
theorem le_pred {v m : Nat} (hv : v < 2 ^ 30) (hm : m < 2 ^ 30) : (nI v ≤ nI m - 1) = (v + 1 ≤ m) := by
  apply propext
  have e : (nI m - 1).toInt = (m : Int) - 1 := by
    rw [lit_nI, pk_sub_toInt hm (by decide)]; rfl
  rw [Int32.le_iff_toInt_le, e, nI_toInt (by omega)]
  omega
theorem gdV_lt {t : Nat → Nat} {n B : Nat} (h : V t n B) : ∀ k, k ≤ n → (gdV t k).1 ≤ k ∧ (gdV t k).2 < 302 := by
  intro k
  induction k with
  | zero => intro _; exact ⟨Nat.le_refl _, show 0 < 302 by decide⟩
  | succ k ih =>
    intro hk
    have := ih (by omega)
    have h1 : wgtV t k < 300 := by
      unfold wgtV
      split
      · exact h.sndl (by omega)
      · exact h.lurl (by omega)
    unfold gdV
    split
    · exact ⟨Nat.le_refl _, by show wgtV t k + 1 < 302; omega⟩
    · exact ⟨by omega, this.2⟩
theorem gdV_s {t : Nat → Nat} {k : Nat} : gdV t (k + 1) = if hrsV t k = true ∧ (gdV t k).2 ≤ wgtV t k then (k + 1, wgtV t k + 1) else gdV t k := rfl
section
variable {I : Nat → Nat → Int32} {J : Nat → Nat → Int64} {a : Nat} {t : Nat → Nat} {n B : Nat}
theorem gd_loop (ha : isSea a) (hH : hold I a t n) (hV : V t n B) (hB : B < 2 ^ 29) : ∀ (d k : Nat), k + d = n → ∀ x4 x5, den nS_guide (6, [some (.ref a), some (.int (nI (gdV t k).1 - 1)), some (.int (nI (gdV t k).2 - 1)), some (.int (nI k)), x4, x5], [], (I, J)) = some (some (.int (nI (gdV t n).1 - 1)), (I, J)) := by
  obtain ⟨⟨h0, h1, h2, h3, h4, h5⟩, hR⟩ := hH
  have hn := hV.2.1
  rw [hV.1] at h5
  intro d
  induction d with
  | zero =>
    intro k hk x4 x5
    have hkn : k = n := by omega
    subst hkn
    have hle : (nI k ≤ nI k) = True := eq_true (Int32.le_refl _)
    simp only [eS_guide_0, eS_guide_1, eS_guide_2, eS_guide_3, eS_guide_4, eS_guide_5, eS_guide_6, eS_guide_7, eS_guide_8, eS_guide_11, eS_guide_14, eS_guide_15, eS_guide_18, eS_guide_19, eS_guide_20, eS_guide_21, eS_guide_24, eS_guide_25, eS_guide_28, eS_guide_31, eS_guide_33, eS_guide_34, eS_guide_36, eS_guide_39, eS_guide_42, eS_guide_43, eS_guide_46, eS_guide_49, eS_guide_51, eS_guide_54, eS_guide_55, eS_guide_58, eS_guide_59, eS_guide_60, eS_guide_61, eS_guide_64, eS_guide_67, eS_guide_69, eS_guide_71, eS_guide_72, eS_guide_75, eS_guide_77, eS_guide_78, eS_guide_79, eS_guide_80, eS_guide_83, eS_guide_86, eS_guide_87, eq_self, hr_k_some, Option.toList, List.cons_append, List.nil_append, is2k_n, is2k_i, is2k_r, is2k_0, oc_sea ha, h5, hle, if_true]
  | succ d ih =>
    intro k hk x4 x5
    have hkn : k < n := by omega
    have hk8 : k < 8 := by omega
    obtain ⟨r0, r1, r2, r3, r4⟩ := hR k hkn
    have hle : (nI n ≤ nI k) = False := eq_false (nI_ge hkn (by omega))
    have hq := hV.2.2.2.1
    have h3' := hV.2.2.2.2.2.1
    have hz : (nI (t 3) = 0) = (t 3 = 0) := nI_lit (t 3) 0 (by omega) (by decide)
    have hgl := (gdV_lt hV k (by omega)).2
    have hsl := hV.sndl (q := t 1) hkn
    have hll := hV.lurl (q := t 1) hkn
    rw [eS_guide_6]
    simp only [eS_guide_0, eS_guide_1, eS_guide_2, eS_guide_3, eS_guide_4, eS_guide_5, eS_guide_7, eS_guide_8, eS_guide_11, eS_guide_14, eS_guide_15, eS_guide_18, eS_guide_19, eS_guide_20, eS_guide_21, eS_guide_24, eS_guide_25, eS_guide_28, eS_guide_31, eS_guide_33, eS_guide_34, eS_guide_36, eS_guide_39, eS_guide_42, eS_guide_43, eS_guide_46, eS_guide_49, eS_guide_51, eS_guide_54, eS_guide_55, eS_guide_58, eS_guide_59, eS_guide_60, eS_guide_61, eS_guide_64, eS_guide_67, eS_guide_69, eS_guide_71, eS_guide_72, eS_guide_75, eS_guide_77, eS_guide_78, eS_guide_79, eS_guide_80, eS_guide_83, eS_guide_86, eS_guide_87, eq_self, hr_k_some, Option.toList, List.cons_append, List.nil_append, is2k_n, is2k_i, is2k_r, is2k_0, oc_sea ha, h5, hle, if_false, ro_sea ha, ak_sea ha, true_or, al_sea ha, in_8 hk8, cl_nI (show k < 100000 by omega), ra_sea ha, oc_rock ha hk8, sp_soundAt, sp_lureAt, sp_isHeard, h0, h1, h2, h3, r0, r1, r2, r3, r4, hV.far hkn hq, not_false_eq_true, hV.snd hB hkn hq, hV.lur hkn hq, hV.hrs hkn, zb_eq0, hz, nI_1, le_pred (show sndV t k (t 1) < 2 ^ 30 by omega) (show (gdV t k).2 < 2 ^ 30 by omega), le_pred (show lurV t k (t 1) < 2 ^ 30 by omega) (show (gdV t k).2 < 2 ^ 30 by omega)]
    have ih' := ih (k + 1) (by omega)
    simp only [gdV_s, wgtV] at ih'
    cases hh : hrsV t k with
    | false =>
      simp only [hh, if_true, Bool.false_eq_true, false_and, if_false] at ih' ⊢
      exact ih' _ _
    | true =>
      by_cases c3 : t 3 = 0
      · by_cases c5 : (gdV t k).2 ≤ sndV t k (t 1)
        · have c6 : ¬ sndV t k (t 1) + 1 ≤ (gdV t k).2 := by omega
          simp only [hh, c3, c5, c6, if_true, true_and, not_true_eq_false, if_false, Bool.true_eq_false, nI_pred] at ih' ⊢
          exact ih' _ _
        · have c6 : sndV t k (t 1) + 1 ≤ (gdV t k).2 := by omega
          simp only [hh, c3, c5, c6, if_true, and_false, not_true_eq_false, if_false, Bool.true_eq_false] at ih' ⊢
          exact ih' _ _
      · by_cases c5 : (gdV t k).2 ≤ lurV t k (t 1)
        · have c6 : ¬ lurV t k (t 1) + 1 ≤ (gdV t k).2 := by omega
          simp only [hh, c3, c5, c6, if_true, true_and, not_false_eq_true, if_false, Bool.true_eq_false, nI_pred] at ih' ⊢
          exact ih' _ _
        · have c6 : lurV t k (t 1) + 1 ≤ (gdV t k).2 := by omega
          simp only [hh, c3, c5, c6, if_true, and_false, not_false_eq_true, if_false, Bool.true_eq_false] at ih' ⊢
          exact ih' _ _
theorem sp_guide (ha : isSea a) (hH : hold I a t n) (hV : V t n B) (hB : B < 2 ^ 29) : den nS_guide (0, [some (.ref a), none, none, none, none, none], [], (I, J)) = some (some (.int (nI (gdV t n).1 - 1)), (I, J)) := by
  simp only [eS_guide_0, eS_guide_1, eS_guide_2, eS_guide_3, eS_guide_4, eS_guide_5, eS_guide_7, eS_guide_8, eS_guide_11, eS_guide_14, eS_guide_15, eS_guide_18, eS_guide_19, eS_guide_20, eS_guide_21, eS_guide_24, eS_guide_25, eS_guide_28, eS_guide_31, eS_guide_33, eS_guide_34, eS_guide_36, eS_guide_39, eS_guide_42, eS_guide_43, eS_guide_46, eS_guide_49, eS_guide_51, eS_guide_54, eS_guide_55, eS_guide_58, eS_guide_59, eS_guide_60, eS_guide_61, eS_guide_64, eS_guide_67, eS_guide_69, eS_guide_71, eS_guide_72, eS_guide_75, eS_guide_77, eS_guide_78, eS_guide_79, eS_guide_80, eS_guide_83, eS_guide_86, eS_guide_87, eq_self, hr_k_some, Option.toList, List.cons_append, List.nil_append, is2k_n, is2k_i, is2k_r, is2k_0]
  exact gd_loop ha hH hV hB n 0 (by omega) none none
end
