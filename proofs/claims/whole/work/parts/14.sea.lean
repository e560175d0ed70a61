theorem hold_iff {I : Nat → Nat → Int32} {a : Nat} {t : Nat → Nat} {n : Nat} : hold I a t n ↔ (∀ i, i < 6 → I a i = nI (t i)) ∧ ∀ k, k < n → ∀ i, i < 5 → I (a + 2 + k) i = nI (t (6 + 5 * k + i)) := by
  constructor
  · rintro ⟨⟨h0, h1, h2, h3, h4, h5⟩, hR⟩
    refine ⟨fun i hi => ?_, fun k hk i hi => ?_⟩
    · match i, hi with
      | 0, _ => exact h0
      | 1, _ => exact h1
      | 2, _ => exact h2
      | 3, _ => exact h3
      | 4, _ => exact h4
      | 5, _ => exact h5
      | i + 6, h => exact absurd h (by omega)
    · obtain ⟨r0, r1, r2, r3, r4⟩ := hR k hk
      match i, hi with
      | 0, _ => exact r0
      | 1, _ => rw [show 6 + 5 * k + 1 = 7 + 5 * k by omega]; exact r1
      | 2, _ => rw [show 6 + 5 * k + 2 = 8 + 5 * k by omega]; exact r2
      | 3, _ => rw [show 6 + 5 * k + 3 = 9 + 5 * k by omega]; exact r3
      | 4, _ => rw [show 6 + 5 * k + 4 = 10 + 5 * k by omega]; exact r4
      | i + 5, h => exact absurd h (by omega)
  · rintro ⟨h, hR⟩
    refine ⟨⟨h 0 (by decide), h 1 (by decide), h 2 (by decide), h 3 (by decide), h 4 (by decide), h 5 (by decide)⟩, fun k hk => ⟨hR k hk 0 (by decide), ?_, ?_, ?_, ?_⟩⟩
    · have := hR k hk 1 (by decide); rwa [show 6 + 5 * k + 1 = 7 + 5 * k by omega] at this
    · have := hR k hk 2 (by decide); rwa [show 6 + 5 * k + 2 = 8 + 5 * k by omega] at this
    · have := hR k hk 3 (by decide); rwa [show 6 + 5 * k + 3 = 9 + 5 * k by omega] at this
    · have := hR k hk 4 (by decide); rwa [show 6 + 5 * k + 4 = 10 + 5 * k by omega] at this
theorem hold.sea {I : Nat → Nat → Int32} {a : Nat} {t : Nat → Nat} {n j x : Nat} (h : hold I a t n) (hj : j < 6) : hold (up2 I a j (nI x)) a (upV t j x) n := by
  obtain ⟨h1, h2⟩ := hold_iff.mp h
  refine hold_iff.mpr ⟨fun i hi => ?_, fun k hk i hi => ?_⟩
  · rw [up2_row]
    unfold upV
    split
    · rfl
    · exact h1 i hi
  · rw [up2_na (by omega), h2 k hk i hi]
    unfold upV
    rw [if_neg (by omega)]
theorem hold.rock {I : Nat → Nat → Int32} {a : Nat} {t : Nat → Nat} {n k j x : Nat} (h : hold I a t n) (hj : j < 5) : hold (up2 I (a + 2 + k) j (nI x)) a (upV t (6 + 5 * k + j) x) n := by
  obtain ⟨h1, h2⟩ := hold_iff.mp h
  refine hold_iff.mpr ⟨fun i hi => ?_, fun q hq i hi => ?_⟩
  · rw [up2_na (by omega), h1 i hi]
    unfold upV
    rw [if_neg (by omega)]
  · by_cases e : q = k
    · subst e
      rw [up2_row]
      unfold upV
      by_cases e2 : i = j
      · subst e2
        rw [if_pos rfl, if_pos rfl]
      · rw [if_neg e2, if_neg (by omega)]
        exact h2 q hq i hi
    · rw [up2_na (by omega), h2 q hq i hi]
      unfold upV
      rw [if_neg (by omega)]
theorem hold.congr {I I' : Nat → Nat → Int32} {a : Nat} {t : Nat → Nat} {n : Nat} (h : hold I a t n) (h1 : ∀ b, a ≤ b → b < a + 10 → ∀ j, I' b j = I b j) (hn : n ≤ 8) : hold I' a t n := by
  obtain ⟨h2, h3⟩ := hold_iff.mp h
  exact hold_iff.mpr ⟨fun i hi => (h1 a (by omega) (by omega) i).trans (h2 i hi), fun k hk i hi => (h1 (a + 2 + k) (by omega) (by omega) i).trans (h3 k hk i hi)⟩
/-- nothing but the sea at a has changed -/
def off (a : Nat) (I I' : Nat → Nat → Int32) : Prop := ∀ b, ¬ (a ≤ b ∧ b < a + 10) → ∀ j, I' b j = I b j
theorem off.rfl {a : Nat} {I : Nat → Nat → Int32} : off a I I := fun _ _ _ => Eq.refl _
theorem off.trans {a : Nat} {I I' I'' : Nat → Nat → Int32} (h : off a I I') (h' : off a I' I'') : off a I I'' := fun b hb j => (h' b hb j).trans (h b hb j)
theorem off.up {a b j : Nat} {x : Int32} {I I' : Nat → Nat → Int32} (h : off a I I') (hb : a ≤ b ∧ b < a + 10) : off a I (up2 I' b j x) := fun q hq i => (up2_na (fun z => hq (by rw [z]; exact hb))).trans (h q hq i)
theorem ai_62 {I : Nat → Nat → Int32} {J : Nat → Nat → Int64} {j : Nat} : hr_ai (I, J) 62 j = hr_st2.getD j 0 := rfl
theorem abv_0 : hr_st2.getD (nI 0).toNatClampNeg 0 = (-1) := by decide +kernel
theorem abv_1 : hr_st2.getD (nI 1).toNatClampNeg 0 = nI 0 := by decide +kernel
theorem abv_2 : hr_st2.getD (nI 2).toNatClampNeg 0 = nI 0 := by decide +kernel
theorem abv_3 : hr_st2.getD (nI 3).toNatClampNeg 0 = nI 0 := by decide +kernel
theorem abv_4 : hr_st2.getD (nI 4).toNatClampNeg 0 = nI 1 := by decide +kernel
theorem abv_5 : hr_st2.getD (nI 5).toNatClampNeg 0 = nI 2 := by decide +kernel
theorem in_6 {k : Nat} (h : k < 6) : (hr_in (nI k) 6 = true) = True := eq_true (in_nI h (by decide))
set_option maxRecDepth 100000 in
theorem sp_isOfKind {I : Nat → Nat → Int32} {J : Nat → Nat → Int64} {a kd as : Nat} (ha : hr_oc a = 1) (h0 : I a 0 = nI kd) (hk : kd < 6) (hs : as < 6) : den nR_isOfKind (0, [some (.ref a), some (.int (nI as)), none, none], [], (I, J)) = some (some (.int (zb (N_is kd as))), (I, J)) := by
  rcases (show kd = 0 ∨ kd = 1 ∨ kd = 2 ∨ kd = 3 ∨ kd = 4 ∨ kd = 5 by omega) with rfl | rfl | rfl | rfl | rfl | rfl <;>
  rcases (show as = 0 ∨ as = 1 ∨ as = 2 ∨ as = 3 ∨ as = 4 ∨ as = 5 by omega) with rfl | rfl | rfl | rfl | rfl | rfl <;>
  simp (decide := true) only [eR_isOfKind_0, eR_isOfKind_1, eR_isOfKind_4, eR_isOfKind_5, eR_isOfKind_6, eR_isOfKind_7, eR_isOfKind_8, eR_isOfKind_10, eR_isOfKind_13, eR_isOfKind_14, eR_isOfKind_17, eR_isOfKind_18, eR_isOfKind_20, eR_isOfKind_23, eR_isOfKind_24, eR_isOfKind_25, eR_isOfKind_28, eR_isOfKind_29, eR_isOfKind_30, eR_isOfKind_33, eR_isOfKind_34, eR_isOfKind_35, eR_isOfKind_36, eR_isOfKind_39, eR_isOfKind_42, eR_isOfKind_43, eq_self, hr_k_some, Option.toList, List.cons_append, List.nil_append, is2k_n, is2k_i, is2k_r, is2k_0, ha, h0, ak_62, al_62, ai_62, in_6, abv_0, abv_1, abv_2, abv_3, abv_4, abv_5, zb_n0, zb_n1, if_true, if_false] <;> rfl
theorem heV_s {t : Nat → Nat} {k : Nat} : heV t (k + 1) = if hrsV t k = true then heV t k ||| ((1 : Int32) <<< (nI k &&& 31)) else heV t k := rfl
section
variable {I : Nat → Nat → Int32} {J : Nat → Nat → Int64} {a : Nat} {t : Nat → Nat} {n B : Nat}
theorem he_loop (ha : isSea a) (hH : hold I a t n) (hV : V t n B) (hB : B < 2 ^ 29) : ∀ (d k : Nat), k + d = n → den nS_heardSet (4, [some (.ref a), some (.int (heV t k)), some (.int (nI k))], [], (I, J)) = some (some (.int (heV t n)), (I, J)) := by
  obtain ⟨⟨h0, h1, h2, h3, h4, h5⟩, hR⟩ := hH
  have hn := hV.2.1
  rw [hV.1] at h5
  intro d
  induction d with
  | zero =>
    intro k hk
    have hkn : k = n := by omega
    subst hkn
    have hle : (nI k ≤ nI k) = True := eq_true (Int32.le_refl _)
    simp only [eS_heardSet_0, eS_heardSet_1, eS_heardSet_2, eS_heardSet_3, eS_heardSet_4, eS_heardSet_5, eS_heardSet_6, eS_heardSet_9, eS_heardSet_12, eS_heardSet_13, eS_heardSet_14, eS_heardSet_17, eS_heardSet_18, eS_heardSet_19, eS_heardSet_20, eS_heardSet_23, eS_heardSet_24, eS_heardSet_27, eS_heardSet_30, eS_heardSet_33, eS_heardSet_36, eS_heardSet_37, eS_heardSet_38, eS_heardSet_39, eS_heardSet_40, eS_heardSet_41, eS_heardSet_42, eS_heardSet_45, eS_heardSet_48, eS_heardSet_49, eq_self, hr_k_some, Option.toList, List.cons_append, List.nil_append, is2k_n, is2k_i, is2k_r, is2k_0, oc_sea ha, h5, hle, if_true]
  | succ d ih =>
    intro k hk
    have hkn : k < n := by omega
    have hk8 : k < 8 := by omega
    obtain ⟨r0, r1, r2, r3, r4⟩ := hR k hkn
    have hle : (nI n ≤ nI k) = False := eq_false (nI_ge hkn (by omega))
    have hq := hV.2.2.2.1
    rw [eS_heardSet_4]
    simp only [eS_heardSet_0, eS_heardSet_1, eS_heardSet_2, eS_heardSet_3, eS_heardSet_5, eS_heardSet_6, eS_heardSet_9, eS_heardSet_12, eS_heardSet_13, eS_heardSet_14, eS_heardSet_17, eS_heardSet_18, eS_heardSet_19, eS_heardSet_20, eS_heardSet_23, eS_heardSet_24, eS_heardSet_27, eS_heardSet_30, eS_heardSet_33, eS_heardSet_36, eS_heardSet_37, eS_heardSet_38, eS_heardSet_39, eS_heardSet_40, eS_heardSet_41, eS_heardSet_42, eS_heardSet_45, eS_heardSet_48, eS_heardSet_49, eq_self, hr_k_some, Option.toList, List.cons_append, List.nil_append, is2k_n, is2k_i, is2k_r, is2k_0, oc_sea ha, h5, hle, if_false, ro_sea ha, ak_sea ha, true_or, al_sea ha, in_8 hk8, cl_nI (show k < 100000 by omega), ra_sea ha, oc_rock ha hk8, sp_soundAt, sp_isHeard, h0, h1, h2, r0, r1, r2, r3, r4, hV.far hkn hq, not_false_eq_true, hV.snd hB hkn hq, hV.hrs hkn, zb_eq0, nI_1]
    have ih' := ih (k + 1) (by omega)
    simp only [heV_s] at ih'
    cases hh : hrsV t k with
    | false =>
      simp only [hh, if_true, Bool.false_eq_true, if_false] at ih' ⊢
      exact ih'
    | true =>
      simp only [hh, if_true, if_false, Bool.true_eq_false] at ih' ⊢
      exact ih'
theorem sp_heardSet (ha : isSea a) (hH : hold I a t n) (hV : V t n B) (hB : B < 2 ^ 29) : den nS_heardSet (0, [some (.ref a), none, none], [], (I, J)) = some (some (.int (heV t n)), (I, J)) := by
  simp only [eS_heardSet_0, eS_heardSet_1, eS_heardSet_2, eS_heardSet_3, eS_heardSet_5, eS_heardSet_6, eS_heardSet_9, eS_heardSet_12, eS_heardSet_13, eS_heardSet_14, eS_heardSet_17, eS_heardSet_18, eS_heardSet_19, eS_heardSet_20, eS_heardSet_23, eS_heardSet_24, eS_heardSet_27, eS_heardSet_30, eS_heardSet_33, eS_heardSet_36, eS_heardSet_37, eS_heardSet_38, eS_heardSet_39, eS_heardSet_40, eS_heardSet_41, eS_heardSet_42, eS_heardSet_45, eS_heardSet_48, eS_heardSet_49, eq_self, hr_k_some, Option.toList, List.cons_append, List.nil_append, is2k_n, is2k_i, is2k_r, is2k_0]
  exact he_loop ha hH hV hB n 0 (by omega)
/-- class: nothing is told by a million -/
def bN (b : Nat) : Int32 := if b = 0 then 1000000 else nI (b - 1)
theorem loV_s {q k : Nat} : loV t q (k + 1) = if (loV t q k).2 ≤ sndV t k q then (k + 1, sndV t k q + 1) else loV t q k := rfl
theorem loV_lt {q : Nat} (h : V t n B) : ∀ k, k ≤ n → (loV t q k).1 ≤ k ∧ (loV t q k).2 < 302 := by
  intro k
  induction k with
  | zero => intro _; exact ⟨Nat.le_refl _, show 0 < 302 by decide⟩
  | succ k ih =>
    intro hk
    have := ih (by omega)
    have h1 : sndV t k q < 300 := h.sndl (by omega)
    rw [loV_s]
    split
    · exact ⟨Nat.le_refl _, by show sndV t k q + 1 < 302; omega⟩
    · exact ⟨by omega, this.2⟩
theorem lo_loop {q : Nat} (hq : q < 64) (ha : isSea a) (hH : hold I a t n) (hV : V t n B) (hB : B < 2 ^ 29) : ∀ (d k : Nat), k + d = n → ∀ x5, den nS_loudestAt (8, [some (.ref a), some (.int (nI q)), some (.int (bN (loV t q k).1)), some (.int (nI (loV t q k).2 - 1)), some (.int (nI k)), x5], [], (I, J)) = some (some (.int (bN (loV t q n).1)), (I, J)) := by
  obtain ⟨⟨h0, h1, h2, h3, h4, h5⟩, hR⟩ := hH
  have hn := hV.2.1
  rw [hV.1] at h5
  intro d
  induction d with
  | zero =>
    intro k hk x5
    have hkn : k = n := by omega
    subst hkn
    have hle : (nI k ≤ nI k) = True := eq_true (Int32.le_refl _)
    simp only [eS_loudestAt_0, eS_loudestAt_2, eS_loudestAt_3, eS_loudestAt_4, eS_loudestAt_5, eS_loudestAt_6, eS_loudestAt_8, eS_loudestAt_10, eS_loudestAt_11, eS_loudestAt_14, eS_loudestAt_17, eS_loudestAt_18, eS_loudestAt_21, eS_loudestAt_23, eS_loudestAt_24, eS_loudestAt_25, eS_loudestAt_26, eS_loudestAt_29, eS_loudestAt_32, eS_loudestAt_34, eS_loudestAt_36, eS_loudestAt_37, eS_loudestAt_40, eS_loudestAt_42, eS_loudestAt_43, eS_loudestAt_45, eS_loudestAt_46, eS_loudestAt_49, eS_loudestAt_52, eS_loudestAt_53, eq_self, hr_k_some, Option.toList, List.cons_append, List.nil_append, is2k_n, is2k_i, is2k_r, is2k_0, oc_sea ha, h5, hle, if_true]
  | succ d ih =>
    intro k hk x5
    have hkn : k < n := by omega
    have hk8 : k < 8 := by omega
    obtain ⟨r0, r1, r2, r3, r4⟩ := hR k hkn
    have hle : (nI n ≤ nI k) = False := eq_false (nI_ge hkn (by omega))
    have hgl := (loV_lt (q := q) hV k (by omega)).2
    have hsl := hV.sndl (q := q) hkn
    rw [eS_loudestAt_8]
    simp only [eS_loudestAt_0, eS_loudestAt_2, eS_loudestAt_3, eS_loudestAt_4, eS_loudestAt_5, eS_loudestAt_6, eS_loudestAt_10, eS_loudestAt_11, eS_loudestAt_14, eS_loudestAt_17, eS_loudestAt_18, eS_loudestAt_21, eS_loudestAt_23, eS_loudestAt_24, eS_loudestAt_25, eS_loudestAt_26, eS_loudestAt_29, eS_loudestAt_32, eS_loudestAt_34, eS_loudestAt_36, eS_loudestAt_37, eS_loudestAt_40, eS_loudestAt_42, eS_loudestAt_43, eS_loudestAt_45, eS_loudestAt_46, eS_loudestAt_49, eS_loudestAt_52, eS_loudestAt_53, eq_self, hr_k_some, Option.toList, List.cons_append, List.nil_append, is2k_n, is2k_i, is2k_r, is2k_0, oc_sea ha, h5, hle, if_false, ro_sea ha, ak_sea ha, true_or, al_sea ha, in_8 hk8, cl_nI (show k < 100000 by omega), ra_sea ha, oc_rock ha hk8, sp_soundAt, h0, r0, r1, r2, r3, r4, hV.far hkn hq, not_false_eq_true, hV.snd hB hkn hq, nI_1, le_pred (show sndV t k q < 2 ^ 30 by omega) (show (loV t q k).2 < 2 ^ 30 by omega)]
    have ih' := ih (k + 1) (by omega)
    simp only [loV_s] at ih'
    by_cases c5 : (loV t q k).2 ≤ sndV t k q
    · have c6 : ¬ sndV t k q + 1 ≤ (loV t q k).2 := by omega
      have e : bN (k + 1) = nI k := by unfold bN; rw [if_neg (by omega)]; rfl
      simp only [c5, c6, if_true, if_false, nI_pred, e] at ih' ⊢
      exact ih' _
    · have c6 : sndV t k q + 1 ≤ (loV t q k).2 := by omega
      simp only [c5, c6, if_true, if_false] at ih' ⊢
      exact ih' _
theorem sp_loudestAt {q : Nat} (hq : q < 64) (ha : isSea a) (hH : hold I a t n) (hV : V t n B) (hB : B < 2 ^ 29) : den nS_loudestAt (0, [some (.ref a), some (.int (nI q)), none, none, none, none], [], (I, J)) = some (some (.int (bN (loV t q n).1)), (I, J)) := by
  simp only [eS_loudestAt_0, eS_loudestAt_2, eS_loudestAt_3, eS_loudestAt_4, eS_loudestAt_5, eS_loudestAt_6, eS_loudestAt_10, eS_loudestAt_11, eS_loudestAt_14, eS_loudestAt_17, eS_loudestAt_18, eS_loudestAt_21, eS_loudestAt_23, eS_loudestAt_24, eS_loudestAt_25, eS_loudestAt_26, eS_loudestAt_29, eS_loudestAt_32, eS_loudestAt_34, eS_loudestAt_36, eS_loudestAt_37, eS_loudestAt_40, eS_loudestAt_42, eS_loudestAt_43, eS_loudestAt_45, eS_loudestAt_46, eS_loudestAt_49, eS_loudestAt_52, eS_loudestAt_53, eq_self, hr_k_some, Option.toList, List.cons_append, List.nil_append, is2k_n, is2k_i, is2k_r, is2k_0]
  exact lo_loop hq ha hH hV hB n 0 (by omega) none
def hitV (t : Nat → Nat) (k : Nat) : Bool := decide (t (7 + 5 * k) = t 1) && N_wrk (t (6 + 5 * k)) (t 0)
theorem wrV_s {k : Nat} : wrV t (k + 1) = (wrV t k || hitV t k) := rfl
theorem wrV_t {k : Nat} (h : hitV t k = true) : ∀ m, k < m → wrV t m = true := by
  intro m
  induction m with
  | zero => intro h; omega
  | succ m ih =>
    intro hk
    rw [wrV_s]
    by_cases e : k = m
    · subst e; rw [h, Bool.or_true]
    · rw [ih (by omega), Bool.true_or]
/-- what isWreckedHere needs of a state -/
def Vw (t : Nat → Nat) (n B : Nat) : Prop := t 5 = n ∧ n ≤ 8 ∧ t 0 ≤ B ∧ t 1 < 64 ∧ ∀ k, k < n → t (6 + 5 * k) < 6 ∧ t (7 + 5 * k) < 64
theorem V.w0 (h : V t n B) : Vw t n B := ⟨h.1, h.2.1, h.2.2.1, h.2.2.2.1, fun k hk => ⟨(h.rk hk).1, (h.rk hk).2.1⟩⟩
theorem V.wk {q f : Nat} (h : V (upV (upV t 1 q) 4 f) n B) : Vw (upV t 1 q) n B := by
  obtain ⟨h1, h2, h3, h4, -⟩ := V.w0 h
  have e : ∀ j, j ≠ 4 → upV (upV t 1 q) 4 f j = upV t 1 q j := fun j hj => if_neg hj
  refine ⟨by rw [← e 5 (by decide)]; exact h1, h2, by rw [← e 0 (by decide)]; exact h3, by rw [← e 1 (by decide)]; exact h4, fun k hk => ?_⟩
  have := (V.w0 h).2.2.2.2 k hk
  rw [e _ (by omega), e _ (by omega)] at this
  exact this
theorem wr_loopF (ha : isSea a) (hH : hold I a t n) (hV : Vw t n B) (hB : B < 2 ^ 29) : ∀ (d k : Nat), k + d = n → wrV t k = false → den nS_isWreckedHere (2, [some (.ref a), some (.int (nI k))], [], (I, J)) = some (some (.int (zb (wrV t n))), (I, J)) := by
  obtain ⟨⟨h0, h1, h2, h3, h4, h5⟩, hR⟩ := hH
  have hn := hV.2.1
  rw [hV.1] at h5
  intro d
  induction d with
  | zero =>
    intro k hk hw
    have hkn : k = n := by omega
    subst hkn
    have hle : (nI k ≤ nI k) = True := eq_true (Int32.le_refl _)
    simp only [eS_isWreckedHere_0, eS_isWreckedHere_1, eS_isWreckedHere_2, eS_isWreckedHere_3, eS_isWreckedHere_4, eS_isWreckedHere_7, eS_isWreckedHere_10, eS_isWreckedHere_11, eS_isWreckedHere_14, eS_isWreckedHere_15, eS_isWreckedHere_16, eS_isWreckedHere_19, eS_isWreckedHere_20, eS_isWreckedHere_23, eS_isWreckedHere_26, eS_isWreckedHere_27, eS_isWreckedHere_30, eS_isWreckedHere_31, eS_isWreckedHere_32, eS_isWreckedHere_33, eS_isWreckedHere_36, eS_isWreckedHere_39, eS_isWreckedHere_42, eS_isWreckedHere_43, eS_isWreckedHere_44, eS_isWreckedHere_47, eS_isWreckedHere_50, eS_isWreckedHere_51, eq_self, hr_k_some, Option.toList, List.cons_append, List.nil_append, is2k_n, is2k_i, is2k_r, is2k_0, oc_sea ha, h5, hle, if_true, zb_n0, hw]
    rfl
  | succ d ih =>
    intro k hk hw
    have hkn : k < n := by omega
    have hk8 : k < 8 := by omega
    obtain ⟨r0, r1, r2, r3, r4⟩ := hR k hkn
    have hle : (nI n ≤ nI k) = False := eq_false (nI_ge hkn (by omega))
    have hq := hV.2.2.2.1
    have hrk := hV.2.2.2.2 k hkn
    have hw0 := hV.2.2.1
    rw [eS_isWreckedHere_2]
    simp only [eS_isWreckedHere_0, eS_isWreckedHere_1, eS_isWreckedHere_3, eS_isWreckedHere_4, eS_isWreckedHere_7, eS_isWreckedHere_10, eS_isWreckedHere_11, eS_isWreckedHere_14, eS_isWreckedHere_15, eS_isWreckedHere_16, eS_isWreckedHere_19, eS_isWreckedHere_20, eS_isWreckedHere_23, eS_isWreckedHere_26, eS_isWreckedHere_27, eS_isWreckedHere_30, eS_isWreckedHere_31, eS_isWreckedHere_32, eS_isWreckedHere_33, eS_isWreckedHere_36, eS_isWreckedHere_39, eS_isWreckedHere_42, eS_isWreckedHere_43, eS_isWreckedHere_44, eS_isWreckedHere_47, eS_isWreckedHere_50, eS_isWreckedHere_51, eq_self, hr_k_some, Option.toList, List.cons_append, List.nil_append, is2k_n, is2k_i, is2k_r, is2k_0, oc_sea ha, h5, hle, if_false, ro_sea ha, ak_sea ha, true_or, al_sea ha, in_8 hk8, cl_nI (show k < 100000 by omega), ra_sea ha, oc_rock ha hk8, sp_wrecksIn, h0, h1, r0, r1, nI_lit (t (7 + 5 * k)) (t 1) (by omega) (by omega), wrk_N hrk.1 (show t 0 < 2 ^ 30 by omega), zb_eq0, zb_n1, nI_1]
    have ih' := ih (k + 1) (by omega)
    rw [wrV_s, hw, Bool.false_or] at ih'
    by_cases c1 : t (7 + 5 * k) = t 1
    · cases c2 : N_wrk (t (6 + 5 * k)) (t 0) with
      | true =>
        have hh : hitV t k = true := by unfold hitV; rw [c2]; simp [c1]
        simp only [c1, not_true_eq_false, if_false, if_true, Bool.true_eq_false, wrV_t hh n hkn]
        rfl
      | false =>
        have hh : hitV t k = false := by unfold hitV; rw [c2]; simp
        simp only [c1, not_true_eq_false, if_false, if_true]
        exact ih' hh
    · have hh : hitV t k = false := by unfold hitV; simp [c1]
      simp only [c1, not_false_eq_true, if_true]
      exact ih' hh
theorem wr_loop (ha : isSea a) (hH : hold I a t n) (hV : V t n B) (hB : B < 2 ^ 29) : ∀ (d k : Nat), k + d = n → wrV t k = false → den nS_isWreckedHere (2, [some (.ref a), some (.int (nI k))], [], (I, J)) = some (some (.int (zb (wrV t n))), (I, J)) := wr_loopF ha hH hV.w0 hB
theorem sp_isWreckedHere (ha : isSea a) (hH : hold I a t n) (hV : V t n B) (hB : B < 2 ^ 29) : den nS_isWreckedHere (0, [some (.ref a), none], [], (I, J)) = some (some (.int (zb (wrV t n))), (I, J)) := by
  simp only [eS_isWreckedHere_0, eS_isWreckedHere_1, eS_isWreckedHere_3, eS_isWreckedHere_4, eS_isWreckedHere_7, eS_isWreckedHere_10, eS_isWreckedHere_11, eS_isWreckedHere_14, eS_isWreckedHere_15, eS_isWreckedHere_16, eS_isWreckedHere_19, eS_isWreckedHere_20, eS_isWreckedHere_23, eS_isWreckedHere_26, eS_isWreckedHere_27, eS_isWreckedHere_30, eS_isWreckedHere_31, eS_isWreckedHere_32, eS_isWreckedHere_33, eS_isWreckedHere_36, eS_isWreckedHere_39, eS_isWreckedHere_42, eS_isWreckedHere_43, eS_isWreckedHere_44, eS_isWreckedHere_47, eS_isWreckedHere_50, eS_isWreckedHere_51, eq_self, hr_k_some, Option.toList, List.cons_append, List.nil_append, is2k_n, is2k_i, is2k_r, is2k_0]
  exact wr_loop ha hH hV hB n 0 (by omega) rfl
theorem sp_squareAhead (ha : hr_oc a = 2) : den nS_squareAhead (0, [some (.ref a)], [], (I, J)) = some (some (.int (if 7 ≤ P_rm (I a 1) 8 then (if 63 ≤ I a 1 then I a 1 else I a 1 + 8) else I a 1 + 1)), (I, J)) := by
  simp only [eS_squareAhead_0, eS_squareAhead_1, eS_squareAhead_4, eS_squareAhead_6, eS_squareAhead_7, eS_squareAhead_9, eS_squareAhead_12, eS_squareAhead_13, eS_squareAhead_16, eS_squareAhead_17, eS_squareAhead_18, eS_squareAhead_19, eS_squareAhead_20, eS_squareAhead_23, eS_squareAhead_25, eS_squareAhead_28, eS_squareAhead_29, eS_squareAhead_32, eS_squareAhead_34, eS_squareAhead_35, eS_squareAhead_38, eS_squareAhead_39, eS_squareAhead_42, eq_self, hr_k_some, Option.toList, List.cons_append, List.nil_append, is2k_n, is2k_i, is2k_r, is2k_0, ha, n8, not_false_eq_true, ite_si]
  rfl
theorem sp_neighbour {w : Int32} (ha : hr_oc a = 2) : den nS_neighbour (0, [some (.ref a), some (.int w), none, none], [], (I, J)) = some (some (.int (P_nb (I a 1) w)), (I, J)) := by
  simp only [eS_neighbour_0, eS_neighbour_1, eS_neighbour_4, eS_neighbour_6, eS_neighbour_7, eS_neighbour_8, eS_neighbour_9, eS_neighbour_12, eS_neighbour_14, eS_neighbour_15, eS_neighbour_16, eS_neighbour_17, eS_neighbour_44, eS_neighbour_45, eS_neighbour_48, eS_neighbour_49, eS_neighbour_52, eS_neighbour_54, eS_neighbour_55, eS_neighbour_58, eS_neighbour_59, eS_neighbour_60, eS_neighbour_61, eS_neighbour_63, eS_neighbour_66, eS_neighbour_67, eS_neighbour_70, eS_neighbour_71, eS_neighbour_72, eS_neighbour_75, eS_neighbour_76, eS_neighbour_77, eS_neighbour_78, eS_neighbour_80, eS_neighbour_83, eS_neighbour_84, eS_neighbour_87, eS_neighbour_89, eS_neighbour_90, eS_neighbour_93, eS_neighbour_94, eS_neighbour_95, eS_neighbour_96, eS_neighbour_99, eS_neighbour_100, eS_neighbour_103, eS_neighbour_104, eS_neighbour_105, eS_neighbour_108, eS_neighbour_109, eq_self, hr_k_some, Option.toList, List.cons_append, List.nil_append, is2k_n, is2k_i, is2k_r, is2k_0, ha, n8, not_false_eq_true, ite_si]
  rfl
theorem by_step {r b w : Int32} {way : Nat} (hw : way < 4) (ha : hr_oc a = 2) {x5 x6 x7 : Option Value} : ∃ y5 y6 y7, den nS_squareBy (11, [some (.ref a), some (.int r), some (.int b), some (.int w), some (.int (nI way)), x5, x6, x7], [], (I, J)) = den nS_squareBy (11, [some (.ref a), some (.int r), some (.int (P_byS (I a 1) (I a 3) r (nI way) (b, w)).1), some (.int (P_byS (I a 1) (I a 3) r (nI way) (b, w)).2), some (.int (nI (way + 1))), y5, y6, y7], [], (I, J)) := by
  have hle : ((4 : Int32) ≤ nI way) = False := by
    apply eq_false
    have : ∀ w, w < 4 → ¬ (4 : Int32) ≤ nI w := by decide
    exact this way hw
  rw [eS_squareBy_11]
  simp only [eS_squareBy_0, eS_squareBy_1, eS_squareBy_4, eS_squareBy_5, eS_squareBy_7, eS_squareBy_8, eS_squareBy_9, eS_squareBy_13, eS_squareBy_14, eS_squareBy_17, eS_squareBy_18, eS_squareBy_20, eS_squareBy_23, eS_squareBy_25, eS_squareBy_27, eS_squareBy_30, eS_squareBy_32, eS_squareBy_33, eS_squareBy_36, eS_squareBy_38, eS_squareBy_39, eS_squareBy_42, eS_squareBy_45, eS_squareBy_47, eS_squareBy_50, eS_squareBy_52, eS_squareBy_53, eS_squareBy_55, eS_squareBy_57, eS_squareBy_58, eS_squareBy_61, eS_squareBy_63, eS_squareBy_64, eS_squareBy_66, eS_squareBy_67, eS_squareBy_70, eS_squareBy_73, eS_squareBy_74, eq_self, hr_k_some, Option.toList, List.cons_append, List.nil_append, is2k_n, is2k_i, is2k_r, is2k_0, hle, if_false, ha, sp_neighbour, sp_far, nI_1]
  unfold P_byS
  by_cases c1 : P_nb (I a 1) (nI way) < 0
  · simp only [c1, if_true]
    exact ⟨_, _, _, rfl⟩
  · simp only [c1, if_false]
    by_cases c2 : I a 3 = 0
    · simp only [c2, not_true_eq_false, if_true, if_false]
      by_cases c3 : P_far (P_nb (I a 1) (nI way)) r ≤ w
      · simp only [c3, if_true]
        exact ⟨_, _, _, rfl⟩
      · simp only [c3, if_false]
        exact ⟨_, _, _, rfl⟩
    · simp only [c2, not_false_eq_true, if_true, if_false]
      by_cases c3 : -P_far (P_nb (I a 1) (nI way)) r ≤ w
      · simp only [c3, if_true]
        exact ⟨_, _, _, rfl⟩
      · simp only [c3, if_false]
        exact ⟨_, _, _, rfl⟩
theorem sp_squareBy {r : Int32} (ha : hr_oc a = 2) : den nS_squareBy (0, [some (.ref a), some (.int r), none, none, none, none, none, none], [], (I, J)) = some (some (.int (P_by (I a 1) (I a 3) r)), (I, J)) := by
  simp only [eS_squareBy_0, eS_squareBy_1, eS_squareBy_4, eS_squareBy_5, eS_squareBy_7, eS_squareBy_8, eS_squareBy_9, eS_squareBy_13, eS_squareBy_14, eS_squareBy_17, eS_squareBy_18, eS_squareBy_20, eS_squareBy_23, eS_squareBy_25, eS_squareBy_27, eS_squareBy_30, eS_squareBy_32, eS_squareBy_33, eS_squareBy_36, eS_squareBy_38, eS_squareBy_39, eS_squareBy_42, eS_squareBy_45, eS_squareBy_47, eS_squareBy_50, eS_squareBy_52, eS_squareBy_53, eS_squareBy_55, eS_squareBy_57, eS_squareBy_58, eS_squareBy_61, eS_squareBy_63, eS_squareBy_64, eS_squareBy_66, eS_squareBy_67, eS_squareBy_70, eS_squareBy_73, eS_squareBy_74, eq_self, hr_k_some, Option.toList, List.cons_append, List.nil_append, is2k_n, is2k_i, is2k_r, is2k_0, ha]
  obtain ⟨a5, a6, a7, e0⟩ := by_step (I := I) (J := J) (r := r) (b := I a 1) (w := -1000000) (way := 0) (by decide) ha (x5 := none) (x6 := none) (x7 := none)
  refine e0.trans ?_
  obtain ⟨b5, b6, b7, e1⟩ := by_step (I := I) (J := J) (r := r) (b := (P_byS (I a 1) (I a 3) r (nI 0) (I a 1, -1000000)).1) (w := (P_byS (I a 1) (I a 3) r (nI 0) (I a 1, -1000000)).2) (way := 1) (by decide) ha (x5 := a5) (x6 := a6) (x7 := a7)
  refine e1.trans ?_
  obtain ⟨c5, c6, c7, e2⟩ := by_step (I := I) (J := J) (r := r) (b := (P_byS (I a 1) (I a 3) r (nI 1) (P_byS (I a 1) (I a 3) r (nI 0) (I a 1, -1000000))).1) (w := (P_byS (I a 1) (I a 3) r (nI 1) (P_byS (I a 1) (I a 3) r (nI 0) (I a 1, -1000000))).2) (way := 2) (by decide) ha (x5 := b5) (x6 := b6) (x7 := b7)
  refine e2.trans ?_
  obtain ⟨d5, d6, d7, e3⟩ := by_step (I := I) (J := J) (r := r) (b := (P_byS (I a 1) (I a 3) r (nI 2) (P_byS (I a 1) (I a 3) r (nI 1) (P_byS (I a 1) (I a 3) r (nI 0) (I a 1, -1000000)))).1) (w := (P_byS (I a 1) (I a 3) r (nI 2) (P_byS (I a 1) (I a 3) r (nI 1) (P_byS (I a 1) (I a 3) r (nI 0) (I a 1, -1000000)))).2) (way := 3) (by decide) ha (x5 := c5) (x6 := c6) (x7 := c7)
  refine e3.trans ?_
  have hle : ((4 : Int32) ≤ nI 4) = True := eq_true (by decide)
  simp only [eS_squareBy_0, eS_squareBy_1, eS_squareBy_4, eS_squareBy_5, eS_squareBy_7, eS_squareBy_8, eS_squareBy_9, eS_squareBy_11, eS_squareBy_13, eS_squareBy_14, eS_squareBy_17, eS_squareBy_18, eS_squareBy_20, eS_squareBy_23, eS_squareBy_25, eS_squareBy_27, eS_squareBy_30, eS_squareBy_32, eS_squareBy_33, eS_squareBy_36, eS_squareBy_38, eS_squareBy_39, eS_squareBy_42, eS_squareBy_45, eS_squareBy_47, eS_squareBy_50, eS_squareBy_52, eS_squareBy_53, eS_squareBy_55, eS_squareBy_57, eS_squareBy_58, eS_squareBy_61, eS_squareBy_63, eS_squareBy_64, eS_squareBy_66, eS_squareBy_67, eS_squareBy_70, eS_squareBy_73, eS_squareBy_74, eq_self, hr_k_some, Option.toList, List.cons_append, List.nil_append, is2k_n, is2k_i, is2k_r, is2k_0, hle, if_true]
  rfl
end
