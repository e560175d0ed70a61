/-! ===== items, the chart ===== -/
def kwd (k : Nat) : Nat := if k = 0 then 8 else 2 + k
theorem kwd_lt {k : Nat} (h : k < 6) : kwd k < 13 := by unfold kwd; split <;> omega
/-- the first kind from k on whose name stands at b; 6: none -/
def knF (bt : Nat → Nat) (L b : Nat) : Nat → Nat → Nat
  | 0, _ => 6
  | d + 1, k => if isWd bt L (kwd k) b = true then k else knF bt L b d (k + 1)
def knV (bt : Nat → Nat) (L b : Nat) : Nat := knF bt L b 6 0
theorem knF_le {bt : Nat → Nat} {L b : Nat} : ∀ d k, k + d = 6 → knF bt L b d k ≤ 6 := by
  intro d
  induction d with
  | zero => intro k _; exact Nat.le_refl _
  | succ d ih =>
    intro k hk
    unfold knF
    split
    · omega
    · exact ih (k + 1) (by omega)
/-- an item: whether it stands, where the next token begins, the state, how many rocks -/
def riV (bt : Nat → Nat) (L : Nat) (t : Nat → Nat) (n b : Nat) : Bool × Nat × (Nat → Nat) × Nat :=
  if isWd bt L 0 b = true then ((rsV bt L t (nxT bt L b)).1, (rsV bt L t (nxT bt L b)).2.1, (rsV bt L t (nxT bt L b)).2.2, n)
  else if knV bt L b = 6 ∨ n = 8 then (false, b, t, n)
  else ((rrV bt L t n (knV bt L b) (nxT bt L b)).1, (rrV bt L t n (knV bt L b) (nxT bt L b)).2.1, (rrV bt L t n (knV bt L b) (nxT bt L b)).2.2, n + 1)
/-- the items from the i-th on: whether they stand; how many, or where the fault is; the state -/
def rcV (bt : Nat → Nat) (L : Nat) : Nat → Nat → Nat → (Nat → Nat) → Nat → Bool × Nat × (Nat → Nat) × Nat
  | 0, _, b, t, n => (false, b, t, n)
  | d + 1, i, b, t, n =>
    let r := riV bt L t n b
    if r.1 = true then
      if kdT bt L r.2.1 = 0 then (true, i, r.2.2.1, r.2.2.2)
      else if kdT bt L r.2.1 = 3 then rcV bt L d (i + 1) (nxT bt L r.2.1) r.2.2.1 r.2.2.2
      else (false, r.2.1, t, n)
    else (false, r.2.1, t, n)
section
variable {I I' I'' : Nat → Nat → Int32} {J J' : Nat → Nat → Int64} {bt : Nat → Nat} {L : Nat} {t t' : Nat → Nat} {n B : Nat} {kp m : Nat} {u : Nat → Nat} {y : Nat → Int32} {w z : Nat → Nat} {num : Nat → Nat → Int64}
theorem sp_nameOf {k : Nat} (hk : k < 6) {h : hr_H} : den nT_nameOf (0, [some (.int (nI k))], [], h) = some (some (.ref (70 + kwd k)), h) := by
  rcases (show k = 0 ∨ k = 1 ∨ k = 2 ∨ k = 3 ∨ k = 4 ∨ k = 5 by omega) with rfl | rfl | rfl | rfl | rfl | rfl <;> simp (decide := true) only [eT_nameOf_0, eT_nameOf_1, eT_nameOf_36, eT_nameOf_38, eT_nameOf_38N, eT_nameOf_39, eT_nameOf_41, eT_nameOf_41N, eT_nameOf_42, eT_nameOf_44, eT_nameOf_44N, eT_nameOf_45, eT_nameOf_47, eT_nameOf_47N, eT_nameOf_48, eT_nameOf_50, eT_nameOf_50N, eT_nameOf_51, eT_nameOf_53, eT_nameOf_53N, eq_self, hr_k_some, Option.toList, List.cons_append, List.nil_append, is2k_n, is2k_i, is2k_r, is2k_0, if_true, if_false] <;> rfl
theorem kn_loop {b : Nat} (hT : Tp I bt L) (hK : Tk I bt L b) : ∀ (d k : Nat), k + d = 6 → den nT_kindNamed (2, [some (.ref 32), some (.int (nI k))], [], (I, J)) = some (some (.int (if knF bt L b d k = 6 then -1 else nI (knF bt L b d k))), (I, J)) := by
  intro d
  induction d with
  | zero =>
    intro k hk
    have hk' : k = 6 := by omega
    subst hk'
    have e6 : ((6 : Int32) ≤ nI 6) = True := eq_true (by decide)
    unfold knF
    rw [if_pos rfl]
    simp only [eT_kindNamed_0, eT_kindNamed_1, eT_kindNamed_2, eT_kindNamed_3, eT_kindNamed_5, eT_kindNamed_8, eT_kindNamed_9, eT_kindNamed_10, eT_kindNamed_13, eT_kindNamed_16, eT_kindNamed_19, eT_kindNamed_20, eT_kindNamed_21, eT_kindNamed_24, eT_kindNamed_27, eT_kindNamed_28, eq_self, hr_k_some, Option.toList, List.cons_append, List.nil_append, is2k_n, is2k_i, is2k_r, is2k_0, oc_0, ro_00, ro_01, ro_02, ro_04, ro_05, ro_06, ro_07, oc_1, oc_11, oc_21, oc_31, oc_32, ro_16, ro_b6, ak_2, ak_12, al_2, al_12, ra_2, ra_12, i10, i01, zb_t, zb_f, not_true_eq_false, not_false_eq_true, if_true, if_false, sp_found0, sp_found1, sp_found2, sp_found3, sp_found4, sp_found5, sp_found6, true_or, e6]
  | succ d ih =>
    intro k hk
    have hk' : k < 6 := by omega
    have e6 : ((6 : Int32) ≤ nI k) = False := leF (a := 6) hk' (by decide)
    have ew := sp_isWord (J := J) (kwd_lt hk') hT hK
    rw [eT_kindNamed_2]
    simp only [eT_kindNamed_3, eT_kindNamed_5, eT_kindNamed_8, eT_kindNamed_9, eT_kindNamed_10, eT_kindNamed_13, eT_kindNamed_16, eT_kindNamed_19, eT_kindNamed_20, eT_kindNamed_21, eT_kindNamed_24, eT_kindNamed_27, eT_kindNamed_28, eq_self, hr_k_some, Option.toList, List.cons_append, List.nil_append, is2k_n, is2k_i, is2k_r, is2k_0, oc_0, ro_00, ro_01, ro_02, ro_04, ro_05, ro_06, ro_07, oc_1, oc_11, oc_21, oc_31, oc_32, ro_16, ro_b6, ak_2, ak_12, al_2, al_12, ra_2, ra_12, i10, i01, zb_t, zb_f, not_true_eq_false, not_false_eq_true, if_true, if_false, sp_found0, sp_found1, sp_found2, sp_found3, sp_found4, sp_found5, sp_found6, true_or, e6, sp_nameOf hk', ew, nI_1]
    unfold knF
    by_cases c : isWd bt L (kwd k) b = true
    · simp only [c, if_true, oc_0, ro_00, ro_01, ro_02, ro_04, ro_05, ro_06, ro_07, oc_1, oc_11, oc_21, oc_31, oc_32, ro_16, ro_b6, ak_2, ak_12, al_2, al_12, ra_2, ra_12, i10, i01, zb_t, zb_f, not_true_eq_false, not_false_eq_true, if_true, if_false, sp_found0, sp_found1, sp_found2, sp_found3, sp_found4, sp_found5, sp_found6, true_or, show (k = 6) = False from eq_false (by omega)]
    · have c' : isWd bt L (kwd k) b = false := Bool.not_eq_true _ ▸ c
      simp only [c', oc_0, ro_00, ro_01, ro_02, ro_04, ro_05, ro_06, ro_07, oc_1, oc_11, oc_21, oc_31, oc_32, ro_16, ro_b6, ak_2, ak_12, al_2, al_12, ra_2, ra_12, i10, i01, zb_t, zb_f, not_true_eq_false, not_false_eq_true, if_true, if_false, sp_found0, sp_found1, sp_found2, sp_found3, sp_found4, sp_found5, sp_found6, true_or, Bool.false_eq_true]
      exact ih (k + 1) (by omega)
theorem sp_kindNamed {b : Nat} (hT : Tp I bt L) (hK : Tk I bt L b) : den nT_kindNamed (0, [some (.ref 32), none], [], (I, J)) = some (some (.int (if knV bt L b = 6 then -1 else nI (knV bt L b))), (I, J)) := by
  have := kn_loop (J := J) hT hK 6 0 (by omega)
  simp only [eT_kindNamed_0, eT_kindNamed_1, eq_self, hr_k_some, Option.toList, List.cons_append, List.nil_append, is2k_n, is2k_i, is2k_r, is2k_0]
  exact this
theorem riV_V (hV : V t n B) {b : Nat} (ho : (riV bt L t n b).1 = true) : V (riV bt L t n b).2.2.1 (riV bt L t n b).2.2.2 B := by
  have hn := hV.2.1
  unfold riV at ho ⊢
  by_cases c1 : isWd bt L 0 b = true
  · simp only [c1, if_true] at ho ⊢
    exact rsV_V hV
  · by_cases c2 : knV bt L b = 6 ∨ n = 8
    · simp only [c1, c2, if_true, Bool.false_eq_true, if_false] at ho
    · simp only [c1, c2, Bool.false_eq_true, if_false] at ho ⊢
      have := knF_le (bt := bt) (L := L) (b := b) 6 0 (by omega)
      have h6 : knV bt L b ≤ 6 := this
      exact rrV_V hV (by omega) (by omega) ho
theorem sp_readItem {b : Nat} (hV : V t n B) (hT : Tp I bt L) (hK : Tk I bt L b) (hH : hold I 11 t n) : ∃ I', den nT_readItem (0, [some (.ref 32), some (.ref 11), none], [], (I, J)) = some (some (.int (zb (riV bt L t n b).1)), (I', J)) ∧ Tk I' bt L (riV bt L t n b).2.1 ∧ ((riV bt L t n b).1 = true → hold I' 11 (riV bt L t n b).2.2.1 (riV bt L t n b).2.2.2) ∧ oX I I' := by
  have hn := hV.2.1
  obtain ⟨I1, e1, k1, o1⟩ := sp_takeWord (J := J) (k := 0) (by decide) hT hK
  have h1 := o1.hold hH hn
  have hT1 := o1.tp hT
  have e1 : den nT_takeWord (0, [some (.ref 32), some (.ref 70)], [], (I, J)) = some (some (.int (zb (isWd bt L 0 b))), (I1, J)) := e1
  unfold riV
  by_cases c1 : isWd bt L 0 b = true
  · simp only [c1, if_true] at e1 k1 ⊢
    obtain ⟨I2, e2, k2, h2, o2⟩ := sp_readShip (J := J) hT1 k1 h1 hn
    refine ⟨I2, ?_, k2, h2, o1.x.trans o2⟩
    have ez : narrow .boolean (.int (zb (rsV bt L t (nxT bt L b)).1)) = .int (zb (rsV bt L t (nxT bt L b)).1) := by
      cases (rsV bt L t (nxT bt L b)).1
      · exact zb_n0
      · exact zb_n1
    simp only [eT_readItem_0, eT_readItem_1, eT_readItem_3, eT_readItem_6, eT_readItem_9, eT_readItem_10, eT_readItem_11, eT_readItem_14, eq_self, hr_k_some, Option.toList, List.cons_append, List.nil_append, is2k_n, is2k_i, is2k_r, is2k_0, oc_0, ro_00, ro_01, ro_02, ro_04, ro_05, ro_06, ro_07, oc_1, oc_11, oc_21, oc_31, oc_32, ro_16, ro_b6, ak_2, ak_12, al_2, al_12, ra_2, ra_12, i10, i01, zb_t, zb_f, not_true_eq_false, not_false_eq_true, if_true, if_false, sp_found0, sp_found1, sp_found2, sp_found3, sp_found4, sp_found5, sp_found6, true_or, e1, e2, ez]
  · have c1' : isWd bt L 0 b = false := Bool.not_eq_true _ ▸ c1
    simp only [c1', Bool.false_eq_true, if_false] at e1 k1 ⊢
    have ek := sp_kindNamed (J := J) hT1 k1
    have h6 : knV bt L b ≤ 6 := knF_le 6 0 (by omega)
    have h5 : I1 11 5 = nI n := by rw [h1.1.2.2.2.2.2, hV.1]
    have ef := sp_isFull (I := I1) (J := J) (a := 11) oc_11
    rw [h5] at ef
    by_cases c2 : knV bt L b = 6 ∨ n = 8
    · simp only [c2, if_true]
      refine ⟨I1, ?_, k1, (fun q => by cases q), o1.x⟩
      by_cases c3 : knV bt L b = 6
      · rw [if_pos c3] at ek
        have en : ((-1 : Int32) < 0) = True := eq_true (by decide)
        simp only [eT_readItem_0, eT_readItem_1, eT_readItem_3, eT_readItem_6, eT_readItem_9, eT_readItem_10, eT_readItem_11, eT_readItem_14, eT_readItem_15, eT_readItem_16, eT_readItem_19, eT_readItem_20, eT_readItem_21, eT_readItem_24, eT_readItem_25, eT_readItem_28, eT_readItem_31, eT_readItem_32, eT_readItem_33, eq_self, hr_k_some, Option.toList, List.cons_append, List.nil_append, is2k_n, is2k_i, is2k_r, is2k_0, oc_0, ro_00, ro_01, ro_02, ro_04, ro_05, ro_06, ro_07, oc_1, oc_11, oc_21, oc_31, oc_32, ro_16, ro_b6, ak_2, ak_12, al_2, al_12, ra_2, ra_12, i10, i01, zb_t, zb_f, not_true_eq_false, not_false_eq_true, if_true, if_false, sp_found0, sp_found1, sp_found2, sp_found3, sp_found4, sp_found5, sp_found6, true_or, zb_n0, e1, ek, en]
      · rw [if_neg c3] at ek
        have e8 : (nI n < (8 : Int32)) = False := gtF (b := 8) (show 8 ≤ n by omega) (by omega)
        simp only [e8, if_false] at ef
        simp only [eT_readItem_0, eT_readItem_1, eT_readItem_3, eT_readItem_6, eT_readItem_9, eT_readItem_10, eT_readItem_11, eT_readItem_14, eT_readItem_15, eT_readItem_16, eT_readItem_19, eT_readItem_20, eT_readItem_21, eT_readItem_24, eT_readItem_25, eT_readItem_28, eT_readItem_31, eT_readItem_32, eT_readItem_33, eq_self, hr_k_some, Option.toList, List.cons_append, List.nil_append, is2k_n, is2k_i, is2k_r, is2k_0, oc_0, ro_00, ro_01, ro_02, ro_04, ro_05, ro_06, ro_07, oc_1, oc_11, oc_21, oc_31, oc_32, ro_16, ro_b6, ak_2, ak_12, al_2, al_12, ra_2, ra_12, i10, i01, zb_t, zb_f, not_true_eq_false, not_false_eq_true, if_true, if_false, sp_found0, sp_found1, sp_found2, sp_found3, sp_found4, sp_found5, sp_found6, true_or, zb_n0, e1, ek, lt0f (show knV bt L b < 2 ^ 31 by omega), ef]
    · simp only [c2, if_false]
      have c3 : ¬ knV bt L b = 6 := fun q => c2 (Or.inl q)
      have c4 : n < 8 := by omega
      rw [if_neg c3] at ek
      have e8 : (nI n < (8 : Int32)) = True := eq_true (nI_lt (b := 8) c4 (by decide))
      simp only [e8, if_true] at ef
      obtain ⟨I2, e2, k2, o2⟩ := sp_advance (J := J) (enT_le (bt := bt) k1.1).2 hT1 k1.2.2.2.1
      obtain ⟨I3, e3, k3, h3, o3⟩ := sp_readRock (J := J) (kd := knV bt L b) c4 hV (o2.tp hT1) k2 (o2.hold h1 hn)
      refine ⟨I3, ?_, k3, h3, o1.x.trans (o2.x.trans o3)⟩
      have e3 : den nT_readRock (0, [some (.ref 32), some (.ref 11), some (.int (nI (knV bt L b))), none, none], [], (I2, J)) = some (some (.int (zb (rrV bt L t n (knV bt L b) (nxT bt L b)).1)), (I3, J)) := e3
      have ez : narrow .boolean (.int (zb (rrV bt L t n (knV bt L b) (nxT bt L b)).1)) = .int (zb (rrV bt L t n (knV bt L b) (nxT bt L b)).1) := by
        cases (rrV bt L t n (knV bt L b) (nxT bt L b)).1
        · exact zb_n0
        · exact zb_n1
      simp only [eT_readItem_0, eT_readItem_1, eT_readItem_3, eT_readItem_6, eT_readItem_9, eT_readItem_10, eT_readItem_11, eT_readItem_14, eT_readItem_15, eT_readItem_16, eT_readItem_19, eT_readItem_20, eT_readItem_21, eT_readItem_24, eT_readItem_25, eT_readItem_28, eT_readItem_31, eT_readItem_32, eT_readItem_33, eT_readItem_34, eT_readItem_37, eT_readItem_38, eT_readItem_39, eT_readItem_40, eT_readItem_43, eq_self, hr_k_some, Option.toList, List.cons_append, List.nil_append, is2k_n, is2k_i, is2k_r, is2k_0, oc_0, ro_00, ro_01, ro_02, ro_04, ro_05, ro_06, ro_07, oc_1, oc_11, oc_21, oc_31, oc_32, ro_16, ro_b6, ak_2, ak_12, al_2, al_12, ra_2, ra_12, i10, i01, zb_t, zb_f, not_true_eq_false, not_false_eq_true, if_true, if_false, sp_found0, sp_found1, sp_found2, sp_found3, sp_found4, sp_found5, sp_found6, true_or, e1, ek, lt0f (show knV bt L b < 2 ^ 31 by omega), ef, e2, e3, ez]
end
