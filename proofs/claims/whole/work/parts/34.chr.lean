/-! ===== the chart is read ===== -/
/-- nothing but the sea of trials and the token has changed -/
def oX (I I' : Nat → Nat → Int32) : Prop := ∀ b j, ¬ (11 ≤ b ∧ b < 21) → (b ≠ 32 ∨ j = 1) → I' b j = I b j
section
variable {I I' I'' : Nat → Nat → Int32} {J J' : Nat → Nat → Int64} {bt : Nat → Nat} {L : Nat} {t t' : Nat → Nat} {n B : Nat}
theorem oX.rfl : oX I I := fun _ _ _ _ => Eq.refl _
theorem oX.trans (h : oX I I') (h' : oX I' I'') : oX I I'' := fun b j q r => (h' b j q r).trans (h b j q r)
theorem oT.x (h : oT I I') : oX I I' := fun b j _ r => h b j r
theorem off.x (h : off 11 I I') : oX I I' := fun b j q _ => h b (by omega) j
theorem oX.tp (h : oX I I') (hT : Tp I bt L) : Tp I' bt L := ⟨by rw [h 32 1 (by omega) (by omega)]; exact hT.1, hT.2.1, fun j hj => ⟨(hT.2.2 j hj).1, by rw [h 33 j (by omega) (by omega)]; exact (hT.2.2 j hj).2⟩⟩
theorem off.tk (h : off 11 I I') {b : Nat} (hK : Tk I bt L b) : Tk I' bt L b := by
  unfold Tk
  rw [h 32 (by omega), h 32 (by omega), h 32 (by omega), h 32 (by omega)]
  exact hK
theorem oT.hold (h : oT I I') (hH : hold I 11 t n) (hn : n ≤ 8) : hold I' 11 t n := hH.congr (fun b _ _ j => h b j (by omega)) hn
/-- the end of a ship's item -/
def rsE (bt : Nat → Nat) (L : Nat) (t : Nat → Nat) (b : Nat) : Bool × Nat × (Nat → Nat) := if isWd bt L 2 b = true then (true, nxT bt L b, upV t 3 1) else (true, b, upV t 3 0)
def rsV (bt : Nat → Nat) (L : Nat) (t : Nat → Nat) (b : Nat) : Bool × Nat × (Nat → Nat) :=
  if isNo bt L 63 b = true then
    if isWd bt L 1 (nxT bt L b) = true then
      if isNo bt L 9 (nxT bt L (nxT bt L b)) = true then rsE bt L (upV (plV t (vlT bt L b)) 2 (vlT bt L (nxT bt L (nxT bt L b)))) (nxT bt L (nxT bt L (nxT bt L b)))
      else (false, nxT bt L (nxT bt L b), t)
    else rsE bt L (plV t (vlT bt L b)) (nxT bt L b)
  else (false, b, t)
theorem isNo_le {m b : Nat} (h : isNo bt L m b = true) : vlT bt L b ≤ m := (of_decide_eq_true h).2
theorem rsE_V (hV : V t n B) {b : Nat} : V (rsE bt L t b).2.2 n B := by
  unfold rsE
  split
  · exact sh_V (k := 2) (v := 1) hV (by decide) (by decide)
  · exact sh_V (k := 2) (v := 0) hV (by decide) (by decide)
theorem rsV_V (hV : V t n B) {b : Nat} : V (rsV bt L t b).2.2 n B := by
  unfold rsV
  split
  · rename_i h1
    have v1 := isNo_le h1
    split
    · split
      · rename_i h2
        have v2 := isNo_le h2
        exact rsE_V (ear_V (pl_V hV (by omega)) (by omega))
      · exact hV
    · exact rsE_V (pl_V hV (by omega))
  · exact hV
theorem pos_nlt {v : Nat} (h : v < 2 ^ 31) : ((0 : Int32) ≤ nI v) = True := eq_true (Int32.not_lt.mp (nI_pos h))
theorem neg_lt : ((0 : Int32) ≤ -1) = False := eq_false (by decide)
theorem vl_lt {b : Nat} : vlT bt L b < 2 ^ 31 := by
  have : vlT bt L b ≤ 9999 := dgv_le _ _ _ (by omega)
  omega
theorem ship_end {b : Nat} {x2 x3 : Option Value} (hT : Tp I bt L) (hK : Tk I bt L b) (hH : hold I 11 t n) (hn : n ≤ 8) : ∃ I', den nT_readShip (45, [some (.ref 32), some (.ref 11), x2, x3], [], (I, J)) = some (some (.int (zb (rsE bt L t b).1)), (I', J)) ∧ Tk I' bt L (rsE bt L t b).2.1 ∧ hold I' 11 (rsE bt L t b).2.2 n ∧ oX I I' := by
  obtain ⟨I1, e1, k1, o1⟩ := sp_takeWord (J := J) (k := 2) (by decide) hT hK
  have h1 := o1.hold hH hn
  unfold rsE
  by_cases c : isWd bt L 2 b = true
  · have o2 : off 11 I1 (up2 I1 11 3 (nI 1)) := off.rfl.up ⟨by omega, by omega⟩
    rw [if_pos c] at k1 ⊢
    rw [c] at e1
    refine ⟨up2 I1 11 3 (nI 1), ?_, o2.tk k1, h1.sea (by decide), o1.x.trans o2.x⟩
    simp only [eT_readShip_45, eT_readShip_46, eT_readShip_47, eT_readShip_49, eT_readShip_52, eT_readShip_55, eT_readShip_56, eT_readShip_59, eT_readShip_60, eT_readShip_63, eT_readShip_64, eq_self, hr_k_some, Option.toList, List.cons_append, List.nil_append, is2k_n, is2k_i, is2k_r, is2k_0, oc_0, ro_00, ro_01, ro_02, ro_04, ro_05, ro_06, ro_07, oc_1, oc_11, oc_21, oc_31, oc_32, ro_16, ro_b6, ak_2, ak_12, al_2, al_12, ra_2, ra_12, i10, i01, zb_t, zb_f, not_true_eq_false, not_false_eq_true, if_true, if_false, sp_found0, sp_found1, sp_found2, sp_found3, sp_found4, sp_found5, sp_found6, true_or, zb_n1, e1]
    rfl
  · have o2 : off 11 I1 (up2 I1 11 3 (nI 0)) := off.rfl.up ⟨by omega, by omega⟩
    rw [if_neg c] at k1 ⊢
    rw [Bool.not_eq_true] at c
    rw [c] at e1
    refine ⟨up2 I1 11 3 (nI 0), ?_, o2.tk k1, h1.sea (by decide), o1.x.trans o2.x⟩
    simp only [eT_readShip_45, eT_readShip_46, eT_readShip_47, eT_readShip_49, eT_readShip_52, eT_readShip_55, eT_readShip_56, eT_readShip_59, eT_readShip_60, eT_readShip_63, eT_readShip_64, eq_self, hr_k_some, Option.toList, List.cons_append, List.nil_append, is2k_n, is2k_i, is2k_r, is2k_0, oc_0, ro_00, ro_01, ro_02, ro_04, ro_05, ro_06, ro_07, oc_1, oc_11, oc_21, oc_31, oc_32, ro_16, ro_b6, ak_2, ak_12, al_2, al_12, ra_2, ra_12, i10, i01, zb_t, zb_f, not_true_eq_false, not_false_eq_true, if_true, if_false, sp_found0, sp_found1, sp_found2, sp_found3, sp_found4, sp_found5, sp_found6, true_or, zb_n1, e1]
    rfl
theorem sp_readShip {b : Nat} (hT : Tp I bt L) (hK : Tk I bt L b) (hH : hold I 11 t n) (hn : n ≤ 8) : ∃ I', den nT_readShip (0, [some (.ref 32), some (.ref 11), none, none], [], (I, J)) = some (some (.int (zb (rsV bt L t b).1)), (I', J)) ∧ Tk I' bt L (rsV bt L t b).2.1 ∧ ((rsV bt L t b).1 = true → hold I' 11 (rsV bt L t b).2.2 n) ∧ oX I I' := by
  obtain ⟨I1, e1, k1, o1⟩ := sp_takeNumber (J := J) (m := 63) (by decide) hT hK
  have h1 := o1.hold hH hn
  have e1 : den nT_takeNumber (0, [some (.ref 32), some (.int 63), none], [], (I, J)) = some (some (.int (if isNo bt L 63 b = true then nI (vlT bt L b) else -1)), (I1, J)) := e1
  unfold rsV
  by_cases c1 : isNo bt L 63 b = true
  · have hv := isNo_le c1
    simp only [c1, if_true] at e1 k1 ⊢
    have ep := sp_placeShip (I := I1) (J := J) (q := vlT bt L b) (a := 11) (by omega) oc_11
    have o2 : off 11 I1 (up2 (up2 I1 11 1 (nI (vlT bt L b))) 11 4 (nI (if vlT bt L b = 63 then 2 else 0))) := (off.rfl.up ⟨by omega, by omega⟩).up ⟨by omega, by omega⟩
    have h2 : hold (up2 (up2 I1 11 1 (nI (vlT bt L b))) 11 4 (nI (if vlT bt L b = 63 then 2 else 0))) 11 (plV t (vlT bt L b)) n := (h1.sea (by decide)).sea (by decide)
    have k2 := o2.tk k1
    have ox2 := o1.x.trans o2.x
    have hT2 := ox2.tp hT
    obtain ⟨I3, e3, k3, o3⟩ := sp_takeWord (J := J) (k := 1) (by decide) hT2 k2
    have h3 := o3.hold h2 hn
    by_cases c2 : isWd bt L 1 (nxT bt L b) = true
    · rw [c2] at e3
      simp only [c2, if_true] at k3 ⊢
      obtain ⟨I4, e4, k4, o4⟩ := sp_takeNumber (J := J) (m := 9) (by decide) (o3.x.tp hT2) k3
      have h4 := o4.hold h3 hn
      have e4 : den nT_takeNumber (0, [some (.ref 32), some (.int 9), none], [], (I3, J)) = some (some (.int (if isNo bt L 9 (nxT bt L (nxT bt L b)) = true then nI (vlT bt L (nxT bt L (nxT bt L b))) else -1)), (I4, J)) := e4
      have ox4 := (ox2.trans o3.x).trans o4.x
      by_cases c3 : isNo bt L 9 (nxT bt L (nxT bt L b)) = true
      · simp only [c3, if_true] at e4 k4 ⊢
        have o5 : off 11 I4 (up2 I4 11 2 (nI (vlT bt L (nxT bt L (nxT bt L b))))) := off.rfl.up ⟨by omega, by omega⟩
        obtain ⟨I6, e6, k6, h6, o6⟩ := ship_end (J := J) (x2 := some (.int (nI (vlT bt L b)))) (x3 := some (.int (nI (vlT bt L (nxT bt L (nxT bt L b)))))) ((ox4.trans o5.x).tp hT) (o5.tk k4) (h4.sea (j := 2) (x := vlT bt L (nxT bt L (nxT bt L b))) (by decide)) hn
        refine ⟨I6, ?_, k6, fun _ => h6, (ox4.trans o5.x).trans o6⟩
        simp only [eT_readShip_0, eT_readShip_1, eT_readShip_3, eT_readShip_6, eT_readShip_7, eT_readShip_8, eT_readShip_11, eT_readShip_12, eT_readShip_13, eT_readShip_14, eT_readShip_15, eT_readShip_18, eT_readShip_19, eT_readShip_21, eT_readShip_24, eT_readShip_27, eT_readShip_28, eT_readShip_30, eT_readShip_33, eT_readShip_34, eT_readShip_35, eT_readShip_38, eT_readShip_39, eT_readShip_40, eT_readShip_41, eT_readShip_42, eq_self, hr_k_some, Option.toList, List.cons_append, List.nil_append, is2k_n, is2k_i, is2k_r, is2k_0, oc_0, ro_00, ro_01, ro_02, ro_04, ro_05, ro_06, ro_07, oc_1, oc_11, oc_21, oc_31, oc_32, ro_16, ro_b6, ak_2, ak_12, al_2, al_12, ra_2, ra_12, i10, i01, zb_t, zb_f, not_true_eq_false, not_false_eq_true, if_true, if_false, sp_found0, sp_found1, sp_found2, sp_found3, sp_found4, sp_found5, sp_found6, true_or, e1, pos_nlt vl_lt, ep, e3, e4]
        exact e6
      · simp only [c3, Bool.false_eq_true, if_false] at e4 k4 ⊢
        refine ⟨I4, ?_, k4, (fun q => by cases q), ox4⟩
        simp only [eT_readShip_0, eT_readShip_1, eT_readShip_3, eT_readShip_6, eT_readShip_7, eT_readShip_8, eT_readShip_11, eT_readShip_12, eT_readShip_13, eT_readShip_14, eT_readShip_15, eT_readShip_18, eT_readShip_19, eT_readShip_21, eT_readShip_24, eT_readShip_27, eT_readShip_28, eT_readShip_30, eT_readShip_33, eT_readShip_34, eT_readShip_35, eT_readShip_38, eT_readShip_39, eT_readShip_40, eT_readShip_41, eT_readShip_42, eq_self, hr_k_some, Option.toList, List.cons_append, List.nil_append, is2k_n, is2k_i, is2k_r, is2k_0, oc_0, ro_00, ro_01, ro_02, ro_04, ro_05, ro_06, ro_07, oc_1, oc_11, oc_21, oc_31, oc_32, ro_16, ro_b6, ak_2, ak_12, al_2, al_12, ra_2, ra_12, i10, i01, zb_t, zb_f, not_true_eq_false, not_false_eq_true, if_true, if_false, sp_found0, sp_found1, sp_found2, sp_found3, sp_found4, sp_found5, sp_found6, true_or, zb_n0, e1, pos_nlt vl_lt, ep, e3, e4, neg_lt]
    · have c2' : isWd bt L 1 (nxT bt L b) = false := Bool.not_eq_true _ ▸ c2
      rw [c2'] at e3
      simp only [c2, Bool.false_eq_true, if_false] at k3 ⊢
      obtain ⟨I6, e6, k6, h6, o6⟩ := ship_end (J := J) (x2 := some (.int (nI (vlT bt L b)))) (x3 := none) (o3.x.tp hT2) k3 h3 hn
      refine ⟨I6, ?_, k6, fun _ => h6, (ox2.trans o3.x).trans o6⟩
      simp only [eT_readShip_0, eT_readShip_1, eT_readShip_3, eT_readShip_6, eT_readShip_7, eT_readShip_8, eT_readShip_11, eT_readShip_12, eT_readShip_13, eT_readShip_14, eT_readShip_15, eT_readShip_18, eT_readShip_19, eT_readShip_21, eT_readShip_24, eT_readShip_27, eT_readShip_28, eT_readShip_30, eT_readShip_33, eT_readShip_34, eT_readShip_35, eT_readShip_38, eT_readShip_39, eT_readShip_40, eT_readShip_41, eT_readShip_42, eq_self, hr_k_some, Option.toList, List.cons_append, List.nil_append, is2k_n, is2k_i, is2k_r, is2k_0, oc_0, ro_00, ro_01, ro_02, ro_04, ro_05, ro_06, ro_07, oc_1, oc_11, oc_21, oc_31, oc_32, ro_16, ro_b6, ak_2, ak_12, al_2, al_12, ra_2, ra_12, i10, i01, zb_t, zb_f, not_true_eq_false, not_false_eq_true, if_true, if_false, sp_found0, sp_found1, sp_found2, sp_found3, sp_found4, sp_found5, sp_found6, true_or, e1, pos_nlt vl_lt, ep, e3]
      exact e6
  · simp only [c1, Bool.false_eq_true, if_false] at e1 k1 ⊢
    refine ⟨I1, ?_, k1, (fun q => by cases q), o1.x⟩
    simp only [eT_readShip_0, eT_readShip_1, eT_readShip_3, eT_readShip_6, eT_readShip_7, eT_readShip_8, eT_readShip_11, eT_readShip_12, eT_readShip_13, eT_readShip_14, eT_readShip_15, eT_readShip_18, eT_readShip_19, eT_readShip_21, eT_readShip_24, eT_readShip_27, eT_readShip_28, eT_readShip_30, eT_readShip_33, eT_readShip_34, eT_readShip_35, eT_readShip_38, eT_readShip_39, eT_readShip_40, eT_readShip_41, eT_readShip_42, eq_self, hr_k_some, Option.toList, List.cons_append, List.nil_append, is2k_n, is2k_i, is2k_r, is2k_0, oc_0, ro_00, ro_01, ro_02, ro_04, ro_05, ro_06, ro_07, oc_1, oc_11, oc_21, oc_31, oc_32, ro_16, ro_b6, ak_2, ak_12, al_2, al_12, ra_2, ra_12, i10, i01, zb_t, zb_f, not_true_eq_false, not_false_eq_true, if_true, if_false, sp_found0, sp_found1, sp_found2, sp_found3, sp_found4, sp_found5, sp_found6, true_or, zb_n0, e1, neg_lt]
/-! a rock's item -/
def rrQ (bt : Nat → Nat) (L : Nat) (t : Nat → Nat) (n b : Nat) : Bool × Nat × (Nat → Nat) := if isWd bt L 12 b = true then (true, nxT bt L b, chV t n 4 1) else (true, b, chV t n 4 0)
def rrS (bt : Nat → Nat) (L : Nat) (t : Nat → Nat) (n b : Nat) : Bool × Nat × (Nat → Nat) :=
  if isWd bt L 11 b = true then
    if isNo bt L 9 (nxT bt L b) = true then rrQ bt L (chV t n 3 (vlT bt L (nxT bt L b))) n (nxT bt L (nxT bt L b)) else (false, nxT bt L b, t)
  else rrQ bt L t n b
def rrH (bt : Nat → Nat) (L : Nat) (t : Nat → Nat) (n b : Nat) : Bool × Nat × (Nat → Nat) :=
  if isWd bt L 10 b = true then
    if isNo bt L 99 (nxT bt L b) = true then rrS bt L (chV t n 2 (vlT bt L (nxT bt L b))) n (nxT bt L (nxT bt L b)) else (false, nxT bt L b, t)
  else rrS bt L t n b
def rrV (bt : Nat → Nat) (L : Nat) (t : Nat → Nat) (n kd b : Nat) : Bool × Nat × (Nat → Nat) :=
  if isWd bt L 9 b = true then
    if isNo bt L 63 (nxT bt L b) = true then rrH bt L (adV t n kd (vlT bt L (nxT bt L b))) n (nxT bt L (nxT bt L b)) else (false, nxT bt L b, t)
  else (false, b, t)
theorem rrQ_V (hV : V t (n + 1) B) {b : Nat} : V (rrQ bt L t n b).2.2 (n + 1) B := by
  unfold rrQ
  split
  · exact set_V hV (by omega) ⟨by decide, by decide⟩ (by decide)
  · exact set_V hV (by omega) ⟨by decide, by decide⟩ (by decide)
theorem rrS_V (hV : V t (n + 1) B) {b : Nat} : V (rrS bt L t n b).2.2 (n + 1) B := by
  unfold rrS
  split
  · split
    · rename_i h
      exact rrQ_V (set_V hV (by omega) ⟨by decide, by decide⟩ (isNo_le h))
    · exact hV
  · exact rrQ_V hV
theorem rrH_V (hV : V t (n + 1) B) {b : Nat} : V (rrH bt L t n b).2.2 (n + 1) B := by
  unfold rrH
  split
  · split
    · rename_i h
      exact rrS_V (set_V hV (by omega) ⟨by decide, by decide⟩ (isNo_le h))
    · exact hV
  · exact rrS_V hV
theorem rrV_V (hV : V t n B) (hn : n < 8) {kd b : Nat} (hk : kd < 6) (ho : (rrV bt L t n kd b).1 = true) : V (rrV bt L t n kd b).2.2 (n + 1) B := by
  unfold rrV at ho ⊢
  split at ho
  · rename_i c1
    split at ho
    · rename_i c2
      have := isNo_le c2
      rw [if_pos c1, if_pos c2]
      exact rrH_V (ad_V hV hn hk (by omega))
    · cases ho
  · cases ho
theorem oc_tr {n : Nat} (hn : n < 8) : hr_oc (13 + n) = 1 := oc_rock is11 hn
theorem rock_end {b : Nat} {x2 x3 : Option Value} (hn : n < 8) (hT : Tp I bt L) (hK : Tk I bt L b) (hH : hold I 11 t (n + 1)) : ∃ I', den nT_readRock (99, [some (.ref 32), some (.ref 11), x2, x3, some (.ref (13 + n))], [], (I, J)) = some (some (.int (zb (rrQ bt L t n b).1)), (I', J)) ∧ Tk I' bt L (rrQ bt L t n b).2.1 ∧ hold I' 11 (rrQ bt L t n b).2.2 (n + 1) ∧ oX I I' := by
  obtain ⟨I1, e1, k1, o1⟩ := sp_takeWord (J := J) (k := 12) (by decide) hT hK
  have h1 := o1.hold hH (by omega)
  unfold rrQ
  by_cases c : isWd bt L 12 b = true
  · have o2 : off 11 I1 (up2 I1 (13 + n) 4 (nI 1)) := off.rfl.up ⟨by omega, by omega⟩
    rw [if_pos c] at k1 ⊢
    rw [c] at e1
    refine ⟨up2 I1 (13 + n) 4 (nI 1), ?_, o2.tk k1, h1.rock (by decide), o1.x.trans o2.x⟩
    simp only [eT_readRock_99, eT_readRock_101, eT_readRock_102, eT_readRock_104, eT_readRock_107, eT_readRock_110, eT_readRock_111, eT_readRock_114, eT_readRock_115, eT_readRock_118, eT_readRock_119, eq_self, hr_k_some, Option.toList, List.cons_append, List.nil_append, is2k_n, is2k_i, is2k_r, is2k_0, oc_0, ro_00, ro_01, ro_02, ro_04, ro_05, ro_06, ro_07, oc_1, oc_11, oc_21, oc_31, oc_32, ro_16, ro_b6, ak_2, ak_12, al_2, al_12, ra_2, ra_12, i10, i01, zb_t, zb_f, not_true_eq_false, not_false_eq_true, if_true, if_false, sp_found0, sp_found1, sp_found2, sp_found3, sp_found4, sp_found5, sp_found6, true_or, zb_n1, e1, oc_tr hn]
    rfl
  · have o2 : off 11 I1 (up2 I1 (13 + n) 4 (nI 0)) := off.rfl.up ⟨by omega, by omega⟩
    rw [if_neg c] at k1 ⊢
    rw [Bool.not_eq_true] at c
    rw [c] at e1
    refine ⟨up2 I1 (13 + n) 4 (nI 0), ?_, o2.tk k1, h1.rock (by decide), o1.x.trans o2.x⟩
    simp only [eT_readRock_99, eT_readRock_101, eT_readRock_102, eT_readRock_104, eT_readRock_107, eT_readRock_110, eT_readRock_111, eT_readRock_114, eT_readRock_115, eT_readRock_118, eT_readRock_119, eq_self, hr_k_some, Option.toList, List.cons_append, List.nil_append, is2k_n, is2k_i, is2k_r, is2k_0, oc_0, ro_00, ro_01, ro_02, ro_04, ro_05, ro_06, ro_07, oc_1, oc_11, oc_21, oc_31, oc_32, ro_16, ro_b6, ak_2, ak_12, al_2, al_12, ra_2, ra_12, i10, i01, zb_t, zb_f, not_true_eq_false, not_false_eq_true, if_true, if_false, sp_found0, sp_found1, sp_found2, sp_found3, sp_found4, sp_found5, sp_found6, true_or, zb_n1, e1, oc_tr hn]
    rfl
theorem rock_sweet {b : Nat} {x2 x3 : Option Value} (hn : n < 8) (hT : Tp I bt L) (hK : Tk I bt L b) (hH : hold I 11 t (n + 1)) : ∃ I', den nT_readRock (69, [some (.ref 32), some (.ref 11), x2, x3, some (.ref (13 + n))], [], (I, J)) = some (some (.int (zb (rrS bt L t n b).1)), (I', J)) ∧ Tk I' bt L (rrS bt L t n b).2.1 ∧ ((rrS bt L t n b).1 = true → hold I' 11 (rrS bt L t n b).2.2 (n + 1)) ∧ oX I I' := by
  obtain ⟨I1, e1, k1, o1⟩ := sp_takeWord (J := J) (k := 11) (by decide) hT hK
  have h1 := o1.hold hH (by omega)
  have hT1 := o1.tp hT
  unfold rrS
  by_cases c : isWd bt L 11 b = true
  · rw [if_pos c] at k1
    rw [c] at e1
    obtain ⟨I2, e2, k2, o2⟩ := sp_takeNumber (J := J) (m := 9) (by decide) hT1 k1
    have h2 := o2.hold h1 (by omega)
    have e2 : den nT_takeNumber (0, [some (.ref 32), some (.int 9), none], [], (I1, J)) = some (some (.int (if isNo bt L 9 (nxT bt L b) = true then nI (vlT bt L (nxT bt L b)) else -1)), (I2, J)) := e2
    by_cases c2 : isNo bt L 9 (nxT bt L b) = true
    · simp only [c, c2, if_true] at e2 k2 ⊢
      have o3 : off 11 I2 (up2 I2 (13 + n) 3 (nI (vlT bt L (nxT bt L b)))) := off.rfl.up ⟨by omega, by omega⟩
      obtain ⟨I6, e6, k6, h6, o6⟩ := rock_end (J := J) (x2 := x2) (x3 := x3) hn ((o1.x.trans (o2.x.trans o3.x)).tp hT) (o3.tk k2) (h2.rock (k := n) (j := 3) (x := vlT bt L (nxT bt L b)) (by decide))
      refine ⟨I6, ?_, k6, fun _ => h6, (o1.x.trans (o2.x.trans o3.x)).trans o6⟩
      simp only [eT_readRock_69, eT_readRock_70, eT_readRock_72, eT_readRock_75, eT_readRock_78, eT_readRock_80, eT_readRock_81, eT_readRock_83, eT_readRock_86, eT_readRock_89, eT_readRock_91, eT_readRock_94, eT_readRock_97, eT_readRock_98, eq_self, hr_k_some, Option.toList, List.cons_append, List.nil_append, is2k_n, is2k_i, is2k_r, is2k_0, oc_0, ro_00, ro_01, ro_02, ro_04, ro_05, ro_06, ro_07, oc_1, oc_11, oc_21, oc_31, oc_32, ro_16, ro_b6, ak_2, ak_12, al_2, al_12, ra_2, ra_12, i10, i01, zb_t, zb_f, not_true_eq_false, not_false_eq_true, if_true, if_false, sp_found0, sp_found1, sp_found2, sp_found3, sp_found4, sp_found5, sp_found6, true_or, e1, e2, oc_tr hn, up2_eq, pos_nlt vl_lt]
      exact e6
    · simp only [c, c2, if_true, Bool.false_eq_true, if_false] at e2 k2 ⊢
      have o3 : off 11 I2 (up2 I2 (13 + n) 3 (-1)) := off.rfl.up ⟨by omega, by omega⟩
      refine ⟨up2 I2 (13 + n) 3 (-1), ?_, o3.tk k2, (fun q => by cases q), o1.x.trans (o2.x.trans o3.x)⟩
      simp only [eT_readRock_69, eT_readRock_70, eT_readRock_72, eT_readRock_75, eT_readRock_78, eT_readRock_80, eT_readRock_81, eT_readRock_83, eT_readRock_86, eT_readRock_89, eT_readRock_91, eT_readRock_94, eT_readRock_97, eT_readRock_98, eq_self, hr_k_some, Option.toList, List.cons_append, List.nil_append, is2k_n, is2k_i, is2k_r, is2k_0, oc_0, ro_00, ro_01, ro_02, ro_04, ro_05, ro_06, ro_07, oc_1, oc_11, oc_21, oc_31, oc_32, ro_16, ro_b6, ak_2, ak_12, al_2, al_12, ra_2, ra_12, i10, i01, zb_t, zb_f, not_true_eq_false, not_false_eq_true, if_true, if_false, sp_found0, sp_found1, sp_found2, sp_found3, sp_found4, sp_found5, sp_found6, true_or, zb_n0, e1, e2, oc_tr hn, up2_eq, neg_lt]
  · have c' : isWd bt L 11 b = false := Bool.not_eq_true _ ▸ c
    rw [if_neg c] at k1 ⊢
    rw [c'] at e1
    obtain ⟨I6, e6, k6, h6, o6⟩ := rock_end (J := J) (x2 := x2) (x3 := x3) hn hT1 k1 h1
    refine ⟨I6, ?_, k6, fun _ => h6, o1.x.trans o6⟩
    simp only [eT_readRock_69, eT_readRock_70, eT_readRock_72, eT_readRock_75, eT_readRock_78, eT_readRock_80, eT_readRock_81, eT_readRock_83, eT_readRock_86, eT_readRock_89, eT_readRock_91, eT_readRock_94, eT_readRock_97, eT_readRock_98, eq_self, hr_k_some, Option.toList, List.cons_append, List.nil_append, is2k_n, is2k_i, is2k_r, is2k_0, oc_0, ro_00, ro_01, ro_02, ro_04, ro_05, ro_06, ro_07, oc_1, oc_11, oc_21, oc_31, oc_32, ro_16, ro_b6, ak_2, ak_12, al_2, al_12, ra_2, ra_12, i10, i01, zb_t, zb_f, not_true_eq_false, not_false_eq_true, if_true, if_false, sp_found0, sp_found1, sp_found2, sp_found3, sp_found4, sp_found5, sp_found6, true_or, e1]
    exact e6
theorem rock_horn {b : Nat} {x2 x3 : Option Value} (hn : n < 8) (hT : Tp I bt L) (hK : Tk I bt L b) (hH : hold I 11 t (n + 1)) : ∃ I', den nT_readRock (39, [some (.ref 32), some (.ref 11), x2, x3, some (.ref (13 + n))], [], (I, J)) = some (some (.int (zb (rrH bt L t n b).1)), (I', J)) ∧ Tk I' bt L (rrH bt L t n b).2.1 ∧ ((rrH bt L t n b).1 = true → hold I' 11 (rrH bt L t n b).2.2 (n + 1)) ∧ oX I I' := by
  obtain ⟨I1, e1, k1, o1⟩ := sp_takeWord (J := J) (k := 10) (by decide) hT hK
  have h1 := o1.hold hH (by omega)
  have hT1 := o1.tp hT
  unfold rrH
  by_cases c : isWd bt L 10 b = true
  · rw [if_pos c] at k1
    rw [c] at e1
    obtain ⟨I2, e2, k2, o2⟩ := sp_takeNumber (J := J) (m := 99) (by decide) hT1 k1
    have h2 := o2.hold h1 (by omega)
    have e2 : den nT_takeNumber (0, [some (.ref 32), some (.int 99), none], [], (I1, J)) = some (some (.int (if isNo bt L 99 (nxT bt L b) = true then nI (vlT bt L (nxT bt L b)) else -1)), (I2, J)) := e2
    by_cases c2 : isNo bt L 99 (nxT bt L b) = true
    · simp only [c, c2, if_true] at e2 k2 ⊢
      have o3 : off 11 I2 (up2 I2 (13 + n) 2 (nI (vlT bt L (nxT bt L b)))) := off.rfl.up ⟨by omega, by omega⟩
      obtain ⟨I6, e6, k6, h6, o6⟩ := rock_sweet (J := J) (x2 := x2) (x3 := x3) hn ((o1.x.trans (o2.x.trans o3.x)).tp hT) (o3.tk k2) (h2.rock (k := n) (j := 2) (x := vlT bt L (nxT bt L b)) (by decide))
      refine ⟨I6, ?_, k6, h6, (o1.x.trans (o2.x.trans o3.x)).trans o6⟩
      simp only [eT_readRock_39, eT_readRock_40, eT_readRock_42, eT_readRock_45, eT_readRock_48, eT_readRock_50, eT_readRock_51, eT_readRock_53, eT_readRock_56, eT_readRock_59, eT_readRock_61, eT_readRock_64, eT_readRock_67, eT_readRock_68, eq_self, hr_k_some, Option.toList, List.cons_append, List.nil_append, is2k_n, is2k_i, is2k_r, is2k_0, oc_0, ro_00, ro_01, ro_02, ro_04, ro_05, ro_06, ro_07, oc_1, oc_11, oc_21, oc_31, oc_32, ro_16, ro_b6, ak_2, ak_12, al_2, al_12, ra_2, ra_12, i10, i01, zb_t, zb_f, not_true_eq_false, not_false_eq_true, if_true, if_false, sp_found0, sp_found1, sp_found2, sp_found3, sp_found4, sp_found5, sp_found6, true_or, e1, e2, oc_tr hn, up2_eq, pos_nlt vl_lt]
      exact e6
    · simp only [c, c2, if_true, Bool.false_eq_true, if_false] at e2 k2 ⊢
      have o3 : off 11 I2 (up2 I2 (13 + n) 2 (-1)) := off.rfl.up ⟨by omega, by omega⟩
      refine ⟨up2 I2 (13 + n) 2 (-1), ?_, o3.tk k2, (fun q => by cases q), o1.x.trans (o2.x.trans o3.x)⟩
      simp only [eT_readRock_39, eT_readRock_40, eT_readRock_42, eT_readRock_45, eT_readRock_48, eT_readRock_50, eT_readRock_51, eT_readRock_53, eT_readRock_56, eT_readRock_59, eT_readRock_61, eT_readRock_64, eT_readRock_67, eT_readRock_68, eq_self, hr_k_some, Option.toList, List.cons_append, List.nil_append, is2k_n, is2k_i, is2k_r, is2k_0, oc_0, ro_00, ro_01, ro_02, ro_04, ro_05, ro_06, ro_07, oc_1, oc_11, oc_21, oc_31, oc_32, ro_16, ro_b6, ak_2, ak_12, al_2, al_12, ra_2, ra_12, i10, i01, zb_t, zb_f, not_true_eq_false, not_false_eq_true, if_true, if_false, sp_found0, sp_found1, sp_found2, sp_found3, sp_found4, sp_found5, sp_found6, true_or, zb_n0, e1, e2, oc_tr hn, up2_eq, neg_lt]
  · have c' : isWd bt L 10 b = false := Bool.not_eq_true _ ▸ c
    rw [if_neg c] at k1 ⊢
    rw [c'] at e1
    obtain ⟨I6, e6, k6, h6, o6⟩ := rock_sweet (J := J) (x2 := x2) (x3 := x3) hn hT1 k1 h1
    refine ⟨I6, ?_, k6, h6, o1.x.trans o6⟩
    simp only [eT_readRock_39, eT_readRock_40, eT_readRock_42, eT_readRock_45, eT_readRock_48, eT_readRock_50, eT_readRock_51, eT_readRock_53, eT_readRock_56, eT_readRock_59, eT_readRock_61, eT_readRock_64, eT_readRock_67, eT_readRock_68, eq_self, hr_k_some, Option.toList, List.cons_append, List.nil_append, is2k_n, is2k_i, is2k_r, is2k_0, oc_0, ro_00, ro_01, ro_02, ro_04, ro_05, ro_06, ro_07, oc_1, oc_11, oc_21, oc_31, oc_32, ro_16, ro_b6, ak_2, ak_12, al_2, al_12, ra_2, ra_12, i10, i01, zb_t, zb_f, not_true_eq_false, not_false_eq_true, if_true, if_false, sp_found0, sp_found1, sp_found2, sp_found3, sp_found4, sp_found5, sp_found6, true_or, e1]
    exact e6
theorem sp_readRock {b kd : Nat} (hn : n < 8) (hV : V t n B) (hT : Tp I bt L) (hK : Tk I bt L b) (hH : hold I 11 t n) : ∃ I', den nT_readRock (0, [some (.ref 32), some (.ref 11), some (.int (nI kd)), none, none], [], (I, J)) = some (some (.int (zb (rrV bt L t n kd b).1)), (I', J)) ∧ Tk I' bt L (rrV bt L t n kd b).2.1 ∧ ((rrV bt L t n kd b).1 = true → hold I' 11 (rrV bt L t n kd b).2.2 (n + 1)) ∧ oX I I' := by
  obtain ⟨I1, e1, k1, o1⟩ := sp_takeWord (J := J) (k := 9) (by decide) hT hK
  have h1 := o1.hold hH (by omega)
  have hT1 := o1.tp hT
  unfold rrV
  by_cases c : isWd bt L 9 b = true
  · rw [if_pos c] at k1
    rw [c] at e1
    obtain ⟨I2, e2, k2, o2⟩ := sp_takeNumber (J := J) (m := 63) (by decide) hT1 k1
    have h2 := o2.hold h1 (by omega)
    have e2 : den nT_takeNumber (0, [some (.ref 32), some (.int 63), none], [], (I1, J)) = some (some (.int (if isNo bt L 63 (nxT bt L b) = true then nI (vlT bt L (nxT bt L b)) else -1)), (I2, J)) := e2
    by_cases c2 : isNo bt L 63 (nxT bt L b) = true
    · simp only [c, c2, if_true] at e2 k2 ⊢
      have ea := sp_addRock (J := J) (kd := kd) (sq := vlT bt L (nxT bt L b)) is11 h2 hV
      rw [if_neg (by omega)] at ea
      have h3 := ad_hold (I := I2) (a := 11) (kd := kd) (sq := vlT bt L (nxT bt L b)) hn h2
      have o3 : off 11 I2 (up2 (up2 (up2 (up2 (up2 (up2 I2 (11 + 2 + n) 0 (nI kd)) (11 + 2 + n) 1 (nI (vlT bt L (nxT bt L b)))) (11 + 2 + n) 2 20) (11 + 2 + n) 3 5) (11 + 2 + n) 4 0) 11 5 (nI (n + 1))) := (((((off.rfl.up ⟨by omega, by omega⟩).up ⟨by omega, by omega⟩).up ⟨by omega, by omega⟩).up ⟨by omega, by omega⟩).up ⟨by omega, by omega⟩).up ⟨by omega, by omega⟩
      obtain ⟨I6, e6, k6, h6, o6⟩ := rock_horn (J := J) (x2 := some (.int (nI kd))) (x3 := some (.int (nI (vlT bt L (nxT bt L b))))) hn ((o1.x.trans (o2.x.trans o3.x)).tp hT) (o3.tk k2) h3
      refine ⟨I6, ?_, k6, h6, (o1.x.trans (o2.x.trans o3.x)).trans o6⟩
      simp only [eT_readRock_0, eT_readRock_1, eT_readRock_3, eT_readRock_6, eT_readRock_9, eT_readRock_10, eT_readRock_11, eT_readRock_12, eT_readRock_14, eT_readRock_17, eT_readRock_18, eT_readRock_19, eT_readRock_22, eT_readRock_23, eT_readRock_24, eT_readRock_25, eT_readRock_26, eT_readRock_27, eT_readRock_30, eq_self, hr_k_some, Option.toList, List.cons_append, List.nil_append, is2k_n, is2k_i, is2k_r, is2k_0, oc_0, ro_00, ro_01, ro_02, ro_04, ro_05, ro_06, ro_07, oc_1, oc_11, oc_21, oc_31, oc_32, ro_16, ro_b6, ak_2, ak_12, al_2, al_12, ra_2, ra_12, i10, i01, zb_t, zb_f, not_true_eq_false, not_false_eq_true, if_true, if_false, sp_found0, sp_found1, sp_found2, sp_found3, sp_found4, sp_found5, sp_found6, true_or, e1, e2, pos_nlt vl_lt, ea]
      rw [eT_readRock_32, eT_readRock_34 (by omega)]
      exact e6
    · simp only [c, c2, if_true, Bool.false_eq_true, if_false] at e2 k2 ⊢
      refine ⟨I2, ?_, k2, (fun q => by cases q), o1.x.trans o2.x⟩
      simp only [eT_readRock_0, eT_readRock_1, eT_readRock_3, eT_readRock_6, eT_readRock_9, eT_readRock_10, eT_readRock_11, eT_readRock_12, eT_readRock_14, eT_readRock_17, eT_readRock_18, eT_readRock_19, eT_readRock_22, eT_readRock_23, eT_readRock_24, eT_readRock_25, eT_readRock_26, eT_readRock_27, eT_readRock_30, eq_self, hr_k_some, Option.toList, List.cons_append, List.nil_append, is2k_n, is2k_i, is2k_r, is2k_0, oc_0, ro_00, ro_01, ro_02, ro_04, ro_05, ro_06, ro_07, oc_1, oc_11, oc_21, oc_31, oc_32, ro_16, ro_b6, ak_2, ak_12, al_2, al_12, ra_2, ra_12, i10, i01, zb_t, zb_f, not_true_eq_false, not_false_eq_true, if_true, if_false, sp_found0, sp_found1, sp_found2, sp_found3, sp_found4, sp_found5, sp_found6, true_or, zb_n0, e1, e2, neg_lt]
  · have c' : isWd bt L 9 b = false := Bool.not_eq_true _ ▸ c
    rw [if_neg c] at k1 ⊢
    rw [c'] at e1
    refine ⟨I1, ?_, k1, (fun q => by cases q), o1.x⟩
    simp only [eT_readRock_0, eT_readRock_1, eT_readRock_3, eT_readRock_6, eT_readRock_9, eT_readRock_10, eT_readRock_11, eT_readRock_12, eT_readRock_14, eT_readRock_17, eT_readRock_18, eT_readRock_19, eT_readRock_22, eT_readRock_23, eT_readRock_24, eT_readRock_25, eT_readRock_26, eT_readRock_27, eT_readRock_30, eq_self, hr_k_some, Option.toList, List.cons_append, List.nil_append, is2k_n, is2k_i, is2k_r, is2k_0, oc_0, ro_00, ro_01, ro_02, ro_04, ro_05, ro_06, ro_07, oc_1, oc_11, oc_21, oc_31, oc_32, ro_16, ro_b6, ak_2, ak_12, al_2, al_12, ra_2, ra_12, i10, i01, zb_t, zb_f, not_true_eq_false, not_false_eq_true, if_true, if_false, sp_found0, sp_found1, sp_found2, sp_found3, sp_found4, sp_found5, sp_found6, true_or, zb_n0, e1]
end
