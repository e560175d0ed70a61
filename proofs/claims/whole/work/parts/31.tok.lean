/-! ===== tokens ===== -/
def isL (b : Nat) : Bool := decide (97 ≤ b ∧ b ≤ 122)
def isD (b : Nat) : Bool := decide (48 ≤ b ∧ b ≤ 57)
def blk (b : Nat) : Bool := decide (b = 32)
/-- how far a run goes -/
def run (P : Nat → Bool) (bt : Nat → Nat) : Nat → Nat → Nat
  | 0, p => p
  | d + 1, p => if P (bt p) = true then run P bt d (p + 1) else p
/-- the number of a run of digits -/
def dgv (bt : Nat → Nat) : Nat → Nat → Nat → Nat
  | 0, _, v => v
  | d + 1, p, v => if isD (bt p) = true then dgv bt d (p + 1) (if v ≤ 999 then v * 10 + bt p - 48 else v) else v
def bgT (bt : Nat → Nat) (L e : Nat) : Nat := run blk bt (L - e) e
def kdT (bt : Nat → Nat) (L b : Nat) : Nat := if L ≤ b then 0 else if isL (bt b) = true then 1 else if isD (bt b) = true then 2 else if bt b = 59 then 3 else 4
def enT (bt : Nat → Nat) (L b : Nat) : Nat := if L ≤ b then b else if isL (bt b) = true then run isL bt (L - b) b else if isD (bt b) = true then run isD bt (L - b) b else b + 1
def vlT (bt : Nat → Nat) (L b : Nat) : Nat := dgv bt (L - b) b 0
def nxT (bt : Nat → Nat) (L b : Nat) : Nat := bgT bt L (enT bt L b)
theorem run_le {P : Nat → Bool} {bt : Nat → Nat} : ∀ d p, p ≤ run P bt d p ∧ run P bt d p ≤ p + d := by
  intro d
  induction d with
  | zero => intro p; exact ⟨Nat.le_refl _, Nat.le_refl _⟩
  | succ d ih =>
    intro p
    unfold run
    split
    · have := ih (p + 1); omega
    · omega
theorem bgT_le {bt : Nat → Nat} {L e : Nat} (h : e ≤ L) : e ≤ bgT bt L e ∧ bgT bt L e ≤ L := by
  have := run_le (P := blk) (bt := bt) (L - e) e
  unfold bgT
  omega
theorem run_gt {P : Nat → Bool} {bt : Nat → Nat} {d p : Nat} (hd : 0 < d) (h : P (bt p) = true) : p < run P bt d p := by
  obtain ⟨k, rfl⟩ : ∃ k, d = k + 1 := ⟨d - 1, by omega⟩
  unfold run
  rw [if_pos h]
  have := run_le (P := P) (bt := bt) k (p + 1)
  omega
theorem enT_le {bt : Nat → Nat} {L b : Nat} (h : b ≤ L) : b ≤ enT bt L b ∧ enT bt L b ≤ L := by
  have h1 := run_le (P := isL) (bt := bt) (L - b) b
  have h2 := run_le (P := isD) (bt := bt) (L - b) b
  unfold enT
  split
  · omega
  · split
    · omega
    · split <;> omega
theorem enT_gt {bt : Nat → Nat} {L b : Nat} (h : b < L) : b < enT bt L b := by
  unfold enT
  rw [if_neg (by omega)]
  split
  · exact run_gt (by omega) (by assumption)
  · split
    · exact run_gt (by omega) (by assumption)
    · omega
theorem nxT_le {bt : Nat → Nat} {L b : Nat} (h : b ≤ L) : b ≤ nxT bt L b ∧ nxT bt L b ≤ L := by
  have h1 := enT_le (bt := bt) h
  have h2 := bgT_le (bt := bt) h1.2
  unfold nxT
  omega
theorem nxT_gt {bt : Nat → Nat} {L b : Nat} (h : b < L) : b < nxT bt L b := by
  have h1 := enT_gt (bt := bt) h
  have h2 := bgT_le (bt := bt) (enT_le (bt := bt) (Nat.le_of_lt h)).2
  unfold nxT
  omega
theorem dgv_le {bt : Nat → Nat} : ∀ d p v, v ≤ 9999 → dgv bt d p v ≤ 9999 := by
  intro d
  induction d with
  | zero => intro p v hv; exact hv
  | succ d ih =>
    intro p v hv
    unfold dgv
    split
    · rename_i h
      have hd : 48 ≤ bt p ∧ bt p ≤ 57 := of_decide_eq_true h
      apply ih
      split <;> omega
    · exact hv
theorem sb_32 : ∀ b, b < 256 → decide (sbt b = 32) = decide (b = 32) := by decide +kernel
theorem sb_59 : ∀ b, b < 256 → decide (sbt b = 59) = decide (b = 59) := by decide +kernel
theorem sb_97 : ∀ b, b < 256 → decide (sbt b < 97) = decide (b < 97 ∨ 128 ≤ b) := by decide +kernel
theorem sb_122 : ∀ b, b < 256 → decide (122 < sbt b) = decide (122 < b ∧ b < 128) := by decide +kernel
theorem sb_48 : ∀ b, b < 256 → decide (sbt b < 48) = decide (b < 48 ∨ 128 ≤ b) := by decide +kernel
theorem sb_57 : ∀ b, b < 256 → decide (57 < sbt b) = decide (57 < b ∧ b < 128) := by decide +kernel
theorem sb_lt : ∀ b, b < 128 → sbt b = nI b := by decide +kernel
theorem dec_eq {p q : Prop} [Decidable p] [Decidable q] (h : decide p = decide q) : p = q := propext (by
  constructor
  · intro hp; exact of_decide_eq_true (h ▸ decide_eq_true hp)
  · intro hq; exact of_decide_eq_true (h.symm ▸ decide_eq_true hq))
section
variable {I I' : Nat → Nat → Int32} {J J' : Nat → Nat → Int64} {bt : Nat → Nat} {L : Nat}
theorem sp_isL {b : Nat} (hb : b < 256) {h : hr_H} : den nT_isLetter (0, [some (.int (sbt b))], [], h) = some (some (.int (zb (isL b))), h) := by
  have e1 := dec_eq (sb_97 b hb)
  have e2 := dec_eq (sb_122 b hb)
  unfold isL
  simp only [eT_isLetter_0, eT_isLetter_1, eT_isLetter_3, eT_isLetter_6, eT_isLetter_7, eT_isLetter_9, eT_isLetter_12, eT_isLetter_13, eT_isLetter_16, eT_isLetter_17, eq_self, hr_k_some, Option.toList, List.cons_append, List.nil_append, is2k_n, is2k_i, is2k_r, is2k_0, oc_0, ro_00, ro_01, ro_02, ro_04, ro_05, ro_06, ro_07, oc_1, oc_11, oc_21, oc_31, oc_32, ro_16, ro_b6, ak_2, ak_12, al_2, al_12, ra_2, ra_12, i10, i01, zb_t, zb_f, not_true_eq_false, not_false_eq_true, if_true, if_false, sp_found0, sp_found1, sp_found2, sp_found3, sp_found4, sp_found5, sp_found6, true_or, zb_n0, zb_n1, e1, e2]
  by_cases c1 : b < 97 ∨ 128 ≤ b
  · rw [decide_eq_false (show ¬ (97 ≤ b ∧ b ≤ 122) by omega)]
    simp only [c1, if_true]; rfl
  · by_cases c2 : 122 < b ∧ b < 128
    · rw [decide_eq_false (show ¬ (97 ≤ b ∧ b ≤ 122) by omega)]
      simp only [c1, c2, if_true, if_false, and_self]; rfl
    · rw [decide_eq_true (show 97 ≤ b ∧ b ≤ 122 by omega)]
      simp only [c1, c2, if_false]; rfl
theorem sp_isD {b : Nat} (hb : b < 256) {h : hr_H} : den nT_isDigit (0, [some (.int (sbt b))], [], h) = some (some (.int (zb (isD b))), h) := by
  have e1 := dec_eq (sb_48 b hb)
  have e2 := dec_eq (sb_57 b hb)
  unfold isD
  simp only [eT_isDigit_0, eT_isDigit_1, eT_isDigit_3, eT_isDigit_6, eT_isDigit_7, eT_isDigit_9, eT_isDigit_12, eT_isDigit_13, eT_isDigit_16, eT_isDigit_17, eq_self, hr_k_some, Option.toList, List.cons_append, List.nil_append, is2k_n, is2k_i, is2k_r, is2k_0, oc_0, ro_00, ro_01, ro_02, ro_04, ro_05, ro_06, ro_07, oc_1, oc_11, oc_21, oc_31, oc_32, ro_16, ro_b6, ak_2, ak_12, al_2, al_12, ra_2, ra_12, i10, i01, zb_t, zb_f, not_true_eq_false, not_false_eq_true, if_true, if_false, sp_found0, sp_found1, sp_found2, sp_found3, sp_found4, sp_found5, sp_found6, true_or, zb_n0, zb_n1, e1, e2]
  by_cases c1 : b < 48 ∨ 128 ≤ b
  · rw [decide_eq_false (show ¬ (48 ≤ b ∧ b ≤ 57) by omega)]
    simp only [c1, if_true]; rfl
  · by_cases c2 : 57 < b ∧ b < 128
    · rw [decide_eq_false (show ¬ (48 ≤ b ∧ b ≤ 57) by omega)]
      simp only [c1, c2, if_true, if_false, and_self]; rfl
    · rw [decide_eq_true (show 48 ≤ b ∧ b ≤ 57 by omega)]
      simp only [c1, c2, if_false]; rfl
/-- nothing but one field of the tape has changed -/
def oF (k : Nat) (I I' : Nat → Nat → Int32) : Prop := ∀ b j, ¬ (b = 32 ∧ j = k) → I' b j = I b j
theorem oF.rfl {k : Nat} : oF k I I := fun _ _ _ => Eq.refl _
theorem oF.up {k : Nat} {x : Int32} : oF k I (up2 I 32 k x) := fun b j h => if_neg h
theorem oF.trans {k : Nat} {I'' : Nat → Nat → Int32} (h : oF k I I') (h' : oF k I' I'') : oF k I I'' := fun b j q => (h' b j q).trans (h b j q)
theorem oF.tp {k : Nat} (h : oF k I I') (hk : k ≠ 1) (hT : Tp I bt L) : Tp I' bt L := ⟨by rw [h 32 1 (by omega)]; exact hT.1, hT.2.1, fun j hj => ⟨(hT.2.2 j hj).1, by rw [h 33 j (by omega)]; exact (hT.2.2 j hj).2⟩⟩
theorem skip_loop : ∀ (d p : Nat) (I : Nat → Nat → Int32), p + d = L → Tp I bt L → I 32 3 = nI p → ∃ I', den nT_advance (8, [some (.ref 32)], [], (I, J)) = den nT_advance (46, [some (.ref 32)], [], (I', J)) ∧ I' 32 3 = nI (run blk bt d p) ∧ oF 3 I I' := by
  intro d
  induction d with
  | zero =>
    intro p I hp hT h3
    have hL := hT.2.1
    refine ⟨I, ?_, h3, oF.rfl⟩
    simp only [eT_advance_8, eT_advance_9, eT_advance_12, eT_advance_13, eT_advance_16, eT_advance_19, eT_advance_20, eT_advance_23, eT_advance_24, eT_advance_27, eT_advance_28, eT_advance_30, eT_advance_33, eT_advance_34, eT_advance_35, eT_advance_38, eT_advance_39, eT_advance_40, eT_advance_43, eq_self, hr_k_some, Option.toList, List.cons_append, List.nil_append, is2k_n, is2k_i, is2k_r, is2k_0, oc_0, ro_00, ro_01, ro_02, ro_04, ro_05, ro_06, ro_07, oc_1, oc_11, oc_21, oc_31, oc_32, ro_16, ro_b6, ak_2, ak_12, al_2, al_12, ra_2, ra_12, i10, i01, zb_t, zb_f, not_true_eq_false, not_false_eq_true, if_true, if_false, sp_found0, sp_found1, sp_found2, sp_found3, sp_found4, sp_found5, sp_found6, true_or, h3, hT.1, leT (show L ≤ p by omega) (show p < 2 ^ 31 by omega)]
  | succ d ih =>
    intro p I hp hT h3
    have hL := hT.2.1
    obtain ⟨hb, h33⟩ := hT.2.2 p (by omega)
    have e32 := dec_eq (sb_32 _ hb)
    rw [eT_advance_8]
    simp only [eT_advance_9, eT_advance_12, eT_advance_13, eT_advance_16, eT_advance_19, eT_advance_20, eT_advance_23, eT_advance_24, eT_advance_27, eT_advance_28, eT_advance_30, eq_self, hr_k_some, Option.toList, List.cons_append, List.nil_append, is2k_n, is2k_i, is2k_r, is2k_0, oc_0, ro_00, ro_01, ro_02, ro_04, ro_05, ro_06, ro_07, oc_1, oc_11, oc_21, oc_31, oc_32, ro_16, ro_b6, ak_2, ak_12, al_2, al_12, ra_2, ra_12, i10, i01, zb_t, zb_f, not_true_eq_false, not_false_eq_true, if_true, if_false, sp_found0, sp_found1, sp_found2, sp_found3, sp_found4, sp_found5, sp_found6, true_or, h3, hT.1, leF (show p < L by omega) (show L < 2 ^ 31 by omega), ro_t0, ak_33, al_33, in_120 (show p < 120 by omega), cl_nI (show p < 100000 by omega), ai_lt (show 33 < 60 by decide), h33, e32]
    unfold run
    by_cases c : bt p = 32
    · rw [if_pos (show blk (bt p) = true from decide_eq_true c)]
      obtain ⟨I', e', g', o'⟩ := ih (p + 1) (up2 I 32 3 (nI (p + 1))) (by omega) (oF.up.tp (by decide) hT) up2_eq
      refine ⟨I', ?_, g', oF.up.trans o'⟩
      simp only [c, not_true_eq_false, if_false, eT_advance_33, eT_advance_34, eT_advance_35, eT_advance_38, eT_advance_39, eT_advance_40, eT_advance_43, eq_self, hr_k_some, Option.toList, List.cons_append, List.nil_append, is2k_n, is2k_i, is2k_r, is2k_0, oc_0, ro_00, ro_01, ro_02, ro_04, ro_05, ro_06, ro_07, oc_1, oc_11, oc_21, oc_31, oc_32, ro_16, ro_b6, ak_2, ak_12, al_2, al_12, ra_2, ra_12, i10, i01, zb_t, zb_f, not_true_eq_false, not_false_eq_true, if_true, if_false, sp_found0, sp_found1, sp_found2, sp_found3, sp_found4, sp_found5, sp_found6, true_or, h3, nI_1]
      exact e'
    · rw [if_neg (show ¬ blk (bt p) = true from fun q => c (of_decide_eq_true q))]
      refine ⟨I, ?_, h3, oF.rfl⟩
      simp only [c, not_false_eq_true, if_true]
end
