/-! ===== read ===== -/
/-- the numbers are the squares of the watches that come -/
def trk (f : Nat → Int64) (t : Nat → Nat) (n z : Nat) : Bool := decide (∀ i, i < z → f i = (nI (goN t n i 1)).toInt64)
def prV (t : Nat → Nat) (k : Nat) : Nat → Nat := upV (upV t 2 (k / 2)) 3 (k % 2)
/-- how many of the first k pairs -/
def rdC (f : Nat → Int64) (t : Nat → Nat) (n z : Nat) : Nat → Nat
  | 0 => 0
  | k + 1 => if trk f (prV t k) n z = true then rdC f t n z k + 1 else rdC f t n z k
section
variable {I I' : Nat → Nat → Int32} {J J' : Nat → Nat → Int64} {a : Nat} {t t' : Nat → Nat} {n n' kp B : Nat} {u : Nat → Nat} {m : Nat} {y : Nat → Int32} {bt : Nat → Nat} {L : Nat} {w z : Nat → Nat} {num : Nat → Nat → Int64}
theorem rdC_s {f : Nat → Int64} {e k : Nat} : rdC f t n e (k + 1) = if trk f (prV t k) n e = true then rdC f t n e k + 1 else rdC f t n e k := rfl
theorem track_loop {s e : Nat} {f : Nat → Int64} (hs : s < 4) (he : e ≤ 40) (hf : ∀ i, i < 40 → J (36 + 2 * s) i = f i) (hV : V t n 99999) : ∀ (d k : Nat) (I : Nat → Nat → Int32), k + d = e → (∀ i, i < k → f i = (nI (goN t n i 1)).toInt64) → I (35 + 2 * s) 1 = nI e → hold I 11 (goN t n k) n → ∃ I', den nH_isTrackOf (2, [some (.ref (35 + 2 * s)), some (.ref 11), some (.int (nI k))], [], (I, J)) = some (some (.int (zb (trk f t n e))), (I', J)) ∧ off 11 I I' := by
  intro d
  induction d with
  | zero =>
    intro k I hk h0 h1 hH
    have hk' : e = k := by omega
    subst hk'
    refine ⟨I, ?_, off.rfl⟩
    rw [show trk f t n e = true from decide_eq_true h0]
    simp only [eH_isTrackOf_0, eH_isTrackOf_1, eH_isTrackOf_2, eH_isTrackOf_3, eH_isTrackOf_4, eH_isTrackOf_7, eH_isTrackOf_10, eH_isTrackOf_11, eH_isTrackOf_14, eH_isTrackOf_15, eH_isTrackOf_16, eH_isTrackOf_17, eH_isTrackOf_20, eH_isTrackOf_21, eH_isTrackOf_22, eH_isTrackOf_25, eH_isTrackOf_26, eH_isTrackOf_27, eH_isTrackOf_28, eH_isTrackOf_31, eH_isTrackOf_34, eH_isTrackOf_37, eH_isTrackOf_38, eq_self, hr_k_some, Option.toList, List.cons_append, List.nil_append, is2k_n, is2k_i, is2k_r, is2k_0, oc_0, ro_00, ro_01, ro_02, ro_04, ro_05, ro_06, ro_07, oc_1, oc_11, oc_21, oc_31, oc_32, ro_16, ro_b6, ak_2, ak_12, al_2, al_12, ra_2, ra_12, i10, i01, zb_t, zb_f, not_true_eq_false, not_false_eq_true, if_true, if_false, sp_found0, sp_found1, sp_found2, sp_found3, sp_found4, sp_found5, sp_found6, true_or, zb_n0, zb_n1, oc_sheet hs, h1, leT (Nat.le_refl e) (show e < 2 ^ 31 by omega)]
  | succ d ih =>
    intro k I hk h0 h1 hH
    have hke : k < e := by omega
    have g1 : I 11 1 = nI (goN t n k 1) := hH.1.2.1
    have l1 : (lg_cmp (f k) (nI (goN t n k 1)).toInt64 = 0) = (f k = (nI (goN t n k 1)).toInt64) := propext (lg_cmp_eq _ _)
    rw [eH_isTrackOf_2]
    simp only [eH_isTrackOf_0, eH_isTrackOf_1, eH_isTrackOf_3, eH_isTrackOf_4, eH_isTrackOf_7, eH_isTrackOf_10, eH_isTrackOf_11, eH_isTrackOf_14, eH_isTrackOf_15, eH_isTrackOf_16, eH_isTrackOf_17, eH_isTrackOf_20, eH_isTrackOf_21, eH_isTrackOf_22, eH_isTrackOf_25, eH_isTrackOf_26, eH_isTrackOf_28, eH_isTrackOf_31, eH_isTrackOf_34, eH_isTrackOf_37, eH_isTrackOf_38, eq_self, hr_k_some, Option.toList, List.cons_append, List.nil_append, is2k_n, is2k_i, is2k_r, is2k_0, oc_0, ro_00, ro_01, ro_02, ro_04, ro_05, ro_06, ro_07, oc_1, oc_11, oc_21, oc_31, oc_32, ro_16, ro_b6, ak_2, ak_12, al_2, al_12, ra_2, ra_12, i10, i01, zb_t, zb_f, not_true_eq_false, not_false_eq_true, if_true, if_false, sp_found0, sp_found1, sp_found2, sp_found3, sp_found4, sp_found5, sp_found6, true_or, zb_n0, zb_n1, oc_sheet hs, h1, leF hke (show e < 2 ^ 31 by omega), ro_sheet hs, ak_sheet hs, al_sheet hs, in_40 (show k < 40 by omega), cl_nI (show k < 100000 by omega), hf k (by omega), g1, l1]
    by_cases c : f k = (nI (goN t n k 1)).toInt64
    · obtain ⟨I1, e1, hH1, ho1⟩ := sp_goOne (J := J) is11 hH (goN_V k hV) (by omega)
      obtain ⟨I', e', o'⟩ := ih (k + 1) I1 (by omega) (fun i hi => by
        by_cases q : i = k
        · subst q; exact c
        · exact h0 i (by omega)) (by rw [ho1 _ (by omega)]; exact h1) (by rw [goN_s]; exact hH1)
      refine ⟨I', ?_, ho1.trans o'⟩
      simp only [c, if_true, eH_isTrackOf_0, eH_isTrackOf_1, eH_isTrackOf_3, eH_isTrackOf_4, eH_isTrackOf_7, eH_isTrackOf_10, eH_isTrackOf_11, eH_isTrackOf_14, eH_isTrackOf_15, eH_isTrackOf_16, eH_isTrackOf_17, eH_isTrackOf_20, eH_isTrackOf_21, eH_isTrackOf_22, eH_isTrackOf_25, eH_isTrackOf_26, eH_isTrackOf_27, eH_isTrackOf_28, eH_isTrackOf_31, eH_isTrackOf_34, eH_isTrackOf_37, eH_isTrackOf_38, eq_self, hr_k_some, Option.toList, List.cons_append, List.nil_append, is2k_n, is2k_i, is2k_r, is2k_0, oc_0, ro_00, ro_01, ro_02, ro_04, ro_05, ro_06, ro_07, oc_1, oc_11, oc_21, oc_31, oc_32, ro_16, ro_b6, ak_2, ak_12, al_2, al_12, ra_2, ra_12, i10, i01, zb_t, zb_f, not_true_eq_false, not_false_eq_true, if_true, if_false, sp_found0, sp_found1, sp_found2, sp_found3, sp_found4, sp_found5, sp_found6, true_or, e1, nI_1]
      exact e'
    · refine ⟨I, ?_, off.rfl⟩
      rw [show trk f t n e = false from decide_eq_false (fun q => c (q k hke))]
      simp only [c, if_false]
      rfl
theorem prV_V (hV : V t n 99999) {k : Nat} (hk : k < 20) : V (prV t k) n 99999 := by
  have := sh_V (k := 2) (v := k % 2) (ear_V hV (show k / 2 < 10 by omega)) (by decide) (by show k % 2 ≤ 1; omega)
  exact this
theorem read_one (h : Cl I J t n kp u m y bt L w z num) {s k : Nat} (hs : s < 4) (hk : k < 20) : ∃ I', den nH_isTrackOf (0, [some (.ref (35 + 2 * s)), some (.ref 11), none], [], (up2 (up2 (bI I 11 1 n) 11 2 (nI (k / 2))) 11 3 (nI (k % 2)), J)) = some (some (.int (zb (trk (num s) (prV t k) n (z s)))), (I', J)) ∧ off 11 I I' := by
  obtain ⟨a1, a2, a3, a4, a5⟩ := h.2.2.2.2.2 s hs
  have ho : off 11 I (up2 (up2 (bI I 11 1 n) 11 2 (nI (k / 2))) 11 3 (nI (k % 2))) := ((try_off h).up ⟨by omega, by omega⟩).up ⟨by omega, by omega⟩
  have hH : hold (up2 (up2 (bI I 11 1 n) 11 2 (nI (k / 2))) 11 3 (nI (k % 2))) 11 (prV t k) n := ((try_hold h).sea (by decide)).sea (by decide)
  obtain ⟨I', e', o'⟩ := track_loop (J := J) hs a4 a5 (prV_V h.2.1 hk) (z s) 0 _ (by omega) (fun i hi => by omega) (by rw [ho _ (by omega)]; exact a3) hH
  refine ⟨I', ?_, ho.trans o'⟩
  simp only [eH_isTrackOf_0, eH_isTrackOf_1, eH_isTrackOf_3, eH_isTrackOf_4, eH_isTrackOf_7, eH_isTrackOf_10, eH_isTrackOf_11, eH_isTrackOf_14, eH_isTrackOf_15, eH_isTrackOf_16, eH_isTrackOf_17, eH_isTrackOf_20, eH_isTrackOf_21, eH_isTrackOf_22, eH_isTrackOf_25, eH_isTrackOf_26, eH_isTrackOf_27, eH_isTrackOf_28, eH_isTrackOf_31, eH_isTrackOf_34, eH_isTrackOf_37, eH_isTrackOf_38, eq_self, hr_k_some, Option.toList, List.cons_append, List.nil_append, is2k_n, is2k_i, is2k_r, is2k_0]
  exact e'
theorem read_loop {s : Nat} (hs : s < 4) : ∀ (d k : Nat) (I : Nat → Nat → Int32), k + d = 20 → 0 < d → Cl I J t n kp u m y bt L w z num → ∃ I', den nX_read (35, [some (.ref 0), some (.int (nI s)), some (.int 0), some (.ref (35 + 2 * s)), some (.int (nI (rdC (num s) t n (z s) k))), some (.int (nI (k / 2))), some (.int (nI (k % 2)))], [], (I, J)) = some (some (.int (nI (rdC (num s) t n (z s) 20))), (I', J)) ∧ off 11 I I' := by
  intro d
  induction d with
  | zero => intro k I hk h0; omega
  | succ d ih =>
    intro k I hk h0 h
    have hk20 : k < 20 := by omega
    obtain ⟨I1, e1, ho1⟩ := read_one h hs hk20
    have hc : ((1 : Int32) < nI (k % 2)) = False := gtF (a := 1) (by omega) (by omega)
    have step : den nX_read (35, [some (.ref 0), some (.int (nI s)), some (.int 0), some (.ref (35 + 2 * s)), some (.int (nI (rdC (num s) t n (z s) k))), some (.int (nI (k / 2))), some (.int (nI (k % 2)))], [], (I, J)) = den nX_read (35, [some (.ref 0), some (.int (nI s)), some (.int 0), some (.ref (35 + 2 * s)), some (.int (nI (rdC (num s) t n (z s) (k + 1)))), some (.int (nI (k / 2))), some (.int (nI (k % 2 + 1)))], [], (I1, J)) := by
      rw [eX_read_35]
      simp only [eX_read_0, eX_read_1, eX_read_2, eX_read_5, eX_read_6, eX_read_7, eX_read_10, eX_read_11, eX_read_12, eX_read_13, eX_read_16, eX_read_17, eX_read_18, eX_read_19, eX_read_20, eX_read_22, eX_read_23, eX_read_25, eX_read_27, eX_read_29, eX_read_32, eX_read_33, eX_read_37, eX_read_38, eX_read_41, eX_read_42, eX_read_45, eX_read_46, eX_read_49, eX_read_51, eX_read_54, eX_read_55, eX_read_58, eX_read_60, eX_read_63, eX_read_64, eX_read_65, eX_read_68, eX_read_71, eX_read_80, eX_read_83, eX_read_86, eX_read_89, eX_read_91, eq_self, hr_k_some, Option.toList, List.cons_append, List.nil_append, is2k_n, is2k_i, is2k_r, is2k_0, oc_0, ro_00, ro_01, ro_02, ro_04, ro_05, ro_06, ro_07, oc_1, oc_11, oc_21, oc_31, oc_32, ro_16, ro_b6, ak_2, ak_12, al_2, al_12, ra_2, ra_12, i10, i01, zb_t, zb_f, not_true_eq_false, not_false_eq_true, if_true, if_false, sp_found0, sp_found1, sp_found2, sp_found3, sp_found4, sp_found5, sp_found6, true_or, hc, oc_sheet hs, sp_try h, e1]
      rw [rdC_s]
      by_cases c : trk (num s) (prV t k) n (z s) = true
      · simp only [c, if_true, eX_read_0, eX_read_1, eX_read_2, eX_read_5, eX_read_6, eX_read_7, eX_read_10, eX_read_11, eX_read_12, eX_read_13, eX_read_16, eX_read_17, eX_read_18, eX_read_19, eX_read_20, eX_read_22, eX_read_23, eX_read_25, eX_read_27, eX_read_29, eX_read_32, eX_read_33, eX_read_37, eX_read_38, eX_read_41, eX_read_42, eX_read_45, eX_read_46, eX_read_49, eX_read_51, eX_read_54, eX_read_55, eX_read_58, eX_read_60, eX_read_63, eX_read_64, eX_read_65, eX_read_68, eX_read_71, eX_read_74, eX_read_77, eX_read_80, eX_read_83, eX_read_86, eX_read_89, eX_read_91, eq_self, hr_k_some, Option.toList, List.cons_append, List.nil_append, is2k_n, is2k_i, is2k_r, is2k_0, oc_0, ro_00, ro_01, ro_02, ro_04, ro_05, ro_06, ro_07, oc_1, oc_11, oc_21, oc_31, oc_32, ro_16, ro_b6, ak_2, ak_12, al_2, al_12, ra_2, ra_12, i10, i01, zb_t, zb_f, not_true_eq_false, not_false_eq_true, if_true, if_false, sp_found0, sp_found1, sp_found2, sp_found3, sp_found4, sp_found5, sp_found6, true_or, nI_1]
      · rw [Bool.not_eq_true] at c
        simp only [c, show (false = true) = False from eq_false (by decide), if_false, eX_read_0, eX_read_1, eX_read_2, eX_read_5, eX_read_6, eX_read_7, eX_read_10, eX_read_11, eX_read_12, eX_read_13, eX_read_16, eX_read_17, eX_read_18, eX_read_19, eX_read_20, eX_read_22, eX_read_23, eX_read_25, eX_read_27, eX_read_29, eX_read_32, eX_read_33, eX_read_37, eX_read_38, eX_read_41, eX_read_42, eX_read_45, eX_read_46, eX_read_49, eX_read_51, eX_read_54, eX_read_55, eX_read_58, eX_read_60, eX_read_63, eX_read_64, eX_read_65, eX_read_68, eX_read_71, eX_read_74, eX_read_77, eX_read_80, eX_read_83, eX_read_86, eX_read_89, eX_read_91, eq_self, hr_k_some, Option.toList, List.cons_append, List.nil_append, is2k_n, is2k_i, is2k_r, is2k_0, oc_0, ro_00, ro_01, ro_02, ro_04, ro_05, ro_06, ro_07, oc_1, oc_11, oc_21, oc_31, oc_32, ro_16, ro_b6, ak_2, ak_12, al_2, al_12, ra_2, ra_12, i10, i01, zb_t, zb_f, not_true_eq_false, not_false_eq_true, if_true, if_false, sp_found0, sp_found1, sp_found2, sp_found3, sp_found4, sp_found5, sp_found6, true_or, nI_1]
    rw [step]
    by_cases p : k % 2 = 0
    · obtain ⟨I', e', o'⟩ := ih (k + 1) I1 (by omega) (by omega) (h.t11 ho1)
      rw [show (k + 1) / 2 = k / 2 by omega, show (k + 1) % 2 = k % 2 + 1 by omega] at e'
      exact ⟨I', e', ho1.trans o'⟩
    · have p2 : k % 2 + 1 = 2 := by omega
      have hc2 : ((1 : Int32) < nI 2) = True := eq_true (by decide)
      rw [p2, eX_read_35]
      by_cases q : k + 1 = 20
      · have hc9 : ((9 : Int32) < nI (k / 2 + 1)) = True := eq_true (nI_lt (a := 9) (by omega) (by omega))
        refine ⟨I1, ?_, ho1⟩
        rw [q]
        simp only [eX_read_0, eX_read_1, eX_read_2, eX_read_5, eX_read_6, eX_read_7, eX_read_10, eX_read_11, eX_read_12, eX_read_13, eX_read_16, eX_read_17, eX_read_18, eX_read_19, eX_read_20, eX_read_22, eX_read_23, eX_read_25, eX_read_27, eX_read_29, eX_read_32, eX_read_33, eX_read_37, eX_read_38, eX_read_41, eX_read_42, eX_read_45, eX_read_46, eX_read_49, eX_read_51, eX_read_54, eX_read_55, eX_read_58, eX_read_60, eX_read_63, eX_read_64, eX_read_65, eX_read_68, eX_read_71, eX_read_74, eX_read_77, eX_read_80, eX_read_83, eX_read_86, eX_read_89, eX_read_91, eq_self, hr_k_some, Option.toList, List.cons_append, List.nil_append, is2k_n, is2k_i, is2k_r, is2k_0, oc_0, ro_00, ro_01, ro_02, ro_04, ro_05, ro_06, ro_07, oc_1, oc_11, oc_21, oc_31, oc_32, ro_16, ro_b6, ak_2, ak_12, al_2, al_12, ra_2, ra_12, i10, i01, zb_t, zb_f, not_true_eq_false, not_false_eq_true, if_true, if_false, sp_found0, sp_found1, sp_found2, sp_found3, sp_found4, sp_found5, sp_found6, true_or, hc2, hc9, nI_1]
      · have hc9 : ((9 : Int32) < nI (k / 2 + 1)) = False := gtF (a := 9) (by omega) (by omega)
        obtain ⟨I', e', o'⟩ := ih (k + 1) I1 (by omega) (by omega) (h.t11 ho1)
        refine ⟨I', ?_, ho1.trans o'⟩
        rw [show (k + 1) / 2 = k / 2 + 1 by omega, show (k + 1) % 2 = 0 by omega] at e'
        simp only [eX_read_0, eX_read_1, eX_read_2, eX_read_5, eX_read_6, eX_read_7, eX_read_10, eX_read_11, eX_read_12, eX_read_13, eX_read_16, eX_read_17, eX_read_18, eX_read_19, eX_read_20, eX_read_22, eX_read_23, eX_read_25, eX_read_27, eX_read_29, eX_read_32, eX_read_33, eX_read_37, eX_read_38, eX_read_41, eX_read_42, eX_read_45, eX_read_46, eX_read_49, eX_read_51, eX_read_54, eX_read_55, eX_read_58, eX_read_60, eX_read_63, eX_read_64, eX_read_65, eX_read_68, eX_read_71, eX_read_74, eX_read_77, eX_read_80, eX_read_83, eX_read_86, eX_read_89, eX_read_91, eq_self, hr_k_some, Option.toList, List.cons_append, List.nil_append, is2k_n, is2k_i, is2k_r, is2k_0, oc_0, ro_00, ro_01, ro_02, ro_04, ro_05, ro_06, ro_07, oc_1, oc_11, oc_21, oc_31, oc_32, ro_16, ro_b6, ak_2, ak_12, al_2, al_12, ra_2, ra_12, i10, i01, zb_t, zb_f, not_true_eq_false, not_false_eq_true, if_true, if_false, sp_found0, sp_found1, sp_found2, sp_found3, sp_found4, sp_found5, sp_found6, true_or, hc2, hc9, nI_1]
        exact e'
theorem X_read_ok (h : Cl I J t n kp u m y bt L w z num) {s : Nat} (hs : s < 4) (hw : w s ≠ 0) : XR nX_read [some (.ref 0), some (.int (nI s)), none, none, none, none, none] I J (.int (nI (rdC (num s) t n (z s) 20))) (fun I' J' => Cl I' J' t n kp u m y bt L w z num) := by
  obtain ⟨I', e', o'⟩ := read_loop hs 20 0 I (by omega) (by omega) h
  refine ⟨I', J, ?_, (offX.of11 o').fr, h.t11 o'⟩
  have hc9 : ((9 : Int32) < 0) = False := eq_false (by decide)
  simp only [eX_read_0, eX_read_1, eX_read_2, eX_read_5, eX_read_6, eX_read_7, eX_read_10, eX_read_11, eX_read_12, eX_read_13, eX_read_16, eX_read_17, eX_read_18, eX_read_19, eX_read_20, eX_read_22, eX_read_23, eX_read_25, eX_read_27, eX_read_29, eX_read_32, eX_read_33, eX_read_37, eX_read_38, eX_read_41, eX_read_42, eX_read_45, eX_read_46, eX_read_49, eX_read_51, eX_read_54, eX_read_55, eX_read_58, eX_read_60, eX_read_63, eX_read_64, eX_read_65, eX_read_68, eX_read_71, eX_read_74, eX_read_77, eX_read_80, eX_read_83, eX_read_86, eX_read_89, eX_read_91, eq_self, hr_k_some, Option.toList, List.cons_append, List.nil_append, is2k_n, is2k_i, is2k_r, is2k_0, oc_0, ro_00, ro_01, ro_02, ro_04, ro_05, ro_06, ro_07, oc_1, oc_11, oc_21, oc_31, oc_32, ro_16, ro_b6, ak_2, ak_12, al_2, al_12, ra_2, ra_12, i10, i01, zb_t, zb_f, not_true_eq_false, not_false_eq_true, if_true, if_false, sp_found0, sp_found1, sp_found2, sp_found3, sp_found4, sp_found5, sp_found6, true_or, or_true, sp_fault_ok h hs hw, ak_34, al_34, in_4 hs, cl_nI (show s < 100000 by omega), ra_sheet, hc9]
  exact e'
end
