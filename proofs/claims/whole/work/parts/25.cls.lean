/-! ===== fewest ===== -/
def P_bc (x : Int32) : Int32 :=
  let a := x - ((x.toUInt32 >>> ((1 : Int32).toUInt32 &&& Int32.toUInt32 31)).toInt32 &&& 1431655765)
  let b := (a &&& 858993459) + ((a.toUInt32 >>> ((2 : Int32).toUInt32 &&& Int32.toUInt32 31)).toInt32 &&& 858993459)
  let c := (b + (b.toUInt32 >>> ((4 : Int32).toUInt32 &&& Int32.toUInt32 31)).toInt32) &&& 252645135
  let d := c + (c.toUInt32 >>> ((8 : Int32).toUInt32 &&& Int32.toUInt32 31)).toInt32
  let e := d + (d.toUInt32 >>> ((16 : Int32).toUInt32 &&& Int32.toUInt32 31)).toInt32
  e &&& 63
def popc (s : Nat) : Nat := s % 2 + s / 2 % 2 + s / 4 % 2 + s / 8 % 2 + s / 16 % 2 + s / 32 % 2 + s / 64 % 2 + s / 128 % 2
theorem bc_N : ∀ s, s < 256 → P_bc (nI s) = nI (popc s) := by decide +kernel
theorem popc_le (s : Nat) : popc s ≤ 8 := by unfold popc; omega
theorem shl_N : ∀ n, n < 9 → (1 : Int32) <<< (nI n &&& 31) = nI (2 ^ n) := by decide +kernel
theorem bit_N : ∀ k, k < 8 → ∀ s, s < 256 → ((nI s >>> (nI k &&& 31)) &&& 1) = nI (s / 2 ^ k % 2) := by decide +kernel
theorem pow_le {n : Nat} (hn : n ≤ 8) : 2 ^ n ≤ 256 := by
  rcases (show n = 0 ∨ n = 1 ∨ n = 2 ∨ n = 3 ∨ n = 4 ∨ n = 5 ∨ n = 6 ∨ n = 7 ∨ n = 8 by omega) with rfl | rfl | rfl | rfl | rfl | rfl | rfl | rfl | rfl <;> decide
def huV (t : Nat → Nat) (s : Nat) : Nat → (Nat → Nat)
  | 0 => t
  | k + 1 => if s / 2 ^ k % 2 = 1 then upV (huV t s k) (10 + 5 * k) 1 else huV t s k
def huI (I : Nat → Nat → Int32) (a s : Nat) : Nat → (Nat → Nat → Int32)
  | 0 => I
  | k + 1 => if s / 2 ^ k % 2 = 1 then up2 (huI I a s k) (a + 2 + k) 4 1 else huI I a s k
section
variable {I I' : Nat → Nat → Int32} {J J' : Nat → Nat → Int64} {a : Nat} {t t' : Nat → Nat} {n n' kp B : Nat} {u : Nat → Nat} {m : Nat} {y : Nat → Int32} {bt : Nat → Nat} {L : Nat} {w z : Nat → Nat} {num : Nat → Nat → Int64}
theorem huV_s {s k : Nat} : huV t s (k + 1) = if s / 2 ^ k % 2 = 1 then upV (huV t s k) (10 + 5 * k) 1 else huV t s k := rfl
theorem huI_s {s k : Nat} : huI I a s (k + 1) = if s / 2 ^ k % 2 = 1 then up2 (huI I a s k) (a + 2 + k) 4 1 else huI I a s k := rfl
theorem huI_hold {s : Nat} (h : hold I a t n) : ∀ k, k ≤ n → hold (huI I a s k) a (huV t s k) n := by
  intro k
  induction k with
  | zero => intro _; exact h
  | succ k ih =>
    intro hk
    rw [huI_s, huV_s]
    split
    · have := (ih (by omega)).rock (k := k) (j := 4) (x := 1) (by decide)
      rwa [show 6 + 5 * k + 4 = 10 + 5 * k by omega] at this
    · exact ih (by omega)
theorem huV_V {s : Nat} (hV : V t n B) : ∀ k, k ≤ n → V (huV t s k) n B := by
  intro k
  induction k with
  | zero => intro _; exact hV
  | succ k ih =>
    intro hk
    rw [huV_s]
    split
    · exact sil_V (ih (by omega)) (by omega)
    · exact ih (by omega)
theorem huI_off {s : Nat} : ∀ k, k ≤ 8 → off a I (huI I a s k) := by
  intro k
  induction k with
  | zero => intro _; exact off.rfl
  | succ k ih =>
    intro hk
    rw [huI_s]
    split
    · exact (ih (by omega)).up ⟨by omega, by omega⟩
    · exact ih (by omega)
theorem hu_loop {s : Nat} (hs : s < 256) (ha : isSea a) (hH : hold I a t n) (hV : V t n B) : ∀ (d k : Nat), k + d = n → den nS_hush (2, [some (.ref a), some (.int (nI s)), some (.int (nI k))], [], (huI I a s k, J)) = some (none, (huI I a s n, J)) := by
  have hn := hV.2.1
  intro d
  induction d with
  | zero =>
    intro k hk
    have hkn : k = n := by omega
    have h5 : huI I a s k a 5 = nI n := by rw [(huI_hold hH k (by omega)).1.2.2.2.2.2, (huV_V (s := s) hV k (by omega)).1]
    rw [eS_hush_2]
    simp only [eS_hush_0, eS_hush_1, eS_hush_3, eS_hush_4, eS_hush_7, eS_hush_10, eS_hush_11, eS_hush_12, eS_hush_13, eS_hush_14, eS_hush_15, eS_hush_16, eS_hush_19, eS_hush_20, eS_hush_23, eS_hush_24, eS_hush_25, eS_hush_26, eS_hush_29, eS_hush_32, eS_hush_35, eq_self, hr_k_some, Option.toList, List.cons_append, List.nil_append, is2k_n, is2k_i, is2k_r, is2k_0, oc_sea ha, h5, leT (show n ≤ k by omega) (show k < 2 ^ 31 by omega), if_true]
    rw [hkn]
  | succ d ih =>
    intro k hk
    have hk8 : k < 8 := by omega
    have h5 : huI I a s k a 5 = nI n := by rw [(huI_hold hH k (by omega)).1.2.2.2.2.2, (huV_V (s := s) hV k (by omega)).1]
    have hb := bit_N k hk8 s hs
    have hz : (nI (s / 2 ^ k % 2) = 1) = (s / 2 ^ k % 2 = 1) := nI_lit _ 1 (by omega) (by decide)
    rw [eS_hush_2]
    simp only [eS_hush_0, eS_hush_1, eS_hush_3, eS_hush_4, eS_hush_7, eS_hush_10, eS_hush_11, eS_hush_12, eS_hush_13, eS_hush_14, eS_hush_15, eS_hush_16, eS_hush_19, eS_hush_20, eS_hush_23, eS_hush_24, eS_hush_25, eS_hush_26, eS_hush_29, eS_hush_32, eS_hush_35, eq_self, hr_k_some, Option.toList, List.cons_append, List.nil_append, is2k_n, is2k_i, is2k_r, is2k_0, oc_sea ha, h5, leF (show k < n by omega) (show n < 2 ^ 31 by omega), if_false, hb, hz, ro_sea ha, ak_sea ha, true_or, al_sea ha, in_8 hk8, cl_nI (show k < 100000 by omega), ra_sea ha, oc_rock ha hk8, nI_1]
    have ih' := ih (k + 1) (by omega)
    rw [huI_s] at ih'
    by_cases c : s / 2 ^ k % 2 = 1
    · rw [if_pos c] at ih'
      simp only [c, not_true_eq_false, if_false]
      exact ih'
    · rw [if_neg c] at ih'
      simp only [c, not_false_eq_true, if_true]
      exact ih'
theorem sp_hush {s : Nat} (hs : s < 256) (ha : isSea a) (hH : hold I a t n) (hV : V t n B) : den nS_hush (0, [some (.ref a), some (.int (nI s)), none], [], (I, J)) = some (none, (huI I a s n, J)) := by
  simp only [eS_hush_0, eS_hush_1, eS_hush_3, eS_hush_4, eS_hush_7, eS_hush_10, eS_hush_11, eS_hush_12, eS_hush_13, eS_hush_14, eS_hush_15, eS_hush_16, eS_hush_19, eS_hush_20, eS_hush_23, eS_hush_24, eS_hush_25, eS_hush_26, eS_hush_29, eS_hush_32, eS_hush_35, eq_self, hr_k_some, Option.toList, List.cons_append, List.nil_append, is2k_n, is2k_i, is2k_r, is2k_0]
  exact hu_loop hs ha hH hV n 0 (by omega)
theorem sp_bitCount {x : Int32} {h : hr_H} : den nJI_bitCount (0, [some (.int x)], [], h) = some (some (.int (P_bc x)), h) := by
  simp only [eJI_bitCount_0, eJI_bitCount_1, eJI_bitCount_2, eJI_bitCount_3, eJI_bitCount_4, eJI_bitCount_7, eJI_bitCount_8, eJI_bitCount_9, eJI_bitCount_10, eJI_bitCount_11, eJI_bitCount_14, eJI_bitCount_15, eJI_bitCount_16, eJI_bitCount_17, eJI_bitCount_18, eJI_bitCount_21, eJI_bitCount_22, eJI_bitCount_23, eJI_bitCount_24, eJI_bitCount_25, eJI_bitCount_26, eJI_bitCount_27, eJI_bitCount_28, eJI_bitCount_29, eJI_bitCount_32, eJI_bitCount_33, eJI_bitCount_34, eJI_bitCount_35, eJI_bitCount_36, eJI_bitCount_38, eJI_bitCount_39, eJI_bitCount_40, eJI_bitCount_41, eJI_bitCount_42, eJI_bitCount_43, eJI_bitCount_45, eJI_bitCount_46, eJI_bitCount_47, eJI_bitCount_48, eJI_bitCount_49, eJI_bitCount_51, eJI_bitCount_52, eq_self, hr_k_some, Option.toList, List.cons_append, List.nil_append, is2k_n, is2k_i, is2k_r, is2k_0]
  rfl
/-- the set of fewest: it and 1 (0: none), and how many -/
def fwF (t : Nat → Nat) (n c : Nat) : Nat → Nat × Nat
  | 0 => (0, 9)
  | s + 1 => if popc s < (fwF t n c s).2 ∧ ¬ fiV (ftV 1) (huV t s n) n (c + 1) ≤ c then (s + 1, popc s) else fwF t n c s
theorem fwF_s {c s : Nat} : fwF t n c (s + 1) = if popc s < (fwF t n c s).2 ∧ ¬ fiV (ftV 1) (huV t s n) n (c + 1) ≤ c then (s + 1, popc s) else fwF t n c s := rfl
theorem fwF_le {c : Nat} : ∀ s, (fwF t n c s).1 ≤ s ∧ (fwF t n c s).2 ≤ 9 := by
  intro s
  induction s with
  | zero => exact ⟨Nat.le_refl _, Nat.le_refl _⟩
  | succ s ih =>
    rw [fwF_s]
    have := popc_le s
    split
    · exact ⟨Nat.le_refl _, by show popc s ≤ 9; omega⟩
    · exact ⟨by omega, ih.2⟩
theorem mil_eq {c x : Nat} (hc : c < 1000) (hx : x ≤ c + 1) : (mil c x = 1000000) = ¬ (x ≤ c) := by
  apply propext
  unfold mil
  have e6 : (1000000 : Int32) = nI 1000000 := rfl
  rw [e6]
  split
  · rw [nI_eq (by omega) (by decide)]; omega
  · constructor
    · intro _; assumption
    · intro _; rfl
theorem fw_loop {c : Nat} (hc : 1 ≤ c ∧ c ≤ 40) : ∀ (d s : Nat) (I : Nat → Nat → Int32), s + d = 2 ^ n → Cl I J t n kp u m y bt L w z num → ∃ I' x3 x4, den nX_fewest (25, [some (.ref 0), some (.int (nI c)), some (.int (bN (fwF t n c s).1)), some (.int (nI (fwF t n c s).2)), some (.int (nI s))], [], (I, J)) = den nX_fewest (93, [some (.ref 0), some (.int (nI c)), some (.int (bN (fwF t n c (2 ^ n)).1)), x3, x4], [], (I', J)) ∧ Cl I' J t n kp u m y bt L w z num ∧ off 11 I I' := by
  intro d
  induction d with
  | zero =>
    intro s I he h
    have hp := pow_le h.2.1.2.1
    have e8 : s = 2 ^ n := by omega
    subst e8
    obtain ⟨_, _, _, _, _, h5⟩ := h.fs
    refine ⟨I, some (.int (nI (fwF t n c (2 ^ n)).2)), some (.int (nI (2 ^ n))), ?_, h, off.rfl⟩
    simp only [eX_fewest_0, eX_fewest_1, eX_fewest_2, eX_fewest_4, eX_fewest_7, eX_fewest_10, eX_fewest_11, eX_fewest_12, eX_fewest_15, eX_fewest_16, eX_fewest_18, eX_fewest_19, eX_fewest_21, eX_fewest_22, eX_fewest_23, eX_fewest_25, eX_fewest_27, eX_fewest_28, eX_fewest_29, eX_fewest_32, eX_fewest_35, eX_fewest_36, eX_fewest_39, eX_fewest_41, eX_fewest_44, eX_fewest_45, eX_fewest_48, eX_fewest_51, eX_fewest_52, eX_fewest_55, eX_fewest_56, eX_fewest_59, eX_fewest_61, eX_fewest_64, eX_fewest_65, eX_fewest_68, eX_fewest_69, eX_fewest_70, eX_fewest_73, eX_fewest_75, eX_fewest_78, eX_fewest_80, eX_fewest_83, eX_fewest_84, eX_fewest_86, eX_fewest_87, eX_fewest_90, eX_fewest_94, eX_fewest_95, eX_fewest_98, eq_self, hr_k_some, Option.toList, List.cons_append, List.nil_append, is2k_n, is2k_i, is2k_r, is2k_0, oc_0, ro_00, ro_01, ro_02, ro_04, ro_05, ro_06, ro_07, oc_1, oc_11, oc_21, oc_31, oc_32, ro_16, ro_b6, ak_2, ak_12, al_2, al_12, ra_2, ra_12, i10, i01, zb_t, zb_f, not_true_eq_false, not_false_eq_true, if_true, if_false, sp_found0, sp_found1, sp_found2, sp_found3, sp_found4, sp_found5, sp_found6, true_or, h5, shl_N n (show n < 9 by have := h.2.1.2.1; omega), leT (Nat.le_refl (2 ^ n)) (show 2 ^ n < 2 ^ 31 by omega)]
  | succ d ih =>
    intro s I he h
    have hn := h.2.1.2.1
    have hp := pow_le hn
    have hs : s < 256 := by omega
    obtain ⟨_, _, _, _, _, h5⟩ := h.fs
    have hf := fwF_le (t := t) (n := n) (c := c) s
    have hpc := popc_le s
    rw [eX_fewest_25]
    simp only [eX_fewest_0, eX_fewest_1, eX_fewest_2, eX_fewest_4, eX_fewest_7, eX_fewest_10, eX_fewest_11, eX_fewest_12, eX_fewest_15, eX_fewest_16, eX_fewest_18, eX_fewest_19, eX_fewest_21, eX_fewest_22, eX_fewest_23, eX_fewest_27, eX_fewest_28, eX_fewest_29, eX_fewest_32, eX_fewest_35, eX_fewest_36, eX_fewest_39, eX_fewest_41, eX_fewest_44, eX_fewest_45, eX_fewest_48, eX_fewest_52, eX_fewest_55, eX_fewest_56, eX_fewest_59, eX_fewest_61, eX_fewest_64, eX_fewest_65, eX_fewest_68, eX_fewest_69, eX_fewest_70, eX_fewest_73, eX_fewest_75, eX_fewest_78, eX_fewest_80, eX_fewest_83, eX_fewest_84, eX_fewest_86, eX_fewest_87, eX_fewest_90, eX_fewest_94, eX_fewest_95, eX_fewest_98, eq_self, hr_k_some, Option.toList, List.cons_append, List.nil_append, is2k_n, is2k_i, is2k_r, is2k_0, oc_0, ro_00, ro_01, ro_02, ro_04, ro_05, ro_06, ro_07, oc_1, oc_11, oc_21, oc_31, oc_32, ro_16, ro_b6, ak_2, ak_12, al_2, al_12, ra_2, ra_12, i10, i01, zb_t, zb_f, not_true_eq_false, not_false_eq_true, if_true, if_false, sp_found0, sp_found1, sp_found2, sp_found3, sp_found4, sp_found5, sp_found6, true_or, h5, shl_N n (show n < 9 by omega), leF (show s < 2 ^ n by omega) (show 2 ^ n < 2 ^ 31 by omega), sp_bitCount, bc_N s hs, show (nI (popc s) < nI (fwF t n c s).2) = (popc s < (fwF t n c s).2) from propext (nI_ltI (by omega) (by omega)), nI_1]
    by_cases c1 : popc s < (fwF t n c s).2
    · have eh := sp_hush (I := bI I 11 1 n) (J := J) hs is11 (try_hold h) h.2.1
      have hH := huI_hold (s := s) (try_hold h) n (Nat.le_refl _)
      obtain ⟨I1, e1, ho1⟩ := sp_toFate (J := J) is11 (v := 1) (m := c) (Or.inl rfl) (by omega) hH (huV_V h.2.1 n (Nat.le_refl _)) (by omega)
      have e1' : den nS_watchesToFate (0, [some (.ref 11), some (.int 1), some (.int (nI c)), none], [], (huI (bI I 11 1 n) 11 s n, J)) = some (some (.int (mil c (fiV (ftV 1) (huV t s n) n (c + 1)))), (I1, J)) := e1
      have ho : off 11 I I1 := ((try_off h).trans (huI_off n hn)).trans ho1
      have hle : fiV (ftV 1) (huV t s n) n (c + 1) ≤ c + 1 := fiV_le _ _
      obtain ⟨I4, x3, x4, e4, h4, ho4⟩ := ih (s + 1) I1 (by omega) (h.t11 ho)
      refine ⟨I4, x3, x4, ?_, h4, ho.trans ho4⟩
      simp only [c1, if_true, eX_fewest_0, eX_fewest_1, eX_fewest_2, eX_fewest_4, eX_fewest_7, eX_fewest_10, eX_fewest_11, eX_fewest_12, eX_fewest_15, eX_fewest_16, eX_fewest_18, eX_fewest_19, eX_fewest_21, eX_fewest_22, eX_fewest_23, eX_fewest_27, eX_fewest_28, eX_fewest_29, eX_fewest_32, eX_fewest_35, eX_fewest_36, eX_fewest_39, eX_fewest_41, eX_fewest_44, eX_fewest_45, eX_fewest_48, eX_fewest_51, eX_fewest_52, eX_fewest_55, eX_fewest_56, eX_fewest_59, eX_fewest_61, eX_fewest_64, eX_fewest_65, eX_fewest_68, eX_fewest_69, eX_fewest_70, eX_fewest_73, eX_fewest_75, eX_fewest_78, eX_fewest_80, eX_fewest_83, eX_fewest_84, eX_fewest_86, eX_fewest_87, eX_fewest_90, eX_fewest_94, eX_fewest_95, eX_fewest_98, eq_self, hr_k_some, Option.toList, List.cons_append, List.nil_append, is2k_n, is2k_i, is2k_r, is2k_0, oc_0, ro_00, ro_01, ro_02, ro_04, ro_05, ro_06, ro_07, oc_1, oc_11, oc_21, oc_31, oc_32, ro_16, ro_b6, ak_2, ak_12, al_2, al_12, ra_2, ra_12, i10, i01, zb_t, zb_f, not_true_eq_false, not_false_eq_true, if_true, if_false, sp_found0, sp_found1, sp_found2, sp_found3, sp_found4, sp_found5, sp_found6, true_or, sp_try h, eh, e1', mil_eq (show c < 1000 by omega) hle, sp_bitCount, bc_N s hs, nI_1]
      by_cases c2 : fiV (ftV 1) (huV t s n) n (c + 1) ≤ c
      · simp only [c2, not_true_eq_false, not_false_eq_true, if_true]
        rw [fwF_s, if_neg (fun q => q.2 c2)] at e4
        exact e4
      · simp only [c2, not_true_eq_false, not_false_eq_true, if_false]
        rw [fwF_s, if_pos ⟨c1, c2⟩] at e4
        have e : bN (s + 1) = nI s := if_neg (by omega)
        rw [e] at e4
        exact e4
    · obtain ⟨I4, x3, x4, e4, h4, ho4⟩ := ih (s + 1) I (by omega) h
      refine ⟨I4, x3, x4, ?_, h4, ho4⟩
      simp only [c1, if_false]
      rw [fwF_s, if_neg (fun q => c1 q.1)] at e4
      exact e4
theorem X_fewest_ok (h : Cl I J t n kp u m y bt L w z num) {c : Nat} (hc : 1 ≤ c ∧ c ≤ 40) : XR nX_fewest [some (.ref 0), some (.int (nI c)), none, none, none] I J (bestR (fwF t n c (2 ^ n)).1) (fun I' J' => Cl I' J' t n kp u m (bestY y (fwF t n c (2 ^ n)).1) bt L w z num) := by
  have ew : decide ((1 : Int32) ≤ nI c ∧ nI c ≤ 40) = true := wi_yes (a := 1) (b := 40) hc.1 hc.2 (by decide)
  have hp := pow_le h.2.1.2.1
  obtain ⟨I4, x3, x4, e4, h4, ho4⟩ := fw_loop hc (2 ^ n) 0 I (by omega) h
  obtain ⟨I5, e5, f5, h5⟩ := best_end (I := I) (b := (fwF t n c (2 ^ n)).1) (by have := (fwF_le (t := t) (n := n) (c := c) (2 ^ n)).1; omega) h4 (offX.of11 ho4)
  refine ⟨I5, J, ?_, f5, h5⟩
  have e4' : den nX_fewest (25, [some (.ref 0), some (.int (nI c)), some (.int 1000000), some (.int 9), some (.int 0)], [], (I, J)) = den nX_fewest (93, [some (.ref 0), some (.int (nI c)), some (.int (bN (fwF t n c (2 ^ n)).1)), x3, x4], [], (I4, J)) := e4
  simp only [eX_fewest_0, eX_fewest_1, eX_fewest_2, eX_fewest_4, eX_fewest_7, eX_fewest_10, eX_fewest_11, eX_fewest_12, eX_fewest_15, eX_fewest_16, eX_fewest_18, eX_fewest_19, eX_fewest_21, eX_fewest_22, eX_fewest_23, eX_fewest_27, eX_fewest_28, eX_fewest_29, eX_fewest_32, eX_fewest_35, eX_fewest_36, eX_fewest_39, eX_fewest_41, eX_fewest_44, eX_fewest_45, eX_fewest_48, eX_fewest_51, eX_fewest_52, eX_fewest_55, eX_fewest_56, eX_fewest_59, eX_fewest_61, eX_fewest_64, eX_fewest_65, eX_fewest_68, eX_fewest_69, eX_fewest_70, eX_fewest_73, eX_fewest_75, eX_fewest_78, eX_fewest_80, eX_fewest_83, eX_fewest_84, eX_fewest_86, eX_fewest_87, eX_fewest_90, eX_fewest_94, eX_fewest_95, eX_fewest_98, eq_self, hr_k_some, Option.toList, List.cons_append, List.nil_append, is2k_n, is2k_i, is2k_r, is2k_0, oc_0, ro_00, ro_01, ro_02, ro_04, ro_05, ro_06, ro_07, oc_1, oc_11, oc_21, oc_31, oc_32, ro_16, ro_b6, ak_2, ak_12, al_2, al_12, ra_2, ra_12, i10, i01, zb_t, zb_f, not_true_eq_false, not_false_eq_true, if_true, if_false, sp_found0, sp_found1, sp_found2, sp_found3, sp_found4, sp_found5, sp_found6, true_or, sp_isWithin, ew]
  rw [e4']
  simp only [eX_fewest_0, eX_fewest_1, eX_fewest_2, eX_fewest_4, eX_fewest_7, eX_fewest_10, eX_fewest_11, eX_fewest_12, eX_fewest_15, eX_fewest_16, eX_fewest_18, eX_fewest_19, eX_fewest_21, eX_fewest_22, eX_fewest_23, eX_fewest_25, eX_fewest_27, eX_fewest_28, eX_fewest_29, eX_fewest_32, eX_fewest_35, eX_fewest_36, eX_fewest_39, eX_fewest_41, eX_fewest_44, eX_fewest_45, eX_fewest_48, eX_fewest_51, eX_fewest_52, eX_fewest_55, eX_fewest_56, eX_fewest_59, eX_fewest_61, eX_fewest_64, eX_fewest_65, eX_fewest_68, eX_fewest_69, eX_fewest_70, eX_fewest_73, eX_fewest_75, eX_fewest_78, eX_fewest_80, eX_fewest_83, eX_fewest_84, eX_fewest_86, eX_fewest_87, eX_fewest_90, eX_fewest_93, eX_fewest_94, eX_fewest_95, eX_fewest_98, eq_self, hr_k_some, Option.toList, List.cons_append, List.nil_append, is2k_n, is2k_i, is2k_r, is2k_0, oc_0, ro_00, ro_01, ro_02, ro_04, ro_05, ro_06, ro_07, oc_1, oc_11, oc_21, oc_31, oc_32, ro_16, ro_b6, ak_2, ak_12, al_2, al_12, ra_2, ra_12, i10, i01, zb_t, zb_f, not_true_eq_false, not_false_eq_true, if_true, if_false, sp_found0, sp_found1, sp_found2, sp_found3, sp_found4, sp_found5, sp_found6, true_or, e5]
  unfold bestR
  split <;> simp only [eX_fewest_0, eX_fewest_1, eX_fewest_2, eX_fewest_4, eX_fewest_7, eX_fewest_10, eX_fewest_11, eX_fewest_12, eX_fewest_15, eX_fewest_16, eX_fewest_18, eX_fewest_19, eX_fewest_21, eX_fewest_22, eX_fewest_23, eX_fewest_25, eX_fewest_27, eX_fewest_28, eX_fewest_29, eX_fewest_32, eX_fewest_35, eX_fewest_36, eX_fewest_39, eX_fewest_41, eX_fewest_44, eX_fewest_45, eX_fewest_48, eX_fewest_51, eX_fewest_52, eX_fewest_55, eX_fewest_56, eX_fewest_59, eX_fewest_61, eX_fewest_64, eX_fewest_65, eX_fewest_68, eX_fewest_69, eX_fewest_70, eX_fewest_73, eX_fewest_75, eX_fewest_78, eX_fewest_80, eX_fewest_83, eX_fewest_84, eX_fewest_86, eX_fewest_87, eX_fewest_90, eX_fewest_93, eX_fewest_94, eX_fewest_95, eX_fewest_98]
theorem X_fewest_no (h : Cl I J t n kp u m y bt L w z num) {a1 : Int32} (hb : ¬ ∃ c, 1 ≤ c ∧ c ≤ 40 ∧ a1 = nI c) : XR nX_fewest [some (.ref 0), some (.int a1), none, none, none] I J (.int (fnd 0)) (fun I' J' => Cl I' J' t n kp u m (inc y 0) bt L w z num) := by
  refine XR.fnd (by decide) h ?_
  have ew : decide ((1 : Int32) ≤ a1 ∧ a1 ≤ 40) = false := wi_no1 (a := 1) (b := 40) (by decide) (by decide) hb
  simp only [eX_fewest_0, eX_fewest_1, eX_fewest_2, eX_fewest_4, eX_fewest_7, eX_fewest_10, eX_fewest_11, eX_fewest_12, eX_fewest_15, eX_fewest_16, eX_fewest_18, eX_fewest_19, eX_fewest_21, eX_fewest_22, eX_fewest_23, eX_fewest_25, eX_fewest_27, eX_fewest_28, eX_fewest_29, eX_fewest_32, eX_fewest_35, eX_fewest_36, eX_fewest_39, eX_fewest_41, eX_fewest_44, eX_fewest_45, eX_fewest_48, eX_fewest_51, eX_fewest_52, eX_fewest_55, eX_fewest_56, eX_fewest_59, eX_fewest_61, eX_fewest_64, eX_fewest_65, eX_fewest_68, eX_fewest_69, eX_fewest_70, eX_fewest_73, eX_fewest_75, eX_fewest_78, eX_fewest_80, eX_fewest_83, eX_fewest_84, eX_fewest_86, eX_fewest_87, eX_fewest_90, eX_fewest_93, eX_fewest_94, eX_fewest_95, eX_fewest_98, eq_self, hr_k_some, Option.toList, List.cons_append, List.nil_append, is2k_n, is2k_i, is2k_r, is2k_0, oc_0, ro_00, ro_01, ro_02, ro_04, ro_05, ro_06, ro_07, oc_1, oc_11, oc_21, oc_31, oc_32, ro_16, ro_b6, ak_2, ak_12, al_2, al_12, ra_2, ra_12, i10, i01, zb_t, zb_f, not_true_eq_false, not_false_eq_true, if_true, if_false, sp_found0, sp_found1, sp_found2, sp_found3, sp_found4, sp_found5, sp_found6, true_or, sp_isWithin, ew]
/-! ===== images ===== -/
theorem oc_z : hr_oc 0 = 5 := oc_0
theorem Cl.parts (h : Cl I J t n kp u m y bt L w z num) {t2 : Nat → Nat} {n2 kp2 : Nat} {u2 : Nat → Nat} {m2 : Nat} (ho : ∀ b, 31 ≤ b → b < 44 → ∀ j, I' b j = I b j) (h1 : hold I' 1 t2 n2) (h2 : V t2 n2 99999) (h3 : I' 0 3 = nI kp2) (h4 : kp2 < 2) (h5 : kp2 = 1 → hold I' 21 u2 m2 ∧ V u2 m2 99999) : Cl I' J t2 n2 kp2 u2 m2 y bt L w z num := by
  obtain ⟨g1, g2, g3, g6, ⟨g7, g8, g9⟩, g10⟩ := h
  refine ⟨h1, h2, ⟨h3, h4, h5⟩, fun j hj => by rw [ho 43 (by omega) (by omega)]; exact g6 j hj, ⟨by rw [ho 32 (by omega) (by omega)]; exact g7, g8, fun j hj => ⟨(g9 j hj).1, by rw [ho 33 (by omega) (by omega)]; exact (g9 j hj).2⟩⟩, fun s hs => ?_⟩
  obtain ⟨a1, a2, a3, a4, a5⟩ := g10 s hs
  exact ⟨by rw [ho _ (by omega) (by omega)]; exact a1, a2, by rw [ho _ (by omega) (by omega)]; exact a3, a4, a5⟩
theorem X_image_all (h : Cl I J t n kp u m y bt L w z num) : XR nX_image [some (.ref 0)] I J (.int 1) (fun I' J' => Cl I' J' t n 1 t n y bt L w z num) := by
  have hn := h.2.1.2.1
  have eb := sp_become (I := I) (J := J) (b := 21) (c := 1) is21 is1 (by decide) hn h.h5
  have ho := bI_off (I := I) (b := 21) (c := 1) n hn
  have hh : hold (bI I 21 1 n) 21 t n := bI_hold h.1
  refine ⟨up2 (bI I 21 1 n) 0 3 1, J, ?_, fun b hb j => ⟨by rw [up2_na (by omega)]; exact ho b (by omega) j, rfl⟩, ?_⟩
  · simp only [eX_image_0, eX_image_1, eX_image_4, eX_image_5, eX_image_8, eX_image_11, eX_image_12, eX_image_13, eX_image_16, eX_image_17, eq_self, hr_k_some, Option.toList, List.cons_append, List.nil_append, is2k_n, is2k_i, is2k_r, is2k_0, oc_0, ro_00, ro_01, ro_02, ro_04, ro_05, ro_06, ro_07, oc_1, oc_11, oc_21, oc_31, oc_32, ro_16, ro_b6, ak_2, ak_12, al_2, al_12, ra_2, ra_12, i10, i01, zb_t, zb_f, not_true_eq_false, not_false_eq_true, if_true, if_false, sp_found0, sp_found1, sp_found2, sp_found3, sp_found4, sp_found5, sp_found6, true_or, eb, or_true]
  · refine h.parts (fun b h1 h2 j => by rw [up2_na (by omega)]; exact ho b (by omega) j) ?_ h.2.1 up2_eq (by decide) (fun _ => ⟨?_, h.2.1⟩)
    · exact h.1.congr (fun b h1 h2 j => by rw [up2_na (by omega)]; exact ho b (by omega) j) hn
    · exact hh.congr (fun b h1 h2 j => up2_na (by omega)) hn
theorem X_undo_ok (h : Cl I J t n kp u m y bt L w z num) (hk : kp = 1) : XR nX_undo [some (.ref 0)] I J (.int (nI m)) (fun I' J' => Cl I' J' u m kp u m y bt L w z num) := by
  obtain ⟨g1, g2⟩ := h.2.2.1.2.2 hk
  have hm := g2.2.1
  have h5 : I 21 5 = nI m := by rw [g1.1.2.2.2.2.2, g2.1]
  have eb := sp_become (I := I) (J := J) (b := 1) (c := 21) is1 is21 (by decide) hm h5
  have ho := bI_off (I := I) (b := 1) (c := 21) m hm
  have hh : hold (bI I 1 21 m) 1 u m := bI_hold g1
  have e0 : I 0 3 = nI 1 := by rw [h.2.2.1.1, hk]
  have e5 : bI I 1 21 m 1 5 = nI m := (bI_row0 m 5 (by decide)).trans h5
  have e1 : (nI 1 = (0 : Int32)) = False := i10
  refine ⟨bI I 1 21 m, J, ?_, (offX.of1 ho).fr, h.move (offX.of1 ho) hh g2⟩
  simp only [eX_undo_0, eX_undo_1, eX_undo_4, eX_undo_7, eX_undo_8, eX_undo_9, eX_undo_12, eX_undo_13, eX_undo_14, eX_undo_17, eX_undo_18, eX_undo_21, eX_undo_24, eX_undo_25, eX_undo_28, eX_undo_31, eq_self, hr_k_some, Option.toList, List.cons_append, List.nil_append, is2k_n, is2k_i, is2k_r, is2k_0, oc_0, ro_00, ro_01, ro_02, ro_04, ro_05, ro_06, ro_07, oc_1, oc_11, oc_21, oc_31, oc_32, ro_16, ro_b6, ak_2, ak_12, al_2, al_12, ra_2, ra_12, i10, i01, zb_t, zb_f, not_true_eq_false, not_false_eq_true, if_true, if_false, sp_found0, sp_found1, sp_found2, sp_found3, sp_found4, sp_found5, sp_found6, true_or, e0, e1, eb, e5]
theorem X_undo_no (h : Cl I J t n kp u m y bt L w z num) (hk : kp = 0) : XR nX_undo [some (.ref 0)] I J (.int (fnd 3)) (fun I' J' => Cl I' J' t n kp u m (inc y 3) bt L w z num) := by
  refine XR.fnd (by decide) h ?_
  have e0 : I 0 3 = nI 0 := by rw [h.2.2.1.1, hk]
  have e1 : (nI 0 = (0 : Int32)) = True := i01
  simp only [eX_undo_0, eX_undo_1, eX_undo_4, eX_undo_7, eX_undo_8, eX_undo_9, eX_undo_12, eX_undo_13, eX_undo_14, eX_undo_17, eX_undo_18, eX_undo_21, eX_undo_24, eX_undo_25, eX_undo_28, eX_undo_31, eq_self, hr_k_some, Option.toList, List.cons_append, List.nil_append, is2k_n, is2k_i, is2k_r, is2k_0, oc_0, ro_00, ro_01, ro_02, ro_04, ro_05, ro_06, ro_07, oc_1, oc_11, oc_21, oc_31, oc_32, ro_16, ro_b6, ak_2, ak_12, al_2, al_12, ra_2, ra_12, i10, i01, zb_t, zb_f, not_true_eq_false, not_false_eq_true, if_true, if_false, sp_found0, sp_found1, sp_found2, sp_found3, sp_found4, sp_found5, sp_found6, true_or, e0, e1]
theorem X_tear_all (h : Cl I J t n kp u m y bt L w z num) : XR nX_tear [some (.ref 0), none] I J (.int (nI kp)) (fun I' J' => Cl I' J' t n 0 u m y bt L w z num) := by
  have e0 : I 0 3 = nI kp := h.2.2.1.1
  have hk := h.2.2.1.2.1
  refine ⟨up2 I 0 3 0, J, ?_, fun b hb j => ⟨up2_na (by omega), rfl⟩, h.parts (fun b h1 h2 j => up2_na (by omega)) (h.1.congr (fun b h1 h2 j => up2_na (by omega)) h.2.1.2.1) h.2.1 up2_eq (by decide) (fun q => by cases q)⟩
  rcases (show kp = 0 ∨ kp = 1 by omega) with rfl | rfl
  · have e1 : (nI 0 = (0 : Int32)) = True := i01
    simp only [eX_tear_0, eX_tear_1, eX_tear_4, eX_tear_7, eX_tear_8, eX_tear_11, eX_tear_12, eX_tear_13, eX_tear_14, eX_tear_15, eX_tear_18, eX_tear_19, eq_self, hr_k_some, Option.toList, List.cons_append, List.nil_append, is2k_n, is2k_i, is2k_r, is2k_0, oc_0, ro_00, ro_01, ro_02, ro_04, ro_05, ro_06, ro_07, oc_1, oc_11, oc_21, oc_31, oc_32, ro_16, ro_b6, ak_2, ak_12, al_2, al_12, ra_2, ra_12, i10, i01, zb_t, zb_f, not_true_eq_false, not_false_eq_true, if_true, if_false, sp_found0, sp_found1, sp_found2, sp_found3, sp_found4, sp_found5, sp_found6, true_or, e0, e1, show ((0 : Int32) = 0 ∨ (0 : Int32) = 1) = True from eq_true (by decide)]
    rfl
  · have e1 : (nI 1 = (0 : Int32)) = False := i10
    simp only [eX_tear_0, eX_tear_1, eX_tear_4, eX_tear_7, eX_tear_8, eX_tear_11, eX_tear_12, eX_tear_13, eX_tear_14, eX_tear_15, eX_tear_18, eX_tear_19, eq_self, hr_k_some, Option.toList, List.cons_append, List.nil_append, is2k_n, is2k_i, is2k_r, is2k_0, oc_0, ro_00, ro_01, ro_02, ro_04, ro_05, ro_06, ro_07, oc_1, oc_11, oc_21, oc_31, oc_32, ro_16, ro_b6, ak_2, ak_12, al_2, al_12, ra_2, ra_12, i10, i01, zb_t, zb_f, not_true_eq_false, not_false_eq_true, if_true, if_false, sp_found0, sp_found1, sp_found2, sp_found3, sp_found4, sp_found5, sp_found6, true_or, e0, e1, show ((0 : Int32) = 0 ∨ (0 : Int32) = 1) = True from eq_true (by decide)]
    rfl
def cntV (t : Nat → Nat) (n L q : Nat) : Nat := if q = 0 then n else if q = 1 then L else if q = 2 then suV t 4 n else suV t 2 n
theorem X_count_ok (h : Cl I J t n kp u m y bt L w z num) {q : Nat} (hq : q < 4) : XR nX_count [some (.ref 0), some (.int (nI q))] I J (.int (nI (cntV t n L q))) (fun I' J' => Cl I' J' t n kp u m y bt L w z num) := by
  refine XR.rd h ?_
  have h5 := h.h5
  have hL := h.2.2.2.2.1.1
  have e4 := sp_silentRocks (J := J) is1 h.1 h.2.1
  have e2 := sp_allHorns (J := J) is1 h.1 h.2.1
  unfold cntV
  rcases (show q = 0 ∨ q = 1 ∨ q = 2 ∨ q = 3 by omega) with rfl | rfl | rfl | rfl
  · simp (decide := true) only [eX_count_0, eX_count_1, eX_count_32, eX_count_33, eX_count_36, eX_count_39, eX_count_40, eX_count_41, eX_count_44, eX_count_47, eX_count_48, eX_count_49, eX_count_52, eX_count_55, eX_count_56, eX_count_57, eX_count_60, eX_count_63, eX_count_64, eX_count_65, eX_count_66, eX_count_69, eq_self, hr_k_some, Option.toList, List.cons_append, List.nil_append, is2k_n, is2k_i, is2k_r, is2k_0, oc_0, ro_00, ro_01, ro_02, ro_04, ro_05, ro_06, ro_07, oc_1, oc_11, oc_21, oc_31, oc_32, ro_16, ro_b6, ak_2, ak_12, al_2, al_12, ra_2, ra_12, i10, i01, zb_t, zb_f, not_true_eq_false, not_false_eq_true, if_true, if_false, sp_found0, sp_found1, sp_found2, sp_found3, sp_found4, sp_found5, sp_found6, true_or, h5]
  · simp (decide := true) only [eX_count_0, eX_count_1, eX_count_32, eX_count_33, eX_count_36, eX_count_39, eX_count_40, eX_count_41, eX_count_44, eX_count_47, eX_count_48, eX_count_49, eX_count_52, eX_count_55, eX_count_56, eX_count_57, eX_count_60, eX_count_63, eX_count_64, eX_count_65, eX_count_66, eX_count_69, eq_self, hr_k_some, Option.toList, List.cons_append, List.nil_append, is2k_n, is2k_i, is2k_r, is2k_0, oc_0, ro_00, ro_01, ro_02, ro_04, ro_05, ro_06, ro_07, oc_1, oc_11, oc_21, oc_31, oc_32, ro_16, ro_b6, ak_2, ak_12, al_2, al_12, ra_2, ra_12, i10, i01, zb_t, zb_f, not_true_eq_false, not_false_eq_true, if_true, if_false, sp_found0, sp_found1, sp_found2, sp_found3, sp_found4, sp_found5, sp_found6, true_or, hL]
  · simp (decide := true) only [eX_count_0, eX_count_1, eX_count_32, eX_count_33, eX_count_36, eX_count_39, eX_count_40, eX_count_41, eX_count_44, eX_count_47, eX_count_48, eX_count_49, eX_count_52, eX_count_55, eX_count_56, eX_count_57, eX_count_60, eX_count_63, eX_count_64, eX_count_65, eX_count_66, eX_count_69, eq_self, hr_k_some, Option.toList, List.cons_append, List.nil_append, is2k_n, is2k_i, is2k_r, is2k_0, oc_0, ro_00, ro_01, ro_02, ro_04, ro_05, ro_06, ro_07, oc_1, oc_11, oc_21, oc_31, oc_32, ro_16, ro_b6, ak_2, ak_12, al_2, al_12, ra_2, ra_12, i10, i01, zb_t, zb_f, not_true_eq_false, not_false_eq_true, if_true, if_false, sp_found0, sp_found1, sp_found2, sp_found3, sp_found4, sp_found5, sp_found6, true_or, e4]
  · simp (decide := true) only [eX_count_0, eX_count_1, eX_count_32, eX_count_33, eX_count_36, eX_count_39, eX_count_40, eX_count_41, eX_count_44, eX_count_47, eX_count_48, eX_count_49, eX_count_52, eX_count_55, eX_count_56, eX_count_57, eX_count_60, eX_count_63, eX_count_64, eX_count_65, eX_count_66, eX_count_69, eq_self, hr_k_some, Option.toList, List.cons_append, List.nil_append, is2k_n, is2k_i, is2k_r, is2k_0, oc_0, ro_00, ro_01, ro_02, ro_04, ro_05, ro_06, ro_07, oc_1, oc_11, oc_21, oc_31, oc_32, ro_16, ro_b6, ak_2, ak_12, al_2, al_12, ra_2, ra_12, i10, i01, zb_t, zb_f, not_true_eq_false, not_false_eq_true, if_true, if_false, sp_found0, sp_found1, sp_found2, sp_found3, sp_found4, sp_found5, sp_found6, true_or, e2]
theorem X_count_no (h : Cl I J t n kp u m y bt L w z num) {a1 : Int32} (hb : ¬ rng a1 4) : XR nX_count [some (.ref 0), some (.int a1)] I J (.int (fnd 0)) (fun I' J' => Cl I' J' t n kp u m (inc y 0) bt L w z num) := by
  refine XR.fnd (by decide) h ?_
  have e0 : (a1 = 0) = False := nlit hb (k := 0) (by decide)
  have e1 : (a1 = 1) = False := nlit hb (k := 1) (by decide)
  have e2 : (a1 = 2) = False := nlit hb (k := 2) (by decide)
  have e3 : (a1 = 3) = False := nlit hb (k := 3) (by decide)
  simp only [eX_count_0, eX_count_1, eX_count_32, eX_count_33, eX_count_36, eX_count_39, eX_count_40, eX_count_41, eX_count_44, eX_count_47, eX_count_48, eX_count_49, eX_count_52, eX_count_55, eX_count_56, eX_count_57, eX_count_60, eX_count_63, eX_count_64, eX_count_65, eX_count_66, eX_count_69, eq_self, hr_k_some, Option.toList, List.cons_append, List.nil_append, is2k_n, is2k_i, is2k_r, is2k_0, oc_0, ro_00, ro_01, ro_02, ro_04, ro_05, ro_06, ro_07, oc_1, oc_11, oc_21, oc_31, oc_32, ro_16, ro_b6, ak_2, ak_12, al_2, al_12, ra_2, ra_12, i10, i01, zb_t, zb_f, not_true_eq_false, not_false_eq_true, if_true, if_false, sp_found0, sp_found1, sp_found2, sp_found3, sp_found4, sp_found5, sp_found6, true_or, e0, e1, e2, e3]
/-! status -/
def smY (y : Nat → Int32) : Nat → Int32
  | 0 => 0
  | k + 1 => smY y k + y k
theorem sm_loop (hy : ∀ j, j < 7 → I 43 j = y j) {x : Int32} : ∀ (d k : Nat), k + d = 7 → den nX_status (9, [some (.ref 0), some (.int x), some (.int (smY y k)), some (.int (nI k))], [], (I, J)) = some (some (.int (smY y 7)), (I, J)) := by
  intro d
  induction d with
  | zero =>
    intro k hk
    have e7 : k = 7 := by omega
    subst e7
    have hc : ((7 : Int32) ≤ nI 7) = True := eq_true (by decide)
    simp only [eX_status_0, eX_status_1, eX_status_2, eX_status_5, eX_status_6, eX_status_7, eX_status_8, eX_status_9, eX_status_10, eX_status_12, eX_status_15, eX_status_16, eX_status_17, eX_status_20, eX_status_21, eX_status_22, eX_status_23, eX_status_24, eX_status_27, eX_status_30, eX_status_31, eX_status_32, eX_status_33, eX_status_34, eX_status_36, eX_status_39, eX_status_42, eX_status_43, eX_status_46, eX_status_47, eX_status_48, eX_status_51, eX_status_52, eX_status_53, eX_status_56, eq_self, hr_k_some, Option.toList, List.cons_append, List.nil_append, is2k_n, is2k_i, is2k_r, is2k_0, oc_0, ro_00, ro_01, ro_02, ro_04, ro_05, ro_06, ro_07, oc_1, oc_11, oc_21, oc_31, oc_32, ro_16, ro_b6, ak_2, ak_12, al_2, al_12, ra_2, ra_12, i10, i01, zb_t, zb_f, not_true_eq_false, not_false_eq_true, if_true, if_false, sp_found0, sp_found1, sp_found2, sp_found3, sp_found4, sp_found5, sp_found6, true_or, hc]
  | succ d ih =>
    intro k hk
    have hk7 : k < 7 := by omega
    have hc : ((7 : Int32) ≤ nI k) = False := leF (a := 7) (b := k) hk7 (by decide)
    rw [eX_status_9]
    simp only [eX_status_0, eX_status_1, eX_status_2, eX_status_5, eX_status_6, eX_status_7, eX_status_8, eX_status_10, eX_status_12, eX_status_15, eX_status_16, eX_status_17, eX_status_20, eX_status_21, eX_status_22, eX_status_23, eX_status_24, eX_status_27, eX_status_30, eX_status_31, eX_status_32, eX_status_33, eX_status_34, eX_status_36, eX_status_39, eX_status_42, eX_status_43, eX_status_46, eX_status_47, eX_status_48, eX_status_51, eX_status_52, eX_status_53, eX_status_56, eq_self, hr_k_some, Option.toList, List.cons_append, List.nil_append, is2k_n, is2k_i, is2k_r, is2k_0, oc_0, ro_00, ro_01, ro_02, ro_04, ro_05, ro_06, ro_07, oc_1, oc_11, oc_21, oc_31, oc_32, ro_16, ro_b6, ak_2, ak_12, al_2, al_12, ra_2, ra_12, i10, i01, zb_t, zb_f, not_true_eq_false, not_false_eq_true, if_true, if_false, sp_found0, sp_found1, sp_found2, sp_found3, sp_found4, sp_found5, sp_found6, true_or, hc, ak_43, al_43, in_7 hk7, ai_lt (show 43 < 60 by decide), cl_nI (show k < 100000 by omega), hy k hk7, nI_1]
    exact ih (k + 1) (by omega)
theorem X_status_all (h : Cl I J t n kp u m y bt L w z num) : XR nX_status [some (.ref 0), some (.int (-1)), none, none] I J (.int (smY y 7)) (fun I' J' => Cl I' J' t n kp u m y bt L w z num) := by
  refine XR.rd h ?_
  have := sm_loop (J := J) (x := -1) h.2.2.2.1 7 0 (by decide)
  simp only [eX_status_0, eX_status_1, eX_status_2, eX_status_5, eX_status_6, eX_status_7, eX_status_8, eX_status_10, eX_status_12, eX_status_15, eX_status_16, eX_status_17, eX_status_20, eX_status_21, eX_status_22, eX_status_23, eX_status_24, eX_status_27, eX_status_30, eX_status_31, eX_status_32, eX_status_33, eX_status_34, eX_status_36, eX_status_39, eX_status_42, eX_status_43, eX_status_46, eX_status_47, eX_status_48, eX_status_51, eX_status_52, eX_status_53, eX_status_56, eq_self, hr_k_some, Option.toList, List.cons_append, List.nil_append, is2k_n, is2k_i, is2k_r, is2k_0, oc_0, ro_00, ro_01, ro_02, ro_04, ro_05, ro_06, ro_07, oc_1, oc_11, oc_21, oc_31, oc_32, ro_16, ro_b6, ak_2, ak_12, al_2, al_12, ra_2, ra_12, i10, i01, zb_t, zb_f, not_true_eq_false, not_false_eq_true, if_true, if_false, sp_found0, sp_found1, sp_found2, sp_found3, sp_found4, sp_found5, sp_found6, true_or]
  exact this
theorem X_status_ok (h : Cl I J t n kp u m y bt L w z num) {k : Nat} (hk : k < 7) : XR nX_status [some (.ref 0), some (.int (nI k)), none, none] I J (.int (y k)) (fun I' J' => Cl I' J' t n kp u m y bt L w z num) := by
  refine XR.rd h ?_
  have e1 : (nI k = (-1 : Int32)) = False := by
    apply eq_false
    have : ∀ k, k < 7 → ¬ nI k = (-1 : Int32) := by decide
    exact this k hk
  have ew : decide ((0 : Int32) ≤ nI k ∧ nI k ≤ 6) = true := wi_yes (a := 0) (b := 6) (by omega) (by omega) (by decide)
  simp only [eX_status_0, eX_status_1, eX_status_2, eX_status_5, eX_status_6, eX_status_7, eX_status_8, eX_status_10, eX_status_12, eX_status_15, eX_status_16, eX_status_17, eX_status_20, eX_status_21, eX_status_22, eX_status_23, eX_status_24, eX_status_27, eX_status_30, eX_status_31, eX_status_32, eX_status_33, eX_status_34, eX_status_36, eX_status_39, eX_status_42, eX_status_43, eX_status_46, eX_status_47, eX_status_48, eX_status_51, eX_status_52, eX_status_53, eX_status_56, eq_self, hr_k_some, Option.toList, List.cons_append, List.nil_append, is2k_n, is2k_i, is2k_r, is2k_0, oc_0, ro_00, ro_01, ro_02, ro_04, ro_05, ro_06, ro_07, oc_1, oc_11, oc_21, oc_31, oc_32, ro_16, ro_b6, ak_2, ak_12, al_2, al_12, ra_2, ra_12, i10, i01, zb_t, zb_f, not_true_eq_false, not_false_eq_true, if_true, if_false, sp_found0, sp_found1, sp_found2, sp_found3, sp_found4, sp_found5, sp_found6, true_or, e1, sp_isWithin, ew, ak_43, al_43, in_7 hk, ai_lt (show 43 < 60 by decide), cl_nI (show k < 100000 by omega), h.2.2.2.1 k hk]
theorem X_status_no (h : Cl I J t n kp u m y bt L w z num) {a1 : Int32} (h1 : ¬ a1 = -1) (hb : ¬ rng a1 7) : XR nX_status [some (.ref 0), some (.int a1), none, none] I J (.int (fnd 0)) (fun I' J' => Cl I' J' t n kp u m (inc y 0) bt L w z num) := by
  refine XR.fnd (by decide) h ?_
  have ew : decide ((0 : Int32) ≤ a1 ∧ a1 ≤ 6) = false := wi_no0 (b := 6) (by decide) hb
  simp only [eX_status_0, eX_status_1, eX_status_2, eX_status_5, eX_status_6, eX_status_7, eX_status_8, eX_status_10, eX_status_12, eX_status_15, eX_status_16, eX_status_17, eX_status_20, eX_status_21, eX_status_22, eX_status_23, eX_status_24, eX_status_27, eX_status_30, eX_status_31, eX_status_32, eX_status_33, eX_status_34, eX_status_36, eX_status_39, eX_status_42, eX_status_43, eX_status_46, eX_status_47, eX_status_48, eX_status_51, eX_status_52, eX_status_53, eX_status_56, eq_self, hr_k_some, Option.toList, List.cons_append, List.nil_append, is2k_n, is2k_i, is2k_r, is2k_0, oc_0, ro_00, ro_01, ro_02, ro_04, ro_05, ro_06, ro_07, oc_1, oc_11, oc_21, oc_31, oc_32, ro_16, ro_b6, ak_2, ak_12, al_2, al_12, ra_2, ra_12, i10, i01, zb_t, zb_f, not_true_eq_false, not_false_eq_true, if_true, if_false, sp_found0, sp_found1, sp_found2, sp_found3, sp_found4, sp_found5, sp_found6, true_or, h1, sp_isWithin, ew]
end
