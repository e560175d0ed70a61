/-! ===== the tape is fed ===== -/
def fb (x : Int32) (i : Nat) : Nat := (x >>> ((8 * nI i) &&& 31)).toBitVec.toNat % 256
theorem fb_and (x : Int32) (i : Nat) : (x >>> ((8 * nI i) &&& 31)) &&& 255 = nI (fb x i) := pk_and _ 8 (by decide)
theorem byte_low (x : Int32) : (x &&& 255).toInt8 = x.toInt8 := by
  apply Int8.toBitVec_inj.1
  apply BitVec.eq_of_getLsbD_eq
  intro i hi
  have h2 : (255 : Int32).toBitVec.getLsbD i = true := by
    have : ∀ j : Fin 8, (255 : Int32).toBitVec.getLsbD j.val = true := by decide +kernel
    exact this ⟨i, hi⟩
  have h4 : (x &&& 255).toBitVec.getLsbD i = x.toBitVec.getLsbD i := by
    show (x.toBitVec &&& (255 : Int32).toBitVec).getLsbD i = _
    rw [BitVec.getLsbD_and, h2, Bool.and_true]
  have h3 : i < 32 := by omega
  show (((x &&& 255).toBitVec).signExtend 8).getLsbD i = (x.toBitVec.signExtend 8).getLsbD i
  rw [BitVec.getLsbD_signExtend, BitVec.getLsbD_signExtend, if_pos h3, if_pos h3, h4]
theorem fb_sbt (x : Int32) (i : Nat) : (x >>> ((8 * nI i) &&& 31)).toInt8.toInt32 = sbt (fb x i) := by
  unfold sbt
  rw [← fb_and, byte_low]
theorem sbt_sbt (b : Nat) : (sbt b).toInt8.toInt32 = sbt b := by unfold sbt; simp
theorem fb_lt (x : Int32) (i : Nat) : fb x i < 256 := Nat.mod_lt _ (by decide)
/-- the bytes after c more -/
def fdB (x : Int32) : Nat → (Nat → Nat) → Nat → (Nat → Nat)
  | 0, bt, _ => bt
  | c + 1, bt, L => fdB x c (upV bt L (fb x c)) (L + 1)
/-- a counter that goes down to -1 -/
def dnN (c : Nat) : Int32 := nI c - 1
theorem dnN_s (k : Nat) : dnN (k + 1) = nI k := pk_sub (a := k + 1) (b := 1) (by omega)
theorem dnN_d (k : Nat) : nI k + (-1) = dnN k := by unfold dnN; rw [Int32.sub_eq_add_neg]
theorem dnN_0 : (dnN 0 < 0) = True := eq_true (by decide)
def Tp (I : Nat → Nat → Int32) (bt : Nat → Nat) (L : Nat) : Prop := I 32 1 = nI L ∧ L ≤ 120 ∧ ∀ j, j < L → bt j < 256 ∧ I 33 j = sbt (bt j)
theorem oc_32' : hr_oc 32 = 4 := oc_32
theorem in_120 {k : Nat} (h : k < 120) : (hr_in (nI k) 120 = true) = True := eq_true (in_nI h (by decide))
section
variable {I I' : Nat → Nat → Int32} {J J' : Nat → Nat → Int64} {a : Nat} {t t' : Nat → Nat} {n n' kp B : Nat} {u : Nat → Nat} {m : Nat} {y : Nat → Int32} {bt : Nat → Nat} {L : Nat} {w z : Nat → Nat} {num : Nat → Nat → Int64}
theorem ap_loop {x : Int32} {q : Int32} : ∀ (c L : Nat) (I : Nat → Nat → Int32) (bt : Nat → Nat), L + c ≤ 120 → Tp I bt L → ∃ I', den nT_append (4, [some (.ref 32), some (.int x), some (.int q), some (.int (dnN c))], [], (I, J)) = some (none, (I', J)) ∧ Tp I' (fdB x c bt L) (L + c) ∧ ∀ b, b ≠ 32 → b ≠ 33 → ∀ j, I' b j = I b j := by
  intro c
  induction c with
  | zero =>
    intro L I bt hc h
    refine ⟨I, ?_, h, fun _ _ _ _ => rfl⟩
    simp only [eT_append_0, eT_append_1, eT_append_2, eT_append_3, eT_append_4, eT_append_5, eT_append_8, eT_append_9, eT_append_12, eT_append_14, eT_append_17, eT_append_18, eT_append_21, eT_append_22, eT_append_25, eT_append_26, eT_append_28, eT_append_29, eT_append_30, eT_append_31, eT_append_32, eT_append_33, eT_append_34, eT_append_35, eT_append_38, eT_append_39, eT_append_40, eT_append_43, eT_append_46, eT_append_49, eq_self, hr_k_some, Option.toList, List.cons_append, List.nil_append, is2k_n, is2k_i, is2k_r, is2k_0, oc_0, ro_00, ro_01, ro_02, ro_04, ro_05, ro_06, ro_07, oc_1, oc_11, oc_21, oc_31, oc_32, ro_16, ro_b6, ak_2, ak_12, al_2, al_12, ra_2, ra_12, i10, i01, zb_t, zb_f, not_true_eq_false, not_false_eq_true, if_true, if_false, sp_found0, sp_found1, sp_found2, sp_found3, sp_found4, sp_found5, sp_found6, true_or, dnN_0]
  | succ c ih =>
    intro L I bt hc h
    obtain ⟨h1, h2, h3⟩ := h
    have hL : L < 120 := by omega
    have e1 : ((120 : Int32) ≤ nI L) = False := leF (a := 120) (b := L) hL (by decide)
    have ht : Tp (up2 (up2 I 33 L (sbt (fb x c))) 32 1 (nI (L + 1))) (upV bt L (fb x c)) (L + 1) := by
      refine ⟨up2_eq, by omega, fun j hj => ?_⟩
      rw [up2_na (by decide)]
      by_cases e : j = L
      · subst e
        rw [up2_eq, upV_same]
        exact ⟨fb_lt _ _, rfl⟩
      · rw [up2_nk e, upV_ne e]
        exact h3 j (by omega)
    obtain ⟨I', e', h', o'⟩ := ih (L + 1) _ _ (by omega) ht
    refine ⟨I', ?_, ?_, fun b hb hb' j => ?_⟩
    · rw [eT_append_4]
      have hq : ∀ k, (up2 I 33 L k) 32 1 = nI L := fun k => (up2_na (by decide)).trans h1
      simp only [eT_append_0, eT_append_1, eT_append_2, eT_append_3, eT_append_5, eT_append_8, eT_append_9, eT_append_12, eT_append_14, eT_append_17, eT_append_18, eT_append_21, eT_append_22, eT_append_25, eT_append_26, eT_append_28, eT_append_29, eT_append_30, eT_append_31, eT_append_32, eT_append_33, eT_append_34, eT_append_35, eT_append_38, eT_append_39, eT_append_40, eT_append_43, eT_append_46, eT_append_49, eq_self, hr_k_some, Option.toList, List.cons_append, List.nil_append, is2k_n, is2k_i, is2k_r, is2k_0, oc_0, ro_00, ro_01, ro_02, ro_04, ro_05, ro_06, ro_07, oc_1, oc_11, oc_21, oc_31, oc_32, ro_16, ro_b6, ak_2, ak_12, al_2, al_12, ra_2, ra_12, i10, i01, zb_t, zb_f, not_true_eq_false, not_false_eq_true, if_true, if_false, sp_found0, sp_found1, sp_found2, sp_found3, sp_found4, sp_found5, sp_found6, true_or, dnN_s, lt0f (show c < 2 ^ 31 by omega), h1, e1, ro_t0, ak_33, al_33, in_120 hL, cl_nI (show L < 100000 by omega), fb_sbt, sbt_sbt, show (33 < 57) = True from eq_true (by decide), hq, nI_1, dnN_d]
      exact e'
    · rw [show L + (c + 1) = L + 1 + c by omega]
      exact h'
    · rw [o' b hb hb' j, up2_na hb, up2_na hb']
theorem Cl.tape (h : Cl I J t n kp u m y bt L w z num) {bt' : Nat → Nat} {L' : Nat} (hT : Tp I' bt' L') (ho : ∀ b, b ≠ 32 → b ≠ 33 → ∀ j, I' b j = I b j) : Cl I' J t n kp u m y bt' L' w z num := by
  obtain ⟨h1, h2, ⟨h3, h4, h5⟩, h6, _, h10⟩ := h
  refine ⟨h1.congr (fun b _ _ j => ho b (by omega) (by omega) j) h2.2.1, h2, ⟨by rw [ho 0 (by omega) (by omega)]; exact h3, h4, fun hk => ?_⟩, fun j hj => by rw [ho 43 (by omega) (by omega)]; exact h6 j hj, hT, fun s hs => ?_⟩
  · obtain ⟨g1, g2⟩ := h5 hk
    exact ⟨g1.congr (fun b _ _ j => ho b (by omega) (by omega) j) g2.2.1, g2⟩
  · obtain ⟨a1, a2, a3, a4, a5⟩ := h10 s hs
    exact ⟨by rw [ho _ (by omega) (by omega)]; exact a1, a2, by rw [ho _ (by omega) (by omega)]; exact a3, a4, a5⟩
theorem gtF {a b : Nat} (h : b ≤ a) (ha : a < 2 ^ 31) : (nI a < nI b) = False := eq_false (fun q => Int32.not_le.mpr q (nI_le h ha))
theorem X_feed_ok (h : Cl I J t n kp u m y bt L w z num) {x : Int32} {c : Nat} (hc : 1 ≤ c ∧ c ≤ 4) (hL : L + c ≤ 120) : XR nX_feed [some (.ref 0), some (.int x), some (.int (nI c))] I J (.int (nI (L + c))) (fun I' J' => Cl I' J' t n kp u m y (fdB x c bt L) (L + c) w z num) := by
  have ew : decide ((1 : Int32) ≤ nI c ∧ nI c ≤ 4) = true := wi_yes (a := 1) (b := 4) hc.1 hc.2 (by decide)
  have hT : Tp I bt L := h.2.2.2.2.1
  obtain ⟨I', e', h', o'⟩ := ap_loop (J := J) (x := x) (q := nI c) c L I bt hL hT
  refine ⟨I', J, ?_, fun b hb j => ⟨o' b (by omega) (by omega) j, rfl⟩, h.tape h' o'⟩
  have e1 : (nI (L + c) ≤ (120 : Int32)) = True := leT (a := L + c) (b := 120) hL (by decide)
  have ea : den nT_append (0, [some (.ref 32), some (.int x), some (.int (nI c)), none], [], (I, J)) = some (none, (I', J)) := by
    simp only [eT_append_0, eT_append_1, eT_append_2, eT_append_3, eT_append_5, eT_append_8, eT_append_9, eT_append_12, eT_append_14, eT_append_17, eT_append_18, eT_append_21, eT_append_22, eT_append_25, eT_append_26, eT_append_28, eT_append_29, eT_append_30, eT_append_31, eT_append_32, eT_append_33, eT_append_34, eT_append_35, eT_append_38, eT_append_39, eT_append_40, eT_append_43, eT_append_46, eT_append_49, eq_self, hr_k_some, Option.toList, List.cons_append, List.nil_append, is2k_n, is2k_i, is2k_r, is2k_0]
    exact e'
  simp only [eX_feed_0, eX_feed_1, eX_feed_2, eX_feed_3, eX_feed_6, eX_feed_9, eX_feed_10, eX_feed_11, eX_feed_14, eX_feed_15, eX_feed_16, eX_feed_19, eX_feed_22, eX_feed_23, eX_feed_24, eX_feed_26, eX_feed_29, eX_feed_30, eX_feed_31, eX_feed_34, eX_feed_35, eX_feed_36, eX_feed_39, eX_feed_40, eX_feed_41, eX_feed_44, eX_feed_45, eX_feed_48, eX_feed_51, eq_self, hr_k_some, Option.toList, List.cons_append, List.nil_append, is2k_n, is2k_i, is2k_r, is2k_0, oc_0, ro_00, ro_01, ro_02, ro_04, ro_05, ro_06, ro_07, oc_1, oc_11, oc_21, oc_31, oc_32, ro_16, ro_b6, ak_2, ak_12, al_2, al_12, ra_2, ra_12, i10, i01, zb_t, zb_f, not_true_eq_false, not_false_eq_true, if_true, if_false, sp_found0, sp_found1, sp_found2, sp_found3, sp_found4, sp_found5, sp_found6, true_or, sp_isWithin, ew, hT.1, nI_add, e1, ea, h'.1]
theorem X_feed_full (h : Cl I J t n kp u m y bt L w z num) {x : Int32} {c : Nat} (hc : 1 ≤ c ∧ c ≤ 4) (hL : ¬ L + c ≤ 120) : XR nX_feed [some (.ref 0), some (.int x), some (.int (nI c))] I J (.int (fnd 1)) (fun I' J' => Cl I' J' t n kp u m (inc y 1) bt L w z num) := by
  refine XR.fnd (by decide) h ?_
  have ew : decide ((1 : Int32) ≤ nI c ∧ nI c ≤ 4) = true := wi_yes (a := 1) (b := 4) hc.1 hc.2 (by decide)
  have hT : Tp I bt L := h.2.2.2.2.1
  have hL' := hT.2.1
  have e1 : (nI (L + c) ≤ (120 : Int32)) = False := leF (a := L + c) (b := 120) (by omega) (by omega)
  simp only [eX_feed_0, eX_feed_1, eX_feed_2, eX_feed_3, eX_feed_6, eX_feed_9, eX_feed_10, eX_feed_11, eX_feed_14, eX_feed_15, eX_feed_16, eX_feed_19, eX_feed_22, eX_feed_23, eX_feed_24, eX_feed_26, eX_feed_29, eX_feed_30, eX_feed_31, eX_feed_34, eX_feed_35, eX_feed_36, eX_feed_39, eX_feed_40, eX_feed_41, eX_feed_44, eX_feed_45, eX_feed_48, eX_feed_51, eq_self, hr_k_some, Option.toList, List.cons_append, List.nil_append, is2k_n, is2k_i, is2k_r, is2k_0, oc_0, ro_00, ro_01, ro_02, ro_04, ro_05, ro_06, ro_07, oc_1, oc_11, oc_21, oc_31, oc_32, ro_16, ro_b6, ak_2, ak_12, al_2, al_12, ra_2, ra_12, i10, i01, zb_t, zb_f, not_true_eq_false, not_false_eq_true, if_true, if_false, sp_found0, sp_found1, sp_found2, sp_found3, sp_found4, sp_found5, sp_found6, true_or, sp_isWithin, ew, hT.1, nI_add, e1]
theorem X_feed_no (h : Cl I J t n kp u m y bt L w z num) {x a2 : Int32} (hb : ¬ ∃ c, 1 ≤ c ∧ c ≤ 4 ∧ a2 = nI c) : XR nX_feed [some (.ref 0), some (.int x), some (.int a2)] I J (.int (fnd 0)) (fun I' J' => Cl I' J' t n kp u m (inc y 0) bt L w z num) := by
  refine XR.fnd (by decide) h ?_
  have ew : decide ((1 : Int32) ≤ a2 ∧ a2 ≤ 4) = false := wi_no1 (a := 1) (b := 4) (by decide) (by decide) hb
  simp only [eX_feed_0, eX_feed_1, eX_feed_2, eX_feed_3, eX_feed_6, eX_feed_9, eX_feed_10, eX_feed_11, eX_feed_14, eX_feed_15, eX_feed_16, eX_feed_19, eX_feed_22, eX_feed_23, eX_feed_24, eX_feed_26, eX_feed_29, eX_feed_30, eX_feed_31, eX_feed_34, eX_feed_35, eX_feed_36, eX_feed_39, eX_feed_40, eX_feed_41, eX_feed_44, eX_feed_45, eX_feed_48, eX_feed_51, eq_self, hr_k_some, Option.toList, List.cons_append, List.nil_append, is2k_n, is2k_i, is2k_r, is2k_0, oc_0, ro_00, ro_01, ro_02, ro_04, ro_05, ro_06, ro_07, oc_1, oc_11, oc_21, oc_31, oc_32, ro_16, ro_b6, ak_2, ak_12, al_2, al_12, ra_2, ra_12, i10, i01, zb_t, zb_f, not_true_eq_false, not_false_eq_true, if_true, if_false, sp_found0, sp_found1, sp_found2, sp_found3, sp_found4, sp_found5, sp_found6, true_or, sp_isWithin, ew]
theorem X_wipe_all (h : Cl I J t n kp u m y bt L w z num) : XR nX_wipe [some (.ref 0), none] I J (.int (nI L)) (fun I' J' => Cl I' J' t n kp u m y bt 0 w z num) := by
  have hT : Tp I bt L := h.2.2.2.2.1
  refine ⟨up2 I 32 1 0, J, ?_, fun b hb j => ⟨up2_na (by omega), rfl⟩, h.tape ⟨up2_eq, by omega, fun j hj => by omega⟩ (fun b hb _ j => up2_na hb)⟩
  simp only [eX_wipe_0, eX_wipe_1, eX_wipe_4, eX_wipe_7, eX_wipe_8, eX_wipe_9, eX_wipe_12, eX_wipe_13, eX_wipe_16, eX_wipe_17, eq_self, hr_k_some, Option.toList, List.cons_append, List.nil_append, is2k_n, is2k_i, is2k_r, is2k_0, oc_0, ro_00, ro_01, ro_02, ro_04, ro_05, ro_06, ro_07, oc_1, oc_11, oc_21, oc_31, oc_32, ro_16, ro_b6, ak_2, ak_12, al_2, al_12, ra_2, ra_12, i10, i01, zb_t, zb_f, not_true_eq_false, not_false_eq_true, if_true, if_false, sp_found0, sp_found1, sp_found2, sp_found3, sp_found4, sp_found5, sp_found6, true_or, hT.1]
/-! ===== sheets ===== -/
def nar (b : Nat) (v : Int64) : Int64 := if b = 8 then v.toInt32.toInt8.toInt32.toInt64 else if b = 16 then v.toInt32.toInt16.toInt32.toInt64 else v
def upN (num : Nat → Nat → Int64) (s i : Nat) (v : Int64) : Nat → Nat → Int64 := fun q j => if q = s ∧ j = i then v else num q j
theorem Cl.sheets (h : Cl I J t n kp u m y bt L w z num) {w' z' : Nat → Nat} {num' : Nat → Nat → Int64} (hX : Xsh I' J' w' z' num') (ho : ∀ b, (b < 35 ∨ b = 43) → ∀ j, I' b j = I b j) : Cl I' J' t n kp u m y bt L w' z' num' := by
  obtain ⟨h1, h2, ⟨h3, h4, h5⟩, h6, ⟨h7, h8, h9⟩, _⟩ := h
  refine ⟨h1.congr (fun b _ _ j => ho b (by omega) j) h2.2.1, h2, ⟨by rw [ho 0 (by omega)]; exact h3, h4, fun hk => ?_⟩, fun j hj => by rw [ho 43 (by omega)]; exact h6 j hj, ⟨by rw [ho 32 (by omega)]; exact h7, h8, fun j hj => ⟨(h9 j hj).1, by rw [ho 33 (by omega)]; exact (h9 j hj).2⟩⟩, hX⟩
  obtain ⟨g1, g2⟩ := h5 hk
  exact ⟨g1.congr (fun b _ _ j => ho b (by omega) j) g2.2.1, g2⟩
theorem in_40 {k : Nat} (h : k < 40) : (hr_in (nI k) 40 = true) = True := eq_true (in_nI h (by decide))
theorem in_4 {k : Nat} (h : k < 4) : (hr_in (nI k) 4 = true) = True := eq_true (in_nI h (by decide))
theorem fl_loop {s : Nat} (hs : s < 4) : ∀ (d k : Nat) (J : Nat → Nat → Int64), k + d = 40 → (∀ i, i < k → J (36 + 2 * s) i = 0) → ∃ J', den nJA_fill (6, [some (.ref (36 + 2 * s)), some (.long 0), none, some (.int (nI k)), some (.int 40)], [], (I, J)) = some (none, (I, J')) ∧ (∀ i, i < 40 → J' (36 + 2 * s) i = 0) ∧ ∀ b, b ≠ 36 + 2 * s → ∀ j, J' b j = J b j := by
  intro d
  induction d with
  | zero =>
    intro k J hk h0
    have hk' : k = 40 := by omega
    subst hk'
    have e1 : ((40 : Int32) ≤ nI 40) = True := eq_true (by decide)
    refine ⟨J, ?_, h0, fun _ _ _ => rfl⟩
    simp only [eJA_fill_0, eJA_fill_1, eJA_fill_2, eJA_fill_3, eJA_fill_4, eJA_fill_6, eJA_fill_7, eJA_fill_9, eJA_fill_12, eJA_fill_13, eJA_fill_14, eJA_fill_15, eJA_fill_16, eJA_fill_19, eJA_fill_22, eq_self, hr_k_some, Option.toList, List.cons_append, List.nil_append, is2k_n, is2k_i, is2k_r, is2k_0, oc_0, ro_00, ro_01, ro_02, ro_04, ro_05, ro_06, ro_07, oc_1, oc_11, oc_21, oc_31, oc_32, ro_16, ro_b6, ak_2, ak_12, al_2, al_12, ra_2, ra_12, i10, i01, zb_t, zb_f, not_true_eq_false, not_false_eq_true, if_true, if_false, sp_found0, sp_found1, sp_found2, sp_found3, sp_found4, sp_found5, sp_found6, true_or, e1]
  | succ d ih =>
    intro k J hk h0
    have hk' : k < 40 := by omega
    have e1 : ((40 : Int32) ≤ nI k) = False := leF (a := 40) (b := k) hk' (by decide)
    obtain ⟨J', e', h', o'⟩ := ih (k + 1) (up2 J (36 + 2 * s) k 0) (by omega) (fun i hi => by
      by_cases e : i = k
      · subst e; exact up2_eq
      · rw [up2_nk e]; exact h0 i (by omega))
    refine ⟨J', ?_, h', fun b hb j => (o' b hb j).trans (up2_na hb)⟩
    rw [eJA_fill_6]
    simp only [eJA_fill_0, eJA_fill_1, eJA_fill_2, eJA_fill_3, eJA_fill_4, eJA_fill_7, eJA_fill_9, eJA_fill_12, eJA_fill_13, eJA_fill_14, eJA_fill_15, eJA_fill_16, eJA_fill_19, eJA_fill_22, eq_self, hr_k_some, Option.toList, List.cons_append, List.nil_append, is2k_n, is2k_i, is2k_r, is2k_0, oc_0, ro_00, ro_01, ro_02, ro_04, ro_05, ro_06, ro_07, oc_1, oc_11, oc_21, oc_31, oc_32, ro_16, ro_b6, ak_2, ak_12, al_2, al_12, ra_2, ra_12, i10, i01, zb_t, zb_f, not_true_eq_false, not_false_eq_true, if_true, if_false, sp_found0, sp_found1, sp_found2, sp_found3, sp_found4, sp_found5, sp_found6, true_or, e1, ak_sheet hs, al_sheet hs, in_40 hk', cl_nI (show k < 100000 by omega), nI_1]
    exact e'
theorem sp_fill {s : Nat} (hs : s < 4) : ∃ J', den nJA_fill (0, [some (.ref (36 + 2 * s)), some (.long 0), none, none, none], [], (I, J)) = some (none, (I, J')) ∧ (∀ i, i < 40 → J' (36 + 2 * s) i = 0) ∧ ∀ b, b ≠ 36 + 2 * s → ∀ j, J' b j = J b j := by
  obtain ⟨J', e', h', o'⟩ := fl_loop (I := I) hs 40 0 J (by omega) (fun i hi => by omega)
  refine ⟨J', ?_, h', o'⟩
  simp only [eJA_fill_0, eJA_fill_1, eJA_fill_2, eJA_fill_3, eJA_fill_4, eJA_fill_7, eJA_fill_9, eJA_fill_12, eJA_fill_13, eJA_fill_14, eJA_fill_15, eJA_fill_16, eJA_fill_19, eJA_fill_22, eq_self, hr_k_some, Option.toList, List.cons_append, List.nil_append, is2k_n, is2k_i, is2k_r, is2k_0, oc_0, ro_00, ro_01, ro_02, ro_04, ro_05, ro_06, ro_07, oc_1, oc_11, oc_21, oc_31, oc_32, ro_16, ro_b6, ak_2, ak_12, al_2, al_12, ra_2, ra_12, i10, i01, zb_t, zb_f, not_true_eq_false, not_false_eq_true, if_true, if_false, sp_found0, sp_found1, sp_found2, sp_found3, sp_found4, sp_found5, sp_found6, true_or, ak_sheet hs, al_sheet hs, show (0 < 2) = True from eq_true (by decide)]
  exact e'
end
