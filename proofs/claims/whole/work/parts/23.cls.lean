section
variable {I I' : Nat → Nat → Int32} {J J' : Nat → Nat → Int64} {t t' : Nat → Nat} {n n' kp : Nat} {u : Nat → Nat} {m : Nat} {y : Nat → Int32} {bt : Nat → Nat} {L : Nat} {w z : Nat → Nat} {num : Nat → Nat → Int64}
/-! turn -/
theorem turn_V {B k kd : Nat} (hV : V t n B) (hk : k < n) (hkd : kd < 6) : V (upV t (6 + 5 * k) kd) n B := by
  obtain ⟨v5, v8, v0, v1, v2, v3, v4, v6, vk⟩ := id hV
  have e : ∀ j, j < 6 → upV t (6 + 5 * k) kd j = t j := fun j hj => upV_ne (by omega)
  refine ⟨by rw [e 5 (by decide)]; exact v5, v8, by rw [e 0 (by decide)]; exact v0, by rw [e 1 (by decide)]; exact v1, by rw [e 2 (by decide)]; exact v2, by rw [e 3 (by decide)]; exact v3, by rw [e 4 (by decide)]; exact v4, by rw [e 4 (by decide), e 1 (by decide)]; exact v6, fun k' hk' => ?_⟩
  obtain ⟨k0, k1, k2, k3, k4⟩ := vk k' hk'
  refine ⟨?_, by rw [upV_ne (by omega)]; exact k1, by rw [upV_ne (by omega)]; exact k2, by rw [upV_ne (by omega)]; exact k3, by rw [upV_ne (by omega)]; exact k4⟩
  unfold upV
  split <;> omega
theorem X_turn_ok (h : Cl I J t n kp u m y bt L w z num) {k kd : Nat} (hk : k < n) (hkd : kd < 6) : XR nX_turn [some (.ref 0), some (.int (nI k)), some (.int (nI kd)), none] I J (.int (nI (t (6 + 5 * k)))) (fun I' J' => Cl I' J' (upV t (6 + 5 * k) kd) n kp u m y bt L w z num) := by
  have hn := h.2.1.2.1
  have hk8 : k < 8 := by omega
  have er := sp_isRock (J := J) h.h5 hn (x := nI k) |>.1 ⟨k, hk, rfl⟩
  have ek := sp_isKind (x := nI kd) (h := (I, J)) |>.1 ⟨kd, hkd, rfl⟩
  have r0 := (h.rk hk).1
  have ho : off 1 I (up2 I (3 + k) 0 (nI kd)) := off.rfl.up ⟨by omega, by omega⟩
  refine ⟨up2 I (3 + k) 0 (nI kd), J, ?_, (offX.of1 ho).fr, h.move (offX.of1 ho) (h.1.rock (k := k) (j := 0) (by decide)) (turn_V h.2.1 hk hkd)⟩
  simp only [eX_turn_0, eX_turn_1, eX_turn_2, eX_turn_5, eX_turn_8, eX_turn_9, eX_turn_12, eX_turn_15, eX_turn_16, eX_turn_17, eX_turn_20, eX_turn_21, eX_turn_22, eX_turn_25, eX_turn_28, eX_turn_29, eX_turn_30, eX_turn_33, eX_turn_34, eX_turn_35, eX_turn_38, eX_turn_41, eX_turn_42, eX_turn_43, eX_turn_44, eX_turn_47, eX_turn_48, eq_self, hr_k_some, Option.toList, List.cons_append, List.nil_append, is2k_n, is2k_i, is2k_r, is2k_0, oc_0, ro_00, ro_01, ro_02, ro_04, ro_05, ro_06, ro_07, oc_1, oc_11, oc_21, oc_31, oc_32, ro_16, ro_b6, ak_2, ak_12, al_2, al_12, ra_2, ra_12, i10, i01, zb_t, zb_f, not_true_eq_false, not_false_eq_true, if_true, if_false, sp_found0, sp_found1, sp_found2, sp_found3, sp_found4, sp_found5, sp_found6, true_or, er, ek, in_8 hk8, cl_nI (show k < 100000 by omega), oc_r1 hk8, r0]
theorem X_turn_no (h : Cl I J t n kp u m y bt L w z num) {a1 a2 : Int32} (hb : ¬ (rng a1 n ∧ rng a2 6)) : XR nX_turn [some (.ref 0), some (.int a1), some (.int a2), none] I J (.int (fnd 0)) (fun I' J' => Cl I' J' t n kp u m (inc y 0) bt L w z num) := by
  refine XR.fnd (by decide) h ?_
  have hn := h.2.1.2.1
  by_cases c : rng a1 n
  · have er := sp_isRock (J := J) h.h5 hn (x := a1) |>.1 c
    have ek := sp_isKind (x := a2) (h := (I, J)) |>.2 (fun z => hb ⟨c, z⟩)
    simp only [eX_turn_0, eX_turn_1, eX_turn_2, eX_turn_5, eX_turn_8, eX_turn_9, eX_turn_12, eX_turn_15, eX_turn_16, eX_turn_17, eX_turn_20, eX_turn_21, eX_turn_22, eX_turn_25, eX_turn_28, eX_turn_29, eX_turn_30, eX_turn_33, eX_turn_34, eX_turn_35, eX_turn_38, eX_turn_41, eX_turn_42, eX_turn_43, eX_turn_44, eX_turn_47, eX_turn_48, eq_self, hr_k_some, Option.toList, List.cons_append, List.nil_append, is2k_n, is2k_i, is2k_r, is2k_0, oc_0, ro_00, ro_01, ro_02, ro_04, ro_05, ro_06, ro_07, oc_1, oc_11, oc_21, oc_31, oc_32, ro_16, ro_b6, ak_2, ak_12, al_2, al_12, ra_2, ra_12, i10, i01, zb_t, zb_f, not_true_eq_false, not_false_eq_true, if_true, if_false, sp_found0, sp_found1, sp_found2, sp_found3, sp_found4, sp_found5, sp_found6, true_or, er, ek]
  · have er := sp_isRock (J := J) h.h5 hn (x := a1) |>.2 c
    simp only [eX_turn_0, eX_turn_1, eX_turn_2, eX_turn_5, eX_turn_8, eX_turn_9, eX_turn_12, eX_turn_15, eX_turn_16, eX_turn_17, eX_turn_20, eX_turn_21, eX_turn_22, eX_turn_25, eX_turn_28, eX_turn_29, eX_turn_30, eX_turn_33, eX_turn_34, eX_turn_35, eX_turn_38, eX_turn_41, eX_turn_42, eX_turn_43, eX_turn_44, eX_turn_47, eX_turn_48, eq_self, hr_k_some, Option.toList, List.cons_append, List.nil_append, is2k_n, is2k_i, is2k_r, is2k_0, oc_0, ro_00, ro_01, ro_02, ro_04, ro_05, ro_06, ro_07, oc_1, oc_11, oc_21, oc_31, oc_32, ro_16, ro_b6, ak_2, ak_12, al_2, al_12, ra_2, ra_12, i10, i01, zb_t, zb_f, not_true_eq_false, not_false_eq_true, if_true, if_false, sp_found0, sp_found1, sp_found2, sp_found3, sp_found4, sp_found5, sp_found6, true_or, er]
/-! as -/
theorem X_as_ok (h : Cl I J t n kp u m y bt L w z num) {k kd : Nat} (hk : k < n) (hkd : kd < 6) (hi : N_is (t (6 + 5 * k)) kd = true) : XR nX_as [some (.ref 0), some (.int (nI k)), some (.int (nI kd)), none] I J (.int (nI (t (8 + 5 * k)))) (fun I' J' => Cl I' J' t n kp u m y bt L w z num) := by
  refine XR.rd h ?_
  have hn := h.2.1.2.1
  have hk8 : k < 8 := by omega
  have er := sp_isRock (J := J) h.h5 hn (x := nI k) |>.1 ⟨k, hk, rfl⟩
  have ek := sp_isKind (x := nI kd) (h := (I, J)) |>.1 ⟨kd, hkd, rfl⟩
  obtain ⟨r0, r1, r2, r3, r4⟩ := h.rk hk
  have ei := sp_isOfKind (J := J) (oc_r1 hk8) r0 (h.2.1.rk hk).1 hkd
  simp only [eX_as_0, eX_as_1, eX_as_2, eX_as_5, eX_as_8, eX_as_9, eX_as_12, eX_as_15, eX_as_16, eX_as_17, eX_as_20, eX_as_21, eX_as_22, eX_as_25, eX_as_28, eX_as_29, eX_as_30, eX_as_31, eX_as_32, eX_as_33, eX_as_36, eX_as_39, eX_as_40, eX_as_43, eX_as_46, eX_as_47, eX_as_48, eX_as_51, eq_self, hr_k_some, Option.toList, List.cons_append, List.nil_append, is2k_n, is2k_i, is2k_r, is2k_0, oc_0, ro_00, ro_01, ro_02, ro_04, ro_05, ro_06, ro_07, oc_1, oc_11, oc_21, oc_31, oc_32, ro_16, ro_b6, ak_2, ak_12, al_2, al_12, ra_2, ra_12, i10, i01, zb_t, zb_f, not_true_eq_false, not_false_eq_true, if_true, if_false, sp_found0, sp_found1, sp_found2, sp_found3, sp_found4, sp_found5, sp_found6, true_or, er, ek, in_8 hk8, cl_nI (show k < 100000 by omega), oc_r1 hk8, ei, hi, r2]
theorem X_as_kind (h : Cl I J t n kp u m y bt L w z num) {k kd : Nat} (hk : k < n) (hkd : kd < 6) (hi : N_is (t (6 + 5 * k)) kd = false) : XR nX_as [some (.ref 0), some (.int (nI k)), some (.int (nI kd)), none] I J (.int (fnd 2)) (fun I' J' => Cl I' J' t n kp u m (inc y 2) bt L w z num) := by
  refine XR.fnd (by decide) h ?_
  have hn := h.2.1.2.1
  have hk8 : k < 8 := by omega
  have er := sp_isRock (J := J) h.h5 hn (x := nI k) |>.1 ⟨k, hk, rfl⟩
  have ek := sp_isKind (x := nI kd) (h := (I, J)) |>.1 ⟨kd, hkd, rfl⟩
  obtain ⟨r0, r1, r2, r3, r4⟩ := h.rk hk
  have ei := sp_isOfKind (J := J) (oc_r1 hk8) r0 (h.2.1.rk hk).1 hkd
  simp only [eX_as_0, eX_as_1, eX_as_2, eX_as_5, eX_as_8, eX_as_9, eX_as_12, eX_as_15, eX_as_16, eX_as_17, eX_as_20, eX_as_21, eX_as_22, eX_as_25, eX_as_28, eX_as_29, eX_as_30, eX_as_31, eX_as_32, eX_as_33, eX_as_36, eX_as_39, eX_as_40, eX_as_43, eX_as_46, eX_as_47, eX_as_48, eX_as_51, eq_self, hr_k_some, Option.toList, List.cons_append, List.nil_append, is2k_n, is2k_i, is2k_r, is2k_0, oc_0, ro_00, ro_01, ro_02, ro_04, ro_05, ro_06, ro_07, oc_1, oc_11, oc_21, oc_31, oc_32, ro_16, ro_b6, ak_2, ak_12, al_2, al_12, ra_2, ra_12, i10, i01, zb_t, zb_f, not_true_eq_false, not_false_eq_true, if_true, if_false, sp_found0, sp_found1, sp_found2, sp_found3, sp_found4, sp_found5, sp_found6, true_or, er, ek, in_8 hk8, cl_nI (show k < 100000 by omega), oc_r1 hk8, ei, hi]
theorem X_as_no (h : Cl I J t n kp u m y bt L w z num) {a1 a2 : Int32} (hb : ¬ (rng a1 n ∧ rng a2 6)) : XR nX_as [some (.ref 0), some (.int a1), some (.int a2), none] I J (.int (fnd 0)) (fun I' J' => Cl I' J' t n kp u m (inc y 0) bt L w z num) := by
  refine XR.fnd (by decide) h ?_
  have hn := h.2.1.2.1
  by_cases c : rng a1 n
  · have er := sp_isRock (J := J) h.h5 hn (x := a1) |>.1 c
    have ek := sp_isKind (x := a2) (h := (I, J)) |>.2 (fun z => hb ⟨c, z⟩)
    simp only [eX_as_0, eX_as_1, eX_as_2, eX_as_5, eX_as_8, eX_as_9, eX_as_12, eX_as_15, eX_as_16, eX_as_17, eX_as_20, eX_as_21, eX_as_22, eX_as_25, eX_as_28, eX_as_29, eX_as_30, eX_as_31, eX_as_32, eX_as_33, eX_as_36, eX_as_39, eX_as_40, eX_as_43, eX_as_46, eX_as_47, eX_as_48, eX_as_51, eq_self, hr_k_some, Option.toList, List.cons_append, List.nil_append, is2k_n, is2k_i, is2k_r, is2k_0, oc_0, ro_00, ro_01, ro_02, ro_04, ro_05, ro_06, ro_07, oc_1, oc_11, oc_21, oc_31, oc_32, ro_16, ro_b6, ak_2, ak_12, al_2, al_12, ra_2, ra_12, i10, i01, zb_t, zb_f, not_true_eq_false, not_false_eq_true, if_true, if_false, sp_found0, sp_found1, sp_found2, sp_found3, sp_found4, sp_found5, sp_found6, true_or, er, ek]
  · have er := sp_isRock (J := J) h.h5 hn (x := a1) |>.2 c
    simp only [eX_as_0, eX_as_1, eX_as_2, eX_as_5, eX_as_8, eX_as_9, eX_as_12, eX_as_15, eX_as_16, eX_as_17, eX_as_20, eX_as_21, eX_as_22, eX_as_25, eX_as_28, eX_as_29, eX_as_30, eX_as_31, eX_as_32, eX_as_33, eX_as_36, eX_as_39, eX_as_40, eX_as_43, eX_as_46, eX_as_47, eX_as_48, eX_as_51, eq_self, hr_k_some, Option.toList, List.cons_append, List.nil_append, is2k_n, is2k_i, is2k_r, is2k_0, oc_0, ro_00, ro_01, ro_02, ro_04, ro_05, ro_06, ro_07, oc_1, oc_11, oc_21, oc_31, oc_32, ro_16, ro_b6, ak_2, ak_12, al_2, al_12, ra_2, ra_12, i10, i01, zb_t, zb_f, not_true_eq_false, not_false_eq_true, if_true, if_false, sp_found0, sp_found1, sp_found2, sp_found3, sp_found4, sp_found5, sp_found6, true_or, er]
/-! sounds -/
theorem X_sounds_ok (h : Cl I J t n kp u m y bt L w z num) {k q : Nat} (hk : k < n) (hq : q < 64) : XR nX_sounds [some (.ref 0), some (.int (nI k)), some (.int (nI q))] I J (.int (nI (sndV t k q))) (fun I' J' => Cl I' J' t n kp u m y bt L w z num) := by
  refine XR.rd h ?_
  have hV := h.2.1
  have hn := hV.2.1
  have hk8 : k < 8 := by omega
  have er := sp_isRock (J := J) h.h5 hn (x := nI k) |>.1 ⟨k, hk, rfl⟩
  have es := sp_isSquare (x := nI q) (h := (I, J)) |>.1 ⟨q, hq, rfl⟩
  obtain ⟨h0, h1, h2, h3, h4, h5⟩ := h.fs
  obtain ⟨r0, r1, r2, r3, r4⟩ := h.rk hk
  simp only [eX_sounds_0, eX_sounds_1, eX_sounds_2, eX_sounds_5, eX_sounds_8, eX_sounds_9, eX_sounds_12, eX_sounds_15, eX_sounds_16, eX_sounds_17, eX_sounds_20, eX_sounds_21, eX_sounds_22, eX_sounds_25, eX_sounds_28, eX_sounds_29, eX_sounds_30, eX_sounds_31, eX_sounds_32, eX_sounds_35, eX_sounds_38, eX_sounds_41, eq_self, hr_k_some, Option.toList, List.cons_append, List.nil_append, is2k_n, is2k_i, is2k_r, is2k_0, oc_0, ro_00, ro_01, ro_02, ro_04, ro_05, ro_06, ro_07, oc_1, oc_11, oc_21, oc_31, oc_32, ro_16, ro_b6, ak_2, ak_12, al_2, al_12, ra_2, ra_12, i10, i01, zb_t, zb_f, not_true_eq_false, not_false_eq_true, if_true, if_false, sp_found0, sp_found1, sp_found2, sp_found3, sp_found4, sp_found5, sp_found6, true_or, er, es, in_8 hk8, cl_nI (show k < 100000 by omega), oc_r1 hk8, h0, sp_soundAt, r0, r1, r2, r3, r4, hV.far hk hq, hV.snd (by decide) hk hq]
theorem X_sounds_no (h : Cl I J t n kp u m y bt L w z num) {a1 a2 : Int32} (hb : ¬ (rng a1 n ∧ rng a2 64)) : XR nX_sounds [some (.ref 0), some (.int a1), some (.int a2)] I J (.int (fnd 0)) (fun I' J' => Cl I' J' t n kp u m (inc y 0) bt L w z num) := by
  refine XR.fnd (by decide) h ?_
  have hn := h.2.1.2.1
  by_cases c : rng a1 n
  · have er := sp_isRock (J := J) h.h5 hn (x := a1) |>.1 c
    have ek := sp_isSquare (x := a2) (h := (I, J)) |>.2 (fun z => hb ⟨c, z⟩)
    simp only [eX_sounds_0, eX_sounds_1, eX_sounds_2, eX_sounds_5, eX_sounds_8, eX_sounds_9, eX_sounds_12, eX_sounds_15, eX_sounds_16, eX_sounds_17, eX_sounds_20, eX_sounds_21, eX_sounds_22, eX_sounds_25, eX_sounds_28, eX_sounds_29, eX_sounds_30, eX_sounds_31, eX_sounds_32, eX_sounds_35, eX_sounds_38, eX_sounds_41, eq_self, hr_k_some, Option.toList, List.cons_append, List.nil_append, is2k_n, is2k_i, is2k_r, is2k_0, oc_0, ro_00, ro_01, ro_02, ro_04, ro_05, ro_06, ro_07, oc_1, oc_11, oc_21, oc_31, oc_32, ro_16, ro_b6, ak_2, ak_12, al_2, al_12, ra_2, ra_12, i10, i01, zb_t, zb_f, not_true_eq_false, not_false_eq_true, if_true, if_false, sp_found0, sp_found1, sp_found2, sp_found3, sp_found4, sp_found5, sp_found6, true_or, er, ek]
  · have er := sp_isRock (J := J) h.h5 hn (x := a1) |>.2 c
    simp only [eX_sounds_0, eX_sounds_1, eX_sounds_2, eX_sounds_5, eX_sounds_8, eX_sounds_9, eX_sounds_12, eX_sounds_15, eX_sounds_16, eX_sounds_17, eX_sounds_20, eX_sounds_21, eX_sounds_22, eX_sounds_25, eX_sounds_28, eX_sounds_29, eX_sounds_30, eX_sounds_31, eX_sounds_32, eX_sounds_35, eX_sounds_38, eX_sounds_41, eq_self, hr_k_some, Option.toList, List.cons_append, List.nil_append, is2k_n, is2k_i, is2k_r, is2k_0, oc_0, ro_00, ro_01, ro_02, ro_04, ro_05, ro_06, ro_07, oc_1, oc_11, oc_21, oc_31, oc_32, ro_16, ro_b6, ak_2, ak_12, al_2, al_12, ra_2, ra_12, i10, i01, zb_t, zb_f, not_true_eq_false, not_false_eq_true, if_true, if_false, sp_found0, sp_found1, sp_found2, sp_found3, sp_found4, sp_found5, sp_found6, true_or, er]
/-! loudest -/
theorem sp_orNone {b : Nat} (hb : 1 ≤ b ∧ b < 2000) : den nX_orNone (0, [some (.ref 0), some (.int (bN b))], [], (I, J)) = some (some (.int (nI (b - 1))), (I, J)) := by
  have e : bN b = nI (b - 1) := if_neg (by omega)
  have e1 : (nI (b - 1) = 1000000) = False := by
    apply eq_false
    intro q
    have : nI (b - 1) = nI 1000000 := q
    rw [nI_eq (by omega) (by decide)] at this
    omega
  simp only [eX_orNone_0, eX_orNone_1, eX_orNone_3, eX_orNone_6, eX_orNone_7, eX_orNone_8, eX_orNone_11, eX_orNone_14, eX_orNone_15, eq_self, hr_k_some, Option.toList, List.cons_append, List.nil_append, is2k_n, is2k_i, is2k_r, is2k_0, oc_0, ro_00, ro_01, ro_02, ro_04, ro_05, ro_06, ro_07, oc_1, oc_11, oc_21, oc_31, oc_32, ro_16, ro_b6, ak_2, ak_12, al_2, al_12, ra_2, ra_12, i10, i01, zb_t, zb_f, not_true_eq_false, not_false_eq_true, if_true, if_false, sp_found0, sp_found1, sp_found2, sp_found3, sp_found4, sp_found5, sp_found6, true_or, e, e1]
theorem sp_orNone0 : den nX_orNone (0, [some (.ref 0), some (.int 1000000)], [], (I, J)) = some (some (.int (fnd 3)), (up2 I 43 3 (I 43 3 + 1), J)) := by
  simp only [eX_orNone_0, eX_orNone_1, eX_orNone_3, eX_orNone_6, eX_orNone_7, eX_orNone_8, eX_orNone_11, eX_orNone_14, eX_orNone_15, eq_self, hr_k_some, Option.toList, List.cons_append, List.nil_append, is2k_n, is2k_i, is2k_r, is2k_0, oc_0, ro_00, ro_01, ro_02, ro_04, ro_05, ro_06, ro_07, oc_1, oc_11, oc_21, oc_31, oc_32, ro_16, ro_b6, ak_2, ak_12, al_2, al_12, ra_2, ra_12, i10, i01, zb_t, zb_f, not_true_eq_false, not_false_eq_true, if_true, if_false, sp_found0, sp_found1, sp_found2, sp_found3, sp_found4, sp_found5, sp_found6, true_or]
theorem sp_orNone' {x : Nat} (hx : x < 1000) : den nX_orNone (0, [some (.ref 0), some (.int (nI x))], [], (I, J)) = some (some (.int (nI x)), (I, J)) := by
  have := sp_orNone (I := I) (J := J) (b := x + 1) ⟨by omega, by omega⟩
  have e : bN (x + 1) = nI x := if_neg (by omega)
  rw [e] at this
  exact this
theorem X_loudest_ok (h : Cl I J t n kp u m y bt L w z num) {q : Nat} (hq : q < 64) (hl : ¬ (loV t q n).1 = 0) : XR nX_loudest [some (.ref 0), some (.int (nI q))] I J (.int (nI ((loV t q n).1 - 1))) (fun I' J' => Cl I' J' t n kp u m y bt L w z num) := by
  refine XR.rd h ?_
  have hll := loV_lt (q := q) h.2.1 n (Nat.le_refl _)
  have hn := h.2.1.2.1
  have es := sp_isSquare (x := nI q) (h := (I, J)) |>.1 ⟨q, hq, rfl⟩
  have el := sp_loudestAt (J := J) hq is1 h.1 h.2.1 (by decide)
  have eo := sp_orNone (I := I) (J := J) (b := (loV t q n).1) ⟨by omega, by omega⟩
  simp only [eX_loudest_0, eX_loudest_1, eX_loudest_4, eX_loudest_7, eX_loudest_8, eX_loudest_9, eX_loudest_12, eX_loudest_13, eX_loudest_14, eX_loudest_15, eX_loudest_18, eX_loudest_19, eX_loudest_22, eX_loudest_25, eq_self, hr_k_some, Option.toList, List.cons_append, List.nil_append, is2k_n, is2k_i, is2k_r, is2k_0, oc_0, ro_00, ro_01, ro_02, ro_04, ro_05, ro_06, ro_07, oc_1, oc_11, oc_21, oc_31, oc_32, ro_16, ro_b6, ak_2, ak_12, al_2, al_12, ra_2, ra_12, i10, i01, zb_t, zb_f, not_true_eq_false, not_false_eq_true, if_true, if_false, sp_found0, sp_found1, sp_found2, sp_found3, sp_found4, sp_found5, sp_found6, true_or, es, el, eo]
theorem X_loudest_none (h : Cl I J t n kp u m y bt L w z num) {q : Nat} (hq : q < 64) (hl : (loV t q n).1 = 0) : XR nX_loudest [some (.ref 0), some (.int (nI q))] I J (.int (fnd 3)) (fun I' J' => Cl I' J' t n kp u m (inc y 3) bt L w z num) := by
  refine XR.fnd (by decide) h ?_
  have es := sp_isSquare (x := nI q) (h := (I, J)) |>.1 ⟨q, hq, rfl⟩
  have el := sp_loudestAt (J := J) hq is1 h.1 h.2.1 (by decide)
  rw [show bN (loV t q n).1 = 1000000 from if_pos hl] at el
  simp only [eX_loudest_0, eX_loudest_1, eX_loudest_4, eX_loudest_7, eX_loudest_8, eX_loudest_9, eX_loudest_12, eX_loudest_13, eX_loudest_14, eX_loudest_15, eX_loudest_18, eX_loudest_19, eX_loudest_22, eX_loudest_25, eq_self, hr_k_some, Option.toList, List.cons_append, List.nil_append, is2k_n, is2k_i, is2k_r, is2k_0, oc_0, ro_00, ro_01, ro_02, ro_04, ro_05, ro_06, ro_07, oc_1, oc_11, oc_21, oc_31, oc_32, ro_16, ro_b6, ak_2, ak_12, al_2, al_12, ra_2, ra_12, i10, i01, zb_t, zb_f, not_true_eq_false, not_false_eq_true, if_true, if_false, sp_found0, sp_found1, sp_found2, sp_found3, sp_found4, sp_found5, sp_found6, true_or, es, el, sp_orNone0]
theorem X_loudest_no (h : Cl I J t n kp u m y bt L w z num) {a1 : Int32} (hb : ¬ rng a1 64) : XR nX_loudest [some (.ref 0), some (.int a1)] I J (.int (fnd 0)) (fun I' J' => Cl I' J' t n kp u m (inc y 0) bt L w z num) := by
  refine XR.fnd (by decide) h ?_
  have es := sp_isSquare (x := a1) (h := (I, J)) |>.2 hb
  simp only [eX_loudest_0, eX_loudest_1, eX_loudest_4, eX_loudest_7, eX_loudest_8, eX_loudest_9, eX_loudest_12, eX_loudest_13, eX_loudest_14, eX_loudest_15, eX_loudest_18, eX_loudest_19, eX_loudest_22, eX_loudest_25, eq_self, hr_k_some, Option.toList, List.cons_append, List.nil_append, is2k_n, is2k_i, is2k_r, is2k_0, oc_0, ro_00, ro_01, ro_02, ro_04, ro_05, ro_06, ro_07, oc_1, oc_11, oc_21, oc_31, oc_32, ro_16, ro_b6, ak_2, ak_12, al_2, al_12, ra_2, ra_12, i10, i01, zb_t, zb_f, not_true_eq_false, not_false_eq_true, if_true, if_false, sp_found0, sp_found1, sp_found2, sp_found3, sp_found4, sp_found5, sp_found6, true_or, es]
/-! watches -/
theorem V.mono {B B' : Nat} (h : V t n B) (hb : t 0 ≤ B') : V t n B' := ⟨h.1, h.2.1, hb, h.2.2.2⟩
theorem goV_0 : goV t n 0 = t 0 + 1 := upV_same
theorem goN_0 : ∀ k, goN t n k 0 = t 0 + k := by
  intro k
  induction k with
  | zero => rfl
  | succ k ih => rw [goN_s, goV_0, ih]; rfl
theorem X_watches_ok (h : Cl I J t n kp u m y bt L w z num) {c : Nat} (hc : 1 ≤ c ∧ c ≤ 100) (hw : t 0 + c ≤ 99999) : XR nX_watches [some (.ref 0), some (.int (nI c))] I J (.int (nI (goN t n c 1))) (fun I' J' => Cl I' J' (goN t n c) n kp u m y bt L w z num) := by
  obtain ⟨I1, e1, hH1, ho1⟩ := sp_goWatches (J := J) is1 (c := c) (by omega) h.1 h.2.1 (by omega)
  have ew : decide ((1 : Int32) ≤ nI c ∧ nI c ≤ 100) = true := wi_yes (a := 1) (b := 100) hc.1 hc.2 (by decide)
  obtain ⟨h0, h1, h2, h3, h4, h5⟩ := h.fs
  have el : ((nI (t 0 + c)) ≤ (99999 : Int32)) = True := leT (a := t 0 + c) (b := 99999) hw (by decide)
  have g1 : I1 1 1 = nI (goN t n c 1) := hH1.1.2.1
  refine ⟨I1, J, ?_, (offX.of1 ho1).fr, h.move (offX.of1 ho1) hH1 ((goN_V c h.2.1).mono (by rw [goN_0]; exact hw))⟩
  simp only [eX_watches_0, eX_watches_1, eX_watches_2, eX_watches_4, eX_watches_7, eX_watches_10, eX_watches_11, eX_watches_12, eX_watches_15, eX_watches_16, eX_watches_17, eX_watches_20, eX_watches_23, eX_watches_24, eX_watches_25, eX_watches_27, eX_watches_30, eX_watches_31, eX_watches_32, eX_watches_35, eX_watches_36, eX_watches_37, eX_watches_40, eX_watches_41, eX_watches_44, eX_watches_45, eX_watches_48, eX_watches_51, eq_self, hr_k_some, Option.toList, List.cons_append, List.nil_append, is2k_n, is2k_i, is2k_r, is2k_0, oc_0, ro_00, ro_01, ro_02, ro_04, ro_05, ro_06, ro_07, oc_1, oc_11, oc_21, oc_31, oc_32, ro_16, ro_b6, ak_2, ak_12, al_2, al_12, ra_2, ra_12, i10, i01, zb_t, zb_f, not_true_eq_false, not_false_eq_true, if_true, if_false, sp_found0, sp_found1, sp_found2, sp_found3, sp_found4, sp_found5, sp_found6, true_or, sp_isWithin, ew, h0, nI_add, el, e1, g1]
theorem X_watches_state (h : Cl I J t n kp u m y bt L w z num) {c : Nat} (hc : 1 ≤ c ∧ c ≤ 100) (hw : ¬ t 0 + c ≤ 99999) : XR nX_watches [some (.ref 0), some (.int (nI c))] I J (.int (fnd 4)) (fun I' J' => Cl I' J' t n kp u m (inc y 4) bt L w z num) := by
  refine XR.fnd (by decide) h ?_
  have ew : decide ((1 : Int32) ≤ nI c ∧ nI c ≤ 100) = true := wi_yes (a := 1) (b := 100) hc.1 hc.2 (by decide)
  obtain ⟨h0, h1, h2, h3, h4, h5⟩ := h.fs
  have v0 := h.2.1.2.2.1
  have el : ((nI (t 0 + c)) ≤ (99999 : Int32)) = False := leF (a := t 0 + c) (b := 99999) (by omega) (by omega)
  simp only [eX_watches_0, eX_watches_1, eX_watches_2, eX_watches_4, eX_watches_7, eX_watches_10, eX_watches_11, eX_watches_12, eX_watches_15, eX_watches_16, eX_watches_17, eX_watches_20, eX_watches_23, eX_watches_24, eX_watches_25, eX_watches_27, eX_watches_30, eX_watches_31, eX_watches_32, eX_watches_35, eX_watches_36, eX_watches_37, eX_watches_40, eX_watches_41, eX_watches_44, eX_watches_45, eX_watches_48, eX_watches_51, eq_self, hr_k_some, Option.toList, List.cons_append, List.nil_append, is2k_n, is2k_i, is2k_r, is2k_0, oc_0, ro_00, ro_01, ro_02, ro_04, ro_05, ro_06, ro_07, oc_1, oc_11, oc_21, oc_31, oc_32, ro_16, ro_b6, ak_2, ak_12, al_2, al_12, ra_2, ra_12, i10, i01, zb_t, zb_f, not_true_eq_false, not_false_eq_true, if_true, if_false, sp_found0, sp_found1, sp_found2, sp_found3, sp_found4, sp_found5, sp_found6, true_or, sp_isWithin, ew, h0, nI_add, el]
theorem X_watches_no (h : Cl I J t n kp u m y bt L w z num) {a1 : Int32} (hb : ¬ ∃ c, 1 ≤ c ∧ c ≤ 100 ∧ a1 = nI c) : XR nX_watches [some (.ref 0), some (.int a1)] I J (.int (fnd 0)) (fun I' J' => Cl I' J' t n kp u m (inc y 0) bt L w z num) := by
  refine XR.fnd (by decide) h ?_
  have ew : decide ((1 : Int32) ≤ a1 ∧ a1 ≤ 100) = false := wi_no1 (a := 1) (b := 100) (by decide) (by decide) hb
  simp only [eX_watches_0, eX_watches_1, eX_watches_2, eX_watches_4, eX_watches_7, eX_watches_10, eX_watches_11, eX_watches_12, eX_watches_15, eX_watches_16, eX_watches_17, eX_watches_20, eX_watches_23, eX_watches_24, eX_watches_25, eX_watches_27, eX_watches_30, eX_watches_31, eX_watches_32, eX_watches_35, eX_watches_36, eX_watches_37, eX_watches_40, eX_watches_41, eX_watches_44, eX_watches_45, eX_watches_48, eX_watches_51, eq_self, hr_k_some, Option.toList, List.cons_append, List.nil_append, is2k_n, is2k_i, is2k_r, is2k_0, oc_0, ro_00, ro_01, ro_02, ro_04, ro_05, ro_06, ro_07, oc_1, oc_11, oc_21, oc_31, oc_32, ro_16, ro_b6, ak_2, ak_12, al_2, al_12, ra_2, ra_12, i10, i01, zb_t, zb_f, not_true_eq_false, not_false_eq_true, if_true, if_false, sp_found0, sp_found1, sp_found2, sp_found3, sp_found4, sp_found5, sp_found6, true_or, sp_isWithin, ew]
/-! on, moved: the sea on trial -/
theorem sp_try (h : Cl I J t n kp u m y bt L w z num) : den nX_tryAsItIs (0, [some (.ref 0)], [], (I, J)) = some (none, (bI I 11 1 n, J)) := by
  have e := sp_become (I := I) (J := J) (b := 11) (c := 1) is11 is1 (by decide) h.2.1.2.1 h.h5
  simp only [eX_tryAsItIs_0, eX_tryAsItIs_1, eX_tryAsItIs_4, eX_tryAsItIs_5, eX_tryAsItIs_8, eX_tryAsItIs_11, eq_self, hr_k_some, Option.toList, List.cons_append, List.nil_append, is2k_n, is2k_i, is2k_r, is2k_0, oc_0, ro_00, ro_01, ro_02, ro_04, ro_05, ro_06, ro_07, oc_1, oc_11, oc_21, oc_31, oc_32, ro_16, ro_b6, ak_2, ak_12, al_2, al_12, ra_2, ra_12, i10, i01, zb_t, zb_f, not_true_eq_false, not_false_eq_true, if_true, if_false, sp_found0, sp_found1, sp_found2, sp_found3, sp_found4, sp_found5, sp_found6, true_or, e]
theorem try_hold (h : Cl I J t n kp u m y bt L w z num) : hold (bI I 11 1 n) 11 t n := bI_hold h.1
theorem try_cl (h : Cl I J t n kp u m y bt L w z num) : Cl (bI I 11 1 n) J t n kp u m y bt L w z num := h.t11 (bI_off n h.2.1.2.1)
theorem try_off (h : Cl I J t n kp u m y bt L w z num) : off 11 I (bI I 11 1 n) := bI_off n h.2.1.2.1
theorem X_on_ok (h : Cl I J t n kp u m y bt L w z num) {c q : Nat} (hc : c ≤ 200) (hq : q < 2) : XR nX_on [some (.ref 0), some (.int (nI c)), some (.int (nI q))] I J (.int (nI (if q = 0 then goN t n c 1 else goN t n c 4))) (fun I' J' => Cl I' J' t n kp u m y bt L w z num) := by
  obtain ⟨I1, e1, hH1, ho1⟩ := sp_goWatches (J := J) is11 (c := c) (by omega) (try_hold h) h.2.1 (by omega)
  have ew : decide ((0 : Int32) ≤ nI c ∧ nI c ≤ 200) = true := wi_yes (a := 0) (b := 200) (by omega) hc (by decide)
  have ew2 : decide ((0 : Int32) ≤ nI q ∧ nI q ≤ 1) = true := wi_yes (a := 0) (b := 1) (by omega) (by omega) (by decide)
  have g1 : I1 11 1 = nI (goN t n c 1) := hH1.1.2.1
  have g4 : I1 11 4 = nI (goN t n c 4) := hH1.1.2.2.2.2.1
  have hz : (nI q = 0) = (q = 0) := nI_lit q 0 (by omega) (by decide)
  have ho := (try_off h).trans ho1
  refine ⟨I1, J, ?_, (offX.of11 ho).fr, h.t11 ho⟩
  simp only [eX_on_0, eX_on_1, eX_on_2, eX_on_5, eX_on_8, eX_on_11, eX_on_12, eX_on_13, eX_on_14, eX_on_17, eX_on_20, eX_on_21, eX_on_22, eX_on_25, eX_on_26, eX_on_27, eX_on_30, eX_on_31, eX_on_34, eX_on_35, eX_on_38, eX_on_39, eX_on_42, eX_on_43, eX_on_46, eX_on_49, eX_on_52, eX_on_53, eX_on_56, eX_on_59, eq_self, hr_k_some, Option.toList, List.cons_append, List.nil_append, is2k_n, is2k_i, is2k_r, is2k_0, oc_0, ro_00, ro_01, ro_02, ro_04, ro_05, ro_06, ro_07, oc_1, oc_11, oc_21, oc_31, oc_32, ro_16, ro_b6, ak_2, ak_12, al_2, al_12, ra_2, ra_12, i10, i01, zb_t, zb_f, not_true_eq_false, not_false_eq_true, if_true, if_false, sp_found0, sp_found1, sp_found2, sp_found3, sp_found4, sp_found5, sp_found6, true_or, sp_isWithin, ew, ew2, sp_try h, e1, hz]
  by_cases cq : q = 0
  · simp only [cq, not_true_eq_false, if_true, if_false, g1]
  · simp only [cq, not_false_eq_true, if_true, if_false, g4]
theorem X_on_no (h : Cl I J t n kp u m y bt L w z num) {a1 a2 : Int32} (hb : ¬ (rng a1 201 ∧ rng a2 2)) : XR nX_on [some (.ref 0), some (.int a1), some (.int a2)] I J (.int (fnd 0)) (fun I' J' => Cl I' J' t n kp u m (inc y 0) bt L w z num) := by
  refine XR.fnd (by decide) h ?_
  by_cases c : rng a1 201
  · have c2 : ¬ rng a2 2 := fun z => hb ⟨c, z⟩
    obtain ⟨k, hk, rfl⟩ := c
    have ew : decide ((0 : Int32) ≤ nI k ∧ nI k ≤ 200) = true := wi_yes (a := 0) (b := 200) (by omega) (by omega) (by decide)
    have ew2 : decide ((0 : Int32) ≤ a2 ∧ a2 ≤ 1) = false := wi_no0 (b := 1) (by decide) c2
    simp only [eX_on_0, eX_on_1, eX_on_2, eX_on_5, eX_on_8, eX_on_11, eX_on_12, eX_on_13, eX_on_14, eX_on_17, eX_on_20, eX_on_21, eX_on_22, eX_on_25, eX_on_26, eX_on_27, eX_on_30, eX_on_31, eX_on_34, eX_on_35, eX_on_38, eX_on_39, eX_on_42, eX_on_43, eX_on_46, eX_on_49, eX_on_52, eX_on_53, eX_on_56, eX_on_59, eq_self, hr_k_some, Option.toList, List.cons_append, List.nil_append, is2k_n, is2k_i, is2k_r, is2k_0, oc_0, ro_00, ro_01, ro_02, ro_04, ro_05, ro_06, ro_07, oc_1, oc_11, oc_21, oc_31, oc_32, ro_16, ro_b6, ak_2, ak_12, al_2, al_12, ra_2, ra_12, i10, i01, zb_t, zb_f, not_true_eq_false, not_false_eq_true, if_true, if_false, sp_found0, sp_found1, sp_found2, sp_found3, sp_found4, sp_found5, sp_found6, true_or, sp_isWithin, ew, ew2]
  · have ew : decide ((0 : Int32) ≤ a1 ∧ a1 ≤ 200) = false := wi_no0 (b := 200) (by decide) c
    simp only [eX_on_0, eX_on_1, eX_on_2, eX_on_5, eX_on_8, eX_on_11, eX_on_12, eX_on_13, eX_on_14, eX_on_17, eX_on_20, eX_on_21, eX_on_22, eX_on_25, eX_on_26, eX_on_27, eX_on_30, eX_on_31, eX_on_34, eX_on_35, eX_on_38, eX_on_39, eX_on_42, eX_on_43, eX_on_46, eX_on_49, eX_on_52, eX_on_53, eX_on_56, eX_on_59, eq_self, hr_k_some, Option.toList, List.cons_append, List.nil_append, is2k_n, is2k_i, is2k_r, is2k_0, oc_0, ro_00, ro_01, ro_02, ro_04, ro_05, ro_06, ro_07, oc_1, oc_11, oc_21, oc_31, oc_32, ro_16, ro_b6, ak_2, ak_12, al_2, al_12, ra_2, ra_12, i10, i01, zb_t, zb_f, not_true_eq_false, not_false_eq_true, if_true, if_false, sp_found0, sp_found1, sp_found2, sp_found3, sp_found4, sp_found5, sp_found6, true_or, sp_isWithin, ew]
theorem X_moved_ok (h : Cl I J t n kp u m y bt L w z num) {k c : Nat} (hk : k < n) (hc : c ≤ 200) : XR nX_moved [some (.ref 0), some (.int (nI k)), some (.int (nI c))] I J (.int (nI (goN t n c (7 + 5 * k)))) (fun I' J' => Cl I' J' t n kp u m y bt L w z num) := by
  have hn := h.2.1.2.1
  have hk8 : k < 8 := by omega
  have er := sp_isRock (J := J) h.h5 hn (x := nI k) |>.1 ⟨k, hk, rfl⟩
  obtain ⟨I1, e1, hH1, ho1⟩ := sp_goWatches (J := J) is11 (c := c) (by omega) (try_hold h) h.2.1 (by omega)
  have ew : decide ((0 : Int32) ≤ nI c ∧ nI c ≤ 200) = true := wi_yes (a := 0) (b := 200) (by omega) hc (by decide)
  have g1 : I1 (13 + k) 1 = nI (goN t n c (7 + 5 * k)) := (hH1.2 k hk).2.1
  have ho := (try_off h).trans ho1
  refine ⟨I1, J, ?_, (offX.of11 ho).fr, h.t11 ho⟩
  simp only [eX_moved_0, eX_moved_1, eX_moved_2, eX_moved_5, eX_moved_8, eX_moved_9, eX_moved_10, eX_moved_13, eX_moved_16, eX_moved_19, eX_moved_20, eX_moved_21, eX_moved_24, eX_moved_25, eX_moved_26, eX_moved_29, eX_moved_30, eX_moved_33, eX_moved_34, eX_moved_37, eX_moved_38, eX_moved_41, eX_moved_44, eX_moved_45, eX_moved_46, eX_moved_49, eq_self, hr_k_some, Option.toList, List.cons_append, List.nil_append, is2k_n, is2k_i, is2k_r, is2k_0, oc_0, ro_00, ro_01, ro_02, ro_04, ro_05, ro_06, ro_07, oc_1, oc_11, oc_21, oc_31, oc_32, ro_16, ro_b6, ak_2, ak_12, al_2, al_12, ra_2, ra_12, i10, i01, zb_t, zb_f, not_true_eq_false, not_false_eq_true, if_true, if_false, sp_found0, sp_found1, sp_found2, sp_found3, sp_found4, sp_found5, sp_found6, true_or, er, sp_isWithin, ew, sp_try h, e1, in_8 hk8, cl_nI (show k < 100000 by omega), oc_r11 hk8, g1]
theorem X_moved_no (h : Cl I J t n kp u m y bt L w z num) {a1 a2 : Int32} (hb : ¬ (rng a1 n ∧ rng a2 201)) : XR nX_moved [some (.ref 0), some (.int a1), some (.int a2)] I J (.int (fnd 0)) (fun I' J' => Cl I' J' t n kp u m (inc y 0) bt L w z num) := by
  refine XR.fnd (by decide) h ?_
  have hn := h.2.1.2.1
  by_cases c : rng a1 n
  · have er := sp_isRock (J := J) h.h5 hn (x := a1) |>.1 c
    have ew : decide ((0 : Int32) ≤ a2 ∧ a2 ≤ 200) = false := wi_no0 (b := 200) (by decide) (fun z => hb ⟨c, z⟩)
    simp only [eX_moved_0, eX_moved_1, eX_moved_2, eX_moved_5, eX_moved_8, eX_moved_9, eX_moved_10, eX_moved_13, eX_moved_16, eX_moved_19, eX_moved_20, eX_moved_21, eX_moved_24, eX_moved_25, eX_moved_26, eX_moved_29, eX_moved_30, eX_moved_33, eX_moved_34, eX_moved_37, eX_moved_38, eX_moved_41, eX_moved_44, eX_moved_45, eX_moved_46, eX_moved_49, eq_self, hr_k_some, Option.toList, List.cons_append, List.nil_append, is2k_n, is2k_i, is2k_r, is2k_0, oc_0, ro_00, ro_01, ro_02, ro_04, ro_05, ro_06, ro_07, oc_1, oc_11, oc_21, oc_31, oc_32, ro_16, ro_b6, ak_2, ak_12, al_2, al_12, ra_2, ra_12, i10, i01, zb_t, zb_f, not_true_eq_false, not_false_eq_true, if_true, if_false, sp_found0, sp_found1, sp_found2, sp_found3, sp_found4, sp_found5, sp_found6, true_or, er, sp_isWithin, ew]
  · have er := sp_isRock (J := J) h.h5 hn (x := a1) |>.2 c
    simp only [eX_moved_0, eX_moved_1, eX_moved_2, eX_moved_5, eX_moved_8, eX_moved_9, eX_moved_10, eX_moved_13, eX_moved_16, eX_moved_19, eX_moved_20, eX_moved_21, eX_moved_24, eX_moved_25, eX_moved_26, eX_moved_29, eX_moved_30, eX_moved_33, eX_moved_34, eX_moved_37, eX_moved_38, eX_moved_41, eX_moved_44, eX_moved_45, eX_moved_46, eX_moved_49, eq_self, hr_k_some, Option.toList, List.cons_append, List.nil_append, is2k_n, is2k_i, is2k_r, is2k_0, oc_0, ro_00, ro_01, ro_02, ro_04, ro_05, ro_06, ro_07, oc_1, oc_11, oc_21, oc_31, oc_32, ro_16, ro_b6, ak_2, ak_12, al_2, al_12, ra_2, ra_12, i10, i01, zb_t, zb_f, not_true_eq_false, not_false_eq_true, if_true, if_false, sp_found0, sp_found1, sp_found2, sp_found3, sp_found4, sp_found5, sp_found6, true_or, er]
/-! strikes, home, comes -/
def ftV (v : Nat) : (Nat → Nat) → Bool := fun t => decide (t 4 = v)
theorem milT {m x : Nat} (h : x ≤ m) : mil m x = nI x := if_pos h
theorem milF {m x : Nat} (h : ¬ x ≤ m) : mil m x = 1000000 := if_neg h
/-- an answer after the trial's sea was used -/
theorem XR.t11 {mth : Nat} {en : hr_L} {r : Value} (h : Cl I J t n kp u m y bt L w z num) (ho : off 11 I I') (e : den mth (0, en, [], (I, J)) = some (some r, (I', J))) : XR mth en I J r (fun I' J' => Cl I' J' t n kp u m y bt L w z num) := ⟨_, _, e, (offX.of11 ho).fr, h.t11 ho⟩
theorem XRt11f {mth : Nat} {en : hr_L} {k : Nat} (hk : k < 7) (h : Cl I J t n kp u m y bt L w z num) (ho : off 11 I I') (e : den mth (0, en, [], (I, J)) = some (some (.int (fnd k)), (up2 I' 43 k (I' 43 k + 1), J))) : XR mth en I J (.int (fnd k)) (fun I' J' => Cl I' J' t n kp u m (inc y k) bt L w z num) := ⟨_, _, e, (offX.of11 ho).fr.trans frX.fnd, (h.t11 ho).fnd hk⟩
theorem X_strikes (h : Cl I J t n kp u m y bt L w z num) : (fiV (ftV 1) t n 201 ≤ 200 → XR nX_strikes [some (.ref 0)] I J (.int (nI (fiV (ftV 1) t n 201))) (fun I' J' => Cl I' J' t n kp u m y bt L w z num)) ∧ (¬ fiV (ftV 1) t n 201 ≤ 200 → XR nX_strikes [some (.ref 0)] I J (.int (fnd 3)) (fun I' J' => Cl I' J' t n kp u m (inc y 3) bt L w z num)) := by
  obtain ⟨I1, e1, ho1⟩ := sp_toFate (J := J) is11 (v := 1) (m := 200) (Or.inl rfl) (by decide) (try_hold h) h.2.1 (by decide)
  have ho := (try_off h).trans ho1
  have e1' : den nS_watchesToFate (0, [some (.ref 11), some (.int 1), some (.int 200), none], [], (bI I 11 1 n, J)) = some (some (.int (mil 200 (fiV (ftV 1) t n 201))), (I1, J)) := e1
  constructor
  · intro hc
    refine XR.t11 h ho ?_
    rw [milT hc] at e1'
    simp only [eX_strikes_0, eX_strikes_1, eX_strikes_4, eX_strikes_5, eX_strikes_6, eX_strikes_9, eX_strikes_10, eX_strikes_13, eX_strikes_16, eX_strikes_19, eq_self, hr_k_some, Option.toList, List.cons_append, List.nil_append, is2k_n, is2k_i, is2k_r, is2k_0, oc_0, ro_00, ro_01, ro_02, ro_04, ro_05, ro_06, ro_07, oc_1, oc_11, oc_21, oc_31, oc_32, ro_16, ro_b6, ak_2, ak_12, al_2, al_12, ra_2, ra_12, i10, i01, zb_t, zb_f, not_true_eq_false, not_false_eq_true, if_true, if_false, sp_found0, sp_found1, sp_found2, sp_found3, sp_found4, sp_found5, sp_found6, true_or, sp_try h, e1', sp_orNone' (show fiV (ftV 1) t n 201 < 1000 by omega)]
  · intro hc
    refine XRt11f (by decide) h ho ?_
    rw [milF hc] at e1'
    simp only [eX_strikes_0, eX_strikes_1, eX_strikes_4, eX_strikes_5, eX_strikes_6, eX_strikes_9, eX_strikes_10, eX_strikes_13, eX_strikes_16, eX_strikes_19, eq_self, hr_k_some, Option.toList, List.cons_append, List.nil_append, is2k_n, is2k_i, is2k_r, is2k_0, oc_0, ro_00, ro_01, ro_02, ro_04, ro_05, ro_06, ro_07, oc_1, oc_11, oc_21, oc_31, oc_32, ro_16, ro_b6, ak_2, ak_12, al_2, al_12, ra_2, ra_12, i10, i01, zb_t, zb_f, not_true_eq_false, not_false_eq_true, if_true, if_false, sp_found0, sp_found1, sp_found2, sp_found3, sp_found4, sp_found5, sp_found6, true_or, sp_try h, e1', sp_orNone0]
theorem X_home (h : Cl I J t n kp u m y bt L w z num) : (fiV (ftV 2) t n 201 ≤ 200 → XR nX_home [some (.ref 0)] I J (.int (nI (fiV (ftV 2) t n 201))) (fun I' J' => Cl I' J' t n kp u m y bt L w z num)) ∧ (¬ fiV (ftV 2) t n 201 ≤ 200 → XR nX_home [some (.ref 0)] I J (.int (fnd 3)) (fun I' J' => Cl I' J' t n kp u m (inc y 3) bt L w z num)) := by
  obtain ⟨I1, e1, ho1⟩ := sp_toFate (J := J) is11 (v := 2) (m := 200) (Or.inr rfl) (by decide) (try_hold h) h.2.1 (by decide)
  have ho := (try_off h).trans ho1
  have e1' : den nS_watchesToFate (0, [some (.ref 11), some (.int 2), some (.int 200), none], [], (bI I 11 1 n, J)) = some (some (.int (mil 200 (fiV (ftV 2) t n 201))), (I1, J)) := e1
  constructor
  · intro hc
    refine XR.t11 h ho ?_
    rw [milT hc] at e1'
    simp only [eX_home_0, eX_home_1, eX_home_4, eX_home_5, eX_home_6, eX_home_9, eX_home_10, eX_home_13, eX_home_16, eX_home_19, eq_self, hr_k_some, Option.toList, List.cons_append, List.nil_append, is2k_n, is2k_i, is2k_r, is2k_0, oc_0, ro_00, ro_01, ro_02, ro_04, ro_05, ro_06, ro_07, oc_1, oc_11, oc_21, oc_31, oc_32, ro_16, ro_b6, ak_2, ak_12, al_2, al_12, ra_2, ra_12, i10, i01, zb_t, zb_f, not_true_eq_false, not_false_eq_true, if_true, if_false, sp_found0, sp_found1, sp_found2, sp_found3, sp_found4, sp_found5, sp_found6, true_or, sp_try h, e1', sp_orNone' (show fiV (ftV 2) t n 201 < 1000 by omega)]
  · intro hc
    refine XRt11f (by decide) h ho ?_
    rw [milF hc] at e1'
    simp only [eX_home_0, eX_home_1, eX_home_4, eX_home_5, eX_home_6, eX_home_9, eX_home_10, eX_home_13, eX_home_16, eX_home_19, eq_self, hr_k_some, Option.toList, List.cons_append, List.nil_append, is2k_n, is2k_i, is2k_r, is2k_0, oc_0, ro_00, ro_01, ro_02, ro_04, ro_05, ro_06, ro_07, oc_1, oc_11, oc_21, oc_31, oc_32, ro_16, ro_b6, ak_2, ak_12, al_2, al_12, ra_2, ra_12, i10, i01, zb_t, zb_f, not_true_eq_false, not_false_eq_true, if_true, if_false, sp_found0, sp_found1, sp_found2, sp_found3, sp_found4, sp_found5, sp_found6, true_or, sp_try h, e1', sp_orNone0]
def sqV (v : Nat) : (Nat → Nat) → Bool := fun t => decide (t 1 = v)
theorem X_comes (h : Cl I J t n kp u m y bt L w z num) {q : Nat} (hq : q < 64) : (fiV (sqV q) t n 201 ≤ 200 → XR nX_comes [some (.ref 0), some (.int (nI q))] I J (.int (nI (fiV (sqV q) t n 201))) (fun I' J' => Cl I' J' t n kp u m y bt L w z num)) ∧ (¬ fiV (sqV q) t n 201 ≤ 200 → XR nX_comes [some (.ref 0), some (.int (nI q))] I J (.int (fnd 3)) (fun I' J' => Cl I' J' t n kp u m (inc y 3) bt L w z num)) := by
  obtain ⟨I1, e1, ho1⟩ := sp_toSquare (J := J) is11 (v := q) (m := 200) hq (by decide) (try_hold h) h.2.1 (by decide)
  have ho := (try_off h).trans ho1
  have es := sp_isSquare (x := nI q) (h := (I, J)) |>.1 ⟨q, hq, rfl⟩
  have e1' : den nS_watchesToSquare (0, [some (.ref 11), some (.int (nI q)), some (.int 200), none], [], (bI I 11 1 n, J)) = some (some (.int (mil 200 (fiV (sqV q) t n 201))), (I1, J)) := e1
  constructor
  · intro hc
    refine XR.t11 h ho ?_
    rw [milT hc] at e1'
    simp only [eX_comes_0, eX_comes_1, eX_comes_4, eX_comes_7, eX_comes_8, eX_comes_9, eX_comes_12, eX_comes_13, eX_comes_14, eX_comes_17, eX_comes_18, eX_comes_19, eX_comes_22, eX_comes_23, eX_comes_26, eX_comes_29, eX_comes_32, eq_self, hr_k_some, Option.toList, List.cons_append, List.nil_append, is2k_n, is2k_i, is2k_r, is2k_0, oc_0, ro_00, ro_01, ro_02, ro_04, ro_05, ro_06, ro_07, oc_1, oc_11, oc_21, oc_31, oc_32, ro_16, ro_b6, ak_2, ak_12, al_2, al_12, ra_2, ra_12, i10, i01, zb_t, zb_f, not_true_eq_false, not_false_eq_true, if_true, if_false, sp_found0, sp_found1, sp_found2, sp_found3, sp_found4, sp_found5, sp_found6, true_or, es, sp_try h, e1', sp_orNone' (show fiV (sqV q) t n 201 < 1000 by omega)]
  · intro hc
    refine XRt11f (by decide) h ho ?_
    rw [milF hc] at e1'
    simp only [eX_comes_0, eX_comes_1, eX_comes_4, eX_comes_7, eX_comes_8, eX_comes_9, eX_comes_12, eX_comes_13, eX_comes_14, eX_comes_17, eX_comes_18, eX_comes_19, eX_comes_22, eX_comes_23, eX_comes_26, eX_comes_29, eX_comes_32, eq_self, hr_k_some, Option.toList, List.cons_append, List.nil_append, is2k_n, is2k_i, is2k_r, is2k_0, oc_0, ro_00, ro_01, ro_02, ro_04, ro_05, ro_06, ro_07, oc_1, oc_11, oc_21, oc_31, oc_32, ro_16, ro_b6, ak_2, ak_12, al_2, al_12, ra_2, ra_12, i10, i01, zb_t, zb_f, not_true_eq_false, not_false_eq_true, if_true, if_false, sp_found0, sp_found1, sp_found2, sp_found3, sp_found4, sp_found5, sp_found6, true_or, es, sp_try h, e1', sp_orNone0]
theorem X_comes_no (h : Cl I J t n kp u m y bt L w z num) {a1 : Int32} (hb : ¬ rng a1 64) : XR nX_comes [some (.ref 0), some (.int a1)] I J (.int (fnd 0)) (fun I' J' => Cl I' J' t n kp u m (inc y 0) bt L w z num) := by
  refine XR.fnd (by decide) h ?_
  have es := sp_isSquare (x := a1) (h := (I, J)) |>.2 hb
  simp only [eX_comes_0, eX_comes_1, eX_comes_4, eX_comes_7, eX_comes_8, eX_comes_9, eX_comes_12, eX_comes_13, eX_comes_14, eX_comes_17, eX_comes_18, eX_comes_19, eX_comes_22, eX_comes_23, eX_comes_26, eX_comes_29, eX_comes_32, eq_self, hr_k_some, Option.toList, List.cons_append, List.nil_append, is2k_n, is2k_i, is2k_r, is2k_0, oc_0, ro_00, ro_01, ro_02, ro_04, ro_05, ro_06, ro_07, oc_1, oc_11, oc_21, oc_31, oc_32, ro_16, ro_b6, ak_2, ak_12, al_2, al_12, ra_2, ra_12, i10, i01, zb_t, zb_f, not_true_eq_false, not_false_eq_true, if_true, if_false, sp_found0, sp_found1, sp_found2, sp_found3, sp_found4, sp_found5, sp_found6, true_or, es]
end
