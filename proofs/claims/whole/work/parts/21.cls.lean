/-- a call of the class: what it answers, and what holds then -/
def XR (mth : Nat) (en : hr_L) (I : Nat → Nat → Int32) (J : Nat → Nat → Int64) (r : Value) (Post : (Nat → Nat → Int32) → (Nat → Nat → Int64) → Prop) : Prop := ∃ I' J', den mth (0, en, [], (I, J)) = some (some r, (I', J')) ∧ frX I I' J J' ∧ Post I' J'
section
variable {I I' : Nat → Nat → Int32} {J J' : Nat → Nat → Int64} {t t' : Nat → Nat} {n n' kp : Nat} {u : Nat → Nat} {m : Nat} {y : Nat → Int32} {bt : Nat → Nat} {L : Nat} {w z : Nat → Nat} {num : Nat → Nat → Int64}
theorem wi_no1 {x : Int32} {a b : Nat} (ha : a < 2 ^ 31) (hb : b < 2 ^ 31) (h : ¬ ∃ k, a ≤ k ∧ k ≤ b ∧ x = nI k) : decide (nI a ≤ x ∧ x ≤ nI b) = false := by
  rw [decide_eq_false_iff_not]
  rintro ⟨h1, h2⟩
  obtain ⟨j, h3, h4⟩ := nI_of2 (nI_toInt hb) (Int32.not_lt.mpr (Int32.le_trans (nI_pos' ha) h1)) h2
  subst h4
  exact h ⟨j, (nI_leI ha (by omega)).mp h1, h3, rfl⟩
theorem XR.fnd {mth : Nat} {en : hr_L} {k : Nat} (hk : k < 7) (h : Cl I J t n kp u m y bt L w z num) (e : den mth (0, en, [], (I, J)) = some (some (.int (fnd k)), (up2 I 43 k (I 43 k + 1), J))) : XR mth en I J (.int (fnd k)) (fun I' J' => Cl I' J' t n kp u m (inc y k) bt L w z num) := ⟨_, _, e, frX.fnd, h.fnd hk⟩
theorem XR.rd {mth : Nat} {en : hr_L} {r : Value} (h : Cl I J t n kp u m y bt L w z num) (e : den mth (0, en, [], (I, J)) = some (some r, (I, J))) : XR mth en I J r (fun I' J' => Cl I' J' t n kp u m y bt L w z num) := ⟨_, _, e, frX.rfl, h⟩
theorem f0 : (0 : Int32) = nI 0 := rfl
theorem sp_found0 : den nX_found (0, [some (.ref 0), some (.int 0)], [], (I, J)) = some (some (.int (fnd 0)), (up2 I 43 0 (I 43 0 + 1), J)) := sp_found (k := 0) (by decide)
theorem sp_found1 : den nX_found (0, [some (.ref 0), some (.int 1)], [], (I, J)) = some (some (.int (fnd 1)), (up2 I 43 1 (I 43 1 + 1), J)) := sp_found (k := 1) (by decide)
theorem sp_found2 : den nX_found (0, [some (.ref 0), some (.int 2)], [], (I, J)) = some (some (.int (fnd 2)), (up2 I 43 2 (I 43 2 + 1), J)) := sp_found (k := 2) (by decide)
theorem sp_found3 : den nX_found (0, [some (.ref 0), some (.int 3)], [], (I, J)) = some (some (.int (fnd 3)), (up2 I 43 3 (I 43 3 + 1), J)) := sp_found (k := 3) (by decide)
theorem sp_found4 : den nX_found (0, [some (.ref 0), some (.int 4)], [], (I, J)) = some (some (.int (fnd 4)), (up2 I 43 4 (I 43 4 + 1), J)) := sp_found (k := 4) (by decide)
theorem sp_found5 : den nX_found (0, [some (.ref 0), some (.int 5)], [], (I, J)) = some (some (.int (fnd 5)), (up2 I 43 5 (I 43 5 + 1), J)) := sp_found (k := 5) (by decide)
theorem sp_found6 : den nX_found (0, [some (.ref 0), some (.int 6)], [], (I, J)) = some (some (.int (fnd 6)), (up2 I 43 6 (I 43 6 + 1), J)) := sp_found (k := 6) (by decide)
theorem lt0f {k : Nat} (h : k < 2 ^ 31) : (nI k < 0) = False := eq_false (nI_pos h)
theorem leF {a b : Nat} (h : b < a) (ha : a < 2 ^ 31) : (nI a ≤ nI b) = False := eq_false (nI_ge h ha)
theorem leT {a b : Nat} (h : a ≤ b) (ha : b < 2 ^ 31) : (nI a ≤ nI b) = True := eq_true (nI_le h ha)
/-! tests -/
theorem sp_isKind {x : Int32} {h : hr_H} : (rng x 6 → den nX_isKind (0, [some (.int x)], [], h) = some (some (.int 1), h)) ∧ (¬ rng x 6 → den nX_isKind (0, [some (.int x)], [], h) = some (some (.int 0), h)) := by
  constructor
  · rintro ⟨k, hk, rfl⟩
    have e : ((6 : Int32) ≤ nI k) = False := leF hk (by decide)
    simp only [eX_isKind_0, eX_isKind_1, eX_isKind_4, eX_isKind_5, eX_isKind_7, eX_isKind_10, eX_isKind_11, eX_isKind_14, eX_isKind_15, eq_self, hr_k_some, Option.toList, List.cons_append, List.nil_append, is2k_n, is2k_i, is2k_r, is2k_0, lt0f (show k < 2 ^ 31 by omega), e, if_false, zb_n1]
  · intro hx
    rcases rng_no (by decide) hx with c | ⟨c, c2⟩
    · simp only [eX_isKind_0, eX_isKind_1, eX_isKind_4, eX_isKind_5, eX_isKind_7, eX_isKind_10, eX_isKind_11, eX_isKind_14, eX_isKind_15, eq_self, hr_k_some, Option.toList, List.cons_append, List.nil_append, is2k_n, is2k_i, is2k_r, is2k_0, c, if_true, zb_n0]
    · have e : ((6 : Int32) ≤ x) = True := eq_true c2
      simp only [eX_isKind_0, eX_isKind_1, eX_isKind_4, eX_isKind_5, eX_isKind_7, eX_isKind_10, eX_isKind_11, eX_isKind_14, eX_isKind_15, eq_self, hr_k_some, Option.toList, List.cons_append, List.nil_append, is2k_n, is2k_i, is2k_r, is2k_0, c, e, if_true, if_false, zb_n0]
theorem sp_isSquare {x : Int32} {h : hr_H} : (rng x 64 → den nX_isSquare (0, [some (.int x)], [], h) = some (some (.int 1), h)) ∧ (¬ rng x 64 → den nX_isSquare (0, [some (.int x)], [], h) = some (some (.int 0), h)) := by
  constructor
  · rintro ⟨k, hk, rfl⟩
    have e : ((64 : Int32) ≤ nI k) = False := leF hk (by decide)
    simp only [eX_isSquare_0, eX_isSquare_1, eX_isSquare_4, eX_isSquare_5, eX_isSquare_7, eX_isSquare_10, eX_isSquare_11, eX_isSquare_14, eX_isSquare_15, eq_self, hr_k_some, Option.toList, List.cons_append, List.nil_append, is2k_n, is2k_i, is2k_r, is2k_0, lt0f (show k < 2 ^ 31 by omega), e, if_false, zb_n1]
  · intro hx
    rcases rng_no (by decide) hx with c | ⟨c, c2⟩
    · simp only [eX_isSquare_0, eX_isSquare_1, eX_isSquare_4, eX_isSquare_5, eX_isSquare_7, eX_isSquare_10, eX_isSquare_11, eX_isSquare_14, eX_isSquare_15, eq_self, hr_k_some, Option.toList, List.cons_append, List.nil_append, is2k_n, is2k_i, is2k_r, is2k_0, c, if_true, zb_n0]
    · have e : ((64 : Int32) ≤ x) = True := eq_true c2
      simp only [eX_isSquare_0, eX_isSquare_1, eX_isSquare_4, eX_isSquare_5, eX_isSquare_7, eX_isSquare_10, eX_isSquare_11, eX_isSquare_14, eX_isSquare_15, eq_self, hr_k_some, Option.toList, List.cons_append, List.nil_append, is2k_n, is2k_i, is2k_r, is2k_0, c, e, if_true, if_false, zb_n0]
theorem sp_isSheet {x : Int32} {h : hr_H} : (rng x 4 → den nX_isSheet (0, [some (.int x)], [], h) = some (some (.int 1), h)) ∧ (¬ rng x 4 → den nX_isSheet (0, [some (.int x)], [], h) = some (some (.int 0), h)) := by
  constructor
  · rintro ⟨k, hk, rfl⟩
    have e : ((4 : Int32) ≤ nI k) = False := leF hk (by decide)
    simp only [eX_isSheet_0, eX_isSheet_1, eX_isSheet_4, eX_isSheet_5, eX_isSheet_6, eX_isSheet_9, eX_isSheet_10, eX_isSheet_13, eX_isSheet_14, eq_self, hr_k_some, Option.toList, List.cons_append, List.nil_append, is2k_n, is2k_i, is2k_r, is2k_0, lt0f (show k < 2 ^ 31 by omega), e, if_false, zb_n1]
  · intro hx
    rcases rng_no (by decide) hx with c | ⟨c, c2⟩
    · simp only [eX_isSheet_0, eX_isSheet_1, eX_isSheet_4, eX_isSheet_5, eX_isSheet_6, eX_isSheet_9, eX_isSheet_10, eX_isSheet_13, eX_isSheet_14, eq_self, hr_k_some, Option.toList, List.cons_append, List.nil_append, is2k_n, is2k_i, is2k_r, is2k_0, c, if_true, zb_n0]
    · have e : ((4 : Int32) ≤ x) = True := eq_true c2
      simp only [eX_isSheet_0, eX_isSheet_1, eX_isSheet_4, eX_isSheet_5, eX_isSheet_6, eX_isSheet_9, eX_isSheet_10, eX_isSheet_13, eX_isSheet_14, eq_self, hr_k_some, Option.toList, List.cons_append, List.nil_append, is2k_n, is2k_i, is2k_r, is2k_0, c, e, if_true, if_false, zb_n0]
theorem oc_1 : hr_oc 1 = 2 := id rfl
theorem oc_11 : hr_oc 11 = 2 := id rfl
theorem oc_21 : hr_oc 21 = 2 := id rfl
theorem is1 : isSea 1 := Or.inl rfl
theorem is11 : isSea 11 := Or.inr (Or.inl rfl)
theorem is21 : isSea 21 := Or.inr (Or.inr rfl)
theorem Cl.h5 (h : Cl I J t n kp u m y bt L w z num) : I 1 5 = nI n := by rw [h.1.1.2.2.2.2.2, h.2.1.1]
theorem sp_isRock (h5 : I 1 5 = nI n) (hn : n ≤ 8) {x : Int32} : (rng x n → den nX_isRock (0, [some (.ref 0), some (.int x)], [], (I, J)) = some (some (.int 1), (I, J))) ∧ (¬ rng x n → den nX_isRock (0, [some (.ref 0), some (.int x)], [], (I, J)) = some (some (.int 0), (I, J))) := by
  constructor
  · rintro ⟨k, hk, rfl⟩
    simp only [eX_isRock_0, eX_isRock_1, eX_isRock_4, eX_isRock_5, eX_isRock_6, eX_isRock_9, eX_isRock_12, eX_isRock_15, eX_isRock_16, eX_isRock_19, eX_isRock_20, eq_self, hr_k_some, Option.toList, List.cons_append, List.nil_append, is2k_n, is2k_i, is2k_r, is2k_0, lt0f (show k < 2 ^ 31 by omega), oc_0, ro_00, oc_1, h5, leF hk (show n < 2 ^ 31 by omega), if_false, zb_n1]
  · intro hx
    rcases rng_no (by omega) hx with c | ⟨c, c2⟩
    · simp only [eX_isRock_0, eX_isRock_1, eX_isRock_4, eX_isRock_5, eX_isRock_6, eX_isRock_9, eX_isRock_12, eX_isRock_15, eX_isRock_16, eX_isRock_19, eX_isRock_20, eq_self, hr_k_some, Option.toList, List.cons_append, List.nil_append, is2k_n, is2k_i, is2k_r, is2k_0, c, if_true, zb_n0]
    · have e : (nI n ≤ x) = True := eq_true c2
      simp only [eX_isRock_0, eX_isRock_1, eX_isRock_4, eX_isRock_5, eX_isRock_6, eX_isRock_9, eX_isRock_12, eX_isRock_15, eX_isRock_16, eX_isRock_19, eX_isRock_20, eq_self, hr_k_some, Option.toList, List.cons_append, List.nil_append, is2k_n, is2k_i, is2k_r, is2k_0, c, oc_0, ro_00, oc_1, h5, e, if_true, if_false, zb_n0]
theorem i01 : ((0 : Int32) = 0) = True := eq_true rfl
theorem i10 : ((1 : Int32) = 0) = False := eq_false (by decide)
theorem wi_z : zb true = 1 := rfl
/-! ship -/
def mostS (k : Nat) : Nat := if k = 0 then 63 else if k = 1 then 9 else 1
def shV (t : Nat → Nat) (k v : Nat) : Nat → Nat := if k = 0 then plV t v else upV t (1 + k) v
theorem sh_V {B k v : Nat} (hV : V t n B) (hk : k < 3) (hv : v ≤ mostS k) : V (shV t k v) n B := by
  obtain ⟨v5, v8, v0, v1, v2, v3, v4, v6, vk⟩ := id hV
  unfold shV mostS at *
  rcases (show k = 0 ∨ k = 1 ∨ k = 2 by omega) with rfl | rfl | rfl
  · exact pl_V hV (by simp at hv; omega)
  · rw [if_neg (by decide)]
    simp at hv
    refine ⟨by rw [upV_ne (by decide)]; exact v5, v8, by rw [upV_ne (by decide)]; exact v0, by rw [upV_ne (by decide)]; exact v1, by rw [upV_same]; omega, by rw [upV_ne (by decide)]; exact v3, by rw [upV_ne (by decide)]; exact v4, by rw [upV_ne (by decide), upV_ne (by decide)]; exact v6, fun k hk => ?_⟩
    rw [upV_ne (by omega), upV_ne (by omega), upV_ne (by omega), upV_ne (by omega), upV_ne (by omega)]; exact vk k hk
  · rw [if_neg (by decide)]
    simp at hv
    refine ⟨by rw [upV_ne (by decide)]; exact v5, v8, by rw [upV_ne (by decide)]; exact v0, by rw [upV_ne (by decide)]; exact v1, by rw [upV_ne (by decide)]; exact v2, by rw [upV_same]; omega, by rw [upV_ne (by decide)]; exact v4, by rw [upV_ne (by decide), upV_ne (by decide)]; exact v6, fun k hk => ?_⟩
    rw [upV_ne (by omega), upV_ne (by omega), upV_ne (by omega), upV_ne (by omega), upV_ne (by omega)]; exact vk k hk
theorem st_60 {k : Nat} (hk : k < 3) : hr_ai (I, J) 60 (nI k).toNatClampNeg = nI (mostS k) := by
  rcases (show k = 0 ∨ k = 1 ∨ k = 2 by omega) with rfl | rfl | rfl <;> rfl
theorem in_3 {k : Nat} (h : k < 3) : (hr_in (nI k) 3 = true) = True := eq_true (in_nI h (by decide))
theorem X_ship_ok (h : Cl I J t n kp u m y bt L w z num) {k v : Nat} (hk : k < 3) (hv : v ≤ mostS k) : XR nX_ship [some (.ref 0), some (.int (nI k)), some (.int (nI v))] I J (.int (nI (t (1 + k)))) (fun I' J' => Cl I' J' (shV t k v) n kp u m y bt L w z num) := by
  have hv64 : v < 64 := by unfold mostS at hv; split at hv <;> (try split at hv) <;> omega
  obtain ⟨I1, e1, hH1, ho1⟩ := sp_changeShip (J := J) hk hv64 is1 h.1
  have hm : mostS k < 2 ^ 31 := by unfold mostS; split <;> (try split) <;> decide
  have e3 : (Int32.ofNat 3 ≤ nI k) = False := leF hk (by decide)
  have ew : decide ((0 : Int32) ≤ nI v ∧ nI v ≤ nI (mostS k)) = true := wi_yes (Nat.zero_le v) hv hm
  refine ⟨I1, J, ?_, (offX.of1 ho1).fr, h.move (offX.of1 ho1) hH1 (sh_V h.2.1 hk hv)⟩
  simp only [eX_ship_0, eX_ship_1, eX_ship_4, eX_ship_5, eX_ship_8, eX_ship_9, eX_ship_12, eX_ship_13, eX_ship_14, eX_ship_17, eX_ship_18, eX_ship_19, eX_ship_22, eX_ship_25, eX_ship_26, eX_ship_27, eX_ship_30, eX_ship_31, eX_ship_32, eX_ship_35, eX_ship_36, eX_ship_37, eX_ship_40, eq_self, hr_k_some, Option.toList, List.cons_append, List.nil_append, is2k_n, is2k_i, is2k_r, is2k_0, lt0f (show k < 2 ^ 31 by omega), ak_60, al_60, e3, if_false, show (0 < 1) = True from eq_true (by decide), in_3 hk, st_60 hk, sp_isWithin, ew, wi_z, i10, not_false_eq_true, if_true, oc_0, ro_00, oc_1, e1]
theorem X_ship_no (h : Cl I J t n kp u m y bt L w z num) {a1 a2 : Int32} (hb : ¬ ∃ k v, k < 3 ∧ v ≤ mostS k ∧ a1 = nI k ∧ a2 = nI v) : XR nX_ship [some (.ref 0), some (.int a1), some (.int a2)] I J (.int (fnd 0)) (fun I' J' => Cl I' J' t n kp u m (inc y 0) bt L w z num) := by
  refine XR.fnd (by decide) h ?_
  by_cases c : rng a1 3
  · obtain ⟨k, hk, rfl⟩ := c
    have e3 : (Int32.ofNat 3 ≤ nI k) = False := leF hk (by decide)
    have hm : mostS k + 1 < 2 ^ 31 := by unfold mostS; split <;> (try split) <;> decide
    have ew := wi_no0 (x := a2) hm (fun ⟨v, h1, h2⟩ => hb ⟨k, v, hk, by omega, rfl, h2⟩)
    simp only [eX_ship_0, eX_ship_1, eX_ship_4, eX_ship_5, eX_ship_8, eX_ship_9, eX_ship_12, eX_ship_13, eX_ship_14, eX_ship_17, eX_ship_18, eX_ship_19, eX_ship_22, eX_ship_25, eX_ship_26, eX_ship_27, eX_ship_30, eX_ship_31, eX_ship_32, eX_ship_35, eX_ship_36, eX_ship_37, eX_ship_40, eq_self, hr_k_some, Option.toList, List.cons_append, List.nil_append, is2k_n, is2k_i, is2k_r, is2k_0, lt0f (show k < 2 ^ 31 by omega), ak_60, al_60, e3, if_false, show (0 < 1) = True from eq_true (by decide), in_3 hk, st_60 hk, sp_isWithin, ew, zb_f, not_true_eq_false, oc_0, show ((0 : Int32) ≤ a2 ∧ a2 ≤ nI (mostS k)) = (nI 0 ≤ a2 ∧ a2 ≤ nI (mostS k)) from rfl, sp_found0]
  · rcases rng_no (by decide) c with c1 | ⟨c1, c2⟩
    · simp only [eX_ship_0, eX_ship_1, eX_ship_4, eX_ship_5, eX_ship_8, eX_ship_9, eX_ship_12, eX_ship_13, eX_ship_14, eX_ship_17, eX_ship_18, eX_ship_19, eX_ship_22, eX_ship_25, eX_ship_26, eX_ship_27, eX_ship_30, eX_ship_31, eX_ship_32, eX_ship_35, eX_ship_36, eX_ship_37, eX_ship_40, eq_self, hr_k_some, Option.toList, List.cons_append, List.nil_append, is2k_n, is2k_i, is2k_r, is2k_0, c1, if_true, oc_0, sp_found0]
    · have e3 : (Int32.ofNat 3 ≤ a1) = True := eq_true c2
      simp only [eX_ship_0, eX_ship_1, eX_ship_4, eX_ship_5, eX_ship_8, eX_ship_9, eX_ship_12, eX_ship_13, eX_ship_14, eX_ship_17, eX_ship_18, eX_ship_19, eX_ship_22, eX_ship_25, eX_ship_26, eX_ship_27, eX_ship_30, eX_ship_31, eX_ship_32, eX_ship_35, eX_ship_36, eX_ship_37, eX_ship_40, eq_self, hr_k_some, Option.toList, List.cons_append, List.nil_append, is2k_n, is2k_i, is2k_r, is2k_0, c1, if_false, if_true, ak_60, al_60, e3, show (0 < 1) = True from eq_true (by decide), oc_0, sp_found0]
end
