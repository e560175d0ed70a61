/-! ===== the model: its invariant ===== -/
def ltS : List (List Nat) := [[114, 111, 99, 107, 32, 32, 32, 32, 103, 114, 97, 110, 105, 116, 101, 32, 98, 97, 114, 32, 32, 32, 32, 32, 98, 117, 111, 121, 32, 32, 32, 32, 109, 97, 105, 100, 32, 32, 32, 32, 115, 104, 111, 97, 108, 32, 32, 32], [97, 116, 32, 32, 32, 32, 32, 32, 104, 111, 114, 110, 32, 32, 32, 32, 115, 119, 101, 101, 116, 32, 32, 32, 115, 105, 108, 101, 110, 116, 32, 32], [115, 104, 105, 112, 32, 32, 32, 32, 101, 97, 114, 32, 32, 32, 32, 32, 108, 111, 110, 103, 105, 110, 103, 32]]
def ltr (k j : Nat) : Nat := (ltS.getD k []).getD j 0
def Msh (I : Nat → Nat → Int32) (J : Nat → Nat → Int64) (w z : Nat → Nat) (num : Nat → Nat → Int64) : Prop := ∀ s, s < 4 → I 53 s = nI (w s) ∧ (w s = 0 ∨ w s = 8 ∨ w s = 16 ∨ w s = 64) ∧ I 54 s = nI (z s) ∧ z s ≤ 40 ∧ ∀ i, i < 40 → J 55 (40 * s + i) = num s i
def Mlt (I : Nat → Nat → Int32) : Prop := (∀ j, j < 48 → I 50 j = nI (ltr 0 j)) ∧ (∀ j, j < 32 → I 51 j = nI (ltr 1 j)) ∧ ∀ j, j < 24 → I 52 j = nI (ltr 2 j)
def MTp (I : Nat → Nat → Int32) (bt : Nat → Nat) (L : Nat) : Prop := I 44 6 = nI L ∧ L ≤ 120 ∧ ∀ j, j < L → bt j < 256 ∧ I 49 j = nI (bt j)
/-- the model holds the same as the class does (Cl) -/
def Md (I : Nat → Nat → Int32) (J : Nat → Nat → Int64) (t : Nat → Nat) (n kp : Nat) (u : Nat → Nat) (m : Nat) (y : Nat → Int32) (bt : Nat → Nat) (L : Nat) (w z : Nat → Nat) (num : Nat → Nat → Int64) : Prop :=
  mh I 45 t n ∧ V t n 99999 ∧ (I 44 3 = nI kp ∧ kp < 2 ∧ (kp = 1 → mh I 46 u m ∧ V u m 99999)) ∧ (∀ j, j < 7 → I 48 j = y j) ∧ MTp I bt L ∧ Msh I J w z num ∧ Mlt I
/-- what the other side keeps -/
def frM (I I' : Nat → Nat → Int32) (J J' : Nat → Nat → Int64) : Prop := ∀ b, (b < 44 ∨ 57 ≤ b) → ∀ j, I' b j = I b j ∧ J' b j = J b j
/-- a call of the model -/
def MR (mth : Nat) (en : hr_L) (I : Nat → Nat → Int32) (J : Nat → Nat → Int64) (r : Value) (Post : (Nat → Nat → Int32) → (Nat → Nat → Int64) → Prop) : Prop := ∃ I' J', den mth (0, en, [], (I, J)) = some (some r, (I', J')) ∧ frM I I' J J' ∧ Post I' J'
section
variable {I I' : Nat → Nat → Int32} {J J' : Nat → Nat → Int64} {t t' : Nat → Nat} {n n' kp B : Nat} {u : Nat → Nat} {m : Nat} {y : Nat → Int32} {bt : Nat → Nat} {L : Nat} {w z : Nat → Nat} {num : Nat → Nat → Int64}
theorem frM.rfl : frM I I J J := fun _ _ _ => ⟨Eq.refl _, Eq.refl _⟩
theorem frM.trans {I'' : Nat → Nat → Int32} {J'' : Nat → Nat → Int64} (h : frM I I' J J') (h' : frM I' I'' J' J'') : frM I I'' J J'' := fun b hb j => ⟨((h' b hb j).1).trans (h b hb j).1, ((h' b hb j).2).trans (h b hb j).2⟩
theorem oR.fr {a : Nat} (h : oR a I I') (ha : 44 ≤ a ∧ a < 57) : frM I I' J J := fun b hb j => ⟨h b (by omega) j, Eq.refl _⟩
theorem lb.fr (h : lb I I') : frM I I' J J := fun b hb j => ⟨h.2 b (by omega) (by omega) j, Eq.refl _⟩
theorem Md.move (h : Md I J t n kp u m y bt L w z num) (ho : ∀ b, 44 ≤ b → b < 57 → b ≠ 45 → b ≠ 47 → ∀ j, I' b j = I b j) (hH : mh I' 45 t' n') (hV : V t' n' 99999) : Md I' J t' n' kp u m y bt L w z num := by
  obtain ⟨h1, h2, ⟨h3, h4, h5⟩, h6, ⟨h7, h8, h9⟩, h10, h11, h12, h13⟩ := h
  have o := fun b (h1 : 44 ≤ b ∧ b < 57 ∧ b ≠ 45 ∧ b ≠ 47) j => ho b h1.1 h1.2.1 h1.2.2.1 h1.2.2.2 j
  refine ⟨hH, hV, ⟨(o 44 (by decide) _).trans h3, h4, fun hk => ⟨fun j hj => (o 46 (by decide) _).trans ((h5 hk).1 j hj), (h5 hk).2⟩⟩, fun j hj => (o 48 (by decide) _).trans (h6 j hj), ⟨(o 44 (by decide) _).trans h7, h8, fun j hj => ⟨(h9 j hj).1, (o 49 (by decide) _).trans (h9 j hj).2⟩⟩, fun s hs => ?_, fun j hj => (o 50 (by decide) _).trans (h11 j hj), fun j hj => (o 51 (by decide) _).trans (h12 j hj), fun j hj => (o 52 (by decide) _).trans (h13 j hj)⟩
  obtain ⟨a1, a2, a3, a4, a5⟩ := h10 s hs
  exact ⟨(o 53 (by decide) _).trans a1, a2, (o 54 (by decide) _).trans a3, a4, a5⟩
theorem Md.mv (h : Md I J t n kp u m y bt L w z num) (ho : oR 45 I I') (hH : mh I' 45 t' n') (hV : V t' n' 99999) : Md I' J t' n' kp u m y bt L w z num := h.move (fun b _ _ h3 _ j => ho b h3 j) hH hV
theorem Md.lb (h : Md I J t n kp u m y bt L w z num) (ho : lb I I') : Md I' J t n kp u m y bt L w z num := h.move (fun b _ _ h3 h4 j => ho.2 b h3 h4 j) (ho.mh h.1 h.2.1.2.1) h.2.1
theorem Md.fnd (h : Md I J t n kp u m y bt L w z num) {k : Nat} (hk : k < 7) : Md (up2 I 48 k (I 48 k + 1)) J t n kp u m (inc y k) bt L w z num := by
  obtain ⟨h1, h2, ⟨h3, h4, h5⟩, h6, ⟨h7, h8, h9⟩, h10, h11, h12, h13⟩ := h
  have o : ∀ b, b ≠ 48 → ∀ j, up2 I 48 k (I 48 k + 1) b j = I b j := fun b hb j => up2_na hb
  refine ⟨fun j hj => (o 45 (by decide) _).trans (h1 j hj), h2, ⟨(o 44 (by decide) _).trans h3, h4, fun hk => ⟨fun j hj => (o 46 (by decide) _).trans ((h5 hk).1 j hj), (h5 hk).2⟩⟩, fun j hj => ?_, ⟨(o 44 (by decide) _).trans h7, h8, fun j hj => ⟨(h9 j hj).1, (o 49 (by decide) _).trans (h9 j hj).2⟩⟩, fun s hs => ?_, fun j hj => (o 50 (by decide) _).trans (h11 j hj), fun j hj => (o 51 (by decide) _).trans (h12 j hj), fun j hj => (o 52 (by decide) _).trans (h13 j hj)⟩
  · rw [up2_row]
    unfold inc
    split
    · rename_i e; subst e; rw [h6 _ hj]
    · exact h6 j hj
  · obtain ⟨a1, a2, a3, a4, a5⟩ := h10 s hs
    exact ⟨(o 53 (by decide) _).trans a1, a2, (o 54 (by decide) _).trans a3, a4, a5⟩
theorem MR.rd {mth : Nat} {en : hr_L} {r : Value} (h : Md I J t n kp u m y bt L w z num) (e : den mth (0, en, [], (I, J)) = some (some r, (I, J))) : MR mth en I J r (fun I' J' => Md I' J' t n kp u m y bt L w z num) := ⟨_, _, e, frM.rfl, h⟩
theorem MR.fnd {mth : Nat} {en : hr_L} {k : Nat} (hk : k < 7) (h : Md I J t n kp u m y bt L w z num) (e : den mth (0, en, [], (I, J)) = some (some (.int (fnd k)), (up2 I 48 k (I 48 k + 1), J))) : MR mth en I J (.int (fnd k)) (fun I' J' => Md I' J' t n kp u m (inc y k) bt L w z num) := ⟨_, _, e, oR.up.fr (by decide), h.fnd hk⟩
theorem MR.mv {mth : Nat} {en : hr_L} {r : Value} (h : Md I J t n kp u m y bt L w z num) (ho : oR 45 I I') (hH : mh I' 45 t' n') (hV : V t' n' 99999) (e : den mth (0, en, [], (I, J)) = some (some r, (I', J))) : MR mth en I J r (fun I' J' => Md I' J' t' n' kp u m y bt L w z num) := ⟨_, _, e, ho.fr (by decide), h.mv ho hH hV⟩
theorem MR.lb {mth : Nat} {en : hr_L} {r : Value} (h : Md I J t n kp u m y bt L w z num) (ho : lb I I') (e : den mth (0, en, [], (I, J)) = some (some r, (I', J))) : MR mth en I J r (fun I' J' => Md I' J' t n kp u m y bt L w z num) := ⟨_, _, e, ho.fr, h.lb ho⟩
theorem MRlbf {mth : Nat} {en : hr_L} {k : Nat} (hk : k < 7) (h : Md I J t n kp u m y bt L w z num) (ho : lb I I') (e : den mth (0, en, [], (I, J)) = some (some (.int (fnd k)), (up2 I' 48 k (I' 48 k + 1), J))) : MR mth en I J (.int (fnd k)) (fun I' J' => Md I' J' t n kp u m (inc y k) bt L w z num) := ⟨_, _, e, ho.fr.trans (oR.up.fr (by decide)), (h.lb ho).fnd hk⟩
theorem sp_no0 : den nM_no (0, [some (.ref 44), some (.int 0)], [], (I, J)) = some (some (.int (fnd 0)), (up2 I 48 0 (I 48 0 + 1), J)) := sp_no (k := 0) (by decide)
theorem sp_no1 : den nM_no (0, [some (.ref 44), some (.int 1)], [], (I, J)) = some (some (.int (fnd 1)), (up2 I 48 1 (I 48 1 + 1), J)) := sp_no (k := 1) (by decide)
theorem sp_no2 : den nM_no (0, [some (.ref 44), some (.int 2)], [], (I, J)) = some (some (.int (fnd 2)), (up2 I 48 2 (I 48 2 + 1), J)) := sp_no (k := 2) (by decide)
theorem sp_no3 : den nM_no (0, [some (.ref 44), some (.int 3)], [], (I, J)) = some (some (.int (fnd 3)), (up2 I 48 3 (I 48 3 + 1), J)) := sp_no (k := 3) (by decide)
theorem sp_no4 : den nM_no (0, [some (.ref 44), some (.int 4)], [], (I, J)) = some (some (.int (fnd 4)), (up2 I 48 4 (I 48 4 + 1), J)) := sp_no (k := 4) (by decide)
theorem sp_no5 : den nM_no (0, [some (.ref 44), some (.int 5)], [], (I, J)) = some (some (.int (fnd 5)), (up2 I 48 5 (I 48 5 + 1), J)) := sp_no (k := 5) (by decide)
theorem sp_no6 : den nM_no (0, [some (.ref 44), some (.int 6)], [], (I, J)) = some (some (.int (fnd 6)), (up2 I 48 6 (I 48 6 + 1), J)) := sp_no (k := 6) (by decide)
theorem iy {k b : Nat} (h : k ≤ b) (hb : b < 2 ^ 31) : decide ((0 : Int32) ≤ nI k ∧ nI k ≤ nI b) = true := wi_yes (a := 0) (Nat.zero_le _) h hb
theorem ino {x : Int32} {b : Nat} (hb : b + 1 < 2 ^ 31) (h : ¬ rng x (b + 1)) : decide ((0 : Int32) ≤ x ∧ x ≤ nI b) = false := wi_no0 hb h
theorem nq {q c : Nat} (h : q ≠ c) (hq : q < 2 ^ 31) (hc : c < 2 ^ 31) : (nI q = nI c) = False := (nI_lit q c hq hc).trans (eq_false h)
theorem m_isSq {x : Int32} {h : hr_H} : (rng x 64 → den nM_isSquare (0, [some (.int x)], [], h) = some (some (.int 1), h)) ∧ (¬ rng x 64 → den nM_isSquare (0, [some (.int x)], [], h) = some (some (.int 0), h)) := by
  constructor
  · rintro ⟨k, hk, rfl⟩
    have e : decide ((0 : Int32) ≤ nI k ∧ nI k ≤ 63) = true := iy (b := 63) (by omega) (by decide)
    simp only [eM_isSquare_0, eM_isSquare_1, eM_isSquare_2, eM_isSquare_4, eM_isSquare_7, eq_self, hr_k_some, Option.toList, List.cons_append, List.nil_append, is2k_n, is2k_i, is2k_r, is2k_0, oc_44, ro_m0, ro_m1, ro_m2, ro_m4, ro_m5, ro_m11, ro_m12, ro_m13, ro_m14, ro_m15, ro_m16, ro_m17, ak_45, ak_46, ak_47, ak_48, ak_49, ak_50, ak_51, ak_52, ak_53, ak_54, ak_55, ak_56, al_45, al_46, al_47, al_48, al_49, al_50, al_51, al_52, al_53, al_54, al_55, al_56, l45, l46, l47, l48, l49, l50, l51, l52, l53, l54, a45, a46, a47, a48, a49, a50, a51, a52, a53, a54, in46_0, in46_1, in46_2, in46_3, in46_4, in46_5, cn_0, cn_1, cn_2, cn_3, cn_4, cn_5, i10, i01, zb_t, zb_f, not_true_eq_false, not_false_eq_true, if_true, if_false, true_or, sp_in1, md_1, md_6, md_5, e, zb_n1]
  · intro hx
    have e : decide ((0 : Int32) ≤ x ∧ x ≤ 63) = false := ino (b := 63) (by decide) hx
    simp only [eM_isSquare_0, eM_isSquare_1, eM_isSquare_2, eM_isSquare_4, eM_isSquare_7, eq_self, hr_k_some, Option.toList, List.cons_append, List.nil_append, is2k_n, is2k_i, is2k_r, is2k_0, oc_44, ro_m0, ro_m1, ro_m2, ro_m4, ro_m5, ro_m11, ro_m12, ro_m13, ro_m14, ro_m15, ro_m16, ro_m17, ak_45, ak_46, ak_47, ak_48, ak_49, ak_50, ak_51, ak_52, ak_53, ak_54, ak_55, ak_56, al_45, al_46, al_47, al_48, al_49, al_50, al_51, al_52, al_53, al_54, al_55, al_56, l45, l46, l47, l48, l49, l50, l51, l52, l53, l54, a45, a46, a47, a48, a49, a50, a51, a52, a53, a54, in46_0, in46_1, in46_2, in46_3, in46_4, in46_5, cn_0, cn_1, cn_2, cn_3, cn_4, cn_5, i10, i01, zb_t, zb_f, not_true_eq_false, not_false_eq_true, if_true, if_false, true_or, sp_in1, md_1, md_6, md_5, e, zb_n0]
theorem m_isRock (h5 : I 45 5 = nI n) (hn : n ≤ 8) {x : Int32} : (rng x n → den nM_isRock (0, [some (.ref 44), some (.int x)], [], (I, J)) = some (some (.int 1), (I, J))) ∧ (¬ rng x n → den nM_isRock (0, [some (.ref 44), some (.int x)], [], (I, J)) = some (some (.int 0), (I, J))) := by
  cases n with
  | zero =>
    refine ⟨fun ⟨k, hk, _⟩ => by omega, fun _ => ?_⟩
    have e : decide ((0 : Int32) ≤ x ∧ x ≤ nI 0 - 1) = false := by
      rw [decide_eq_false_iff_not]
      rintro ⟨h1, h2⟩
      exact absurd (Int32.le_trans h1 h2) (by decide)
    simp only [eM_isRock_0, eM_isRock_1, eM_isRock_2, eM_isRock_3, eM_isRock_6, eM_isRock_7, eM_isRock_8, eM_isRock_9, eM_isRock_10, eM_isRock_13, eq_self, hr_k_some, Option.toList, List.cons_append, List.nil_append, is2k_n, is2k_i, is2k_r, is2k_0, oc_44, ro_m0, ro_m1, ro_m2, ro_m4, ro_m5, ro_m11, ro_m12, ro_m13, ro_m14, ro_m15, ro_m16, ro_m17, ak_45, ak_46, ak_47, ak_48, ak_49, ak_50, ak_51, ak_52, ak_53, ak_54, ak_55, ak_56, al_45, al_46, al_47, al_48, al_49, al_50, al_51, al_52, al_53, al_54, al_55, al_56, l45, l46, l47, l48, l49, l50, l51, l52, l53, l54, a45, a46, a47, a48, a49, a50, a51, a52, a53, a54, in46_0, in46_1, in46_2, in46_3, in46_4, in46_5, cn_0, cn_1, cn_2, cn_3, cn_4, cn_5, i10, i01, zb_t, zb_f, not_true_eq_false, not_false_eq_true, if_true, if_false, true_or, sp_in1, md_1, md_6, md_5, h5, e, zb_n0]
  | succ n =>
    constructor
    · rintro ⟨k, hk, rfl⟩
      have e : decide ((0 : Int32) ≤ nI k ∧ nI k ≤ nI (n + 1) - 1) = true := by rw [nI_pred]; exact iy (by omega) (by omega)
      simp only [eM_isRock_0, eM_isRock_1, eM_isRock_2, eM_isRock_3, eM_isRock_6, eM_isRock_7, eM_isRock_8, eM_isRock_9, eM_isRock_10, eM_isRock_13, eq_self, hr_k_some, Option.toList, List.cons_append, List.nil_append, is2k_n, is2k_i, is2k_r, is2k_0, oc_44, ro_m0, ro_m1, ro_m2, ro_m4, ro_m5, ro_m11, ro_m12, ro_m13, ro_m14, ro_m15, ro_m16, ro_m17, ak_45, ak_46, ak_47, ak_48, ak_49, ak_50, ak_51, ak_52, ak_53, ak_54, ak_55, ak_56, al_45, al_46, al_47, al_48, al_49, al_50, al_51, al_52, al_53, al_54, al_55, al_56, l45, l46, l47, l48, l49, l50, l51, l52, l53, l54, a45, a46, a47, a48, a49, a50, a51, a52, a53, a54, in46_0, in46_1, in46_2, in46_3, in46_4, in46_5, cn_0, cn_1, cn_2, cn_3, cn_4, cn_5, i10, i01, zb_t, zb_f, not_true_eq_false, not_false_eq_true, if_true, if_false, true_or, sp_in1, md_1, md_6, md_5, h5, e, zb_n1]
    · intro hx
      have e : decide ((0 : Int32) ≤ x ∧ x ≤ nI (n + 1) - 1) = false := by rw [nI_pred]; exact ino (by omega) hx
      simp only [eM_isRock_0, eM_isRock_1, eM_isRock_2, eM_isRock_3, eM_isRock_6, eM_isRock_7, eM_isRock_8, eM_isRock_9, eM_isRock_10, eM_isRock_13, eq_self, hr_k_some, Option.toList, List.cons_append, List.nil_append, is2k_n, is2k_i, is2k_r, is2k_0, oc_44, ro_m0, ro_m1, ro_m2, ro_m4, ro_m5, ro_m11, ro_m12, ro_m13, ro_m14, ro_m15, ro_m16, ro_m17, ak_45, ak_46, ak_47, ak_48, ak_49, ak_50, ak_51, ak_52, ak_53, ak_54, ak_55, ak_56, al_45, al_46, al_47, al_48, al_49, al_50, al_51, al_52, al_53, al_54, al_55, al_56, l45, l46, l47, l48, l49, l50, l51, l52, l53, l54, a45, a46, a47, a48, a49, a50, a51, a52, a53, a54, in46_0, in46_1, in46_2, in46_3, in46_4, in46_5, cn_0, cn_1, cn_2, cn_3, cn_4, cn_5, i10, i01, zb_t, zb_f, not_true_eq_false, not_false_eq_true, if_true, if_false, true_or, sp_in1, md_1, md_6, md_5, h5, e, zb_n0]
theorem Md.h5 (h : Md I J t n kp u m y bt L w z num) : I 45 5 = nI n := (mfs h.1 h.2.1).2.2.2.2.2
theorem pt0 {k : Nat} {x : Int32} (hk : k < 8) : den nM_puts (0, [some (.ref 44), some (.int (nI k)), some (.int 0), some (.int x)], [], (I, J)) = some (none, (up2 I 45 (6 + 5 * k) x, J)) := sp_puts (j := 0) hk (by decide)
theorem pt1 {k : Nat} {x : Int32} (hk : k < 8) : den nM_puts (0, [some (.ref 44), some (.int (nI k)), some (.int 1), some (.int x)], [], (I, J)) = some (none, (up2 I 45 (7 + 5 * k) x, J)) := by
  rw [show 7 + 5 * k = 6 + 5 * k + 1 by omega]; exact sp_puts (j := 1) hk (by decide)
theorem pt2 {k : Nat} {x : Int32} (hk : k < 8) : den nM_puts (0, [some (.ref 44), some (.int (nI k)), some (.int 2), some (.int x)], [], (I, J)) = some (none, (up2 I 45 (8 + 5 * k) x, J)) := by
  rw [show 8 + 5 * k = 6 + 5 * k + 2 by omega]; exact sp_puts (j := 2) hk (by decide)
theorem pt3 {k : Nat} {x : Int32} (hk : k < 8) : den nM_puts (0, [some (.ref 44), some (.int (nI k)), some (.int 3), some (.int x)], [], (I, J)) = some (none, (up2 I 45 (9 + 5 * k) x, J)) := by
  rw [show 9 + 5 * k = 6 + 5 * k + 3 by omega]; exact sp_puts (j := 3) hk (by decide)
theorem pt4 {k : Nat} {x : Int32} (hk : k < 8) : den nM_puts (0, [some (.ref 44), some (.int (nI k)), some (.int 4), some (.int x)], [], (I, J)) = some (none, (up2 I 45 (10 + 5 * k) x, J)) := by
  rw [show 10 + 5 * k = 6 + 5 * k + 4 by omega]; exact sp_puts (j := 4) hk (by decide)
theorem mq_up {S : Nat → Prop} (h : ∀ j, S j → I 45 j = nI (t j)) {k x : Nat} : ∀ j, (S j ∨ j = k) → up2 I 45 k (nI x) 45 j = nI (upV t k x j) := by
  intro j hj
  by_cases q : j = k
  · subst q; rw [up2_eq, upV_same]
  · rw [up2_nk q, upV_ne q]; exact h j (hj.resolve_right q)
end
