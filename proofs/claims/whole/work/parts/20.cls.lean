/-! ===== the class: what its calls share ===== -/
/-- a number below n -/
def rng (x : Int32) (n : Nat) : Prop := ∃ k, k < n ∧ x = nI k
theorem rng_no {x : Int32} {n : Nat} (hn : n < 2 ^ 31) (h : ¬ rng x n) : x < 0 ∨ (¬ x < 0 ∧ nI n ≤ x) := by
  rcases pk_ix x hn with h1 | h1 | ⟨j, h1, h2⟩
  · exact Or.inl h1
  · by_cases h0 : x < 0
    · exact Or.inl h0
    · exact Or.inr ⟨h0, h1⟩
  · exact absurd ⟨j, h1, h2⟩ h
def fnd (k : Nat) : Int32 := -1000000001 - nI k
def inc (y : Nat → Int32) (k : Nat) : Nat → Int32 := fun j => if j = k then y j + 1 else y j
def Xsh (I : Nat → Nat → Int32) (J : Nat → Nat → Int64) (w z : Nat → Nat) (num : Nat → Nat → Int64) : Prop := ∀ s, s < 4 → I (35 + 2 * s) 0 = nI (w s) ∧ (w s = 0 ∨ w s = 8 ∨ w s = 16 ∨ w s = 64) ∧ I (35 + 2 * s) 1 = nI (z s) ∧ z s ≤ 40 ∧ ∀ i, i < 40 → J (36 + 2 * s) i = num s i
def sbt (b : Nat) : Int32 := (nI b).toInt8.toInt32
/-- the class holds: the state (t, n), what is kept (kp: whether; u, m), the findings y, the tape bt of length L, the sheets -/
def Cl (I : Nat → Nat → Int32) (J : Nat → Nat → Int64) (t : Nat → Nat) (n kp : Nat) (u : Nat → Nat) (m : Nat) (y : Nat → Int32) (bt : Nat → Nat) (L : Nat) (w z : Nat → Nat) (num : Nat → Nat → Int64) : Prop :=
  hold I 1 t n ∧ V t n 99999 ∧ (I 0 3 = nI kp ∧ kp < 2 ∧ (kp = 1 → hold I 21 u m ∧ V u m 99999)) ∧ (∀ j, j < 7 → I 43 j = y j) ∧ (I 32 1 = nI L ∧ L ≤ 120 ∧ ∀ j, j < L → bt j < 256 ∧ I 33 j = sbt (bt j)) ∧ Xsh I J w z num
/-- nothing but the two seas and the choice has changed -/
def offX (I I' : Nat → Nat → Int32) : Prop := ∀ b, (b = 0 ∨ 21 ≤ b) → b ≠ 31 → ∀ j, I' b j = I b j
theorem offX.of1 {I I' : Nat → Nat → Int32} (h : off 1 I I') : offX I I' := fun b hb _ j => h b (by omega) j
theorem offX.of11 {I I' : Nat → Nat → Int32} (h : off 11 I I') : offX I I' := fun b hb _ j => h b (by omega) j
theorem offX.rfl {I : Nat → Nat → Int32} : offX I I := fun _ _ _ _ => Eq.refl _
theorem offX.trans {I I' I'' : Nat → Nat → Int32} (h : offX I I') (h' : offX I' I'') : offX I I'' := fun b h1 h2 j => (h' b h1 h2 j).trans (h b h1 h2 j)
theorem offX.up31 {I I' : Nat → Nat → Int32} {j : Nat} {x : Int32} (h : offX I I') : offX I (up2 I' 31 j x) := fun b h1 h2 i => (up2_na h2).trans (h b h1 h2 i)
/-- what the other side keeps -/
def frX (I I' : Nat → Nat → Int32) (J J' : Nat → Nat → Int64) : Prop := ∀ b, 44 ≤ b → ∀ j, I' b j = I b j ∧ J' b j = J b j
theorem offX.fr {I I' : Nat → Nat → Int32} {J : Nat → Nat → Int64} (h : offX I I') : frX I I' J J := fun b hb j => ⟨h b (by omega) (by omega) j, Eq.refl _⟩
section
variable {I I' : Nat → Nat → Int32} {J J' : Nat → Nat → Int64} {t t' : Nat → Nat} {n n' kp : Nat} {u : Nat → Nat} {m : Nat} {y : Nat → Int32} {bt : Nat → Nat} {L : Nat} {w z : Nat → Nat} {num : Nat → Nat → Int64}
theorem Cl.move (h : Cl I J t n kp u m y bt L w z num) (ho : offX I I') (hH : hold I' 1 t' n') (hV : V t' n' 99999) : Cl I' J t' n' kp u m y bt L w z num := by
  obtain ⟨h1, h2, ⟨h3, h4, h5⟩, h6, ⟨h7, h8, h9⟩, h10⟩ := h
  refine ⟨hH, hV, ⟨by rw [ho 0 (by omega) (by omega)]; exact h3, h4, fun hk => ?_⟩, fun j hj => by rw [ho 43 (by omega) (by omega)]; exact h6 j hj, ⟨by rw [ho 32 (by omega) (by omega)]; exact h7, h8, fun j hj => ⟨(h9 j hj).1, by rw [ho 33 (by omega) (by omega)]; exact (h9 j hj).2⟩⟩, fun s hs => ?_⟩
  · obtain ⟨g1, g2⟩ := h5 hk
    exact ⟨g1.congr (fun b hb hb' j => ho b (by omega) (by omega) j) g2.2.1, g2⟩
  · obtain ⟨a1, a2, a3, a4, a5⟩ := h10 s hs
    exact ⟨by rw [ho _ (by omega) (by omega)]; exact a1, a2, by rw [ho _ (by omega) (by omega)]; exact a3, a4, a5⟩
/-- the same state in another heap -/
theorem Cl.same (h : Cl I J t n kp u m y bt L w z num) (ho : offX I I') (h1 : ∀ b, 1 ≤ b → b < 11 → ∀ j, I' b j = I b j) : Cl I' J t n kp u m y bt L w z num := h.move ho (h.1.congr (fun b hb hb' j => h1 b hb (by omega) j) h.2.1.2.1) h.2.1
theorem Cl.t11 (h : Cl I J t n kp u m y bt L w z num) (ho : off 11 I I') : Cl I' J t n kp u m y bt L w z num := h.same (offX.of11 ho) (fun b hb hb' j => ho b (by omega) j)
theorem Cl.fnd (h : Cl I J t n kp u m y bt L w z num) {k : Nat} (hk : k < 7) : Cl (up2 I 43 k (I 43 k + 1)) J t n kp u m (inc y k) bt L w z num := by
  obtain ⟨h1, h2, ⟨h3, h4, h5⟩, h6, ⟨h7, h8, h9⟩, h10⟩ := h
  have ho : ∀ b, b ≠ 43 → ∀ j, up2 I 43 k (I 43 k + 1) b j = I b j := fun b hb j => up2_na hb
  refine ⟨h1.congr (fun b _ _ j => ho b (by omega) j) h2.2.1, h2, ⟨by rw [ho 0 (by omega)]; exact h3, h4, fun hk => ?_⟩, fun j hj => ?_, ⟨by rw [ho 32 (by omega)]; exact h7, h8, fun j hj => ⟨(h9 j hj).1, by rw [ho 33 (by omega)]; exact (h9 j hj).2⟩⟩, fun s hs => ?_⟩
  · obtain ⟨g1, g2⟩ := h5 hk
    exact ⟨g1.congr (fun b _ _ j => ho b (by omega) j) g2.2.1, g2⟩
  · rw [up2_row]
    unfold inc
    split
    · rename_i e; subst e; rw [h6 _ hj]
    · exact h6 j hj
  · obtain ⟨a1, a2, a3, a4, a5⟩ := h10 s hs
    exact ⟨by rw [ho _ (by omega)]; exact a1, a2, by rw [ho _ (by omega)]; exact a3, a4, a5⟩
theorem frX.fnd {k : Nat} {x : Int32} : frX I (up2 I 43 k x) J J := fun b hb j => ⟨up2_na (by omega), rfl⟩
theorem frX.trans {I'' : Nat → Nat → Int32} {J'' : Nat → Nat → Int64} (h : frX I I' J J') (h' : frX I' I'' J' J'') : frX I I'' J J'' := fun b hb j => ⟨((h' b hb j).1).trans (h b hb j).1, ((h' b hb j).2).trans (h b hb j).2⟩
theorem frX.rfl : frX I I J J := fun _ _ _ => ⟨Eq.refl _, Eq.refl _⟩
theorem in_7 {k : Nat} (h : k < 7) : (hr_in (nI k) 7 = true) = True := eq_true (in_nI h (by decide))
theorem sp_found {k : Nat} (hk : k < 7) : den nX_found (0, [some (.ref 0), some (.int (nI k))], [], (I, J)) = some (some (.int (fnd k)), (up2 I 43 k (I 43 k + 1), J)) := by
  have e1 : (nI k < 0) = False := eq_false (nI_pos (by omega))
  have e2 : ((7 : Int32) ≤ nI k) = False := eq_false (nI_ge hk (by decide))
  simp only [eX_found_0, eX_found_1, eX_found_4, eX_found_5, eX_found_7, eX_found_10, eX_found_11, eX_found_14, eX_found_15, eX_found_16, eX_found_17, eX_found_18, eX_found_19, eX_found_20, eX_found_22, eX_found_23, eX_found_24, eq_self, hr_k_some, Option.toList, List.cons_append, List.nil_append, is2k_n, is2k_i, is2k_r, is2k_0, e1, e2, if_false, oc_0, ro_07, ak_43, al_43, in_7 hk, ai_lt (show 43 < 60 by decide), cl_nI (show k < 100000 by omega), show (43 < 57) = True from eq_true (by decide)]
  rfl
theorem sp_isWithin {v a b : Int32} {h : hr_H} : den nX_isWithin (0, [some (.int v), some (.int a), some (.int b)], [], h) = some (some (.int (zb (decide (a ≤ v ∧ v ≤ b)))), h) := by
  simp only [eX_isWithin_0, eX_isWithin_1, eX_isWithin_2, eX_isWithin_5, eX_isWithin_6, eX_isWithin_7, eX_isWithin_10, eX_isWithin_11, eX_isWithin_14, eX_isWithin_15, eq_self, hr_k_some, Option.toList, List.cons_append, List.nil_append, is2k_n, is2k_i, is2k_r, is2k_0, zb_n0, zb_n1, ite_si]
  congr 4
  by_cases h1 : a ≤ v
  · have g1 : ¬ v < a := fun z => absurd h1 (Int32.not_le.mpr z)
    by_cases h2 : v ≤ b
    · have g2 : ¬ b < v := fun z => absurd h2 (Int32.not_le.mpr z)
      simp only [g1, g2, h1, h2, if_false, and_self, decide_true]; rfl
    · have g2 : b < v := Int32.not_le.mp h2
      simp only [g1, g2, h2, if_false, if_true, and_false, decide_false]; rfl
  · have g1 : v < a := Int32.not_le.mp h1
    simp only [g1, h1, if_true, false_and, decide_false]; rfl
/-- how a test of a range comes out -/
theorem wi_yes {k a b : Nat} (ha : a ≤ k) (hb : k ≤ b) (hb' : b < 2 ^ 31) : decide (nI a ≤ nI k ∧ nI k ≤ nI b) = true := by
  rw [decide_eq_true_eq]
  exact ⟨nI_le ha (by omega), nI_le hb hb'⟩
theorem wi_no0 {x : Int32} {b : Nat} (hb : b + 1 < 2 ^ 31) (h : ¬ rng x (b + 1)) : decide (nI 0 ≤ x ∧ x ≤ nI b) = false := by
  rw [decide_eq_false_iff_not]
  rintro ⟨h1, h2⟩
  obtain ⟨j, h3, h4⟩ := nI_of2 (nI_toInt (by omega)) (Int32.not_lt.mpr h1) h2
  exact h ⟨j, by omega, h4⟩
end
