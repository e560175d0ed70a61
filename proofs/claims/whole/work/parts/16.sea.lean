/-! ===== watches on and on; copies; sums ===== -/
def goN (t : Nat → Nat) (n : Nat) : Nat → (Nat → Nat)
  | 0 => t
  | k + 1 => goN (goV t n) n k
theorem goN_V {t : Nat → Nat} {n B : Nat} (k : Nat) (hV : V t n B) : V (goN t n k) n (B + k) := by
  induction k generalizing t B with
  | zero => exact hV
  | succ k ih => have := ih (goV_V hV); rwa [show B + 1 + k = B + (k + 1) by omega] at this
theorem goN_s {t : Nat → Nat} {n : Nat} : ∀ k, goN t n (k + 1) = goV (goN t n k) n := by
  intro k
  induction k generalizing t with
  | zero => rfl
  | succ k ih => show goN (goV t n) n (k + 1) = _; rw [ih]; rfl
section
variable {I : Nat → Nat → Int32} {J : Nat → Nat → Int64} {a : Nat} {t : Nat → Nat} {n B : Nat}
theorem gw_loop (ha : isSea a) {c : Nat} (hc : c < 1000) : ∀ (d k : Nat) (I : Nat → Nat → Int32) (t : Nat → Nat) (B : Nat), k + d = c → hold I a t n → V t n B → B + d < 2 ^ 28 → ∃ I', den nS_goWatches (2, [some (.ref a), some (.int (nI c)), some (.int (nI k))], [], (I, J)) = some (none, (I', J)) ∧ hold I' a (goN t n d) n ∧ off a I I' := by
  intro d
  induction d with
  | zero =>
    intro k I t B hk hH hV hB
    have hkc : k = c := by omega
    subst hkc
    have hle : (nI k ≤ nI k) = True := eq_true (Int32.le_refl _)
    simp only [eS_goWatches_0, eS_goWatches_1, eS_goWatches_2, eS_goWatches_3, eS_goWatches_4, eS_goWatches_7, eS_goWatches_8, eS_goWatches_11, eS_goWatches_14, eS_goWatches_17, eq_self, hr_k_some, Option.toList, List.cons_append, List.nil_append, is2k_n, is2k_i, is2k_r, is2k_0, hle, if_true]
    exact ⟨I, rfl, hH, off.rfl⟩
  | succ d ih =>
    intro k I t B hk hH hV hB
    have hle : (nI c ≤ nI k) = False := eq_false (nI_ge (by omega) (by omega))
    obtain ⟨I1, e1, hH1, ho1⟩ := sp_goOne (J := J) ha hH hV (by omega)
    obtain ⟨I2, e2, hH2, ho2⟩ := ih (k + 1) I1 (goV t n) (B + 1) (by omega) hH1 (goV_V hV) (by omega)
    rw [eS_goWatches_2]
    simp only [eS_goWatches_0, eS_goWatches_1, eS_goWatches_3, eS_goWatches_4, eS_goWatches_7, eS_goWatches_8, eS_goWatches_11, eS_goWatches_14, eS_goWatches_17, eq_self, hr_k_some, Option.toList, List.cons_append, List.nil_append, is2k_n, is2k_i, is2k_r, is2k_0, hle, if_false, oc_sea ha, e1, nI_1]
    exact ⟨I2, e2, hH2, ho1.trans ho2⟩
theorem sp_goWatches (ha : isSea a) {c : Nat} (hc : c < 1000) (hH : hold I a t n) (hV : V t n B) (hB : B + c < 2 ^ 28) : ∃ I', den nS_goWatches (0, [some (.ref a), some (.int (nI c)), none], [], (I, J)) = some (none, (I', J)) ∧ hold I' a (goN t n c) n ∧ off a I I' := by
  simp only [eS_goWatches_0, eS_goWatches_1, eS_goWatches_3, eS_goWatches_4, eS_goWatches_7, eS_goWatches_8, eS_goWatches_11, eS_goWatches_14, eS_goWatches_17, eq_self, hr_k_some, Option.toList, List.cons_append, List.nil_append, is2k_n, is2k_i, is2k_r, is2k_0]
  exact gw_loop ha hc c 0 I t B (by omega) hH hV hB
/-- in how many watches she is so first: as many as d are looked at; d: none of them -/
def fiV (p : (Nat → Nat) → Bool) (t : Nat → Nat) (n : Nat) : Nat → Nat
  | 0 => 0
  | d + 1 => if p t = true then 0 else fiV p (goV t n) n d + 1
theorem fiV_0 {p : (Nat → Nat) → Bool} {d : Nat} (h : p t = true) : fiV p t n (d + 1) = 0 := if_pos h
theorem fiV_s {p : (Nat → Nat) → Bool} {d : Nat} (h : ¬ p t = true) : fiV p t n (d + 1) = fiV p (goV t n) n d + 1 := if_neg h
theorem fiV_le {p : (Nat → Nat) → Bool} : ∀ (d : Nat) (t : Nat → Nat), fiV p t n d ≤ d := by
  intro d
  induction d with
  | zero => intro t; exact Nat.le_refl _
  | succ d ih =>
    intro t
    unfold fiV
    split
    · omega
    · have := ih (goV t n); omega
theorem goV_f (h : ¬ t 4 = 0) (hn : n ≤ 8) : goV t n 4 = t 4 ∧ goV t n 1 = t 1 := by
  have e : g1V t n = t := if_neg h
  unfold goV
  rw [upV_ne (by decide), upV_ne (by decide), e]
  unfold g2V
  split
  · exact ⟨drV_other n 4 (fun i _ => by omega), drV_other n 1 (fun i _ => by omega)⟩
  · exact ⟨rfl, rfl⟩
/-- what is fixed stays: fate v is never reached from another fate that isn't 0 -/
theorem fiV_stuck {v : Nat} (hn : n ≤ 8) : ∀ (d : Nat) (t : Nat → Nat), ¬ t 4 = 0 → ¬ t 4 = v → fiV (fun t => decide (t 4 = v)) t n d = d := by
  intro d
  induction d with
  | zero => intro t _ _; rfl
  | succ d ih =>
    intro t h0 h1
    unfold fiV
    rw [if_neg (by simpa using h1)]
    obtain ⟨e4, -⟩ := goV_f (n := n) h0 hn
    rw [ih (goV t n) (by rw [e4]; exact h0) (by rw [e4]; exact h1)]
/-- class: a million, if none -/
def mil (m x : Nat) : Int32 := if x ≤ m then nI x else 1000000
theorem wf_loop (ha : isSea a) {v m : Nat} (hv : v = 1 ∨ v = 2) (hm : m < 1000) : ∀ (d k : Nat) (I : Nat → Nat → Int32) (t : Nat → Nat) (B : Nat), k + d = m + 1 → hold I a t n → V t n B → B + d < 2 ^ 28 → ∃ I', den nS_watchesToFate (2, [some (.ref a), some (.int (nI v)), some (.int (nI m)), some (.int (nI k))], [], (I, J)) = some (some (.int (mil m (k + fiV (fun t => decide (t 4 = v)) t n d))), (I', J)) ∧ off a I I' := by
  intro d
  induction d with
  | zero =>
    intro k I t B hk hH hV hB
    have hle : (nI m < nI k) = True := eq_true (nI_lt (by omega) (by omega))
    simp only [eS_watchesToFate_0, eS_watchesToFate_1, eS_watchesToFate_2, eS_watchesToFate_3, eS_watchesToFate_4, eS_watchesToFate_7, eS_watchesToFate_8, eS_watchesToFate_11, eS_watchesToFate_14, eS_watchesToFate_15, eS_watchesToFate_18, eS_watchesToFate_19, eS_watchesToFate_22, eS_watchesToFate_23, eS_watchesToFate_26, eS_watchesToFate_28, eS_watchesToFate_29, eS_watchesToFate_30, eS_watchesToFate_33, eS_watchesToFate_36, eS_watchesToFate_39, eS_watchesToFate_41, eq_self, hr_k_some, Option.toList, List.cons_append, List.nil_append, is2k_n, is2k_i, is2k_r, is2k_0, hle, if_true]
    refine ⟨I, ?_, off.rfl⟩
    unfold mil fiV
    rw [if_neg (by omega)]
  | succ d ih =>
    intro k I t B hk hH hV hB
    have hle : (nI m < nI k) = False := eq_false (nI_nlt (by omega) (by omega))
    obtain ⟨⟨h0, h1, h2, h3, h4, h5⟩, hR⟩ := id hH
    have v4 := hV.2.2.2.2.2.2.1
    have hz4 : (nI (t 4) = 0) = (t 4 = 0) := nI_lit _ 0 (by omega) (by decide)
    have hzv : (nI (t 4) = nI v) = (t 4 = v) := nI_lit _ v (by omega) (by omega)
    rw [eS_watchesToFate_2]
    simp only [eS_watchesToFate_0, eS_watchesToFate_1, eS_watchesToFate_3, eS_watchesToFate_4, eS_watchesToFate_7, eS_watchesToFate_8, eS_watchesToFate_11, eS_watchesToFate_14, eS_watchesToFate_15, eS_watchesToFate_18, eS_watchesToFate_19, eS_watchesToFate_22, eS_watchesToFate_23, eS_watchesToFate_26, eS_watchesToFate_28, eS_watchesToFate_29, eS_watchesToFate_30, eS_watchesToFate_33, eS_watchesToFate_36, eS_watchesToFate_39, eS_watchesToFate_41, eq_self, hr_k_some, Option.toList, List.cons_append, List.nil_append, is2k_n, is2k_i, is2k_r, is2k_0, hle, if_false, oc_sea ha, h4, hz4, hzv]
    by_cases c0 : t 4 = 0
    · obtain ⟨I1, e1, hH1, ho1⟩ := sp_goOne (J := J) ha hH hV (by omega)
      obtain ⟨I2, e2, ho2⟩ := ih (k + 1) I1 (goV t n) (B + 1) (by omega) hH1 (goV_V hV) (by omega)
      simp only [c0, if_true, e1, eq_self, hr_k_some, Option.toList, List.cons_append, List.nil_append, is2k_n, is2k_i, is2k_r, is2k_0, eS_watchesToFate_0, eS_watchesToFate_1, eS_watchesToFate_3, eS_watchesToFate_4, eS_watchesToFate_7, eS_watchesToFate_8, eS_watchesToFate_11, eS_watchesToFate_14, eS_watchesToFate_15, eS_watchesToFate_18, eS_watchesToFate_19, eS_watchesToFate_22, eS_watchesToFate_23, eS_watchesToFate_26, eS_watchesToFate_28, eS_watchesToFate_29, eS_watchesToFate_30, eS_watchesToFate_33, eS_watchesToFate_36, eS_watchesToFate_39, eS_watchesToFate_41, nI_1]
      refine ⟨I2, ?_, ho1.trans ho2⟩
      have e : fiV (fun t => decide (t 4 = v)) t n (d + 1) = fiV (fun t => decide (t 4 = v)) (goV t n) n d + 1 := by
        unfold fiV
        rw [if_neg (by simp; omega)]
        cases d <;> rfl
      rw [e, show k + (fiV (fun t => decide (t 4 = v)) (goV t n) n d + 1) = k + 1 + fiV (fun t => decide (t 4 = v)) (goV t n) n d by omega]
      exact e2
    · by_cases c1 : t 4 = v
      · simp only [c0, c1, if_false, not_true_eq_false, ite_si]
        have hv0 : ¬ v = 0 := by omega
        simp only [hv0, if_false]
        refine ⟨I, ?_, off.rfl⟩
        rw [fiV_0 (by simp [c1]), Nat.add_zero]
        unfold mil
        rw [if_pos (by omega)]
      · simp only [c0, c1, if_false, not_false_eq_true, if_true]
        refine ⟨I, ?_, off.rfl⟩
        rw [fiV_stuck hV.2.1 _ _ c0 c1]
        unfold mil
        rw [if_neg (by omega)]
theorem sp_toFate (ha : isSea a) {v m : Nat} (hv : v = 1 ∨ v = 2) (hm : m < 1000) (hH : hold I a t n) (hV : V t n B) (hB : B + m + 1 < 2 ^ 28) : ∃ I', den nS_watchesToFate (0, [some (.ref a), some (.int (nI v)), some (.int (nI m)), none], [], (I, J)) = some (some (.int (mil m (fiV (fun t => decide (t 4 = v)) t n (m + 1)))), (I', J)) ∧ off a I I' := by
  simp only [eS_watchesToFate_0, eS_watchesToFate_1, eS_watchesToFate_3, eS_watchesToFate_4, eS_watchesToFate_7, eS_watchesToFate_8, eS_watchesToFate_11, eS_watchesToFate_14, eS_watchesToFate_15, eS_watchesToFate_18, eS_watchesToFate_19, eS_watchesToFate_22, eS_watchesToFate_23, eS_watchesToFate_26, eS_watchesToFate_28, eS_watchesToFate_29, eS_watchesToFate_30, eS_watchesToFate_33, eS_watchesToFate_36, eS_watchesToFate_39, eS_watchesToFate_41, eq_self, hr_k_some, Option.toList, List.cons_append, List.nil_append, is2k_n, is2k_i, is2k_r, is2k_0]
  have := wf_loop (J := J) ha hv hm (m + 1) 0 I t B (by omega) hH hV (by omega)
  rwa [Nat.zero_add] at this
theorem ws_loop (ha : isSea a) {v m : Nat} (hv : v < 64) (hm : m < 1000) : ∀ (d k : Nat) (I : Nat → Nat → Int32) (t : Nat → Nat) (B : Nat), k + d = m + 1 → hold I a t n → V t n B → B + d < 2 ^ 28 → ∃ I', den nS_watchesToSquare (2, [some (.ref a), some (.int (nI v)), some (.int (nI m)), some (.int (nI k))], [], (I, J)) = some (some (.int (mil m (k + fiV (fun t => decide (t 1 = v)) t n d))), (I', J)) ∧ off a I I' := by
  intro d
  induction d with
  | zero =>
    intro k I t B hk hH hV hB
    have hle : (nI m < nI k) = True := eq_true (nI_lt (by omega) (by omega))
    simp only [eS_watchesToSquare_0, eS_watchesToSquare_1, eS_watchesToSquare_2, eS_watchesToSquare_3, eS_watchesToSquare_4, eS_watchesToSquare_7, eS_watchesToSquare_8, eS_watchesToSquare_11, eS_watchesToSquare_12, eS_watchesToSquare_15, eS_watchesToSquare_16, eS_watchesToSquare_17, eS_watchesToSquare_18, eS_watchesToSquare_21, eS_watchesToSquare_24, eS_watchesToSquare_27, eS_watchesToSquare_29, eq_self, hr_k_some, Option.toList, List.cons_append, List.nil_append, is2k_n, is2k_i, is2k_r, is2k_0, hle, if_true]
    refine ⟨I, ?_, off.rfl⟩
    unfold mil fiV
    rw [if_neg (by omega)]
  | succ d ih =>
    intro k I t B hk hH hV hB
    have hle : (nI m < nI k) = False := eq_false (nI_nlt (by omega) (by omega))
    obtain ⟨⟨h0, h1, h2, h3, h4, h5⟩, hR⟩ := id hH
    have v1 := hV.2.2.2.1
    have hzv : (nI (t 1) = nI v) = (t 1 = v) := nI_lit _ v (by omega) (by omega)
    rw [eS_watchesToSquare_2]
    simp only [eS_watchesToSquare_0, eS_watchesToSquare_1, eS_watchesToSquare_3, eS_watchesToSquare_4, eS_watchesToSquare_7, eS_watchesToSquare_8, eS_watchesToSquare_11, eS_watchesToSquare_12, eS_watchesToSquare_15, eS_watchesToSquare_16, eS_watchesToSquare_17, eS_watchesToSquare_18, eS_watchesToSquare_21, eS_watchesToSquare_24, eS_watchesToSquare_27, eS_watchesToSquare_29, eq_self, hr_k_some, Option.toList, List.cons_append, List.nil_append, is2k_n, is2k_i, is2k_r, is2k_0, hle, if_false, oc_sea ha, h1, hzv]
    by_cases c1 : t 1 = v
    · simp only [c1, if_false, not_true_eq_false]
      refine ⟨I, ?_, off.rfl⟩
      rw [fiV_0 (by simp [c1]), Nat.add_zero]
      unfold mil
      rw [if_pos (by omega)]
    · obtain ⟨I1, e1, hH1, ho1⟩ := sp_goOne (J := J) ha hH hV (by omega)
      obtain ⟨I2, e2, ho2⟩ := ih (k + 1) I1 (goV t n) (B + 1) (by omega) hH1 (goV_V hV) (by omega)
      simp only [c1, not_false_eq_true, if_true, e1, eq_self, hr_k_some, Option.toList, List.cons_append, List.nil_append, is2k_n, is2k_i, is2k_r, is2k_0, eS_watchesToSquare_0, eS_watchesToSquare_1, eS_watchesToSquare_3, eS_watchesToSquare_4, eS_watchesToSquare_7, eS_watchesToSquare_8, eS_watchesToSquare_11, eS_watchesToSquare_12, eS_watchesToSquare_15, eS_watchesToSquare_16, eS_watchesToSquare_17, eS_watchesToSquare_18, eS_watchesToSquare_21, eS_watchesToSquare_24, eS_watchesToSquare_27, eS_watchesToSquare_29, nI_1]
      refine ⟨I2, ?_, ho1.trans ho2⟩
      have e : fiV (fun t => decide (t 1 = v)) t n (d + 1) = fiV (fun t => decide (t 1 = v)) (goV t n) n d + 1 := by
        unfold fiV
        rw [if_neg (by simp; omega)]
        cases d <;> rfl
      rw [e, show k + (fiV (fun t => decide (t 1 = v)) (goV t n) n d + 1) = k + 1 + fiV (fun t => decide (t 1 = v)) (goV t n) n d by omega]
      exact e2
theorem sp_toSquare (ha : isSea a) {v m : Nat} (hv : v < 64) (hm : m < 1000) (hH : hold I a t n) (hV : V t n B) (hB : B + m + 1 < 2 ^ 28) : ∃ I', den nS_watchesToSquare (0, [some (.ref a), some (.int (nI v)), some (.int (nI m)), none], [], (I, J)) = some (some (.int (mil m (fiV (fun t => decide (t 1 = v)) t n (m + 1)))), (I', J)) ∧ off a I I' := by
  simp only [eS_watchesToSquare_0, eS_watchesToSquare_1, eS_watchesToSquare_3, eS_watchesToSquare_4, eS_watchesToSquare_7, eS_watchesToSquare_8, eS_watchesToSquare_11, eS_watchesToSquare_12, eS_watchesToSquare_15, eS_watchesToSquare_16, eS_watchesToSquare_17, eS_watchesToSquare_18, eS_watchesToSquare_21, eS_watchesToSquare_24, eS_watchesToSquare_27, eS_watchesToSquare_29, eq_self, hr_k_some, Option.toList, List.cons_append, List.nil_append, is2k_n, is2k_i, is2k_r, is2k_0]
  have := ws_loop (J := J) ha hv hm (m + 1) 0 I t B (by omega) hH hV (by omega)
  rwa [Nat.zero_add] at this
/-! a sea becomes as another -/
theorem sp_Rbecome {b c : Nat} (hb : hr_oc b = 1) (hc : hr_oc c = 1) (hbc : b ≠ c) : den nR_become (0, [some (.ref b), some (.ref c)], [], (I, J)) = some (none, (up2 (up2 (up2 (up2 (up2 I b 0 (I c 0)) b 1 (I c 1)) b 2 (I c 2)) b 3 (I c 3)) b 4 (I c 4), J)) := by
  have hcb : c ≠ b := fun z => hbc z.symm
  simp only [eR_become_0, eR_become_1, eR_become_2, eR_become_5, eR_become_8, eR_become_9, eR_become_10, eR_become_13, eR_become_16, eR_become_17, eR_become_18, eR_become_21, eR_become_24, eR_become_25, eR_become_26, eR_become_29, eR_become_32, eR_become_33, eR_become_34, eR_become_37, eR_become_40, eq_self, hr_k_some, Option.toList, List.cons_append, List.nil_append, is2k_n, is2k_i, is2k_r, is2k_0, hb, hc, up2_na hcb]
/-- the heap when the fields, and the first k rocks, are copied from the sea c to the sea b -/
def bI (I : Nat → Nat → Int32) (b c : Nat) : Nat → (Nat → Nat → Int32)
  | 0 => up2 (up2 (up2 (up2 (up2 (up2 I b 0 (I c 0)) b 1 (I c 1)) b 2 (I c 2)) b 3 (I c 3)) b 4 (I c 4)) b 5 (I c 5)
  | k + 1 => up2 (up2 (up2 (up2 (up2 (bI I b c k) (b + 2 + k) 0 (I (c + 2 + k) 0)) (b + 2 + k) 1 (I (c + 2 + k) 1)) (b + 2 + k) 2 (I (c + 2 + k) 2)) (b + 2 + k) 3 (I (c + 2 + k) 3)) (b + 2 + k) 4 (I (c + 2 + k) 4)
theorem bI_off {b c : Nat} : ∀ k, k ≤ 8 → off b I (bI I b c k) := by
  intro k
  induction k with
  | zero =>
    intro _ q hq j
    unfold bI
    rw [up2_na (by omega), up2_na (by omega), up2_na (by omega), up2_na (by omega), up2_na (by omega), up2_na (by omega)]
  | succ k ih =>
    intro hk q hq j
    unfold bI
    rw [up2_na (by omega), up2_na (by omega), up2_na (by omega), up2_na (by omega), up2_na (by omega)]
    exact ih (by omega) q hq j
theorem bI_row0 {b c : Nat} : ∀ k i, i < 6 → bI I b c k b i = I c i := by
  intro k
  induction k with
  | zero =>
    intro i hi
    unfold bI
    match i, hi with
    | 0, _ => simp [up2]
    | 1, _ => simp [up2]
    | 2, _ => simp [up2]
    | 3, _ => simp [up2]
    | 4, _ => simp [up2]
    | 5, _ => simp [up2]
    | i + 6, h => exact absurd h (by omega)
  | succ k ih =>
    intro i hi
    unfold bI
    rw [up2_na (by omega), up2_na (by omega), up2_na (by omega), up2_na (by omega), up2_na (by omega)]
    exact ih i hi
theorem bI_rock {b c : Nat} : ∀ k q i, q < k → i < 5 → bI I b c k (b + 2 + q) i = I (c + 2 + q) i := by
  intro k
  induction k with
  | zero => intro q i h; omega
  | succ k ih =>
    intro q i hq hi
    unfold bI
    by_cases e : q = k
    · subst e
      match i, hi with
      | 0, _ => simp [up2]
      | 1, _ => simp [up2]
      | 2, _ => simp [up2]
      | 3, _ => simp [up2]
      | 4, _ => simp [up2]
      | i + 5, h => exact absurd h (by omega)
    · rw [up2_na (by omega), up2_na (by omega), up2_na (by omega), up2_na (by omega), up2_na (by omega)]
      exact ih q i (by omega) hi
theorem bI_hold {b c : Nat} (hH : hold I c t n) : hold (bI I b c n) b t n := by
  obtain ⟨h1, h2⟩ := hold_iff.mp hH
  exact hold_iff.mpr ⟨fun i hi => (bI_row0 n i hi).trans (h1 i hi), fun k hk i hi => (bI_rock n k i hk hi).trans (h2 k hk i hi)⟩
theorem sea_apart {b c : Nat} (hb : isSea b) (hc : isSea c) (hne : b ≠ c) : b + 10 ≤ c ∨ c + 10 ≤ b := by
  rcases hb with rfl | rfl | rfl <;> rcases hc with rfl | rfl | rfl <;> omega
theorem be_loop {b c : Nat} (hb : isSea b) (hc : isSea c) (hne : b ≠ c) (hn : n ≤ 8) (h5 : I c 5 = nI n) : ∀ (d k : Nat), k + d = n → den nS_become (50, [some (.ref b), some (.ref c), some (.int (nI k))], [], (bI I b c k, J)) = some (none, (bI I b c n, J)) := by
  have hap := sea_apart hb hc hne
  intro d
  induction d with
  | zero =>
    intro k hk
    have hkn : k = n := by omega
    subst hkn
    have hle : (nI k ≤ nI k) = True := eq_true (Int32.le_refl _)
    have h5' : bI I b c k b 5 = nI k := (bI_row0 k 5 (by decide)).trans h5
    simp only [eS_become_0, eS_become_1, eS_become_2, eS_become_5, eS_become_8, eS_become_9, eS_become_10, eS_become_13, eS_become_16, eS_become_17, eS_become_18, eS_become_21, eS_become_24, eS_become_25, eS_become_26, eS_become_29, eS_become_32, eS_become_33, eS_become_34, eS_become_37, eS_become_40, eS_become_41, eS_become_42, eS_become_45, eS_become_48, eS_become_49, eS_become_50, eS_become_51, eS_become_52, eS_become_55, eS_become_58, eS_become_59, eS_become_62, eS_become_63, eS_become_64, eS_become_65, eS_become_68, eS_become_69, eS_become_70, eS_become_73, eS_become_76, eS_become_79, eq_self, hr_k_some, Option.toList, List.cons_append, List.nil_append, is2k_n, is2k_i, is2k_r, is2k_0, oc_sea hb, h5', hle, if_true]
  | succ d ih =>
    intro k hk
    have hk8 : k < 8 := by omega
    have hle : (nI n ≤ nI k) = False := eq_false (nI_ge (by omega) (by omega))
    have h5' : bI I b c k b 5 = nI n := (bI_row0 k 5 (by decide)).trans h5
    have hne2 : b + 2 + k ≠ c + 2 + k := by omega
    have ho := bI_off (I := I) (b := b) (c := c) k (by omega)
    have r : ∀ j, bI I b c k (c + 2 + k) j = I (c + 2 + k) j := fun j => ho _ (by omega) j
    have hR := sp_Rbecome (I := bI I b c k) (J := J) (oc_rock hb hk8) (oc_rock hc hk8) hne2
    rw [r, r, r, r, r] at hR
    rw [eS_become_50]
    simp only [eS_become_0, eS_become_1, eS_become_2, eS_become_5, eS_become_8, eS_become_9, eS_become_10, eS_become_13, eS_become_16, eS_become_17, eS_become_18, eS_become_21, eS_become_24, eS_become_25, eS_become_26, eS_become_29, eS_become_32, eS_become_33, eS_become_34, eS_become_37, eS_become_40, eS_become_41, eS_become_42, eS_become_45, eS_become_48, eS_become_49, eS_become_51, eS_become_52, eS_become_55, eS_become_58, eS_become_59, eS_become_62, eS_become_63, eS_become_64, eS_become_65, eS_become_68, eS_become_69, eS_become_70, eS_become_73, eS_become_76, eS_become_79, eq_self, hr_k_some, Option.toList, List.cons_append, List.nil_append, is2k_n, is2k_i, is2k_r, is2k_0, oc_sea hb, oc_sea hc, h5', hle, if_false, ro_sea hb, ro_sea hc, ak_sea hb, ak_sea hc, true_or, al_sea hb, al_sea hc, in_8 hk8, cl_nI (show k < 100000 by omega), ra_sea hb, ra_sea hc, oc_rock hb hk8, hR, nI_1]
    exact ih (k + 1) (by omega)
theorem sp_become {b c : Nat} (hb : isSea b) (hc : isSea c) (hne : b ≠ c) (hn : n ≤ 8) (h5 : I c 5 = nI n) : den nS_become (0, [some (.ref b), some (.ref c), none], [], (I, J)) = some (none, (bI I b c n, J)) := by
  have hcb : c ≠ b := fun z => hne z.symm
  simp only [eS_become_0, eS_become_1, eS_become_2, eS_become_5, eS_become_8, eS_become_9, eS_become_10, eS_become_13, eS_become_16, eS_become_17, eS_become_18, eS_become_21, eS_become_24, eS_become_25, eS_become_26, eS_become_29, eS_become_32, eS_become_33, eS_become_34, eS_become_37, eS_become_40, eS_become_41, eS_become_42, eS_become_45, eS_become_48, eS_become_49, eS_become_51, eS_become_52, eS_become_55, eS_become_58, eS_become_59, eS_become_62, eS_become_63, eS_become_64, eS_become_65, eS_become_68, eS_become_69, eS_become_70, eS_become_73, eS_become_76, eS_become_79, eq_self, hr_k_some, Option.toList, List.cons_append, List.nil_append, is2k_n, is2k_i, is2k_r, is2k_0, oc_sea hb, oc_sea hc, up2_na hcb]
  exact be_loop hb hc hne hn h5 n 0 (by omega)
/-! sums -/
def suV (t : Nat → Nat) (f : Nat) : Nat → Nat
  | 0 => 0
  | k + 1 => suV t f k + t (6 + 5 * k + f)
theorem su_loop4 (ha : isSea a) (hH : hold I a t n) (hV : V t n B) : ∀ (d k : Nat), k + d = n → den nS_silentRocks (4, [some (.ref a), some (.int (nI (suV t 4 k))), some (.int (nI k))], [], (I, J)) = some (some (.int (nI (suV t 4 n))), (I, J)) := by
  obtain ⟨⟨h0, h1, h2, h3, h4, h5⟩, hR⟩ := hH
  have hn := hV.2.1
  rw [hV.1] at h5
  intro d
  induction d with
  | zero =>
    intro k hk
    have hkn : k = n := by omega
    subst hkn
    have hle : (nI k ≤ nI k) = True := eq_true (Int32.le_refl _)
    simp only [eS_silentRocks_0, eS_silentRocks_1, eS_silentRocks_2, eS_silentRocks_3, eS_silentRocks_4, eS_silentRocks_5, eS_silentRocks_6, eS_silentRocks_9, eS_silentRocks_12, eS_silentRocks_13, eS_silentRocks_14, eS_silentRocks_17, eS_silentRocks_18, eS_silentRocks_19, eS_silentRocks_22, eS_silentRocks_23, eS_silentRocks_24, eS_silentRocks_27, eS_silentRocks_30, eS_silentRocks_31, eq_self, hr_k_some, Option.toList, List.cons_append, List.nil_append, is2k_n, is2k_i, is2k_r, is2k_0, oc_sea ha, h5, hle, if_true]
  | succ d ih =>
    intro k hk
    have hk8 : k < 8 := by omega
    obtain ⟨r0, r1, r2, r3, r4⟩ := hR k (by omega)
    have hle : (nI n ≤ nI k) = False := eq_false (nI_ge (by omega) (by omega))
    rw [eS_silentRocks_4]
    simp only [eS_silentRocks_0, eS_silentRocks_1, eS_silentRocks_2, eS_silentRocks_3, eS_silentRocks_5, eS_silentRocks_6, eS_silentRocks_9, eS_silentRocks_12, eS_silentRocks_13, eS_silentRocks_14, eS_silentRocks_17, eS_silentRocks_18, eS_silentRocks_19, eS_silentRocks_22, eS_silentRocks_23, eS_silentRocks_24, eS_silentRocks_27, eS_silentRocks_30, eS_silentRocks_31, eq_self, hr_k_some, Option.toList, List.cons_append, List.nil_append, is2k_n, is2k_i, is2k_r, is2k_0, oc_sea ha, h5, hle, if_false, ro_sea ha, ak_sea ha, true_or, al_sea ha, in_8 hk8, cl_nI (show k < 100000 by omega), ra_sea ha, oc_rock ha hk8, r4, nI_1, nI_add]
    have ih' := ih (k + 1) (by omega)
    rw [show suV t 4 (k + 1) = suV t 4 k + t (10 + 5 * k) by show suV t 4 k + t (6 + 5 * k + 4) = _; rw [show 6 + 5 * k + 4 = 10 + 5 * k by omega]] at ih'
    exact ih'
theorem sp_silentRocks (ha : isSea a) (hH : hold I a t n) (hV : V t n B) : den nS_silentRocks (0, [some (.ref a), none, none], [], (I, J)) = some (some (.int (nI (suV t 4 n))), (I, J)) := by
  simp only [eS_silentRocks_0, eS_silentRocks_1, eS_silentRocks_2, eS_silentRocks_3, eS_silentRocks_5, eS_silentRocks_6, eS_silentRocks_9, eS_silentRocks_12, eS_silentRocks_13, eS_silentRocks_14, eS_silentRocks_17, eS_silentRocks_18, eS_silentRocks_19, eS_silentRocks_22, eS_silentRocks_23, eS_silentRocks_24, eS_silentRocks_27, eS_silentRocks_30, eS_silentRocks_31, eq_self, hr_k_some, Option.toList, List.cons_append, List.nil_append, is2k_n, is2k_i, is2k_r, is2k_0]
  exact su_loop4 ha hH hV n 0 (by omega)
theorem su_loop2 (ha : isSea a) (hH : hold I a t n) (hV : V t n B) : ∀ (d k : Nat), k + d = n → den nS_allHorns (4, [some (.ref a), some (.int (nI (suV t 2 k))), some (.int (nI k))], [], (I, J)) = some (some (.int (nI (suV t 2 n))), (I, J)) := by
  obtain ⟨⟨h0, h1, h2, h3, h4, h5⟩, hR⟩ := hH
  have hn := hV.2.1
  rw [hV.1] at h5
  intro d
  induction d with
  | zero =>
    intro k hk
    have hkn : k = n := by omega
    subst hkn
    have hle : (nI k ≤ nI k) = True := eq_true (Int32.le_refl _)
    simp only [eS_allHorns_0, eS_allHorns_1, eS_allHorns_2, eS_allHorns_3, eS_allHorns_4, eS_allHorns_5, eS_allHorns_6, eS_allHorns_9, eS_allHorns_12, eS_allHorns_13, eS_allHorns_14, eS_allHorns_17, eS_allHorns_18, eS_allHorns_19, eS_allHorns_22, eS_allHorns_23, eS_allHorns_24, eS_allHorns_27, eS_allHorns_30, eS_allHorns_31, eq_self, hr_k_some, Option.toList, List.cons_append, List.nil_append, is2k_n, is2k_i, is2k_r, is2k_0, oc_sea ha, h5, hle, if_true]
  | succ d ih =>
    intro k hk
    have hk8 : k < 8 := by omega
    obtain ⟨r0, r1, r2, r3, r4⟩ := hR k (by omega)
    have hle : (nI n ≤ nI k) = False := eq_false (nI_ge (by omega) (by omega))
    rw [eS_allHorns_4]
    simp only [eS_allHorns_0, eS_allHorns_1, eS_allHorns_2, eS_allHorns_3, eS_allHorns_5, eS_allHorns_6, eS_allHorns_9, eS_allHorns_12, eS_allHorns_13, eS_allHorns_14, eS_allHorns_17, eS_allHorns_18, eS_allHorns_19, eS_allHorns_22, eS_allHorns_23, eS_allHorns_24, eS_allHorns_27, eS_allHorns_30, eS_allHorns_31, eq_self, hr_k_some, Option.toList, List.cons_append, List.nil_append, is2k_n, is2k_i, is2k_r, is2k_0, oc_sea ha, h5, hle, if_false, ro_sea ha, ak_sea ha, true_or, al_sea ha, in_8 hk8, cl_nI (show k < 100000 by omega), ra_sea ha, oc_rock ha hk8, r2, nI_1, nI_add]
    have ih' := ih (k + 1) (by omega)
    rw [show suV t 2 (k + 1) = suV t 2 k + t (8 + 5 * k) by show suV t 2 k + t (6 + 5 * k + 2) = _; rw [show 6 + 5 * k + 2 = 8 + 5 * k by omega]] at ih'
    exact ih'
theorem sp_allHorns (ha : isSea a) (hH : hold I a t n) (hV : V t n B) : den nS_allHorns (0, [some (.ref a), none, none], [], (I, J)) = some (some (.int (nI (suV t 2 n))), (I, J)) := by
  simp only [eS_allHorns_0, eS_allHorns_1, eS_allHorns_2, eS_allHorns_3, eS_allHorns_5, eS_allHorns_6, eS_allHorns_9, eS_allHorns_12, eS_allHorns_13, eS_allHorns_14, eS_allHorns_17, eS_allHorns_18, eS_allHorns_19, eS_allHorns_22, eS_allHorns_23, eS_allHorns_24, eS_allHorns_27, eS_allHorns_30, eS_allHorns_31, eq_self, hr_k_some, Option.toList, List.cons_append, List.nil_append, is2k_n, is2k_i, is2k_r, is2k_0]
  exact su_loop2 ha hH hV n 0 (by omega)
/-! small acts -/
def plV (t : Nat → Nat) (q : Nat) : Nat → Nat := upV (upV t 1 q) 4 (if q = 63 then 2 else 0)
theorem sp_placeShip {q : Nat} (hq : q < 64) (ha : hr_oc a = 2) : den nS_placeShip (0, [some (.ref a), some (.int (nI q))], [], (I, J)) = some (none, (up2 (up2 I a 1 (nI q)) a 4 (nI (if q = 63 then 2 else 0)), J)) := by
  have hz : (nI q = 63) = (q = 63) := nI_lit _ 63 (by omega) (by decide)
  simp only [eS_placeShip_0, eS_placeShip_1, eS_placeShip_2, eS_placeShip_5, eS_placeShip_6, eS_placeShip_7, eS_placeShip_9, eS_placeShip_12, eS_placeShip_13, eS_placeShip_16, eS_placeShip_17, eS_placeShip_20, eq_self, hr_k_some, Option.toList, List.cons_append, List.nil_append, is2k_n, is2k_i, is2k_r, is2k_0, ha, hz]
  by_cases c : q = 63
  · simp only [c, not_true_eq_false, if_false, if_true]; rfl
  · simp only [c, not_false_eq_true, if_false, if_true]; rfl
theorem pl_hold {q : Nat} (hH : hold I a t n) : hold (up2 (up2 I a 1 (nI q)) a 4 (nI (if q = 63 then 2 else 0))) a (plV t q) n := (hH.sea (by decide)).sea (by decide)
theorem pl_V {q : Nat} (hV : V t n B) (hq : q < 64) : V (plV t q) n B := hV.sf hq (by split <;> decide) (by split <;> simp_all)
theorem sp_changeShip {w v : Nat} (hw : w < 3) (hv : v < 64) (ha : isSea a) (hH : hold I a t n) : ∃ I', den nS_changeShip (0, [some (.ref a), some (.int (nI w)), some (.int (nI v)), none], [], (I, J)) = some (some (.int (nI (t (1 + w)))), (I', J)) ∧ hold I' a (if w = 0 then plV t v else upV t (1 + w) v) n ∧ off a I I' := by
  obtain ⟨⟨h0, h1, h2, h3, h4, h5⟩, hR⟩ := id hH
  rcases (show w = 0 ∨ w = 1 ∨ w = 2 by omega) with rfl | rfl | rfl
  · have e0 : (nI 0 = (0 : Int32)) = True := eq_true rfl
    simp only [eS_changeShip_0, eS_changeShip_1, eS_changeShip_28, eS_changeShip_29, eS_changeShip_32, eS_changeShip_33, eS_changeShip_34, eS_changeShip_35, eS_changeShip_38, eS_changeShip_39, eS_changeShip_40, eS_changeShip_41, eS_changeShip_44, eS_changeShip_45, eS_changeShip_46, eS_changeShip_47, eS_changeShip_50, eS_changeShip_51, eS_changeShip_52, eS_changeShip_53, eS_changeShip_56, eS_changeShip_57, eS_changeShip_58, eS_changeShip_59, eS_changeShip_62, eS_changeShip_63, eq_self, hr_k_some, Option.toList, List.cons_append, List.nil_append, is2k_n, is2k_i, is2k_r, is2k_0, oc_sea ha, e0, if_true, h1, sp_placeShip hv]
    exact ⟨_, rfl, pl_hold hH, (off.rfl.up ⟨by omega, by omega⟩).up ⟨by omega, by omega⟩⟩
  · have e0 : (nI 1 = (0 : Int32)) = False := eq_false (by decide)
    have e1 : (nI 1 = (1 : Int32)) = True := eq_true rfl
    simp only [eS_changeShip_0, eS_changeShip_1, eS_changeShip_28, eS_changeShip_29, eS_changeShip_32, eS_changeShip_33, eS_changeShip_34, eS_changeShip_35, eS_changeShip_38, eS_changeShip_39, eS_changeShip_40, eS_changeShip_41, eS_changeShip_44, eS_changeShip_45, eS_changeShip_46, eS_changeShip_47, eS_changeShip_50, eS_changeShip_51, eS_changeShip_52, eS_changeShip_53, eS_changeShip_56, eS_changeShip_57, eS_changeShip_58, eS_changeShip_59, eS_changeShip_62, eS_changeShip_63, eq_self, hr_k_some, Option.toList, List.cons_append, List.nil_append, is2k_n, is2k_i, is2k_r, is2k_0, oc_sea ha, e0, e1, if_true, if_false, h2]
    exact ⟨_, rfl, hH.sea (by decide), off.rfl.up ⟨by omega, by omega⟩⟩
  · have e0 : (nI 2 = (0 : Int32)) = False := eq_false (by decide)
    have e1 : (nI 2 = (1 : Int32)) = False := eq_false (by decide)
    simp only [eS_changeShip_0, eS_changeShip_1, eS_changeShip_28, eS_changeShip_29, eS_changeShip_32, eS_changeShip_33, eS_changeShip_34, eS_changeShip_35, eS_changeShip_38, eS_changeShip_39, eS_changeShip_40, eS_changeShip_41, eS_changeShip_44, eS_changeShip_45, eS_changeShip_46, eS_changeShip_47, eS_changeShip_50, eS_changeShip_51, eS_changeShip_52, eS_changeShip_53, eS_changeShip_56, eS_changeShip_57, eS_changeShip_58, eS_changeShip_59, eS_changeShip_62, eS_changeShip_63, eq_self, hr_k_some, Option.toList, List.cons_append, List.nil_append, is2k_n, is2k_i, is2k_r, is2k_0, oc_sea ha, e0, e1, if_false, h3]
    exact ⟨_, rfl, hH.sea (by decide), off.rfl.up ⟨by omega, by omega⟩⟩
theorem sp_isFull (ha : hr_oc a = 2) : den nS_isFull (0, [some (.ref a)], [], (I, J)) = some (some (.int (if I a 5 < 8 then 0 else 1)), (I, J)) := by
  simp only [eS_isFull_0, eS_isFull_1, eS_isFull_4, eS_isFull_6, eS_isFull_9, eS_isFull_10, eS_isFull_13, eS_isFull_14, eq_self, hr_k_some, Option.toList, List.cons_append, List.nil_append, is2k_n, is2k_i, is2k_r, is2k_0, ha, zb_n0, zb_n1, ite_si]
/-- one rock more -/
def adV (t : Nat → Nat) (n kd sq : Nat) : Nat → Nat := upV (upV (upV (upV (upV (upV t (6 + 5 * n) kd) (7 + 5 * n) sq) (8 + 5 * n) 20) (9 + 5 * n) 5) (10 + 5 * n) 0) 5 (n + 1)
theorem sp_reset {b : Nat} {x y : Int32} (hb : hr_oc b = 1) : den nR_reset (0, [some (.ref b), some (.int x), some (.int y)], [], (I, J)) = some (none, (up2 (up2 (up2 (up2 (up2 I b 0 x) b 1 y) b 2 20) b 3 5) b 4 0, J)) := by
  simp only [eR_reset_0, eR_reset_1, eR_reset_2, eR_reset_5, eR_reset_6, eR_reset_7, eR_reset_10, eR_reset_11, eR_reset_13, eR_reset_16, eR_reset_17, eR_reset_18, eR_reset_21, eR_reset_22, eR_reset_23, eR_reset_26, eq_self, hr_k_some, Option.toList, List.cons_append, List.nil_append, is2k_n, is2k_i, is2k_r, is2k_0, hb]
theorem ad_hold {kd sq : Nat} (hn : n < 8) (hH : hold I a t n) : hold (up2 (up2 (up2 (up2 (up2 (up2 I (a + 2 + n) 0 (nI kd)) (a + 2 + n) 1 (nI sq)) (a + 2 + n) 2 20) (a + 2 + n) 3 5) (a + 2 + n) 4 0) a 5 (nI (n + 1))) a (adV t n kd sq) (n + 1) := by
  have h1 : hold (up2 (up2 (up2 (up2 (up2 I (a + 2 + n) 0 (nI kd)) (a + 2 + n) 1 (nI sq)) (a + 2 + n) 2 20) (a + 2 + n) 3 5) (a + 2 + n) 4 0) a (upV (upV (upV (upV (upV t (6 + 5 * n) kd) (7 + 5 * n) sq) (8 + 5 * n) 20) (9 + 5 * n) 5) (10 + 5 * n) 0) n := by
    have e1 : 6 + 5 * n + 1 = 7 + 5 * n := by omega
    have e2 : 6 + 5 * n + 2 = 8 + 5 * n := by omega
    have e3 : 6 + 5 * n + 3 = 9 + 5 * n := by omega
    have e4 : 6 + 5 * n + 4 = 10 + 5 * n := by omega
    have := ((((hH.rock (k := n) (j := 0) (x := kd) (by decide)).rock (k := n) (j := 1) (x := sq) (by decide)).rock (k := n) (j := 2) (x := 20) (by decide)).rock (k := n) (j := 3) (x := 5) (by decide)).rock (k := n) (j := 4) (x := 0) (by decide)
    rw [e1, e2, e3, e4] at this
    exact this
  have h2 := h1.sea (j := 5) (x := n + 1) (by decide)
  obtain ⟨g1, g2⟩ := hold_iff.mp h2
  refine hold_iff.mpr ⟨g1, fun k hk i hi => ?_⟩
  by_cases e : k = n
  · subst e
    rw [up2_na (by omega)]
    unfold adV upV
    match i, hi with
    | 0, _ => rw [if_neg (by omega), if_neg (by omega), if_neg (by omega), if_neg (by omega), if_neg (by omega), if_pos (by omega)]; simp [up2]
    | 1, _ => rw [if_neg (by omega), if_neg (by omega), if_neg (by omega), if_neg (by omega), if_pos (by omega)]; simp [up2]
    | 2, _ => rw [if_neg (by omega), if_neg (by omega), if_neg (by omega), if_pos (by omega)]; simp [up2]; rfl
    | 3, _ => rw [if_neg (by omega), if_neg (by omega), if_pos (by omega)]; simp [up2]; rfl
    | 4, _ => rw [if_neg (by omega), if_pos (by omega)]; simp [up2]; rfl
    | i + 5, h => exact absurd h (by omega)
  · exact g2 k (by omega) i hi
theorem ad_V {kd sq : Nat} (hV : V t n B) (hn : n < 8) (hk : kd < 6) (hs : sq < 64) : V (adV t n kd sq) (n + 1) B := by
  obtain ⟨v5, v8, v0, v1, v2, v3, v4, v6, vk⟩ := hV
  have e : ∀ j, j < 5 → adV t n kd sq j = t j := fun j hj => by
    unfold adV
    rw [upV_ne (by omega), upV_ne (by omega), upV_ne (by omega), upV_ne (by omega), upV_ne (by omega), upV_ne (by omega)]
  refine ⟨upV_same, by omega, by rw [e 0 (by decide)]; exact v0, by rw [e 1 (by decide)]; exact v1, by rw [e 2 (by decide)]; exact v2, by rw [e 3 (by decide)]; exact v3, by rw [e 4 (by decide)]; exact v4, by rw [e 4 (by decide), e 1 (by decide)]; exact v6, fun k hk' => ?_⟩
  unfold adV upV
  by_cases c : k = n
  · subst c
    refine ⟨?_, ?_, ?_, ?_, ?_⟩ <;> (repeat' split) <;> omega
  · obtain ⟨k0, k1, k2, k3, k4⟩ := vk k (by omega)
    refine ⟨?_, ?_, ?_, ?_, ?_⟩ <;> (repeat' split) <;> omega
theorem sp_addRock {kd sq : Nat} (ha : isSea a) (hH : hold I a t n) (hV : V t n B) : den nS_addRock (0, [some (.ref a), some (.int (nI kd)), some (.int (nI sq)), none], [], (I, J)) = if n = 8 then some (some .null, (I, J)) else some (some (.ref (a + 2 + n)), (up2 (up2 (up2 (up2 (up2 (up2 I (a + 2 + n) 0 (nI kd)) (a + 2 + n) 1 (nI sq)) (a + 2 + n) 2 20) (a + 2 + n) 3 5) (a + 2 + n) 4 0) a 5 (nI (n + 1)), J)) := by
  obtain ⟨⟨h0, h1, h2, h3, h4, h5⟩, hR⟩ := hH
  have hn := hV.2.1
  rw [hV.1] at h5
  by_cases c : n = 8
  · subst c
    have e1 : (nI 8 < (8 : Int32)) = False := eq_false (by decide)
    have e2 : ((1 : Int32) = 0) = False := eq_false (by decide)
    simp only [eS_addRock_0, eS_addRock_1, eS_addRock_4, eS_addRock_7, eS_addRock_8, eS_addRock_8N, eS_addRock_9, eS_addRock_10, eS_addRock_13, eS_addRock_14, eS_addRock_17, eS_addRock_18, eS_addRock_19, eS_addRock_20, eS_addRock_21, eS_addRock_22, eS_addRock_25, eS_addRock_26, eS_addRock_27, eS_addRock_30, eS_addRock_31, eS_addRock_32, eS_addRock_35, eS_addRock_36, eS_addRock_36N, eq_self, hr_k_some, Option.toList, List.cons_append, List.nil_append, is2k_n, is2k_i, is2k_r, is2k_0, oc_sea ha, sp_isFull, h5, e1, e2, if_false, if_true]
  · have hn8 : n < 8 := by omega
    have e1 : (nI n < (8 : Int32)) = True := eq_true (nI_lt hn8 (by decide))
    simp only [eS_addRock_0, eS_addRock_1, eS_addRock_4, eS_addRock_7, eS_addRock_8, eS_addRock_8N, eS_addRock_9, eS_addRock_10, eS_addRock_13, eS_addRock_14, eS_addRock_17, eS_addRock_18, eS_addRock_19, eS_addRock_20, eS_addRock_21, eS_addRock_22, eS_addRock_25, eS_addRock_26, eS_addRock_27, eS_addRock_30, eS_addRock_31, eS_addRock_32, eS_addRock_35, eS_addRock_36, eS_addRock_36N, eq_self, hr_k_some, Option.toList, List.cons_append, List.nil_append, is2k_n, is2k_i, is2k_r, is2k_0, oc_sea ha, sp_isFull, h5, e1, if_true, ro_sea ha, ak_sea ha, true_or, al_sea ha, in_8 hn8, cl_nI (show n < 100000 by omega), ra_sea ha, oc_rock ha hn8, sp_reset, up2_na (show a ≠ a + 2 + n by omega), nI_1, c, if_false]
def chV (t : Nat → Nat) (k w v : Nat) : Nat → Nat := upV t (6 + 5 * k + w) v
theorem sp_change {b w : Nat} {v : Int32} (hw : 1 ≤ w ∧ w < 5) (hb : hr_oc b = 1) : den nR_change (0, [some (.ref b), some (.int (nI w)), some (.int v), none], [], (I, J)) = some (some (.int (I b w)), (up2 I b w v, J)) := by
  rcases (show w = 1 ∨ w = 2 ∨ w = 3 ∨ w = 4 by omega) with rfl | rfl | rfl | rfl <;> simp (decide := true) only [eR_change_0, eR_change_1, eR_change_32, eR_change_33, eR_change_36, eR_change_37, eR_change_38, eR_change_39, eR_change_42, eR_change_43, eR_change_44, eR_change_45, eR_change_48, eR_change_49, eR_change_50, eR_change_51, eR_change_54, eR_change_55, eR_change_56, eR_change_57, eR_change_60, eR_change_61, eR_change_62, eR_change_63, eR_change_66, eR_change_67, eR_change_68, eR_change_69, eR_change_72, eR_change_73, eR_change_74, eR_change_75, eR_change_78, eR_change_79, eq_self, hr_k_some, Option.toList, List.cons_append, List.nil_append, is2k_n, is2k_i, is2k_r, is2k_0, hb, if_true, if_false]
end
