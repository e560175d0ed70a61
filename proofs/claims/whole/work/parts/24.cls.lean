/-! ===== what is best ===== -/
def chS (x c : Nat) (s : Nat × Nat) : Nat × Nat := if x < s.2 then (c + 1, x) else s
def chF (f g : Nat → Nat) (l0 : Nat) : Nat → Nat × Nat
  | 0 => (0, l0)
  | e + 1 => chS (f e) (g e) (chF f g l0 e)
theorem chF_s {f g : Nat → Nat} {l0 e : Nat} : chF f g l0 (e + 1) = chS (f e) (g e) (chF f g l0 e) := rfl
theorem chF_le {f g : Nat → Nat} {l0 G : Nat} : ∀ e, (∀ i, i < e → g i < G) → (chF f g l0 e).1 ≤ G ∧ (chF f g l0 e).2 ≤ l0 := by
  intro e
  induction e with
  | zero => intro _; exact ⟨Nat.zero_le _, Nat.le_refl _⟩
  | succ e ih =>
    intro hg
    obtain ⟨h1, h2⟩ := ih (fun i hi => hg i (by omega))
    have := hg e (by omega)
    rw [chF_s]
    unfold chS
    split
    · exact ⟨by show g e + 1 ≤ G; omega, by show f e ≤ l0; omega⟩
    · exact ⟨h1, h2⟩
theorem mil_lt {M x l : Nat} (hM : M < 1000) (hx : x ≤ M + 1) (hl : l ≤ M + 1) : (mil M l ≤ mil M x) = ¬ (x < l) := by
  apply propext
  unfold mil
  have e6 : (1000000 : Int32) = nI 1000000 := rfl
  rw [e6]
  split <;> split <;> rw [nI_leI (by omega) (by omega)] <;> omega
section
variable {I I' : Nat → Nat → Int32} {J J' : Nat → Nat → Int64} {t t' : Nat → Nat} {n n' kp : Nat} {u : Nat → Nat} {m : Nat} {y : Nat → Int32} {bt : Nat → Nat} {L : Nat} {w z : Nat → Nat} {num : Nat → Nat → Int64}
theorem sp_open {x : Int32} : den nC_open (0, [some (.ref 31), some (.int x)], [], (I, J)) = some (none, (up2 (up2 I 31 0 1000000) 31 1 x, J)) := by
  simp only [eC_open_0, eC_open_1, eC_open_3, eC_open_6, eC_open_7, eC_open_8, eC_open_11, eq_self, hr_k_some, Option.toList, List.cons_append, List.nil_append, is2k_n, is2k_i, is2k_r, is2k_0, oc_31]
theorem sp_offer {M x l b c : Nat} (hM : M < 1000) (hx : x ≤ M + 1) (hl : l ≤ M + 1) (h0 : I 31 0 = bN b) (h1 : I 31 1 = mil M l) : ∃ I', den nC_offer (0, [some (.ref 31), some (.int (nI c)), some (.int (mil M x))], [], (I, J)) = some (none, (I', J)) ∧ I' 31 0 = bN (chS x c (b, l)).1 ∧ I' 31 1 = mil M (chS x c (b, l)).2 ∧ ∀ q, q ≠ 31 → ∀ j, I' q j = I q j := by
  simp only [eC_offer_0, eC_offer_1, eC_offer_2, eC_offer_5, eC_offer_8, eC_offer_9, eC_offer_10, eC_offer_13, eC_offer_14, eC_offer_15, eC_offer_18, eq_self, hr_k_some, Option.toList, List.cons_append, List.nil_append, is2k_n, is2k_i, is2k_r, is2k_0, oc_31, h1, mil_lt hM hx hl]
  unfold chS
  by_cases cx : x < l
  · simp only [cx, not_true_eq_false, if_false, if_true]
    have e : bN (c + 1) = nI c := if_neg (by omega)
    exact ⟨_, rfl, by rw [up2_eq, e], by rw [up2_nk (by decide), up2_eq], fun q hq j => by rw [up2_na hq, up2_na hq]⟩
  · simp only [cx, not_false_eq_true, if_false, if_true]
    exact ⟨I, rfl, h0, h1, fun q hq j => rfl⟩
theorem Cl.o31 (h : Cl I J t n kp u m y bt L w z num) (ho : ∀ q, q ≠ 31 → ∀ j, I' q j = I q j) : Cl I' J t n kp u m y bt L w z num := h.same (fun b _ h2 j => ho b h2 j) (fun b h1 h2 j => ho b (by omega) j)
/-- one trial: the sea is tried with another state t' and asked when she is home; the choice is offered that -/
theorem trial {M c b l B : Nat} (hM : M < 1000) (h : Cl I J t n kp u m y bt L w z num) (hl : l ≤ M + 1) (h0 : I 31 0 = bN b) (h1 : I 31 1 = mil M l) (I1 : Nat → Nat → Int32) (t' : Nat → Nat) (hH : hold I1 11 t' n) (hV : V t' n B) (hB : B < 200000) (ho : off 11 I I1) :
    ∃ I2 I3, den nS_watchesToFate (0, [some (.ref 11), some (.int 2), some (.int (nI M)), none], [], (I1, J)) = some (some (.int (mil M (fiV (ftV 2) t' n (M + 1)))), (I2, J)) ∧ den nC_offer (0, [some (.ref 31), some (.int (nI c)), some (.int (mil M (fiV (ftV 2) t' n (M + 1))))], [], (I2, J)) = some (none, (I3, J)) ∧ Cl I3 J t n kp u m y bt L w z num ∧ I3 31 0 = bN (chS (fiV (ftV 2) t' n (M + 1)) c (b, l)).1 ∧ I3 31 1 = mil M (chS (fiV (ftV 2) t' n (M + 1)) c (b, l)).2 ∧ offX I I3 := by
  obtain ⟨I2, e2, ho2⟩ := sp_toFate (J := J) is11 (v := 2) (m := M) (Or.inr rfl) hM hH hV (by omega)
  have ho12 := ho.trans ho2
  obtain ⟨I3, e3, g0, g1, ho3⟩ := sp_offer (I := I2) (J := J) (M := M) (x := fiV (ftV 2) t' n (M + 1)) (l := l) (b := b) (c := c) hM (fiV_le _ _) hl (by rw [ho12 31 (by omega)]; exact h0) (by rw [ho12 31 (by omega)]; exact h1)
  exact ⟨I2, I3, e2, e3, (h.t11 ho12).o31 ho3, g0, g1, (offX.of11 ho12).trans (fun b _ h2 j => ho3 b h2 j)⟩
/-- the end of a search: best, or none -/
def bestR (b : Nat) : Value := if b = 0 then .int (fnd 3) else .int (nI (b - 1))
def bestY (y : Nat → Int32) (b : Nat) : Nat → Int32 := if b = 0 then inc y 3 else y
theorem best_end {b : Nat} (hb : b < 1000) (h : Cl I' J t n kp u m y bt L w z num) (ho : offX I I') : ∃ I2, den nX_orNone (0, [some (.ref 0), some (.int (bN b))], [], (I', J)) = some (some (bestR b), (I2, J)) ∧ frX I I2 J J ∧ Cl I2 J t n kp u m (bestY y b) bt L w z num := by
  unfold bestR bestY
  by_cases c : b = 0
  · subst c
    exact ⟨_, sp_orNone0, ho.fr.trans frX.fnd, h.fnd (by decide)⟩
  · rw [if_neg c, if_neg c]
    exact ⟨I', sp_orNone ⟨by omega, by omega⟩, ho.fr, h⟩
/-! ear -/
def earF (t : Nat → Nat) (n : Nat) : Nat → Nat := fun e => fiV (ftV 2) (upV t 2 e) n 201
theorem ear_V {B e : Nat} (hV : V t n B) (he : e < 10) : V (upV t 2 e) n B := by
  have := sh_V (k := 1) (v := e) hV (by decide) (by show e ≤ 9; omega)
  exact this
theorem ear_loop : ∀ (d e : Nat) (I : Nat → Nat → Int32), e + d = 10 → Cl I J t n kp u m y bt L w z num → I 31 0 = bN (chF (earF t n) (fun e => e) 201 e).1 → I 31 1 = mil 200 (chF (earF t n) (fun e => e) 201 e).2 → ∃ I', den nX_ear (11, [some (.ref 0), some (.int (nI e))], [], (I, J)) = den nX_ear (54, [some (.ref 0), some (.int (nI 10))], [], (I', J)) ∧ Cl I' J t n kp u m y bt L w z num ∧ I' 31 0 = bN (chF (earF t n) (fun e => e) 201 10).1 ∧ offX I I' := by
  intro d
  induction d with
  | zero =>
    intro e I he h h0 h1
    have e10 : e = 10 := by omega
    subst e10
    have hc : ((9 : Int32) < nI 10) = True := eq_true (by decide)
    refine ⟨I, ?_, h, h0, offX.rfl⟩
    simp only [eX_ear_0, eX_ear_1, eX_ear_4, eX_ear_6, eX_ear_9, eX_ear_10, eX_ear_11, eX_ear_12, eX_ear_14, eX_ear_17, eX_ear_18, eX_ear_21, eX_ear_22, eX_ear_25, eX_ear_26, eX_ear_29, eX_ear_30, eX_ear_33, eX_ear_34, eX_ear_35, eX_ear_38, eX_ear_39, eX_ear_42, eX_ear_45, eX_ear_48, eX_ear_51, eX_ear_55, eX_ear_56, eX_ear_59, eX_ear_62, eX_ear_65, eq_self, hr_k_some, Option.toList, List.cons_append, List.nil_append, is2k_n, is2k_i, is2k_r, is2k_0, hc, if_true]
  | succ d ih =>
    intro e I he h h0 h1
    have hc : ((9 : Int32) < nI e) = False := eq_false (nI_nlt (a := 9) (b := e) (by omega) (by omega))
    have hl := (chF_le (f := earF t n) (g := fun e => e) (l0 := 201) (G := 10) e (fun i hi => by omega)).2
    obtain ⟨I2, I3, e2, e3, h3, g0, g1, ho⟩ := trial (M := 200) (c := e) (B := 99999) (by decide) h hl h0 h1 (up2 (bI I 11 1 n) 11 2 (nI e)) (upV t 2 e) ((try_hold h).sea (by decide)) (ear_V h.2.1 (by omega)) (by decide) ((try_off h).up ⟨by omega, by omega⟩)
    have e2' : den nS_watchesToFate (0, [some (.ref 11), some (.int 2), some (.int 200), none], [], (up2 (bI I 11 1 n) 11 2 (nI e), J)) = some (some (.int (mil 200 (earF t n e))), (I2, J)) := e2
    have e3' : den nC_offer (0, [some (.ref 31), some (.int (nI e)), some (.int (mil 200 (earF t n e)))], [], (I2, J)) = some (none, (I3, J)) := e3
    obtain ⟨I4, e4, h4, g4, ho4⟩ := ih (e + 1) I3 (by omega) h3 g0 g1
    refine ⟨I4, ?_, h4, g4, ho.trans ho4⟩
    rw [eX_ear_11]
    simp only [eX_ear_0, eX_ear_1, eX_ear_4, eX_ear_6, eX_ear_9, eX_ear_10, eX_ear_12, eX_ear_14, eX_ear_17, eX_ear_18, eX_ear_21, eX_ear_22, eX_ear_25, eX_ear_26, eX_ear_29, eX_ear_30, eX_ear_33, eX_ear_34, eX_ear_35, eX_ear_38, eX_ear_39, eX_ear_42, eX_ear_45, eX_ear_48, eX_ear_51, eX_ear_55, eX_ear_56, eX_ear_59, eX_ear_62, eX_ear_65, eq_self, hr_k_some, Option.toList, List.cons_append, List.nil_append, is2k_n, is2k_i, is2k_r, is2k_0, oc_0, ro_00, ro_01, ro_02, ro_04, ro_05, ro_06, ro_07, oc_1, oc_11, oc_21, oc_31, oc_32, ro_16, ro_b6, ak_2, ak_12, al_2, al_12, ra_2, ra_12, i10, i01, zb_t, zb_f, not_true_eq_false, not_false_eq_true, if_true, if_false, sp_found0, sp_found1, sp_found2, sp_found3, sp_found4, sp_found5, sp_found6, true_or, hc, sp_try h, e2', e3', nI_1]
    exact e4
theorem X_ear_all (h : Cl I J t n kp u m y bt L w z num) : XR nX_ear [some (.ref 0), none] I J (bestR (chF (earF t n) (fun e => e) 201 10).1) (fun I' J' => Cl I' J' t n kp u m (bestY y (chF (earF t n) (fun e => e) 201 10).1) bt L w z num) := by
  have h1 : Cl (up2 (up2 I 31 0 1000000) 31 1 1000000) J t n kp u m y bt L w z num := h.o31 (fun q hq j => by rw [up2_na hq, up2_na hq])
  have ho1 : offX I (up2 (up2 I 31 0 1000000) 31 1 1000000) := offX.rfl.up31.up31
  obtain ⟨I4, e4, h4, g4, ho4⟩ := ear_loop (t := t) (n := n) 10 0 _ (by omega) h1 (by rw [up2_nk (by decide), up2_eq]; rfl) (by rw [up2_eq]; rfl)
  obtain ⟨I5, e5, f5, h5⟩ := best_end (I := I) (b := (chF (earF t n) (fun e => e) 201 10).1) (by have := (chF_le (f := earF t n) (g := fun e => e) (l0 := 201) (G := 10) 10 (fun i hi => by omega)).1; omega) h4 (ho1.trans ho4)
  refine ⟨I5, J, ?_, f5, h5⟩
  have e4' : den nX_ear (11, [some (.ref 0), some (.int 0)], [], (up2 (up2 I 31 0 1000000) 31 1 1000000, J)) = den nX_ear (54, [some (.ref 0), some (.int (nI 10))], [], (I4, J)) := e4
  simp only [eX_ear_0, eX_ear_1, eX_ear_4, eX_ear_6, eX_ear_9, eX_ear_10, eX_ear_12, eX_ear_14, eX_ear_17, eX_ear_18, eX_ear_21, eX_ear_22, eX_ear_25, eX_ear_26, eX_ear_29, eX_ear_30, eX_ear_33, eX_ear_34, eX_ear_35, eX_ear_38, eX_ear_39, eX_ear_42, eX_ear_45, eX_ear_48, eX_ear_51, eX_ear_55, eX_ear_56, eX_ear_59, eX_ear_62, eX_ear_65, eq_self, hr_k_some, Option.toList, List.cons_append, List.nil_append, is2k_n, is2k_i, is2k_r, is2k_0, oc_0, ro_00, ro_01, ro_02, ro_04, ro_05, ro_06, ro_07, oc_1, oc_11, oc_21, oc_31, oc_32, ro_16, ro_b6, ak_2, ak_12, al_2, al_12, ra_2, ra_12, i10, i01, zb_t, zb_f, not_true_eq_false, not_false_eq_true, if_true, if_false, sp_found0, sp_found1, sp_found2, sp_found3, sp_found4, sp_found5, sp_found6, true_or, sp_open]
  rw [e4']
  simp only [eX_ear_0, eX_ear_1, eX_ear_4, eX_ear_6, eX_ear_9, eX_ear_10, eX_ear_11, eX_ear_12, eX_ear_14, eX_ear_17, eX_ear_18, eX_ear_21, eX_ear_22, eX_ear_25, eX_ear_26, eX_ear_29, eX_ear_30, eX_ear_33, eX_ear_34, eX_ear_35, eX_ear_38, eX_ear_39, eX_ear_42, eX_ear_45, eX_ear_48, eX_ear_51, eX_ear_54, eX_ear_55, eX_ear_56, eX_ear_59, eX_ear_62, eX_ear_65, eq_self, hr_k_some, Option.toList, List.cons_append, List.nil_append, is2k_n, is2k_i, is2k_r, is2k_0, oc_0, ro_00, ro_01, ro_02, ro_04, ro_05, ro_06, ro_07, oc_1, oc_11, oc_21, oc_31, oc_32, ro_16, ro_b6, ak_2, ak_12, al_2, al_12, ra_2, ra_12, i10, i01, zb_t, zb_f, not_true_eq_false, not_false_eq_true, if_true, if_false, sp_found0, sp_found1, sp_found2, sp_found3, sp_found4, sp_found5, sp_found6, true_or, g4, e5]
  unfold bestR
  split <;> simp only [eX_ear_0, eX_ear_1, eX_ear_4, eX_ear_6, eX_ear_9, eX_ear_10, eX_ear_11, eX_ear_12, eX_ear_14, eX_ear_17, eX_ear_18, eX_ear_21, eX_ear_22, eX_ear_25, eX_ear_26, eX_ear_29, eX_ear_30, eX_ear_33, eX_ear_34, eX_ear_35, eX_ear_38, eX_ear_39, eX_ear_42, eX_ear_45, eX_ear_48, eX_ear_51, eX_ear_54, eX_ear_55, eX_ear_56, eX_ear_59, eX_ear_62, eX_ear_65]
/-! begin -/
def begF (t : Nat → Nat) (n r : Nat) : Nat → Nat := fun i => fiV (ftV 2) (plV t (8 * r + i)) n 101
theorem beg_loop {r : Nat} (hr : r < 8) : ∀ (d i : Nat) (I : Nat → Nat → Int32), i + d = 8 → Cl I J t n kp u m y bt L w z num → I 31 0 = bN (chF (begF t n r) (fun i => 8 * r + i) 101 i).1 → I 31 1 = mil 100 (chF (begF t n r) (fun i => 8 * r + i) 101 i).2 → ∃ I' x2, den nX_begin (30, [some (.ref 0), some (.int (nI r)), some (.int (nI (8 * r + i)))], [], (I, J)) = den nX_begin (77, [some (.ref 0), some (.int (nI r)), x2], [], (I', J)) ∧ Cl I' J t n kp u m y bt L w z num ∧ I' 31 0 = bN (chF (begF t n r) (fun i => 8 * r + i) 101 8).1 ∧ offX I I' := by
  have em : nI r * 8 + 8 = nI (8 * r + 8) := by
    have : (8 : Int32) = nI 8 := rfl
    rw [this, pk_mul, nI_add, Nat.mul_comm]
  intro d
  induction d with
  | zero =>
    intro i I he h h0 h1
    have e8 : i = 8 := by omega
    subst e8
    refine ⟨I, some (.int (nI (8 * r + 8))), ?_, h, h0, offX.rfl⟩
    simp only [eX_begin_0, eX_begin_1, eX_begin_2, eX_begin_4, eX_begin_7, eX_begin_10, eX_begin_11, eX_begin_12, eX_begin_15, eX_begin_16, eX_begin_17, eX_begin_20, eX_begin_22, eX_begin_25, eX_begin_26, eX_begin_28, eX_begin_29, eX_begin_30, eX_begin_31, eX_begin_32, eX_begin_34, eX_begin_35, eX_begin_37, eX_begin_38, eX_begin_41, eX_begin_42, eX_begin_45, eX_begin_46, eX_begin_49, eX_begin_50, eX_begin_53, eX_begin_54, eX_begin_57, eX_begin_58, eX_begin_59, eX_begin_62, eX_begin_63, eX_begin_65, eX_begin_68, eX_begin_71, eX_begin_74, eX_begin_78, eX_begin_79, eX_begin_82, eX_begin_85, eX_begin_88, eq_self, hr_k_some, Option.toList, List.cons_append, List.nil_append, is2k_n, is2k_i, is2k_r, is2k_0, em, leT (Nat.le_refl (8 * r + 8)) (show 8 * r + 8 < 2 ^ 31 by omega), if_true]
  | succ d ih =>
    intro i I he h h0 h1
    have hl := (chF_le (f := begF t n r) (g := fun i => 8 * r + i) (l0 := 101) (G := 8 * r + 8) i (fun j hj => by show 8 * r + j < 8 * r + 8; omega)).2
    have hq : 8 * r + i < 64 := by omega
    have ep := sp_placeShip (I := bI I 11 1 n) (J := J) hq oc_11
    obtain ⟨I2, I3, e2, e3, h3, g0, g1, ho⟩ := trial (M := 100) (c := 8 * r + i) (B := 99999) (by decide) h hl h0 h1 _ (plV t (8 * r + i)) (pl_hold (try_hold h)) (pl_V h.2.1 hq) (by decide) (((try_off h).up ⟨by omega, by omega⟩).up ⟨by omega, by omega⟩)
    have e2' : den nS_watchesToFate (0, [some (.ref 11), some (.int 2), some (.int 100), none], [], (up2 (up2 (bI I 11 1 n) 11 1 (nI (8 * r + i))) 11 4 (nI (if 8 * r + i = 63 then 2 else 0)), J)) = some (some (.int (mil 100 (begF t n r i))), (I2, J)) := e2
    have e3' : den nC_offer (0, [some (.ref 31), some (.int (nI (8 * r + i))), some (.int (mil 100 (begF t n r i)))], [], (I2, J)) = some (none, (I3, J)) := e3
    obtain ⟨I4, x2, e4, h4, g4, ho4⟩ := ih (i + 1) I3 (by omega) h3 g0 g1
    refine ⟨I4, x2, ?_, h4, g4, ho.trans ho4⟩
    rw [eX_begin_30]
    simp only [eX_begin_0, eX_begin_1, eX_begin_2, eX_begin_4, eX_begin_7, eX_begin_10, eX_begin_11, eX_begin_12, eX_begin_15, eX_begin_16, eX_begin_17, eX_begin_20, eX_begin_22, eX_begin_25, eX_begin_26, eX_begin_28, eX_begin_29, eX_begin_31, eX_begin_32, eX_begin_34, eX_begin_35, eX_begin_37, eX_begin_38, eX_begin_41, eX_begin_42, eX_begin_45, eX_begin_46, eX_begin_49, eX_begin_50, eX_begin_53, eX_begin_54, eX_begin_57, eX_begin_58, eX_begin_59, eX_begin_62, eX_begin_63, eX_begin_65, eX_begin_68, eX_begin_71, eX_begin_74, eX_begin_78, eX_begin_79, eX_begin_82, eX_begin_85, eX_begin_88, eq_self, hr_k_some, Option.toList, List.cons_append, List.nil_append, is2k_n, is2k_i, is2k_r, is2k_0, oc_0, ro_00, ro_01, ro_02, ro_04, ro_05, ro_06, ro_07, oc_1, oc_11, oc_21, oc_31, oc_32, ro_16, ro_b6, ak_2, ak_12, al_2, al_12, ra_2, ra_12, i10, i01, zb_t, zb_f, not_true_eq_false, not_false_eq_true, if_true, if_false, sp_found0, sp_found1, sp_found2, sp_found3, sp_found4, sp_found5, sp_found6, true_or, em, leF (show 8 * r + i < 8 * r + 8 by omega) (show 8 * r + 8 < 2 ^ 31 by omega), sp_try h, ep, e2', e3', nI_1]
    exact e4
theorem X_begin_ok (h : Cl I J t n kp u m y bt L w z num) {r : Nat} (hr : r < 8) : XR nX_begin [some (.ref 0), some (.int (nI r)), none] I J (bestR (chF (begF t n r) (fun i => 8 * r + i) 101 8).1) (fun I' J' => Cl I' J' t n kp u m (bestY y (chF (begF t n r) (fun i => 8 * r + i) 101 8).1) bt L w z num) := by
  have ew : decide ((0 : Int32) ≤ nI r ∧ nI r ≤ 7) = true := wi_yes (a := 0) (b := 7) (by omega) (by omega) (by decide)
  have em : nI r * 8 = nI (8 * r + 0) := by
    have : (8 : Int32) = nI 8 := rfl
    rw [this, pk_mul, Nat.mul_comm]; rfl
  have h1 : Cl (up2 (up2 I 31 0 1000000) 31 1 1000000) J t n kp u m y bt L w z num := h.o31 (fun q hq j => by rw [up2_na hq, up2_na hq])
  have ho1 : offX I (up2 (up2 I 31 0 1000000) 31 1 1000000) := offX.rfl.up31.up31
  obtain ⟨I4, x2, e4, h4, g4, ho4⟩ := beg_loop (t := t) (n := n) hr 8 0 _ (by omega) h1 (by rw [up2_nk (by decide), up2_eq]; rfl) (by rw [up2_eq]; rfl)
  obtain ⟨I5, e5, f5, h5⟩ := best_end (I := I) (b := (chF (begF t n r) (fun i => 8 * r + i) 101 8).1) (by have := (chF_le (f := begF t n r) (g := fun i => 8 * r + i) (l0 := 101) (G := 8 * r + 8) 8 (fun i hi => by show 8 * r + i < 8 * r + 8; omega)).1; omega) h4 (ho1.trans ho4)
  refine ⟨I5, J, ?_, f5, h5⟩
  simp only [eX_begin_0, eX_begin_1, eX_begin_2, eX_begin_4, eX_begin_7, eX_begin_10, eX_begin_11, eX_begin_12, eX_begin_15, eX_begin_16, eX_begin_17, eX_begin_20, eX_begin_22, eX_begin_25, eX_begin_26, eX_begin_28, eX_begin_29, eX_begin_31, eX_begin_32, eX_begin_34, eX_begin_35, eX_begin_37, eX_begin_38, eX_begin_41, eX_begin_42, eX_begin_45, eX_begin_46, eX_begin_49, eX_begin_50, eX_begin_53, eX_begin_54, eX_begin_57, eX_begin_58, eX_begin_59, eX_begin_62, eX_begin_63, eX_begin_65, eX_begin_68, eX_begin_71, eX_begin_74, eX_begin_78, eX_begin_79, eX_begin_82, eX_begin_85, eX_begin_88, eq_self, hr_k_some, Option.toList, List.cons_append, List.nil_append, is2k_n, is2k_i, is2k_r, is2k_0, oc_0, ro_00, ro_01, ro_02, ro_04, ro_05, ro_06, ro_07, oc_1, oc_11, oc_21, oc_31, oc_32, ro_16, ro_b6, ak_2, ak_12, al_2, al_12, ra_2, ra_12, i10, i01, zb_t, zb_f, not_true_eq_false, not_false_eq_true, if_true, if_false, sp_found0, sp_found1, sp_found2, sp_found3, sp_found4, sp_found5, sp_found6, true_or, sp_isWithin, ew, sp_open, em]
  rw [e4]
  simp only [eX_begin_0, eX_begin_1, eX_begin_2, eX_begin_4, eX_begin_7, eX_begin_10, eX_begin_11, eX_begin_12, eX_begin_15, eX_begin_16, eX_begin_17, eX_begin_20, eX_begin_22, eX_begin_25, eX_begin_26, eX_begin_28, eX_begin_29, eX_begin_30, eX_begin_31, eX_begin_32, eX_begin_34, eX_begin_35, eX_begin_37, eX_begin_38, eX_begin_41, eX_begin_42, eX_begin_45, eX_begin_46, eX_begin_49, eX_begin_50, eX_begin_53, eX_begin_54, eX_begin_57, eX_begin_58, eX_begin_59, eX_begin_62, eX_begin_63, eX_begin_65, eX_begin_68, eX_begin_71, eX_begin_74, eX_begin_77, eX_begin_78, eX_begin_79, eX_begin_82, eX_begin_85, eX_begin_88, eq_self, hr_k_some, Option.toList, List.cons_append, List.nil_append, is2k_n, is2k_i, is2k_r, is2k_0, oc_0, ro_00, ro_01, ro_02, ro_04, ro_05, ro_06, ro_07, oc_1, oc_11, oc_21, oc_31, oc_32, ro_16, ro_b6, ak_2, ak_12, al_2, al_12, ra_2, ra_12, i10, i01, zb_t, zb_f, not_true_eq_false, not_false_eq_true, if_true, if_false, sp_found0, sp_found1, sp_found2, sp_found3, sp_found4, sp_found5, sp_found6, true_or, g4, e5]
  unfold bestR
  split <;> simp only [eX_begin_0, eX_begin_1, eX_begin_2, eX_begin_4, eX_begin_7, eX_begin_10, eX_begin_11, eX_begin_12, eX_begin_15, eX_begin_16, eX_begin_17, eX_begin_20, eX_begin_22, eX_begin_25, eX_begin_26, eX_begin_28, eX_begin_29, eX_begin_30, eX_begin_31, eX_begin_32, eX_begin_34, eX_begin_35, eX_begin_37, eX_begin_38, eX_begin_41, eX_begin_42, eX_begin_45, eX_begin_46, eX_begin_49, eX_begin_50, eX_begin_53, eX_begin_54, eX_begin_57, eX_begin_58, eX_begin_59, eX_begin_62, eX_begin_63, eX_begin_65, eX_begin_68, eX_begin_71, eX_begin_74, eX_begin_77, eX_begin_78, eX_begin_79, eX_begin_82, eX_begin_85, eX_begin_88]
theorem X_begin_no (h : Cl I J t n kp u m y bt L w z num) {a1 : Int32} (hb : ¬ rng a1 8) : XR nX_begin [some (.ref 0), some (.int a1), none] I J (.int (fnd 0)) (fun I' J' => Cl I' J' t n kp u m (inc y 0) bt L w z num) := by
  refine XR.fnd (by decide) h ?_
  have ew : decide ((0 : Int32) ≤ a1 ∧ a1 ≤ 7) = false := wi_no0 (b := 7) (by decide) hb
  simp only [eX_begin_0, eX_begin_1, eX_begin_2, eX_begin_4, eX_begin_7, eX_begin_10, eX_begin_11, eX_begin_12, eX_begin_15, eX_begin_16, eX_begin_17, eX_begin_20, eX_begin_22, eX_begin_25, eX_begin_26, eX_begin_28, eX_begin_29, eX_begin_30, eX_begin_31, eX_begin_32, eX_begin_34, eX_begin_35, eX_begin_37, eX_begin_38, eX_begin_41, eX_begin_42, eX_begin_45, eX_begin_46, eX_begin_49, eX_begin_50, eX_begin_53, eX_begin_54, eX_begin_57, eX_begin_58, eX_begin_59, eX_begin_62, eX_begin_63, eX_begin_65, eX_begin_68, eX_begin_71, eX_begin_74, eX_begin_77, eX_begin_78, eX_begin_79, eX_begin_82, eX_begin_85, eX_begin_88, eq_self, hr_k_some, Option.toList, List.cons_append, List.nil_append, is2k_n, is2k_i, is2k_r, is2k_0, oc_0, ro_00, ro_01, ro_02, ro_04, ro_05, ro_06, ro_07, oc_1, oc_11, oc_21, oc_31, oc_32, ro_16, ro_b6, ak_2, ak_12, al_2, al_12, ra_2, ra_12, i10, i01, zb_t, zb_f, not_true_eq_false, not_false_eq_true, if_true, if_false, sp_found0, sp_found1, sp_found2, sp_found3, sp_found4, sp_found5, sp_found6, true_or, sp_isWithin, ew]
/-! kind -/
def kinF (t : Nat → Nat) (n k : Nat) : Nat → Nat := fun kd => fiV (ftV 2) (upV t (6 + 5 * k) kd) n 201
theorem kin_loop {k : Nat} (hk : k < n) : ∀ (d i : Nat) (I : Nat → Nat → Int32), i + d = 6 → Cl I J t n kp u m y bt L w z num → I 31 0 = bN (chF (kinF t n k) (fun i => i) 201 i).1 → I 31 1 = mil 200 (chF (kinF t n k) (fun i => i) 201 i).2 → ∃ I' x2, den nX_kind (25, [some (.ref 0), some (.int (nI k)), some (.int (nI i))], [], (I, J)) = den nX_kind (73, [some (.ref 0), some (.int (nI k)), x2], [], (I', J)) ∧ Cl I' J t n kp u m y bt L w z num ∧ I' 31 0 = bN (chF (kinF t n k) (fun i => i) 201 6).1 ∧ offX I I' := by
  intro d
  induction d with
  | zero =>
    intro i I he h h0 h1
    have e8 : i = 6 := by omega
    subst e8
    have hc : ((6 : Int32) ≤ nI 6) = True := eq_true (by decide)
    refine ⟨I, some (.int (nI 6)), ?_, h, h0, offX.rfl⟩
    simp only [eX_kind_0, eX_kind_1, eX_kind_2, eX_kind_5, eX_kind_8, eX_kind_9, eX_kind_10, eX_kind_13, eX_kind_14, eX_kind_15, eX_kind_18, eX_kind_20, eX_kind_23, eX_kind_24, eX_kind_25, eX_kind_26, eX_kind_28, eX_kind_31, eX_kind_32, eX_kind_35, eX_kind_36, eX_kind_39, eX_kind_42, eX_kind_43, eX_kind_44, eX_kind_45, eX_kind_48, eX_kind_49, eX_kind_52, eX_kind_53, eX_kind_54, eX_kind_57, eX_kind_58, eX_kind_61, eX_kind_64, eX_kind_67, eX_kind_70, eX_kind_74, eX_kind_75, eX_kind_78, eX_kind_81, eX_kind_84, eq_self, hr_k_some, Option.toList, List.cons_append, List.nil_append, is2k_n, is2k_i, is2k_r, is2k_0, hc, if_true]
  | succ d ih =>
    intro i I he h h0 h1
    have hn := h.2.1.2.1
    have hk8 : k < 8 := by omega
    have hc : ((6 : Int32) ≤ nI i) = False := leF (a := 6) (b := i) (by omega) (by decide)
    have hl := (chF_le (f := kinF t n k) (g := fun i => i) (l0 := 201) (G := 6) i (fun j hj => by omega)).2
    obtain ⟨I2, I3, e2, e3, h3, g0, g1, ho⟩ := trial (M := 200) (c := i) (B := 99999) (by decide) h hl h0 h1 (up2 (bI I 11 1 n) (13 + k) 0 (nI i)) (upV t (6 + 5 * k) i) ((try_hold h).rock (k := k) (j := 0) (by decide)) (turn_V h.2.1 hk (by omega)) (by decide) ((try_off h).up ⟨by omega, by omega⟩)
    have e2' : den nS_watchesToFate (0, [some (.ref 11), some (.int 2), some (.int 200), none], [], (up2 (bI I 11 1 n) (13 + k) 0 (nI i), J)) = some (some (.int (mil 200 (kinF t n k i))), (I2, J)) := e2
    have e3' : den nC_offer (0, [some (.ref 31), some (.int (nI i)), some (.int (mil 200 (kinF t n k i)))], [], (I2, J)) = some (none, (I3, J)) := e3
    obtain ⟨I4, x2, e4, h4, g4, ho4⟩ := ih (i + 1) I3 (by omega) h3 g0 g1
    refine ⟨I4, x2, ?_, h4, g4, ho.trans ho4⟩
    rw [eX_kind_25]
    simp only [eX_kind_0, eX_kind_1, eX_kind_2, eX_kind_5, eX_kind_8, eX_kind_9, eX_kind_10, eX_kind_13, eX_kind_14, eX_kind_15, eX_kind_18, eX_kind_20, eX_kind_23, eX_kind_24, eX_kind_26, eX_kind_28, eX_kind_31, eX_kind_32, eX_kind_35, eX_kind_36, eX_kind_39, eX_kind_42, eX_kind_43, eX_kind_44, eX_kind_45, eX_kind_48, eX_kind_49, eX_kind_52, eX_kind_53, eX_kind_54, eX_kind_57, eX_kind_58, eX_kind_61, eX_kind_64, eX_kind_67, eX_kind_70, eX_kind_74, eX_kind_75, eX_kind_78, eX_kind_81, eX_kind_84, eq_self, hr_k_some, Option.toList, List.cons_append, List.nil_append, is2k_n, is2k_i, is2k_r, is2k_0, oc_0, ro_00, ro_01, ro_02, ro_04, ro_05, ro_06, ro_07, oc_1, oc_11, oc_21, oc_31, oc_32, ro_16, ro_b6, ak_2, ak_12, al_2, al_12, ra_2, ra_12, i10, i01, zb_t, zb_f, not_true_eq_false, not_false_eq_true, if_true, if_false, sp_found0, sp_found1, sp_found2, sp_found3, sp_found4, sp_found5, sp_found6, true_or, hc, sp_try h, in_8 hk8, cl_nI (show k < 100000 by omega), oc_r11 hk8, e2', e3', nI_1]
    exact e4
theorem X_kind_ok (h : Cl I J t n kp u m y bt L w z num) {k : Nat} (hk : k < n) : XR nX_kind [some (.ref 0), some (.int (nI k)), none] I J (bestR (chF (kinF t n k) (fun i => i) 201 6).1) (fun I' J' => Cl I' J' t n kp u m (bestY y (chF (kinF t n k) (fun i => i) 201 6).1) bt L w z num) := by
  have er := sp_isRock (J := J) h.h5 h.2.1.2.1 (x := nI k) |>.1 ⟨k, hk, rfl⟩
  have h1 : Cl (up2 (up2 I 31 0 1000000) 31 1 1000000) J t n kp u m y bt L w z num := h.o31 (fun q hq j => by rw [up2_na hq, up2_na hq])
  have ho1 : offX I (up2 (up2 I 31 0 1000000) 31 1 1000000) := offX.rfl.up31.up31
  obtain ⟨I4, x2, e4, h4, g4, ho4⟩ := kin_loop (t := t) (n := n) hk 6 0 _ (by omega) h1 (by rw [up2_nk (by decide), up2_eq]; rfl) (by rw [up2_eq]; rfl)
  obtain ⟨I5, e5, f5, h5⟩ := best_end (I := I) (b := (chF (kinF t n k) (fun i => i) 201 6).1) (by have := (chF_le (f := kinF t n k) (g := fun i => i) (l0 := 201) (G := 6) 6 (fun i hi => by omega)).1; omega) h4 (ho1.trans ho4)
  refine ⟨I5, J, ?_, f5, h5⟩
  have e4' : den nX_kind (25, [some (.ref 0), some (.int (nI k)), some (.int 0)], [], (up2 (up2 I 31 0 1000000) 31 1 1000000, J)) = den nX_kind (73, [some (.ref 0), some (.int (nI k)), x2], [], (I4, J)) := e4
  simp only [eX_kind_0, eX_kind_1, eX_kind_2, eX_kind_5, eX_kind_8, eX_kind_9, eX_kind_10, eX_kind_13, eX_kind_14, eX_kind_15, eX_kind_18, eX_kind_20, eX_kind_23, eX_kind_24, eX_kind_26, eX_kind_28, eX_kind_31, eX_kind_32, eX_kind_35, eX_kind_36, eX_kind_39, eX_kind_42, eX_kind_43, eX_kind_44, eX_kind_45, eX_kind_48, eX_kind_49, eX_kind_52, eX_kind_53, eX_kind_54, eX_kind_57, eX_kind_58, eX_kind_61, eX_kind_64, eX_kind_67, eX_kind_70, eX_kind_74, eX_kind_75, eX_kind_78, eX_kind_81, eX_kind_84, eq_self, hr_k_some, Option.toList, List.cons_append, List.nil_append, is2k_n, is2k_i, is2k_r, is2k_0, oc_0, ro_00, ro_01, ro_02, ro_04, ro_05, ro_06, ro_07, oc_1, oc_11, oc_21, oc_31, oc_32, ro_16, ro_b6, ak_2, ak_12, al_2, al_12, ra_2, ra_12, i10, i01, zb_t, zb_f, not_true_eq_false, not_false_eq_true, if_true, if_false, sp_found0, sp_found1, sp_found2, sp_found3, sp_found4, sp_found5, sp_found6, true_or, er, sp_open]
  rw [e4']
  simp only [eX_kind_0, eX_kind_1, eX_kind_2, eX_kind_5, eX_kind_8, eX_kind_9, eX_kind_10, eX_kind_13, eX_kind_14, eX_kind_15, eX_kind_18, eX_kind_20, eX_kind_23, eX_kind_24, eX_kind_25, eX_kind_26, eX_kind_28, eX_kind_31, eX_kind_32, eX_kind_35, eX_kind_36, eX_kind_39, eX_kind_42, eX_kind_43, eX_kind_44, eX_kind_45, eX_kind_48, eX_kind_49, eX_kind_52, eX_kind_53, eX_kind_54, eX_kind_57, eX_kind_58, eX_kind_61, eX_kind_64, eX_kind_67, eX_kind_70, eX_kind_73, eX_kind_74, eX_kind_75, eX_kind_78, eX_kind_81, eX_kind_84, eq_self, hr_k_some, Option.toList, List.cons_append, List.nil_append, is2k_n, is2k_i, is2k_r, is2k_0, oc_0, ro_00, ro_01, ro_02, ro_04, ro_05, ro_06, ro_07, oc_1, oc_11, oc_21, oc_31, oc_32, ro_16, ro_b6, ak_2, ak_12, al_2, al_12, ra_2, ra_12, i10, i01, zb_t, zb_f, not_true_eq_false, not_false_eq_true, if_true, if_false, sp_found0, sp_found1, sp_found2, sp_found3, sp_found4, sp_found5, sp_found6, true_or, g4, e5]
  unfold bestR
  split <;> simp only [eX_kind_0, eX_kind_1, eX_kind_2, eX_kind_5, eX_kind_8, eX_kind_9, eX_kind_10, eX_kind_13, eX_kind_14, eX_kind_15, eX_kind_18, eX_kind_20, eX_kind_23, eX_kind_24, eX_kind_25, eX_kind_26, eX_kind_28, eX_kind_31, eX_kind_32, eX_kind_35, eX_kind_36, eX_kind_39, eX_kind_42, eX_kind_43, eX_kind_44, eX_kind_45, eX_kind_48, eX_kind_49, eX_kind_52, eX_kind_53, eX_kind_54, eX_kind_57, eX_kind_58, eX_kind_61, eX_kind_64, eX_kind_67, eX_kind_70, eX_kind_73, eX_kind_74, eX_kind_75, eX_kind_78, eX_kind_81, eX_kind_84]
theorem X_kind_no (h : Cl I J t n kp u m y bt L w z num) {a1 : Int32} (hb : ¬ rng a1 n) : XR nX_kind [some (.ref 0), some (.int a1), none] I J (.int (fnd 0)) (fun I' J' => Cl I' J' t n kp u m (inc y 0) bt L w z num) := by
  refine XR.fnd (by decide) h ?_
  have er := sp_isRock (J := J) h.h5 h.2.1.2.1 (x := a1) |>.2 hb
  simp only [eX_kind_0, eX_kind_1, eX_kind_2, eX_kind_5, eX_kind_8, eX_kind_9, eX_kind_10, eX_kind_13, eX_kind_14, eX_kind_15, eX_kind_18, eX_kind_20, eX_kind_23, eX_kind_24, eX_kind_25, eX_kind_26, eX_kind_28, eX_kind_31, eX_kind_32, eX_kind_35, eX_kind_36, eX_kind_39, eX_kind_42, eX_kind_43, eX_kind_44, eX_kind_45, eX_kind_48, eX_kind_49, eX_kind_52, eX_kind_53, eX_kind_54, eX_kind_57, eX_kind_58, eX_kind_61, eX_kind_64, eX_kind_67, eX_kind_70, eX_kind_73, eX_kind_74, eX_kind_75, eX_kind_78, eX_kind_81, eX_kind_84, eq_self, hr_k_some, Option.toList, List.cons_append, List.nil_append, is2k_n, is2k_i, is2k_r, is2k_0, oc_0, ro_00, ro_01, ro_02, ro_04, ro_05, ro_06, ro_07, oc_1, oc_11, oc_21, oc_31, oc_32, ro_16, ro_b6, ak_2, ak_12, al_2, al_12, ra_2, ra_12, i10, i01, zb_t, zb_f, not_true_eq_false, not_false_eq_true, if_true, if_false, sp_found0, sp_found1, sp_found2, sp_found3, sp_found4, sp_found5, sp_found6, true_or, er]
/-! silence -/
def silF (t : Nat → Nat) (n : Nat) : Nat → Nat := fun k => fiV (ftV 2) (upV t (10 + 5 * k) 1) n 201
def siF (t : Nat → Nat) (n l0 : Nat) : Nat → Nat × Nat
  | 0 => (0, l0)
  | k + 1 => if t (10 + 5 * k) = 1 then siF t n l0 k else chS (silF t n k) k (siF t n l0 k)
theorem siF_s {l0 k : Nat} : siF t n l0 (k + 1) = if t (10 + 5 * k) = 1 then siF t n l0 k else chS (silF t n k) k (siF t n l0 k) := rfl
theorem siF_le {l0 : Nat} : ∀ k, (siF t n l0 k).1 ≤ k ∧ (siF t n l0 k).2 ≤ l0 := by
  intro k
  induction k with
  | zero => exact ⟨Nat.le_refl _, Nat.le_refl _⟩
  | succ k ih =>
    rw [siF_s]
    split
    · exact ⟨by omega, ih.2⟩
    · unfold chS
      split
      · exact ⟨Nat.le_refl _, by show silF t n k ≤ l0; omega⟩
      · exact ⟨by omega, ih.2⟩
theorem sil_V {B k : Nat} (hV : V t n B) (hk : k < n) : V (upV t (10 + 5 * k) 1) n B := by
  have := set_V (q := 4) (v := 1) hV hk (by decide) (by decide)
  unfold chV at this
  rwa [show 6 + 5 * k + 4 = 10 + 5 * k by omega] at this
theorem sil_loop {l0 : Nat} (hl0 : l0 ≤ 201) : ∀ (d k : Nat) (I : Nat → Nat → Int32), k + d = n → Cl I J t n kp u m y bt L w z num → I 31 0 = bN (siF t n l0 k).1 → I 31 1 = mil 200 (siF t n l0 k).2 → ∃ I' x1, den nX_silence (24, [some (.ref 0), some (.int (nI k))], [], (I, J)) = den nX_silence (96, [some (.ref 0), x1], [], (I', J)) ∧ Cl I' J t n kp u m y bt L w z num ∧ I' 31 0 = bN (siF t n l0 n).1 ∧ offX I I' := by
  intro d
  induction d with
  | zero =>
    intro k I he h h0 h1
    have e8 : k = n := by omega
    subst e8
    obtain ⟨_, _, _, _, _, h5⟩ := h.fs
    refine ⟨I, some (.int (nI k)), ?_, h, h0, offX.rfl⟩
    simp only [eX_silence_0, eX_silence_1, eX_silence_4, eX_silence_5, eX_silence_8, eX_silence_9, eX_silence_12, eX_silence_13, eX_silence_16, eX_silence_19, eX_silence_22, eX_silence_23, eX_silence_24, eX_silence_25, eX_silence_26, eX_silence_29, eX_silence_32, eX_silence_35, eX_silence_36, eX_silence_39, eX_silence_42, eX_silence_43, eX_silence_44, eX_silence_47, eX_silence_48, eX_silence_51, eX_silence_54, eX_silence_55, eX_silence_58, eX_silence_59, eX_silence_62, eX_silence_65, eX_silence_66, eX_silence_67, eX_silence_68, eX_silence_71, eX_silence_72, eX_silence_75, eX_silence_76, eX_silence_77, eX_silence_80, eX_silence_81, eX_silence_84, eX_silence_87, eX_silence_90, eX_silence_93, eX_silence_97, eX_silence_98, eX_silence_101, eX_silence_104, eX_silence_107, eq_self, hr_k_some, Option.toList, List.cons_append, List.nil_append, is2k_n, is2k_i, is2k_r, is2k_0, oc_0, ro_00, ro_01, ro_02, ro_04, ro_05, ro_06, ro_07, oc_1, oc_11, oc_21, oc_31, oc_32, ro_16, ro_b6, ak_2, ak_12, al_2, al_12, ra_2, ra_12, i10, i01, zb_t, zb_f, not_true_eq_false, not_false_eq_true, if_true, if_false, sp_found0, sp_found1, sp_found2, sp_found3, sp_found4, sp_found5, sp_found6, true_or, h5, leT (Nat.le_refl k) (show k < 2 ^ 31 by have := h.2.1.2.1; omega)]
  | succ d ih =>
    intro k I he h h0 h1
    have hn := h.2.1.2.1
    have hk : k < n := by omega
    have hk8 : k < 8 := by omega
    obtain ⟨_, _, _, _, _, h5⟩ := h.fs
    obtain ⟨r0, r1, r2, r3, r4⟩ := h.rk hk
    have hrk := h.2.1.rk hk
    have hz : (nI (t (10 + 5 * k)) = 1) = (t (10 + 5 * k) = 1) := nI_lit _ 1 (by omega) (by decide)
    rw [eX_silence_24]
    simp only [eX_silence_0, eX_silence_1, eX_silence_4, eX_silence_5, eX_silence_8, eX_silence_9, eX_silence_12, eX_silence_13, eX_silence_16, eX_silence_19, eX_silence_22, eX_silence_23, eX_silence_25, eX_silence_26, eX_silence_29, eX_silence_32, eX_silence_35, eX_silence_36, eX_silence_39, eX_silence_42, eX_silence_43, eX_silence_44, eX_silence_47, eX_silence_48, eX_silence_51, eX_silence_55, eX_silence_58, eX_silence_59, eX_silence_62, eX_silence_65, eX_silence_66, eX_silence_67, eX_silence_68, eX_silence_71, eX_silence_72, eX_silence_75, eX_silence_76, eX_silence_77, eX_silence_80, eX_silence_81, eX_silence_84, eX_silence_87, eX_silence_90, eX_silence_93, eX_silence_97, eX_silence_98, eX_silence_101, eX_silence_104, eX_silence_107, eq_self, hr_k_some, Option.toList, List.cons_append, List.nil_append, is2k_n, is2k_i, is2k_r, is2k_0, oc_0, ro_00, ro_01, ro_02, ro_04, ro_05, ro_06, ro_07, oc_1, oc_11, oc_21, oc_31, oc_32, ro_16, ro_b6, ak_2, ak_12, al_2, al_12, ra_2, ra_12, i10, i01, zb_t, zb_f, not_true_eq_false, not_false_eq_true, if_true, if_false, sp_found0, sp_found1, sp_found2, sp_found3, sp_found4, sp_found5, sp_found6, true_or, h5, leF hk (show n < 2 ^ 31 by omega), in_8 hk8, cl_nI (show k < 100000 by omega), oc_r1 hk8, r4, hz, nI_1]
    by_cases cs : t (10 + 5 * k) = 1
    · simp only [cs, not_true_eq_false, if_false]
      exact ih (k + 1) I (by omega) h (by rw [siF_s, if_pos cs]; exact h0) (by rw [siF_s, if_pos cs]; exact h1)
    · simp only [cs, not_false_eq_true, if_true]
      have hl := (siF_le (t := t) (n := n) (l0 := l0) k).2
      have hh := (try_hold h).rock (k := k) (j := 4) (x := 1) (by decide)
      rw [show 6 + 5 * k + 4 = 10 + 5 * k by omega] at hh
      obtain ⟨I2, I3, e2, e3, h3, g0, g1, ho⟩ := trial (M := 200) (c := k) (B := 99999) (by decide) h (by omega) h0 h1 (up2 (bI I 11 1 n) (13 + k) 4 1) (upV t (10 + 5 * k) 1) hh (sil_V h.2.1 hk) (by decide) ((try_off h).up ⟨by omega, by omega⟩)
      have e2' : den nS_watchesToFate (0, [some (.ref 11), some (.int 2), some (.int 200), none], [], (up2 (bI I 11 1 n) (13 + k) 4 1, J)) = some (some (.int (mil 200 (silF t n k))), (I2, J)) := e2
      have e3' : den nC_offer (0, [some (.ref 31), some (.int (nI k)), some (.int (mil 200 (silF t n k)))], [], (I2, J)) = some (none, (I3, J)) := e3
      obtain ⟨I4, x2, e4, h4, g4, ho4⟩ := ih (k + 1) I3 (by omega) h3 (by rw [siF_s, if_neg cs]; exact g0) (by rw [siF_s, if_neg cs]; exact g1)
      refine ⟨I4, x2, ?_, h4, g4, ho.trans ho4⟩
      simp only [eX_silence_0, eX_silence_1, eX_silence_4, eX_silence_5, eX_silence_8, eX_silence_9, eX_silence_12, eX_silence_13, eX_silence_16, eX_silence_19, eX_silence_22, eX_silence_23, eX_silence_25, eX_silence_26, eX_silence_29, eX_silence_32, eX_silence_35, eX_silence_36, eX_silence_39, eX_silence_42, eX_silence_43, eX_silence_44, eX_silence_47, eX_silence_48, eX_silence_51, eX_silence_54, eX_silence_55, eX_silence_58, eX_silence_59, eX_silence_62, eX_silence_65, eX_silence_66, eX_silence_67, eX_silence_68, eX_silence_71, eX_silence_72, eX_silence_75, eX_silence_76, eX_silence_77, eX_silence_80, eX_silence_81, eX_silence_84, eX_silence_87, eX_silence_90, eX_silence_93, eX_silence_97, eX_silence_98, eX_silence_101, eX_silence_104, eX_silence_107, eq_self, hr_k_some, Option.toList, List.cons_append, List.nil_append, is2k_n, is2k_i, is2k_r, is2k_0, oc_0, ro_00, ro_01, ro_02, ro_04, ro_05, ro_06, ro_07, oc_1, oc_11, oc_21, oc_31, oc_32, ro_16, ro_b6, ak_2, ak_12, al_2, al_12, ra_2, ra_12, i10, i01, zb_t, zb_f, not_true_eq_false, not_false_eq_true, if_true, if_false, sp_found0, sp_found1, sp_found2, sp_found3, sp_found4, sp_found5, sp_found6, true_or, sp_try h, in_8 hk8, cl_nI (show k < 100000 by omega), oc_r11 hk8, e2', e3', nI_1]
      exact e4
theorem X_silence_all (h : Cl I J t n kp u m y bt L w z num) : XR nX_silence [some (.ref 0), none] I J (bestR (siF t n (fiV (ftV 2) t n 201) n).1) (fun I' J' => Cl I' J' t n kp u m (bestY y (siF t n (fiV (ftV 2) t n 201) n).1) bt L w z num) := by
  have hn := h.2.1.2.1
  obtain ⟨I1, e1, ho1⟩ := sp_toFate (J := J) is11 (v := 2) (m := 200) (Or.inr rfl) (by decide) (try_hold h) h.2.1 (by decide)
  have ho := (try_off h).trans ho1
  have e1' : den nS_watchesToFate (0, [some (.ref 11), some (.int 2), some (.int 200), none], [], (bI I 11 1 n, J)) = some (some (.int (mil 200 (fiV (ftV 2) t n 201))), (I1, J)) := e1
  have hle : fiV (ftV 2) t n 201 ≤ 201 := fiV_le _ _
  have h1 : Cl (up2 (up2 I1 31 0 1000000) 31 1 (mil 200 (fiV (ftV 2) t n 201))) J t n kp u m y bt L w z num := (h.t11 ho).o31 (fun q hq j => by rw [up2_na hq, up2_na hq])
  have ho2 : offX I (up2 (up2 I1 31 0 1000000) 31 1 (mil 200 (fiV (ftV 2) t n 201))) := (offX.of11 ho).up31.up31
  obtain ⟨I4, x2, e4, h4, g4, ho4⟩ := sil_loop (t := t) (n := n) (l0 := fiV (ftV 2) t n 201) hle n 0 _ (by omega) h1 (by rw [up2_nk (by decide), up2_eq]; rfl) (by rw [up2_eq]; rfl)
  obtain ⟨I5, e5, f5, h5⟩ := best_end (I := I) (b := (siF t n (fiV (ftV 2) t n 201) n).1) (by have := (siF_le (t := t) (n := n) (l0 := fiV (ftV 2) t n 201) n).1; omega) h4 (ho2.trans ho4)
  refine ⟨I5, J, ?_, f5, h5⟩
  have e4' : den nX_silence (24, [some (.ref 0), some (.int 0)], [], (up2 (up2 I1 31 0 1000000) 31 1 (mil 200 (fiV (ftV 2) t n 201)), J)) = den nX_silence (96, [some (.ref 0), x2], [], (I4, J)) := e4
  simp only [eX_silence_0, eX_silence_1, eX_silence_4, eX_silence_5, eX_silence_8, eX_silence_9, eX_silence_12, eX_silence_13, eX_silence_16, eX_silence_19, eX_silence_22, eX_silence_23, eX_silence_25, eX_silence_26, eX_silence_29, eX_silence_32, eX_silence_35, eX_silence_36, eX_silence_39, eX_silence_42, eX_silence_43, eX_silence_44, eX_silence_47, eX_silence_48, eX_silence_51, eX_silence_54, eX_silence_55, eX_silence_58, eX_silence_59, eX_silence_62, eX_silence_65, eX_silence_66, eX_silence_67, eX_silence_68, eX_silence_71, eX_silence_72, eX_silence_75, eX_silence_76, eX_silence_77, eX_silence_80, eX_silence_81, eX_silence_84, eX_silence_87, eX_silence_90, eX_silence_93, eX_silence_97, eX_silence_98, eX_silence_101, eX_silence_104, eX_silence_107, eq_self, hr_k_some, Option.toList, List.cons_append, List.nil_append, is2k_n, is2k_i, is2k_r, is2k_0, oc_0, ro_00, ro_01, ro_02, ro_04, ro_05, ro_06, ro_07, oc_1, oc_11, oc_21, oc_31, oc_32, ro_16, ro_b6, ak_2, ak_12, al_2, al_12, ra_2, ra_12, i10, i01, zb_t, zb_f, not_true_eq_false, not_false_eq_true, if_true, if_false, sp_found0, sp_found1, sp_found2, sp_found3, sp_found4, sp_found5, sp_found6, true_or, sp_try h, e1', sp_open]
  rw [e4']
  simp only [eX_silence_0, eX_silence_1, eX_silence_4, eX_silence_5, eX_silence_8, eX_silence_9, eX_silence_12, eX_silence_13, eX_silence_16, eX_silence_19, eX_silence_22, eX_silence_23, eX_silence_24, eX_silence_25, eX_silence_26, eX_silence_29, eX_silence_32, eX_silence_35, eX_silence_36, eX_silence_39, eX_silence_42, eX_silence_43, eX_silence_44, eX_silence_47, eX_silence_48, eX_silence_51, eX_silence_54, eX_silence_55, eX_silence_58, eX_silence_59, eX_silence_62, eX_silence_65, eX_silence_66, eX_silence_67, eX_silence_68, eX_silence_71, eX_silence_72, eX_silence_75, eX_silence_76, eX_silence_77, eX_silence_80, eX_silence_81, eX_silence_84, eX_silence_87, eX_silence_90, eX_silence_93, eX_silence_96, eX_silence_97, eX_silence_98, eX_silence_101, eX_silence_104, eX_silence_107, eq_self, hr_k_some, Option.toList, List.cons_append, List.nil_append, is2k_n, is2k_i, is2k_r, is2k_0, oc_0, ro_00, ro_01, ro_02, ro_04, ro_05, ro_06, ro_07, oc_1, oc_11, oc_21, oc_31, oc_32, ro_16, ro_b6, ak_2, ak_12, al_2, al_12, ra_2, ra_12, i10, i01, zb_t, zb_f, not_true_eq_false, not_false_eq_true, if_true, if_false, sp_found0, sp_found1, sp_found2, sp_found3, sp_found4, sp_found5, sp_found6, true_or, g4, e5]
  unfold bestR
  split <;> simp only [eX_silence_0, eX_silence_1, eX_silence_4, eX_silence_5, eX_silence_8, eX_silence_9, eX_silence_12, eX_silence_13, eX_silence_16, eX_silence_19, eX_silence_22, eX_silence_23, eX_silence_24, eX_silence_25, eX_silence_26, eX_silence_29, eX_silence_32, eX_silence_35, eX_silence_36, eX_silence_39, eX_silence_42, eX_silence_43, eX_silence_44, eX_silence_47, eX_silence_48, eX_silence_51, eX_silence_54, eX_silence_55, eX_silence_58, eX_silence_59, eX_silence_62, eX_silence_65, eX_silence_66, eX_silence_67, eX_silence_68, eX_silence_71, eX_silence_72, eX_silence_75, eX_silence_76, eX_silence_77, eX_silence_80, eX_silence_81, eX_silence_84, eX_silence_87, eX_silence_90, eX_silence_93, eX_silence_96, eX_silence_97, eX_silence_98, eX_silence_101, eX_silence_104, eX_silence_107]
/-! horn -/
def hrnF (t : Nat → Nat) (n k c : Nat) : Nat → Nat := fun x => fiV (ftV 2) (upV t (8 + 5 * k) x) n (c + 1)
/-- the greatest below x that is good; 0: none (and 1) -/
def hoF (t : Nat → Nat) (n k c : Nat) : Nat → Nat
  | 0 => 0
  | x + 1 => if hrnF t n k c x ≤ c then x + 1 else hoF t n k c x
theorem hoF_le {k c : Nat} : ∀ x, hoF t n k c x ≤ x := by
  intro x
  induction x with
  | zero => exact Nat.le_refl _
  | succ x ih => unfold hoF; split <;> omega
theorem hrn_V {B k x : Nat} (hV : V t n B) (hk : k < n) (hx : x < 100) : V (upV t (8 + 5 * k) x) n B := by
  have := set_V (q := 2) (v := x) hV hk (by decide) (by show x ≤ 99; omega)
  unfold chV at this
  rwa [show 6 + 5 * k + 2 = 8 + 5 * k by omega] at this
theorem mil_gt {c x : Nat} (hc : c < 1000) (hx : x ≤ c + 1) : (nI c < mil c x) = ¬ (x ≤ c) := by
  apply propext
  unfold mil
  have e6 : (1000000 : Int32) = nI 1000000 := rfl
  rw [e6]
  split <;> rw [nI_ltI (by omega) (by omega)] <;> omega
theorem ho_loop {k c : Nat} (hk : k < n) (hc : 1 ≤ c ∧ c ≤ 100) : ∀ (x : Nat) (I : Nat → Nat → Int32), x ≤ 100 → Cl I J t n kp u m y bt L w z num → ∃ I2, den nX_horn (27, [some (.ref 0), some (.int (nI k)), some (.int (nI c)), some (.int (nI x - 1))], [], (I, J)) = some (some (bestR (hoF t n k c x)), (I2, J)) ∧ frX I I2 J J ∧ Cl I2 J t n kp u m (bestY y (hoF t n k c x)) bt L w z num := by
  intro x
  induction x with
  | zero =>
    intro I hx h
    have e : (nI 0 - 1 < (0 : Int32)) = True := eq_true (by decide)
    simp only [eX_horn_0, eX_horn_1, eX_horn_2, eX_horn_5, eX_horn_8, eX_horn_9, eX_horn_10, eX_horn_12, eX_horn_15, eX_horn_18, eX_horn_19, eX_horn_20, eX_horn_23, eX_horn_24, eX_horn_26, eX_horn_27, eX_horn_28, eX_horn_31, eX_horn_32, eX_horn_35, eX_horn_36, eX_horn_39, eX_horn_42, eX_horn_43, eX_horn_44, eX_horn_45, eX_horn_48, eX_horn_49, eX_horn_52, eX_horn_53, eX_horn_54, eX_horn_57, eX_horn_58, eX_horn_61, eX_horn_62, eX_horn_63, eX_horn_66, eX_horn_69, eX_horn_70, eX_horn_71, eX_horn_74, eq_self, hr_k_some, Option.toList, List.cons_append, List.nil_append, is2k_n, is2k_i, is2k_r, is2k_0, oc_0, ro_00, ro_01, ro_02, ro_04, ro_05, ro_06, ro_07, oc_1, oc_11, oc_21, oc_31, oc_32, ro_16, ro_b6, ak_2, ak_12, al_2, al_12, ra_2, ra_12, i10, i01, zb_t, zb_f, not_true_eq_false, not_false_eq_true, if_true, if_false, sp_found0, sp_found1, sp_found2, sp_found3, sp_found4, sp_found5, sp_found6, true_or, e]
    exact ⟨_, rfl, frX.fnd, h.fnd (by decide)⟩
  | succ x ih =>
    intro I hx h
    have hn := h.2.1.2.1
    have hk8 : k < 8 := by omega
    have hh := (try_hold h).rock (k := k) (j := 2) (x := x) (by decide)
    rw [show 6 + 5 * k + 2 = 8 + 5 * k by omega] at hh
    obtain ⟨I1, e1, ho1⟩ := sp_toFate (J := J) is11 (v := 2) (m := c) (Or.inr rfl) (by omega) hh (hrn_V h.2.1 hk (by omega)) (by omega)
    have e1' : den nS_watchesToFate (0, [some (.ref 11), some (.int 2), some (.int (nI c)), none], [], (up2 (bI I 11 1 n) (13 + k) 2 (nI x), J)) = some (some (.int (mil c (hrnF t n k c x))), (I1, J)) := e1
    have ho := ((try_off h).up (b := 13 + k) (j := 2) (x := nI x) ⟨by omega, by omega⟩).trans ho1
    have hle : hrnF t n k c x ≤ c + 1 := fiV_le _ _
    rw [nI_pred, eX_horn_27]
    simp only [eX_horn_0, eX_horn_1, eX_horn_2, eX_horn_5, eX_horn_8, eX_horn_9, eX_horn_10, eX_horn_12, eX_horn_15, eX_horn_18, eX_horn_19, eX_horn_20, eX_horn_23, eX_horn_24, eX_horn_26, eX_horn_28, eX_horn_31, eX_horn_32, eX_horn_35, eX_horn_36, eX_horn_39, eX_horn_42, eX_horn_43, eX_horn_44, eX_horn_45, eX_horn_48, eX_horn_49, eX_horn_52, eX_horn_53, eX_horn_54, eX_horn_57, eX_horn_58, eX_horn_61, eX_horn_62, eX_horn_63, eX_horn_66, eX_horn_69, eX_horn_70, eX_horn_71, eX_horn_74, eq_self, hr_k_some, Option.toList, List.cons_append, List.nil_append, is2k_n, is2k_i, is2k_r, is2k_0, oc_0, ro_00, ro_01, ro_02, ro_04, ro_05, ro_06, ro_07, oc_1, oc_11, oc_21, oc_31, oc_32, ro_16, ro_b6, ak_2, ak_12, al_2, al_12, ra_2, ra_12, i10, i01, zb_t, zb_f, not_true_eq_false, not_false_eq_true, if_true, if_false, sp_found0, sp_found1, sp_found2, sp_found3, sp_found4, sp_found5, sp_found6, true_or, lt0f (show x < 2 ^ 31 by omega), sp_try h, in_8 hk8, cl_nI (show k < 100000 by omega), oc_r11 hk8, e1', mil_gt (show c < 1000 by omega) hle]
    unfold hoF
    by_cases cx : hrnF t n k c x ≤ c
    · simp only [cx, not_true_eq_false, if_false, if_true]
      refine ⟨I1, ?_, (offX.of11 ho).fr, ?_⟩
      · rfl
      · exact h.t11 ho
    · simp only [cx, not_false_eq_true, if_true, if_false]
      have e2 : nI x + (-1) = nI x - 1 := by rw [Int32.sub_eq_add_neg]
      rw [e2]
      obtain ⟨I2, e3, f3, h3⟩ := ih I1 (by omega) (h.t11 ho)
      exact ⟨I2, e3, (offX.of11 ho).fr.trans f3, h3⟩
theorem X_horn_ok (h : Cl I J t n kp u m y bt L w z num) {k c : Nat} (hk : k < n) (hc : 1 ≤ c ∧ c ≤ 100) : XR nX_horn [some (.ref 0), some (.int (nI k)), some (.int (nI c)), none] I J (bestR (hoF t n k c 100)) (fun I' J' => Cl I' J' t n kp u m (bestY y (hoF t n k c 100)) bt L w z num) := by
  have er := sp_isRock (J := J) h.h5 h.2.1.2.1 (x := nI k) |>.1 ⟨k, hk, rfl⟩
  have ew : decide ((1 : Int32) ≤ nI c ∧ nI c ≤ 100) = true := wi_yes (a := 1) (b := 100) hc.1 hc.2 (by decide)
  obtain ⟨I2, e2, f2, h2⟩ := ho_loop hk hc 100 I (by decide) h
  refine ⟨I2, J, ?_, f2, h2⟩
  have e2' : den nX_horn (27, [some (.ref 0), some (.int (nI k)), some (.int (nI c)), some (.int 99)], [], (I, J)) = some (some (bestR (hoF t n k c 100)), (I2, J)) := e2
  simp only [eX_horn_0, eX_horn_1, eX_horn_2, eX_horn_5, eX_horn_8, eX_horn_9, eX_horn_10, eX_horn_12, eX_horn_15, eX_horn_18, eX_horn_19, eX_horn_20, eX_horn_23, eX_horn_24, eX_horn_26, eX_horn_28, eX_horn_31, eX_horn_32, eX_horn_35, eX_horn_36, eX_horn_39, eX_horn_42, eX_horn_43, eX_horn_44, eX_horn_45, eX_horn_48, eX_horn_49, eX_horn_52, eX_horn_53, eX_horn_54, eX_horn_57, eX_horn_58, eX_horn_61, eX_horn_62, eX_horn_63, eX_horn_66, eX_horn_69, eX_horn_70, eX_horn_71, eX_horn_74, eq_self, hr_k_some, Option.toList, List.cons_append, List.nil_append, is2k_n, is2k_i, is2k_r, is2k_0, oc_0, ro_00, ro_01, ro_02, ro_04, ro_05, ro_06, ro_07, oc_1, oc_11, oc_21, oc_31, oc_32, ro_16, ro_b6, ak_2, ak_12, al_2, al_12, ra_2, ra_12, i10, i01, zb_t, zb_f, not_true_eq_false, not_false_eq_true, if_true, if_false, sp_found0, sp_found1, sp_found2, sp_found3, sp_found4, sp_found5, sp_found6, true_or, er, sp_isWithin, ew]
  exact e2'
theorem X_horn_no (h : Cl I J t n kp u m y bt L w z num) {a1 a2 : Int32} (hb : ¬ (rng a1 n ∧ ∃ c, 1 ≤ c ∧ c ≤ 100 ∧ a2 = nI c)) : XR nX_horn [some (.ref 0), some (.int a1), some (.int a2), none] I J (.int (fnd 0)) (fun I' J' => Cl I' J' t n kp u m (inc y 0) bt L w z num) := by
  refine XR.fnd (by decide) h ?_
  by_cases c : rng a1 n
  · have er := sp_isRock (J := J) h.h5 h.2.1.2.1 (x := a1) |>.1 c
    have ew : decide ((1 : Int32) ≤ a2 ∧ a2 ≤ 100) = false := wi_no1 (a := 1) (b := 100) (by decide) (by decide) (fun z => hb ⟨c, z⟩)
    simp only [eX_horn_0, eX_horn_1, eX_horn_2, eX_horn_5, eX_horn_8, eX_horn_9, eX_horn_10, eX_horn_12, eX_horn_15, eX_horn_18, eX_horn_19, eX_horn_20, eX_horn_23, eX_horn_24, eX_horn_26, eX_horn_27, eX_horn_28, eX_horn_31, eX_horn_32, eX_horn_35, eX_horn_36, eX_horn_39, eX_horn_42, eX_horn_43, eX_horn_44, eX_horn_45, eX_horn_48, eX_horn_49, eX_horn_52, eX_horn_53, eX_horn_54, eX_horn_57, eX_horn_58, eX_horn_61, eX_horn_62, eX_horn_63, eX_horn_66, eX_horn_69, eX_horn_70, eX_horn_71, eX_horn_74, eq_self, hr_k_some, Option.toList, List.cons_append, List.nil_append, is2k_n, is2k_i, is2k_r, is2k_0, oc_0, ro_00, ro_01, ro_02, ro_04, ro_05, ro_06, ro_07, oc_1, oc_11, oc_21, oc_31, oc_32, ro_16, ro_b6, ak_2, ak_12, al_2, al_12, ra_2, ra_12, i10, i01, zb_t, zb_f, not_true_eq_false, not_false_eq_true, if_true, if_false, sp_found0, sp_found1, sp_found2, sp_found3, sp_found4, sp_found5, sp_found6, true_or, er, sp_isWithin, ew]
  · have er := sp_isRock (J := J) h.h5 h.2.1.2.1 (x := a1) |>.2 c
    simp only [eX_horn_0, eX_horn_1, eX_horn_2, eX_horn_5, eX_horn_8, eX_horn_9, eX_horn_10, eX_horn_12, eX_horn_15, eX_horn_18, eX_horn_19, eX_horn_20, eX_horn_23, eX_horn_24, eX_horn_26, eX_horn_27, eX_horn_28, eX_horn_31, eX_horn_32, eX_horn_35, eX_horn_36, eX_horn_39, eX_horn_42, eX_horn_43, eX_horn_44, eX_horn_45, eX_horn_48, eX_horn_49, eX_horn_52, eX_horn_53, eX_horn_54, eX_horn_57, eX_horn_58, eX_horn_61, eX_horn_62, eX_horn_63, eX_horn_66, eX_horn_69, eX_horn_70, eX_horn_71, eX_horn_74, eq_self, hr_k_some, Option.toList, List.cons_append, List.nil_append, is2k_n, is2k_i, is2k_r, is2k_0, oc_0, ro_00, ro_01, ro_02, ro_04, ro_05, ro_06, ro_07, oc_1, oc_11, oc_21, oc_31, oc_32, ro_16, ro_b6, ak_2, ak_12, al_2, al_12, ra_2, ra_12, i10, i01, zb_t, zb_f, not_true_eq_false, not_false_eq_true, if_true, if_false, sp_found0, sp_found1, sp_found2, sp_found3, sp_found4, sp_found5, sp_found6, true_or, er]
end
