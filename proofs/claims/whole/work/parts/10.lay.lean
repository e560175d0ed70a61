/-! ===== what refers to what, and small numbers ===== -/
def isSea (a : Nat) : Prop := a = 1 ∨ a = 11 ∨ a = 21
theorem oc_0 : hr_oc 0 = 5 := id rfl
theorem oc_31 : hr_oc 31 = 0 := id rfl
theorem oc_32 : hr_oc 32 = 4 := id rfl
theorem oc_44 : hr_oc 44 = 6 := id rfl
theorem oc_sea {a : Nat} (h : isSea a) : hr_oc a = 2 := by rcases h with rfl | rfl | rfl <;> rfl
theorem oc_rock {a k : Nat} (h : isSea a) (hk : k < 8) : hr_oc (a + 2 + k) = 1 := by
  rcases h with rfl | rfl | rfl
  · have : ∀ k, k < 8 → hr_oc (1 + 2 + k) = 1 := by decide +kernel
    exact this k hk
  · have : ∀ k, k < 8 → hr_oc (11 + 2 + k) = 1 := by decide +kernel
    exact this k hk
  · have : ∀ k, k < 8 → hr_oc (21 + 2 + k) = 1 := by decide +kernel
    exact this k hk
theorem oc_sheet {s : Nat} (hs : s < 4) : hr_oc (35 + 2 * s) = 3 := by
  have : ∀ s, s < 4 → hr_oc (35 + 2 * s) = 3 := by decide +kernel
  exact this s hs
theorem ro_sea {a : Nat} (h : isSea a) : hr_ro a 6 = a + 1 := by rcases h with rfl | rfl | rfl <;> rfl
theorem ro_sheet {s : Nat} (hs : s < 4) : hr_ro (35 + 2 * s) 2 = 36 + 2 * s := by
  have : ∀ s, s < 4 → hr_ro (35 + 2 * s) 2 = 36 + 2 * s := by decide +kernel
  exact this s hs
theorem ak_sea {a : Nat} (h : isSea a) : hr_ak (a + 1) = 5 := by rcases h with rfl | rfl | rfl <;> rfl
theorem al_sea {a : Nat} {h : hr_H} (ha : isSea a) : hr_al h (a + 1) = 8 := by rcases ha with rfl | rfl | rfl <;> rfl
theorem ra_sea {a k : Nat} (h : isSea a) : hr_ra (a + 1) k = a + 2 + k := by
  unfold hr_ra
  rcases h with rfl | rfl | rfl <;> simp <;> omega
theorem ro_00 : hr_ro 0 0 = 1 := id rfl
theorem ro_01 : hr_ro 0 1 = 11 := id rfl
theorem ro_02 : hr_ro 0 2 = 21 := id rfl
theorem ro_04 : hr_ro 0 4 = 31 := id rfl
theorem ro_05 : hr_ro 0 5 = 32 := id rfl
theorem ro_06 : hr_ro 0 6 = 34 := id rfl
theorem ro_07 : hr_ro 0 7 = 43 := id rfl
theorem ro_t0 : hr_ro 32 0 = 33 := id rfl
theorem ro_m0 : hr_ro 44 0 = 45 := id rfl
theorem ro_m1 : hr_ro 44 1 = 46 := id rfl
theorem ro_m2 : hr_ro 44 2 = 47 := id rfl
theorem ro_m4 : hr_ro 44 4 = 48 := id rfl
theorem ro_m5 : hr_ro 44 5 = 49 := id rfl
theorem ro_m11 : hr_ro 44 11 = 50 := id rfl
theorem ro_m12 : hr_ro 44 12 = 51 := id rfl
theorem ro_m13 : hr_ro 44 13 = 52 := id rfl
theorem ro_m14 : hr_ro 44 14 = 53 := id rfl
theorem ro_m15 : hr_ro 44 15 = 54 := id rfl
theorem ro_m16 : hr_ro 44 16 = 55 := id rfl
theorem ro_m17 : hr_ro 44 17 = 56 := id rfl
theorem ak_33 : hr_ak 33 = 3 := id rfl
theorem ak_34 : hr_ak 34 = 6 := id rfl
theorem ak_43 : hr_ak 43 = 1 := id rfl
theorem ak_45 : hr_ak 45 = 1 := id rfl
theorem ak_46 : hr_ak 46 = 1 := id rfl
theorem ak_47 : hr_ak 47 = 1 := id rfl
theorem ak_48 : hr_ak 48 = 1 := id rfl
theorem ak_49 : hr_ak 49 = 1 := id rfl
theorem ak_50 : hr_ak 50 = 4 := id rfl
theorem ak_51 : hr_ak 51 = 4 := id rfl
theorem ak_52 : hr_ak 52 = 4 := id rfl
theorem ak_53 : hr_ak 53 = 1 := id rfl
theorem ak_54 : hr_ak 54 = 1 := id rfl
theorem ak_55 : hr_ak 55 = 2 := id rfl
theorem ak_56 : hr_ak 56 = 2 := id rfl
theorem ak_57 : hr_ak 57 = 1 := id rfl
theorem ak_60 : hr_ak 60 = 1 := id rfl
theorem ak_61 : hr_ak 61 = 1 := id rfl
theorem ak_62 : hr_ak 62 = 1 := id rfl
section
variable {h : hr_H}
theorem al_33 : hr_al h 33 = 120 := id rfl
theorem al_34 : hr_al h 34 = 4 := id rfl
theorem al_43 : hr_al h 43 = 7 := id rfl
theorem al_45 : hr_al h 45 = 46 := id rfl
theorem al_46 : hr_al h 46 = 46 := id rfl
theorem al_47 : hr_al h 47 = 46 := id rfl
theorem al_48 : hr_al h 48 = 7 := id rfl
theorem al_49 : hr_al h 49 = 120 := id rfl
theorem al_50 : hr_al h 50 = 48 := id rfl
theorem al_51 : hr_al h 51 = 32 := id rfl
theorem al_52 : hr_al h 52 = 24 := id rfl
theorem al_53 : hr_al h 53 = 4 := id rfl
theorem al_54 : hr_al h 54 = 4 := id rfl
theorem al_55 : hr_al h 55 = 160 := id rfl
theorem al_56 : hr_al h 56 = 40 := id rfl
theorem al_60 : hr_al h 60 = 3 := id rfl
theorem al_61 : hr_al h 61 = 5 := id rfl
theorem al_62 : hr_al h 62 = 6 := id rfl
end
theorem ak_sheet {s : Nat} (hs : s < 4) : hr_ak (36 + 2 * s) = 2 := by
  have : ∀ s, s < 4 → hr_ak (36 + 2 * s) = 2 := by decide +kernel
  exact this s hs
theorem al_sheet {s : Nat} {h : hr_H} (hs : s < 4) : hr_al h (36 + 2 * s) = 40 := by
  rw [hr_al_lt (by omega)]
  have : ∀ s, s < 4 → hr_all.getD (36 + 2 * s) 0 = 40 := by decide +kernel
  exact this s hs
theorem ra_sheet {s : Nat} : hr_ra 34 s = 35 + 2 * s := id rfl
theorem ai_lt {I : Nat → Nat → Int32} {J : Nat → Nat → Int64} {a j : Nat} (h : a < 60) : hr_ai (I, J) a j = I a j := if_pos h
theorem in_nI {k n : Nat} (h : k < n) (hn : n < 2 ^ 31) : hr_in (nI k) n = true := by
  unfold hr_in
  rw [nI_clamp (by omega)]
  simp only [Bool.and_eq_true, decide_eq_true_eq]
  exact ⟨nI_pos (by omega), h⟩
theorem in_k {k n : Nat} (h : k < n) (hn : n < 2 ^ 31) : (hr_in (nI k) n = true) = True := eq_true (in_nI h hn)
theorem in_8 {k : Nat} (h : k < 8) : (hr_in (nI k) 8 = true) = True := eq_true (in_nI h (by decide))
theorem is2k_n : (hr_is2 (some none) = false) = True := eq_true rfl
theorem is2k_i {x : Int32} : (hr_is2 (some (some (.int x))) = false) = True := eq_true rfl
theorem is2k_r {x : Nat} : (hr_is2 (some (some (.ref x))) = false) = True := eq_true rfl
theorem is2k_0 : (hr_is2 (some (some .null)) = false) = True := eq_true rfl
theorem cl_nI {k : Nat} (h : k < 100000) : (nI k).toNatClampNeg = k := nI_clamp (by omega)
theorem lit_nI (n : Nat) : (OfNat.ofNat n : Int32) = nI (OfNat.ofNat n) := rfl
theorem up2_eq {α : Type} {f : Nat → Nat → α} {a k : Nat} {x : α} : up2 f a k x a k = x := if_pos ⟨rfl, rfl⟩
theorem up2_nk {α : Type} {f : Nat → Nat → α} {a k j : Nat} {x : α} (h : j ≠ k) : up2 f a k x a j = f a j := if_neg (fun z => h z.2)
theorem up2_na {α : Type} {f : Nat → Nat → α} {a k b j : Nat} {x : α} (h : b ≠ a) : up2 f a k x b j = f b j := if_neg (fun z => h z.1)
theorem ite_si {c : Prop} [Decidable c] {a b : Int32} {h : hr_H} : (if c then (some (some (Value.int a), h) : Option (Option Value × hr_H)) else some (some (Value.int b), h)) = some (some (.int (if c then a else b)), h) := by split <;> rfl
/-! ===== the pure words of the rocks ===== -/
def ab (x : Int32) : Int32 := if 0 ≤ x then x else 0 - x
def P_rm (a b : Int32) : Int32 := a - a / b * b
def P_far (a b : Int32) : Int32 := ab (a / 8 - b / 8) + ab (P_rm a 8 - P_rm b 8)
def P_snd (kind square horn sweet silent q w : Int32) : Int32 :=
  if silent = 1 then 0 else
    let f := P_far square q
    let plain := horn / (1 + f)
    let gran := if 3 < f then plain else plain + sweet
    let tid := if P_rm w 2 = 0 then plain else 0
    if kind = 1 then gran else if kind = 2 then tid else if kind = 3 then horn else if kind = 4 then (if P_rm w 4 = 0 then 2 * gran else gran) else if kind = 5 then (if tid - f < 0 then 0 else tid - f) else plain
def P_lur (kind square horn sweet silent q : Int32) : Int32 :=
  if silent = 1 then 0 else
    let g := sweet - P_far square q
    let fad := if g < 0 then 0 else g
    if kind = 1 then sweet + 3 else if kind = 2 then fad else if kind = 3 then 0 else if kind = 4 then sweet + 3 + horn / 10 else if kind = 5 then fad + 1 else sweet
def P_wrk (kind w : Int32) : Bool := if kind = 2 ∨ kind = 5 then decide (¬ P_rm w 3 = 2) else decide (¬ kind = 3)
theorem n8 : ¬ (8 : Int32) = 0 := by decide
theorem n2 : ¬ (2 : Int32) = 0 := by decide
theorem n3 : ¬ (3 : Int32) = 0 := by decide
theorem n4 : ¬ (4 : Int32) = 0 := by decide
theorem n6 : ¬ (6 : Int32) = 0 := by decide
theorem n10 : ¬ (10 : Int32) = 0 := by decide
