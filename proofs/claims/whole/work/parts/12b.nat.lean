/-! ===== the same words on natural numbers ===== -/
theorem far_le {a b : Nat} (ha : a < 64) (hb : b < 64) : N_far a b ≤ 14 := by unfold N_far; omega
def N_snd (kd sq ho sw si q w : Nat) : Nat :=
  if si = 1 then 0 else
    let f := N_far sq q
    let p := ho / (1 + f)
    let g := if 3 < f then p else p + sw
    let t := if w % 2 = 0 then p else 0
    if kd = 1 then g else if kd = 2 then t else if kd = 3 then ho else if kd = 4 then (if w % 4 = 0 then 2 * g else g) else if kd = 5 then t - f else p
def N_lur (kd sq ho sw si q : Nat) : Nat :=
  if si = 1 then 0 else
    let g := sw - N_far sq q
    if kd = 1 then sw + 3 else if kd = 2 then g else if kd = 3 then 0 else if kd = 4 then sw + 3 + ho / 10 else if kd = 5 then g + 1 else sw
def N_wrk (kd w : Nat) : Bool := if kd = 2 ∨ kd = 5 then decide (¬ w % 3 = 2) else decide (¬ kd = 3)
theorem nI_lit (a k : Nat) (ha : a < 2 ^ 31) (hk : k < 2 ^ 31) : (nI a = nI k) = (a = k) := propext (nI_eq ha hk)
theorem rm_N {a d : Nat} (ha : a < 2 ^ 31) (h0 : 0 < d) (hd : d < 2 ^ 31) : P_rm (nI a) (nI d) = nI (a % d) := pk_rem ha h0 hd
theorem sub_lt0 {t f : Nat} (ht : t < 2 ^ 30) (hf : f < 2 ^ 30) : (nI t - nI f < nI 0) = (t < f) := by
  apply propext
  rw [Int32.lt_iff_toInt_lt, pk_sub_toInt ht hf, nI_toInt (by decide)]
  omega
theorem ite_nI {c : Prop} [Decidable c] {a b : Nat} : (if c then nI a else nI b) = nI (if c then a else b) := by split <;> rfl
theorem sub_nI {t f : Nat} (ht : t < 2 ^ 30) (hf : f < 2 ^ 30) : (if nI t - nI f < nI 0 then nI 0 else nI t - nI f) = nI (t - f) := by
  simp only [sub_lt0 ht hf]
  split
  · congr 1; omega
  · rw [pk_sub (by omega)]
theorem snd_N {kd sq ho sw si q w : Nat} (h1 : kd < 6) (h2 : sq < 64) (h3 : ho < 100) (h4 : sw < 10) (h5 : si < 2) (h6 : q < 64) (h7 : w < 2 ^ 30) : P_snd (nI kd) (nI sq) (nI ho) (nI sw) (nI si) (nI q) (nI w) = nI (N_snd kd sq ho sw si q w) := by
  unfold P_snd N_snd
  have hf := far_le h2 h6
  rw [far_N sq h2 q h6]
  generalize N_far sq q = f at hf ⊢
  have hp : ho / (1 + f) ≤ ho := Nat.div_le_self _ _
  simp only [lit_nI, nI_add, rm_N (show w < 2 ^ 31 by omega) (show 0 < 2 by decide) (by decide), rm_N (show w < 2 ^ 31 by omega) (show 0 < 4 by decide) (by decide), pk_div (show ho < 2 ^ 31 by omega) (show 0 < 1 + f by omega) (by omega)]
  have ht : (if w % 2 = 0 then ho / (1 + f) else 0) < 2 ^ 30 := by split <;> omega
  simp only [nI_lit si 1 (by omega) (by decide), nI_lit (w % 2) 0 (by omega) (by decide), nI_lit (w % 4) 0 (by omega) (by decide), nI_lit kd 1 (by omega) (by decide), nI_lit kd 2 (by omega) (by decide), nI_lit kd 3 (by omega) (by decide), nI_lit kd 4 (by omega) (by decide), nI_lit kd 5 (by omega) (by decide), show (nI 3 < nI f) = (3 < f) from propext (nI_ltI (by decide) (by omega)), ite_nI, pk_mul, sub_nI ht (show f < 2 ^ 30 by omega)]
theorem lur_N {kd sq ho sw si q : Nat} (h1 : kd < 6) (h2 : sq < 64) (h3 : ho < 100) (h4 : sw < 10) (h5 : si < 2) (h6 : q < 64) : P_lur (nI kd) (nI sq) (nI ho) (nI sw) (nI si) (nI q) = nI (N_lur kd sq ho sw si q) := by
  unfold P_lur N_lur
  have hf := far_le h2 h6
  rw [far_N sq h2 q h6]
  generalize N_far sq q = f at hf ⊢
  have hg : (if nI sw - nI f < (0 : Int32) then (0 : Int32) else nI sw - nI f) = nI (sw - f) := sub_nI (by omega) (by omega)
  simp only [hg]
  simp only [lit_nI, nI_add, pk_div (show ho < 2 ^ 31 by omega) (show 0 < 10 by omega) (by omega)]
  simp only [nI_lit si 1 (by omega) (by decide), nI_lit kd 1 (by omega) (by decide), nI_lit kd 2 (by omega) (by decide), nI_lit kd 3 (by omega) (by decide), nI_lit kd 4 (by omega) (by decide), nI_lit kd 5 (by omega) (by decide), ite_nI, nI_add]
theorem wrk_N {kd w : Nat} (h1 : kd < 6) (h7 : w < 2 ^ 30) : P_wrk (nI kd) (nI w) = N_wrk kd w := by
  unfold P_wrk N_wrk
  simp only [lit_nI, rm_N (show w < 2 ^ 31 by omega) (show 0 < 3 by decide) (by decide)]
  simp only [nI_lit (w % 3) 2 (by omega) (by decide), nI_lit kd 2 (by omega) (by decide), nI_lit kd 3 (by omega) (by decide), nI_lit kd 5 (by omega) (by decide)]
theorem by_N {q h r : Nat} (hq : q < 64) (hh : h < 2) (hr : r < 64) : P_by (nI q) (nI h) (nI r) = nI (N_by q h r) := by
  rcases (show h = 0 ∨ h = 1 by omega) with rfl | rfl
  · exact by_N0 q hq r hr
  · exact by_N1 q hq r hr
theorem by_lt {q h r : Nat} (hq : q < 64) (hh : h < 2) (hr : r < 64) : N_by q h r < 64 := by
  rcases (show h = 0 ∨ h = 1 by omega) with rfl | rfl
  · exact by_lt0 q hq r hr
  · exact by_lt1 q hq r hr
/-- a rock's kind is one, or one under it -/
def N_is (kd as : Nat) : Bool := decide (kd = as ∨ as = 0 ∨ (kd = 4 ∧ as = 1) ∨ (kd = 5 ∧ as = 2))
