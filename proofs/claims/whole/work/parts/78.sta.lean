/-! ===== the start: the room of numbers, the statics ===== -/
def I0 (xs : Nat → Int32) : Nat → Nat → Int32 := fun k => if k = 57 then xs else if k = 45 then upd (fun _ => 0) (2 : Int32).toNatClampNeg 5 else if k = 50 then gF (ltI 0) else if k = 51 then gF (ltI 1) else if k = 52 then gF (ltI 2) else if k = 1 ∨ k = 11 ∨ k = 21 then (fun j => if j = 2 then 5 else 0) else fun _ => 0
def J0 (L : Nat) : Nat → Nat → Int64 := fun k => if k = 57 then (fun _ => lN L) else fun _ => 0
theorem st_Wd (xs : Nat → Int32) (L : Nat) : Wd (I0 xs) (J0 L) := by
  have hV : V (fun j => if j = 2 then 5 else 0) 0 99999 := ⟨rfl, by decide, by decide, by decide, by decide, by decide, by decide, by decide, fun k hk => absurd hk (Nat.not_lt_zero k)⟩
  refine ⟨fun j => if j = 2 then 5 else 0, 0, 0, fun _ => 0, 0, fun _ => 0, fun _ => 0, 0, fun _ => 0, fun _ => 0, fun _ _ => 0, ⟨⟨⟨rfl, rfl, rfl, rfl, rfl, rfl⟩, fun k hk => absurd hk (Nat.not_lt_zero k)⟩, hV, ⟨rfl, by decide, fun h => absurd h (by decide)⟩, fun j _ => rfl, ⟨rfl, by decide, fun j hj => absurd hj (Nat.not_lt_zero j)⟩, ?_⟩, ⟨?_, hV, ⟨rfl, by decide, fun h => absurd h (by decide)⟩, fun j _ => rfl, ⟨rfl, by decide, fun j hj => absurd hj (Nat.not_lt_zero j)⟩, ?_, ?_⟩⟩
  · intro s hs
    rcases (show s = 0 ∨ s = 1 ∨ s = 2 ∨ s = 3 by omega) with rfl | rfl | rfl | rfl <;> exact ⟨rfl, Or.inl rfl, rfl, Nat.zero_le _, fun i _ => rfl⟩
  · have h : ∀ j, j < 6 + 5 * 0 → upd (fun _ => 0) (2 : Int32).toNatClampNeg 5 j = nI (if j = 2 then 5 else 0) := by decide +kernel
    exact h
  · intro s hs
    exact ⟨rfl, Or.inl rfl, rfl, Nat.zero_le _, fun i _ => rfl⟩
  · have h : (∀ j, j < 48 → gF (ltI 0) j = nI (ltr 0 j)) ∧ (∀ j, j < 32 → gF (ltI 1) j = nI (ltr 1 j)) ∧ ∀ j, j < 24 → gF (ltI 2) j = nI (ltr 2 j) := by decide +kernel
    exact h
theorem st_C {s : State} {b L : Nat} {xs : Nat → Int32} {D : va_G} {ci : Nat → ClassId} (hL : L ≤ 3072) (hK : va_K D hr_cl (hr_ty ci) s) (hts : ∀ w ∈ lw_tbl, w.before #[Value.ref b] s = true) (hX : va_X b L xs s s.heap) (hbl : b < s.heap.size) (hgv : (Jvm.Cond.and given_1 narrow_1).before #[Value.ref b] s = true) :
    ∃ (t0 t1 t2 : Nat) (sv : Value) (aK aV : Nat → Nat), ∀ ad : Nat → Nat, ad 57 = b → ad 60 = t0 → ad 61 = t1 → ad 62 = t2 → (∀ i, i < 13 → ad (70 + i) = aK i) → (∀ i, i < 13 → ad (90 + i) = aV i) → (∀ i j, i < 57 → j < 57 → ad i = ad j → i = j) → (∀ k, k < 57 → s.heap.size ≤ ad k) → hr_C ad sv ci D L xs s := by
  have hA : ∀ a : Nat, a < s.heap.size → ¬ (fun q => s.heap.size ≤ q) a := fun a h => Nat.not_le.mpr h
  have hs := flat_of_before _ hgv
  have iH := hts (.initialized "HornRocks") (by decide +kernel)
  have iS := hts (.initialized "java/lang/String") (by decide +kernel)
  have iP := hts (.initialized "jdk/internal/util/Preconditions") (by decide +kernel)
  obtain ⟨t0, v0, T0⟩ := va_Tof (A := fun q => s.heap.size ≤ q) (tm := .static "HornRocks" "SHIP_MOST" "[I") (ty := .int) (N := 3) (f := fun j => .int (hr_st0.getD j 0)) (by decide) (hs _ fl_s1) (va_eqt (hs _ fl_s2)) (fun j hj => va_eqt (hs _ (fl_s3 j hj))) hA
  obtain ⟨t1, v1, T1⟩ := va_Tof (A := fun q => s.heap.size ≤ q) (tm := .static "HornRocks" "ROCK_MOST" "[I") (ty := .int) (N := 5) (f := fun j => .int (hr_st1.getD j 0)) (by decide) (hs _ fl_r1) (va_eqt (hs _ fl_r2)) (fun j hj => va_eqt (hs _ (fl_r3 j hj))) hA
  obtain ⟨t2, v2, T2⟩ := va_Tof (A := fun q => s.heap.size ≤ q) (tm := .static "HornRocks" "ABOVE" "[I") (ty := .int) (N := 6) (f := fun j => .int (hr_st2.getD j 0)) (by decide) (hs _ fl_a1) (va_eqt (hs _ fl_a2)) (fun j hj => va_eqt (hs _ (fl_a3 j hj))) hA
  have Z0 := va_Zref (A := fun q => s.heap.size ≤ q) (hts (.laysStatic "HornRocks" "SHIP_MOST" "[I") (by decide +kernel)) iH v0 hA
  have Z1 := va_Zref (A := fun q => s.heap.size ≤ q) (hts (.laysStatic "HornRocks" "ROCK_MOST" "[I") (by decide +kernel)) iH v1 hA
  have Z2 := va_Zref (A := fun q => s.heap.size ≤ q) (hts (.laysStatic "HornRocks" "ABOVE" "[I") (by decide +kernel)) iH v2 hA
  have Z3 := va_Zof (A := fun q => s.heap.size ≤ q) (hts (.laysStatic "java/lang/String" "COMPACT_STRINGS" "Z") (by decide +kernel)) iS (va_eqt (hs _ fl_c1)) hA
  have Z4 := va_Zqof (A := fun q => s.heap.size ≤ q) (hts (.laysStatic "jdk/internal/util/Preconditions" "SIOOBE_FORMATTER" "Ljava/util/function/BiFunction;") (by decide +kernel)) iP (hs _ fl_p1) hA
  obtain ⟨sv, Z4, hsv⟩ : ∃ sv : Value, va_Z "jdk/internal/util/Preconditions" "SIOOBE_FORMATTER" "Ljava/util/function/BiFunction;" sv (fun q => s.heap.size ≤ q) s s.heap ∧ (sv = .null ∨ ∃ t, sv = .ref t) := by
    rcases Z4 with h | ⟨t, h⟩
    · exact ⟨_, h, Or.inl rfl⟩
    · exact ⟨_, h, Or.inr ⟨t, rfl⟩⟩
  obtain ⟨aK, aV, SS, hev⟩ := vk_Sof (A := fun q => s.heap.size ≤ q) (tm := tpT) (N := 13) (len := hr_sl) (byt := hr_sb) fl_x7 (fun i hi => hs _ (fl_x1 i hi)) (fun i hi => hs _ (fl_x2 i hi)) (fun i hi => hs _ (fl_x3 i hi)) (fun i hi => hs _ (fl_x4 i hi)) (fun i hi j hj => hs _ (fl_x5 i hi j hj)) (fun i j hi hj hne => by
    rcases Nat.lt_or_gt_of_ne hne with h | h
    · exact Or.inl (hs _ (List.mem_of_getElem? (fl_x6 j hj i h)))
    · exact Or.inr (hs _ (List.mem_of_getElem? (fl_x6 i hi j h)))) hA
  refine ⟨t0, t1, t2, sv, aK, aV, fun ad e57 e60 e61 e62 eK eV hinj hge => ?_⟩
  have hAB : ∀ q, hr_A ad q → s.heap.size ≤ q := fun q ⟨k, hk, e⟩ => by rw [e]; exact hge k hk
  have SS := vk_S.narrow (B := hr_A ad) SS hAB
  refine ⟨hK, hinj, by omega, ⟨by rw [e60]; exact Z0.narrow hAB, by rw [e60]; exact T0.narrow hAB⟩, ⟨by rw [e61]; exact Z1.narrow hAB, by rw [e61]; exact T1.narrow hAB⟩, ⟨by rw [e62]; exact Z2.narrow hAB, by rw [e62]; exact T2.narrow hAB⟩, Z3.narrow hAB, ⟨Z4.narrow hAB, hsv⟩, ⟨fun i hi => ?_, fun i j hi hj h => ?_⟩, fun i e he => ?_, ⟨?_, ?_⟩, ?_, ⟨by rw [e57]; exact hX, by rw [e57]; exact hbl, fun h => ?_⟩⟩
  · show va_O "java/lang/String" (ad (70 + i)) (hr_A ad) s s.heap ∧ va_OF "java/lang/String" "coder" "B" (.int 0) (ad (70 + i)) (hr_A ad) s s.heap ∧ va_OF "java/lang/String" "value" "[B" (.ref (ad (90 + i))) (ad (70 + i)) (hr_A ad) s s.heap ∧ va_T .byte (ad (90 + i)) (hr_sl.getD i 0) (fun j => .int ((hr_sb.getD i []).getD j 0)) (hr_A ad) s s.heap
    rw [eK i hi, eV i hi]
    exact SS.1 i hi
  · have h : ad (70 + i) = ad (70 + j) := h
    rw [eK i hi, eK j hj] at h
    exact SS.2 i j hi hj h
  · have hi : i < 13 := (List.getElem?_eq_some_iff.mp he).1
    have e1 : e = hr_ls.getD i (0, "") := by rw [List.getD_eq_getElem?_getD, he]; rfl
    rw [e1, eK i hi]
    exact vk_R.of (hts _ (tb_s i hi)) (hev i hi)
  · exact va_Nw.of rfl (hts _ (List.mem_of_getElem? (i := 258) (by decide +kernel)))
  · exact va_Nw.of rfl (hts _ (List.mem_of_getElem? (i := 385) (by decide +kernel)))
  · exact va_Nw.of rfl (hts _ (List.mem_of_getElem? (i := 338) (by decide +kernel)))
  · have := hAB _ h
    rw [e57] at this
    omega
