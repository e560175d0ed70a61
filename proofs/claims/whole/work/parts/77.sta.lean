/-! ===== the start: what the Statement gives ===== -/
def tpI (i : Nat) : Nat := (hr_ls.getD i (0, "")).1
def tpT (i : Nat) : Term := .string "HornRocks$Tape" (tpI i)
theorem fl_s1 : Cond.arrayOf (.static "HornRocks" "SHIP_MOST" "[I") .int ∈ flatC (Jvm.Cond.and given_1 narrow_1) := by decide +kernel
theorem fl_s2 : Cond.eq (.length (.static "HornRocks" "SHIP_MOST" "[I")) (.int (Int32.ofNat 3)) ∈ flatC (Jvm.Cond.and given_1 narrow_1) := by decide +kernel
theorem fl_s3 : ∀ j, j < 3 → Cond.eq (.elem (.static "HornRocks" "SHIP_MOST" "[I") (.int (Int32.ofNat j))) (.int (hr_st0.getD j 0)) ∈ flatC (Jvm.Cond.and given_1 narrow_1) := by decide +kernel
theorem fl_r1 : Cond.arrayOf (.static "HornRocks" "ROCK_MOST" "[I") .int ∈ flatC (Jvm.Cond.and given_1 narrow_1) := by decide +kernel
theorem fl_r2 : Cond.eq (.length (.static "HornRocks" "ROCK_MOST" "[I")) (.int (Int32.ofNat 5)) ∈ flatC (Jvm.Cond.and given_1 narrow_1) := by decide +kernel
theorem fl_r3 : ∀ j, j < 5 → Cond.eq (.elem (.static "HornRocks" "ROCK_MOST" "[I") (.int (Int32.ofNat j))) (.int (hr_st1.getD j 0)) ∈ flatC (Jvm.Cond.and given_1 narrow_1) := by decide +kernel
theorem fl_a1 : Cond.arrayOf (.static "HornRocks" "ABOVE" "[I") .int ∈ flatC (Jvm.Cond.and given_1 narrow_1) := by decide +kernel
theorem fl_a2 : Cond.eq (.length (.static "HornRocks" "ABOVE" "[I")) (.int (Int32.ofNat 6)) ∈ flatC (Jvm.Cond.and given_1 narrow_1) := by decide +kernel
theorem fl_a3 : ∀ j, j < 6 → Cond.eq (.elem (.static "HornRocks" "ABOVE" "[I") (.int (Int32.ofNat j))) (.int (hr_st2.getD j 0)) ∈ flatC (Jvm.Cond.and given_1 narrow_1) := by decide +kernel
theorem fl_c1 : Cond.eq (.static "java/lang/String" "COMPACT_STRINGS" "Z") (.int 1) ∈ flatC (Jvm.Cond.and given_1 narrow_1) := by decide +kernel
theorem fl_p1 : Cond.isRef (.static "jdk/internal/util/Preconditions" "SIOOBE_FORMATTER" "Ljava/util/function/BiFunction;") ∈ flatC (Jvm.Cond.and given_1 narrow_1) := by decide +kernel
theorem fl_x1 : ∀ i, i < 13 → Cond.exactly (tpT i) "java/lang/String" ∈ flatC (Jvm.Cond.and given_1 narrow_1) := by decide +kernel
theorem fl_x2 : ∀ i, i < 13 → Cond.eq (.field (tpT i) "java/lang/String" "coder" "B") (.int 0) ∈ flatC (Jvm.Cond.and given_1 narrow_1) := by decide +kernel
theorem fl_x3 : ∀ i, i < 13 → Cond.arrayOf (.field (tpT i) "java/lang/String" "value" "[B") .byte ∈ flatC (Jvm.Cond.and given_1 narrow_1) := by decide +kernel
theorem fl_x4 : ∀ i, i < 13 → Cond.eq (.length (.field (tpT i) "java/lang/String" "value" "[B")) (.int (Int32.ofNat (hr_sl.getD i 0))) ∈ flatC (Jvm.Cond.and given_1 narrow_1) := by decide +kernel
theorem fl_x5 : ∀ i, i < 13 → ∀ j, j < hr_sl.getD i 0 → Cond.eq (.elem (.field (tpT i) "java/lang/String" "value" "[B") (.int (Int32.ofNat j))) (.int ((hr_sb.getD i []).getD j 0)) ∈ flatC (Jvm.Cond.and given_1 narrow_1) := by decide +kernel
theorem fl_x6 : ∀ j, j < 13 → ∀ i, i < j → (flatC (Jvm.Cond.and given_1 narrow_1))[([0, 61, 73, 86, 96, 108, 121, 136, 151, 165, 182, 201, 222] : List Nat).getD j 0 + i]? = some (Cond.not (Cond.eq (tpT i) (tpT j))) := by decide +kernel
theorem fl_x7 : ∀ i, i < 13 → hr_sl.getD i 0 < 2 ^ 31 := by decide +kernel
theorem tb_s : ∀ i, i < 13 → Cond.stringRef "HornRocks$Tape" (tpI i) (hr_ls.getD i (0, "")).2 ∈ lw_tbl := by decide +kernel
theorem tb_i : ∀ c, c < 7 → Cond.instantiable (hr_cq c).1 (hr_cq c).2.2 ∈ hr_TT := by decide +kernel
/-- classes and array classes -/
theorem st_K {s : State} {args : Array Value} (hts : ∀ w ∈ lw_tbl, w.before args s = true) : ∃ (D : va_G) (ci : Nat → ClassId), va_K D hr_cl (hr_ty ci) s := by
  have htt : ∀ w ∈ hr_TT, w.before args s = true := fun w hw => hts w (List.mem_filter.mp hw).1
  have h0 : ∀ c : Nat, ∃ q : ClassId × (Nat → Nat), c < 7 → u_Kn s (hr_cq c).1 (hr_cq c).2.1 (hr_cq c).2.2 q.1 q.2 := by
    intro c
    by_cases hc : c < 7
    · obtain ⟨cC, iS, h⟩ := u_known htt (hr_k_u c hc) (htt _ (tb_i c hc))
      exact ⟨(cC, iS), fun _ => h⟩
    · exact ⟨(0, fun _ => 0), fun h => absurd h hc⟩
  obtain ⟨a1, k1, m1, f1, g1, d1⟩ := Cond.arrayClass_spec (htt (.arrayClass .int) (hr_tt 223 (by decide +kernel) rfl))
  obtain ⟨a2, k2, m2, f2, g2, d2⟩ := Cond.arrayClass_spec (htt (.arrayClass .long) (hr_tt 197 (by decide +kernel) rfl))
  obtain ⟨a3, k3, m3, f3, g3, d3⟩ := Cond.arrayClass_spec (htt (.arrayClass .byte) (hr_tt 176 (by decide +kernel) rfl))
  obtain ⟨a4, k4, m4, f4, g4, d4⟩ := Cond.arrayClass_spec (htt (.arrayClass .char) (hr_tt 758 (by decide +kernel) rfl))
  obtain ⟨m5, a5, k5, b5, -, g5, d5, f5⟩ := Cond.arrayOver_spec (hts (.arrayOver (.object "HornRocks$Rock")) (List.mem_of_getElem? (i := 71) (by decide +kernel)))
  obtain ⟨m6, a6, k6, b6, -, g6, d6, f6⟩ := Cond.arrayOver_spec (hts (.arrayOver (.object "HornRocks$Sheet")) (List.mem_of_getElem? (i := 178) (by decide +kernel)))
  refine ⟨(fun c => (Classical.choose (h0 c)).1, fun c => (Classical.choose (h0 c)).2), fun k => if k = 1 then a1 else if k = 2 then a2 else if k = 3 then a3 else if k = 4 then a4 else if k = 5 then a5 else a6, fun c q hq => ?_, fun k q hq => ?_⟩
  · have hc : c < 7 := (List.getElem?_eq_some_iff.mp hq).1
    rw [hr_cq_at c hc] at hq
    cases hq
    exact Classical.choose_spec (h0 c) hc
  · have hk : k < 6 := (List.getElem?_eq_some_iff.mp hq).1
    rcases (show k = 0 ∨ k = 1 ∨ k = 2 ∨ k = 3 ∨ k = 4 ∨ k = 5 by omega) with rfl | rfl | rfl | rfl | rfl | rfl
    · cases hq; exact ⟨fun n z => ⟨fun k h => (by cases h), k1, g1, m1, d1⟩, f1⟩
    · cases hq; exact ⟨fun n z => ⟨fun k h => (by cases h), k2, g2, m2, d2⟩, f2⟩
    · cases hq; exact ⟨fun n z => ⟨fun k h => (by cases h), k3, g3, m3, d3⟩, f3⟩
    · cases hq; exact ⟨fun n z => ⟨fun k h => (by cases h), k4, g4, m4, d4⟩, f4⟩
    · cases hq; exact ⟨fun n z => ⟨fun k h => (by cases h), k5, g5, m5, d5⟩, k5, m5, g5, d5, b5, f5⟩
    · cases hq; exact ⟨fun n z => ⟨fun k h => (by cases h), k6, g6, m6, d6⟩, k6, m6, g6, d6, b6, f6⟩
