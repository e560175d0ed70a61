/-! ===== what the tables say, by program ===== -/
def hr_c0 : vw_C := ("", TX0, 0)
def hr_cq (c : Nat) : vw_C := hr_cl.getD c hr_c0
theorem hr_cq_at : ∀ c, c < 7 → hr_cl[c]? = some (hr_cq c) := by
  intro c hc
  match c, hc with
  | 0, _ => rfl
  | 1, _ => rfl
  | 2, _ => rfl
  | 3, _ => rfl
  | 4, _ => rfl
  | 5, _ => rfl
  | 6, _ => rfl
  | n + 7, h => exact absurd h (by omega)
theorem hr_tt {w : Cond} (i : Nat) (h : lw_tbl[i]? = some w) (g : goodWord w = true) : w ∈ hr_TT := List.mem_filter.mpr ⟨List.mem_of_getElem? h, g⟩
theorem hr_k_u : ∀ c, c < 7 → ∀ w ∈ u_ws (hr_cq c).1 (hr_cq c).2.1 (hr_cq c).2.2, w ∈ hr_TT := by decide +kernel
def hr_okf (e : Nat × Nat × Nat × Nat × Nat) : Bool := decide (e.2.2.1 < 7) && decide (e.2.2.2.1 < (hr_cq e.2.2.1).2.2) && decide (lw_tbl[e.2.2.2.2]? = some (Cond.fieldLink (hr_os e.1) e.2.1 ((hr_cq e.2.2.1).2.1 e.2.2.2.1).1 ((hr_cq e.2.2.1).2.1 e.2.2.2.1).2.1 ((hr_cq e.2.2.1).2.1 e.2.2.2.1).2.2.1))
theorem hr_k_f : hr_lf.all hr_okf = true := by decide +kernel
def hr_okm (e : Nat × Nat × Nat × Nat × Nat × Nat × Nat × Nat) : Bool := decide (e.2.2.1 < hr_nM) &&
  (if e.2.2.2.1 = 0 then decide (lw_tbl[e.2.2.2.2.1]? = some (Cond.methodLink (hr_os e.1) e.2.1 (hr_nm e.2.2.1))) && decide (lw_tbl[e.2.2.2.2.2.1]? = some (Cond.instanceMethod (hr_nm e.2.2.1))) && decide (lw_tbl[e.2.2.2.2.2.2.1]? = some (Cond.selects (hr_nm e.2.2.1).cls (hr_nm e.2.2.1) (hr_nm e.2.2.1)))
   else if e.2.2.2.1 = 1 then decide (lw_tbl[e.2.2.2.2.1]? = some (Cond.methodLink (hr_os e.1) e.2.1 (hr_nm e.2.2.1))) && decide (lw_tbl[e.2.2.2.2.2.1]? = some (Cond.static (hr_nm e.2.2.1)))
   else decide (e.2.2.2.1 = 2) && decide (lw_tbl[e.2.2.2.2.1]? = some (Cond.methodLinkNest (hr_os e.1) e.2.1 (hr_nm e.2.2.1) "HornRocks")) && decide (lw_tbl[e.2.2.2.2.2.1]? = some (Cond.static (hr_nm e.2.2.1)))) && decide (lw_tbl[e.2.2.2.2.2.2.2]? = some (Cond.initialized (hr_nm e.2.2.1).cls))
theorem hr_k_m0 : hr_lm0.all hr_okm = true := by decide +kernel
theorem hr_k_m1 : hr_lm1.all hr_okm = true := by decide +kernel
theorem hr_k_m2 : hr_lm2.all hr_okm = true := by decide +kernel
theorem hr_k_m3 : hr_lm3.all hr_okm = true := by decide +kernel
theorem hr_k_m : ∀ e ∈ hr_lm, hr_okm e = true := by
  intro e he
  unfold hr_lm at he
  simp only [List.mem_append] at he
  rcases he with h | h | h | h
  · exact List.all_eq_true.mp hr_k_m0 e h
  · exact List.all_eq_true.mp hr_k_m1 e h
  · exact List.all_eq_true.mp hr_k_m2 e h
  · exact List.all_eq_true.mp hr_k_m3 e h
theorem hr_k_c : ∀ e ∈ hr_lc, lw_tbl[e.2.2.2]? = some (Cond.constant (hr_os e.1) e.2.1 e.2.2.1) := by decide +kernel
theorem hr_k_l : ∀ e ∈ hr_ll, lw_tbl[e.2.2.2]? = some (Cond.constantLong (hr_os e.1) e.2.1 e.2.2.1) := by decide +kernel
def hr_oky (y : Nat) : Bool := decide ((hr_nm y).cls = hr_os (hr_ow y)) && (plainName (hr_nm y).cls || decide (y = nJM_abs ∨ y = nJM_max)) && decide ((hr_nm y).cls ≠ "java/lang/invoke/MethodHandle" ∧ (hr_nm y).cls ≠ "java/lang/invoke/VarHandle") && decide ((parseMethodDescriptor (hr_nm y).desc).map (fun d => d.parameters.length) = some (hr_na y))
theorem hr_k_y0 : ∀ y, y < 50 → hr_oky y = true := by decide +kernel
theorem hr_k_y1 : ∀ y, y < 50 → hr_oky (y + 50) = true := by decide +kernel
theorem hr_k_y2 : ∀ y, y < 50 → hr_oky (y + 100) = true := by decide +kernel
theorem hr_k_y3 : ∀ y, y < 44 → hr_oky (y + 150) = true := by decide +kernel
theorem hr_k_y : ∀ y, y < hr_nM → hr_oky y = true := by
  intro y hy
  have hy : y < 194 := hy
  by_cases h0 : y < 50
  · exact hr_k_y0 y h0
  by_cases h1 : y < 100
  · have := hr_k_y1 (y - 50) (by omega); rwa [show y - 50 + 50 = y by omega] at this
  by_cases h2 : y < 150
  · have := hr_k_y2 (y - 100) (by omega); rwa [show y - 100 + 100 = y by omega] at this
  have := hr_k_y3 (y - 150) (by omega); rwa [show y - 150 + 150 = y by omega] at this
theorem hr_tm1 {w : Cond} (h : w ∈ tables_1_1) : w ∈ lw_tbl := List.mem_append_right _ (List.mem_append_left _ h)
theorem hr_tm2 {w : Cond} (h : w ∈ tables_1_2) : w ∈ lw_tbl := List.mem_append_right _ (List.mem_append_right _ (List.mem_append_left _ h))
theorem hr_tm3 {w : Cond} (h : w ∈ tables_1_3) : w ∈ lw_tbl := List.mem_append_right _ (List.mem_append_right _ (List.mem_append_right _ (List.mem_append_left _ h)))
theorem hr_tm4 {w : Cond} (h : w ∈ tables_1_4) : w ∈ lw_tbl := List.mem_append_right _ (List.mem_append_right _ (List.mem_append_right _ (List.mem_append_right _ (List.mem_append_left _ h))))
theorem hr_tm5 {w : Cond} (h : w ∈ tables_1_5) : w ∈ lw_tbl := List.mem_append_right _ (List.mem_append_right _ (List.mem_append_right _ (List.mem_append_right _ (List.mem_append_right _ h))))
def hr_cw (y : Nat) : Cond := Cond.code (hr_nm y) (hr_cd y) (hr_mx y) (hr_rt y)
theorem hr_gw (y : Nat) : goodWord (hr_cw y) = true := rfl
set_option maxRecDepth 20000 in
theorem hr_cw0 : hr_cw 0 ∈ lw_tbl := hr_tm1 (List.mem_of_getElem? (i := 20) rfl)
set_option maxRecDepth 20000 in
theorem hr_cw1 : hr_cw 1 ∈ lw_tbl := hr_tm1 (List.mem_of_getElem? (i := 28) rfl)
set_option maxRecDepth 20000 in
theorem hr_cw2 : hr_cw 2 ∈ lw_tbl := hr_tm1 (List.mem_of_getElem? (i := 35) rfl)
set_option maxRecDepth 20000 in
theorem hr_cw3 : hr_cw 3 ∈ lw_tbl := hr_tm1 (List.mem_of_getElem? (i := 100) rfl)
set_option maxRecDepth 20000 in
theorem hr_cw4 : hr_cw 4 ∈ lw_tbl := hr_tm1 (List.mem_of_getElem? (i := 114) rfl)
set_option maxRecDepth 20000 in
theorem hr_cw5 : hr_cw 5 ∈ lw_tbl := hr_tm1 (List.mem_of_getElem? (i := 142) rfl)
set_option maxRecDepth 20000 in
theorem hr_cw6 : hr_cw 6 ∈ lw_tbl := hr_tm1 (List.mem_of_getElem? (i := 187) rfl)
set_option maxRecDepth 20000 in
theorem hr_cw7 : hr_cw 7 ∈ lw_tbl := hr_tm1 (List.mem_of_getElem? (i := 192) rfl)
set_option maxRecDepth 20000 in
theorem hr_cw8 : hr_cw 8 ∈ lw_tbl := hr_tm1 (List.mem_of_getElem? (i := 196) rfl)
set_option maxRecDepth 20000 in
theorem hr_cw9 : hr_cw 9 ∈ lw_tbl := hr_tm1 (List.mem_of_getElem? (i := 201) rfl)
set_option maxRecDepth 20000 in
theorem hr_cw10 : hr_cw 10 ∈ lw_tbl := hr_tm1 (List.mem_of_getElem? (i := 205) rfl)
set_option maxRecDepth 20000 in
theorem hr_cw11 : hr_cw 11 ∈ lw_tbl := hr_tm1 (List.mem_of_getElem? (i := 209) rfl)
set_option maxRecDepth 20000 in
theorem hr_cw12 : hr_cw 12 ∈ lw_tbl := hr_tm1 (List.mem_of_getElem? (i := 213) rfl)
set_option maxRecDepth 20000 in
theorem hr_cw13 : hr_cw 13 ∈ lw_tbl := hr_tm1 (List.mem_of_getElem? (i := 217) rfl)
set_option maxRecDepth 20000 in
theorem hr_cw14 : hr_cw 14 ∈ lw_tbl := hr_tm1 (List.mem_of_getElem? (i := 220) rfl)
set_option maxRecDepth 20000 in
theorem hr_cw15 : hr_cw 15 ∈ lw_tbl := hr_tm1 (List.mem_of_getElem? (i := 223) rfl)
set_option maxRecDepth 20000 in
theorem hr_cw16 : hr_cw 16 ∈ lw_tbl := hr_tm1 (List.mem_of_getElem? (i := 226) rfl)
set_option maxRecDepth 20000 in
theorem hr_cw17 : hr_cw 17 ∈ lw_tbl := hr_tm1 (List.mem_of_getElem? (i := 230) rfl)
set_option maxRecDepth 20000 in
theorem hr_cw18 : hr_cw 18 ∈ lw_tbl := hr_tm1 (List.mem_of_getElem? (i := 234) rfl)
set_option maxRecDepth 20000 in
theorem hr_cw19 : hr_cw 19 ∈ lw_tbl := hr_tm1 (List.mem_of_getElem? (i := 238) rfl)
set_option maxRecDepth 20000 in
theorem hr_cw20 : hr_cw 20 ∈ lw_tbl := hr_tm2 (List.mem_of_getElem? (i := 2) rfl)
set_option maxRecDepth 20000 in
theorem hr_cw21 : hr_cw 21 ∈ lw_tbl := hr_tm2 (List.mem_of_getElem? (i := 5) rfl)
set_option maxRecDepth 20000 in
theorem hr_cw22 : hr_cw 22 ∈ lw_tbl := hr_tm2 (List.mem_of_getElem? (i := 8) rfl)
set_option maxRecDepth 20000 in
theorem hr_cw23 : hr_cw 23 ∈ lw_tbl := hr_tm2 (List.mem_of_getElem? (i := 12) rfl)
set_option maxRecDepth 20000 in
theorem hr_cw24 : hr_cw 24 ∈ lw_tbl := hr_tm2 (List.mem_of_getElem? (i := 16) rfl)
set_option maxRecDepth 20000 in
theorem hr_cw25 : hr_cw 25 ∈ lw_tbl := hr_tm2 (List.mem_of_getElem? (i := 20) rfl)
set_option maxRecDepth 20000 in
theorem hr_cw26 : hr_cw 26 ∈ lw_tbl := hr_tm2 (List.mem_of_getElem? (i := 24) rfl)
set_option maxRecDepth 20000 in
theorem hr_cw27 : hr_cw 27 ∈ lw_tbl := hr_tm2 (List.mem_of_getElem? (i := 28) rfl)
set_option maxRecDepth 20000 in
theorem hr_cw28 : hr_cw 28 ∈ lw_tbl := hr_tm2 (List.mem_of_getElem? (i := 35) rfl)
set_option maxRecDepth 20000 in
theorem hr_cw29 : hr_cw 29 ∈ lw_tbl := hr_tm2 (List.mem_of_getElem? (i := 39) rfl)
set_option maxRecDepth 20000 in
theorem hr_cw30 : hr_cw 30 ∈ lw_tbl := hr_tm2 (List.mem_of_getElem? (i := 45) rfl)
set_option maxRecDepth 20000 in
theorem hr_cw31 : hr_cw 31 ∈ lw_tbl := hr_tm2 (List.mem_of_getElem? (i := 49) rfl)
set_option maxRecDepth 20000 in
theorem hr_cw32 : hr_cw 32 ∈ lw_tbl := hr_tm2 (List.mem_of_getElem? (i := 53) rfl)
set_option maxRecDepth 20000 in
theorem hr_cw33 : hr_cw 33 ∈ lw_tbl := hr_tm2 (List.mem_of_getElem? (i := 57) rfl)
set_option maxRecDepth 20000 in
theorem hr_cw34 : hr_cw 34 ∈ lw_tbl := hr_tm2 (List.mem_of_getElem? (i := 63) rfl)
set_option maxRecDepth 20000 in
theorem hr_cw35 : hr_cw 35 ∈ lw_tbl := hr_tm2 (List.mem_of_getElem? (i := 67) rfl)
set_option maxRecDepth 20000 in
theorem hr_cw36 : hr_cw 36 ∈ lw_tbl := hr_tm2 (List.mem_of_getElem? (i := 71) rfl)
set_option maxRecDepth 20000 in
theorem hr_cw37 : hr_cw 37 ∈ lw_tbl := hr_tm2 (List.mem_of_getElem? (i := 76) rfl)
set_option maxRecDepth 20000 in
theorem hr_cw38 : hr_cw 38 ∈ lw_tbl := hr_tm2 (List.mem_of_getElem? (i := 81) rfl)
set_option maxRecDepth 20000 in
theorem hr_cw39 : hr_cw 39 ∈ lw_tbl := hr_tm2 (List.mem_of_getElem? (i := 86) rfl)
set_option maxRecDepth 20000 in
theorem hr_cw40 : hr_cw 40 ∈ lw_tbl := hr_tm2 (List.mem_of_getElem? (i := 90) rfl)
set_option maxRecDepth 20000 in
theorem hr_cw41 : hr_cw 41 ∈ lw_tbl := hr_tm2 (List.mem_of_getElem? (i := 95) rfl)
set_option maxRecDepth 20000 in
theorem hr_cw42 : hr_cw 42 ∈ lw_tbl := hr_tm2 (List.mem_of_getElem? (i := 99) rfl)
set_option maxRecDepth 20000 in
theorem hr_cw43 : hr_cw 43 ∈ lw_tbl := hr_tm2 (List.mem_of_getElem? (i := 104) rfl)
set_option maxRecDepth 20000 in
theorem hr_cw44 : hr_cw 44 ∈ lw_tbl := hr_tm2 (List.mem_of_getElem? (i := 109) rfl)
set_option maxRecDepth 20000 in
theorem hr_cw45 : hr_cw 45 ∈ lw_tbl := hr_tm2 (List.mem_of_getElem? (i := 114) rfl)
set_option maxRecDepth 20000 in
theorem hr_cw46 : hr_cw 46 ∈ lw_tbl := hr_tm2 (List.mem_of_getElem? (i := 119) rfl)
set_option maxRecDepth 20000 in
theorem hr_cw47 : hr_cw 47 ∈ lw_tbl := hr_tm2 (List.mem_of_getElem? (i := 123) rfl)
set_option maxRecDepth 20000 in
theorem hr_cw48 : hr_cw 48 ∈ lw_tbl := hr_tm2 (List.mem_of_getElem? (i := 127) rfl)
set_option maxRecDepth 20000 in
theorem hr_cw49 : hr_cw 49 ∈ lw_tbl := hr_tm2 (List.mem_of_getElem? (i := 131) rfl)
set_option maxRecDepth 20000 in
theorem hr_cw50 : hr_cw 50 ∈ lw_tbl := hr_tm2 (List.mem_of_getElem? (i := 135) rfl)
set_option maxRecDepth 20000 in
theorem hr_cw51 : hr_cw 51 ∈ lw_tbl := hr_tm2 (List.mem_of_getElem? (i := 139) rfl)
set_option maxRecDepth 20000 in
theorem hr_cw52 : hr_cw 52 ∈ lw_tbl := hr_tm2 (List.mem_of_getElem? (i := 143) rfl)
set_option maxRecDepth 20000 in
theorem hr_cw53 : hr_cw 53 ∈ lw_tbl := hr_tm2 (List.mem_of_getElem? (i := 147) rfl)
set_option maxRecDepth 20000 in
theorem hr_cw54 : hr_cw 54 ∈ lw_tbl := hr_tm2 (List.mem_of_getElem? (i := 151) rfl)
set_option maxRecDepth 20000 in
theorem hr_cw55 : hr_cw 55 ∈ lw_tbl := hr_tm2 (List.mem_of_getElem? (i := 155) rfl)
set_option maxRecDepth 20000 in
theorem hr_cw56 : hr_cw 56 ∈ lw_tbl := hr_tm2 (List.mem_of_getElem? (i := 159) rfl)
set_option maxRecDepth 20000 in
theorem hr_cw57 : hr_cw 57 ∈ lw_tbl := hr_tm2 (List.mem_of_getElem? (i := 163) rfl)
set_option maxRecDepth 20000 in
theorem hr_cw58 : hr_cw 58 ∈ lw_tbl := hr_tm2 (List.mem_of_getElem? (i := 168) rfl)
set_option maxRecDepth 20000 in
theorem hr_cw59 : hr_cw 59 ∈ lw_tbl := hr_tm2 (List.mem_of_getElem? (i := 172) rfl)
set_option maxRecDepth 20000 in
theorem hr_cw60 : hr_cw 60 ∈ lw_tbl := hr_tm2 (List.mem_of_getElem? (i := 177) rfl)
set_option maxRecDepth 20000 in
theorem hr_cw61 : hr_cw 61 ∈ lw_tbl := hr_tm2 (List.mem_of_getElem? (i := 181) rfl)
set_option maxRecDepth 20000 in
theorem hr_cw62 : hr_cw 62 ∈ lw_tbl := hr_tm2 (List.mem_of_getElem? (i := 185) rfl)
set_option maxRecDepth 20000 in
theorem hr_cw63 : hr_cw 63 ∈ lw_tbl := hr_tm2 (List.mem_of_getElem? (i := 189) rfl)
set_option maxRecDepth 20000 in
theorem hr_cw64 : hr_cw 64 ∈ lw_tbl := hr_tm2 (List.mem_of_getElem? (i := 192) rfl)
set_option maxRecDepth 20000 in
theorem hr_cw65 : hr_cw 65 ∈ lw_tbl := hr_tm2 (List.mem_of_getElem? (i := 199) rfl)
set_option maxRecDepth 20000 in
theorem hr_cw66 : hr_cw 66 ∈ lw_tbl := hr_tm2 (List.mem_of_getElem? (i := 203) rfl)
set_option maxRecDepth 20000 in
theorem hr_cw67 : hr_cw 67 ∈ lw_tbl := hr_tm2 (List.mem_of_getElem? (i := 207) rfl)
set_option maxRecDepth 20000 in
theorem hr_cw68 : hr_cw 68 ∈ lw_tbl := hr_tm2 (List.mem_of_getElem? (i := 211) rfl)
set_option maxRecDepth 20000 in
theorem hr_cw69 : hr_cw 69 ∈ lw_tbl := hr_tm2 (List.mem_of_getElem? (i := 215) rfl)
set_option maxRecDepth 20000 in
theorem hr_cw70 : hr_cw 70 ∈ lw_tbl := hr_tm2 (List.mem_of_getElem? (i := 219) rfl)
set_option maxRecDepth 20000 in
theorem hr_cw71 : hr_cw 71 ∈ lw_tbl := hr_tm2 (List.mem_of_getElem? (i := 223) rfl)
set_option maxRecDepth 20000 in
theorem hr_cw72 : hr_cw 72 ∈ lw_tbl := hr_tm2 (List.mem_of_getElem? (i := 226) rfl)
set_option maxRecDepth 20000 in
theorem hr_cw73 : hr_cw 73 ∈ lw_tbl := hr_tm2 (List.mem_of_getElem? (i := 229) rfl)
set_option maxRecDepth 20000 in
theorem hr_cw74 : hr_cw 74 ∈ lw_tbl := hr_tm2 (List.mem_of_getElem? (i := 233) rfl)
set_option maxRecDepth 20000 in
theorem hr_cw75 : hr_cw 75 ∈ lw_tbl := hr_tm2 (List.mem_of_getElem? (i := 237) rfl)
set_option maxRecDepth 20000 in
theorem hr_cw76 : hr_cw 76 ∈ lw_tbl := hr_tm3 (List.mem_of_getElem? (i := 2) rfl)
set_option maxRecDepth 20000 in
theorem hr_cw77 : hr_cw 77 ∈ lw_tbl := hr_tm3 (List.mem_of_getElem? (i := 6) rfl)
set_option maxRecDepth 20000 in
theorem hr_cw78 : hr_cw 78 ∈ lw_tbl := hr_tm3 (List.mem_of_getElem? (i := 10) rfl)
set_option maxRecDepth 20000 in
theorem hr_cw79 : hr_cw 79 ∈ lw_tbl := hr_tm3 (List.mem_of_getElem? (i := 14) rfl)
set_option maxRecDepth 20000 in
theorem hr_cw80 : hr_cw 80 ∈ lw_tbl := hr_tm3 (List.mem_of_getElem? (i := 20) rfl)
set_option maxRecDepth 20000 in
theorem hr_cw81 : hr_cw 81 ∈ lw_tbl := hr_tm3 (List.mem_of_getElem? (i := 24) rfl)
set_option maxRecDepth 20000 in
theorem hr_cw82 : hr_cw 82 ∈ lw_tbl := hr_tm3 (List.mem_of_getElem? (i := 27) rfl)
set_option maxRecDepth 20000 in
theorem hr_cw83 : hr_cw 83 ∈ lw_tbl := hr_tm3 (List.mem_of_getElem? (i := 30) rfl)
set_option maxRecDepth 20000 in
theorem hr_cw84 : hr_cw 84 ∈ lw_tbl := hr_tm3 (List.mem_of_getElem? (i := 35) rfl)
set_option maxRecDepth 20000 in
theorem hr_cw85 : hr_cw 85 ∈ lw_tbl := hr_tm3 (List.mem_of_getElem? (i := 38) rfl)
set_option maxRecDepth 20000 in
theorem hr_cw86 : hr_cw 86 ∈ lw_tbl := hr_tm3 (List.mem_of_getElem? (i := 41) rfl)
set_option maxRecDepth 20000 in
theorem hr_cw87 : hr_cw 87 ∈ lw_tbl := hr_tm3 (List.mem_of_getElem? (i := 44) rfl)
set_option maxRecDepth 20000 in
theorem hr_cw88 : hr_cw 88 ∈ lw_tbl := hr_tm3 (List.mem_of_getElem? (i := 48) rfl)
set_option maxRecDepth 20000 in
theorem hr_cw89 : hr_cw 89 ∈ lw_tbl := hr_tm3 (List.mem_of_getElem? (i := 58) rfl)
set_option maxRecDepth 20000 in
theorem hr_cw90 : hr_cw 90 ∈ lw_tbl := hr_tm3 (List.mem_of_getElem? (i := 62) rfl)
set_option maxRecDepth 20000 in
theorem hr_cw91 : hr_cw 91 ∈ lw_tbl := hr_tm3 (List.mem_of_getElem? (i := 69) rfl)
set_option maxRecDepth 20000 in
theorem hr_cw92 : hr_cw 92 ∈ lw_tbl := hr_tm3 (List.mem_of_getElem? (i := 72) rfl)
set_option maxRecDepth 20000 in
theorem hr_cw93 : hr_cw 93 ∈ lw_tbl := hr_tm3 (List.mem_of_getElem? (i := 83) rfl)
set_option maxRecDepth 20000 in
theorem hr_cw94 : hr_cw 94 ∈ lw_tbl := hr_tm3 (List.mem_of_getElem? (i := 92) rfl)
set_option maxRecDepth 20000 in
theorem hr_cw95 : hr_cw 95 ∈ lw_tbl := hr_tm3 (List.mem_of_getElem? (i := 95) rfl)
set_option maxRecDepth 20000 in
theorem hr_cw96 : hr_cw 96 ∈ lw_tbl := hr_tm3 (List.mem_of_getElem? (i := 99) rfl)
set_option maxRecDepth 20000 in
theorem hr_cw97 : hr_cw 97 ∈ lw_tbl := hr_tm3 (List.mem_of_getElem? (i := 102) rfl)
set_option maxRecDepth 20000 in
theorem hr_cw98 : hr_cw 98 ∈ lw_tbl := hr_tm3 (List.mem_of_getElem? (i := 106) rfl)
set_option maxRecDepth 20000 in
theorem hr_cw99 : hr_cw 99 ∈ lw_tbl := hr_tm3 (List.mem_of_getElem? (i := 110) rfl)
set_option maxRecDepth 20000 in
theorem hr_cw100 : hr_cw 100 ∈ lw_tbl := hr_tm3 (List.mem_of_getElem? (i := 114) rfl)
set_option maxRecDepth 20000 in
theorem hr_cw101 : hr_cw 101 ∈ lw_tbl := hr_tm3 (List.mem_of_getElem? (i := 118) rfl)
set_option maxRecDepth 20000 in
theorem hr_cw102 : hr_cw 102 ∈ lw_tbl := hr_tm3 (List.mem_of_getElem? (i := 122) rfl)
set_option maxRecDepth 20000 in
theorem hr_cw103 : hr_cw 103 ∈ lw_tbl := hr_tm3 (List.mem_of_getElem? (i := 126) rfl)
set_option maxRecDepth 20000 in
theorem hr_cw104 : hr_cw 104 ∈ lw_tbl := hr_tm3 (List.mem_of_getElem? (i := 133) rfl)
set_option maxRecDepth 20000 in
theorem hr_cw105 : hr_cw 105 ∈ lw_tbl := hr_tm3 (List.mem_of_getElem? (i := 138) rfl)
set_option maxRecDepth 20000 in
theorem hr_cw106 : hr_cw 106 ∈ lw_tbl := hr_tm3 (List.mem_of_getElem? (i := 143) rfl)
set_option maxRecDepth 20000 in
theorem hr_cw107 : hr_cw 107 ∈ lw_tbl := hr_tm3 (List.mem_of_getElem? (i := 147) rfl)
set_option maxRecDepth 20000 in
theorem hr_cw108 : hr_cw 108 ∈ lw_tbl := hr_tm3 (List.mem_of_getElem? (i := 152) rfl)
set_option maxRecDepth 20000 in
theorem hr_cw109 : hr_cw 109 ∈ lw_tbl := hr_tm3 (List.mem_of_getElem? (i := 156) rfl)
set_option maxRecDepth 20000 in
theorem hr_cw110 : hr_cw 110 ∈ lw_tbl := hr_tm3 (List.mem_of_getElem? (i := 160) rfl)
set_option maxRecDepth 20000 in
theorem hr_cw111 : hr_cw 111 ∈ lw_tbl := hr_tm3 (List.mem_of_getElem? (i := 164) rfl)
set_option maxRecDepth 20000 in
theorem hr_cw112 : hr_cw 112 ∈ lw_tbl := hr_tm3 (List.mem_of_getElem? (i := 168) rfl)
set_option maxRecDepth 20000 in
theorem hr_cw113 : hr_cw 113 ∈ lw_tbl := hr_tm3 (List.mem_of_getElem? (i := 172) rfl)
set_option maxRecDepth 20000 in
theorem hr_cw114 : hr_cw 114 ∈ lw_tbl := hr_tm3 (List.mem_of_getElem? (i := 176) rfl)
set_option maxRecDepth 20000 in
theorem hr_cw115 : hr_cw 115 ∈ lw_tbl := hr_tm3 (List.mem_of_getElem? (i := 181) rfl)
set_option maxRecDepth 20000 in
theorem hr_cw116 : hr_cw 116 ∈ lw_tbl := hr_tm4 (List.mem_of_getElem? (i := 2) rfl)
set_option maxRecDepth 20000 in
theorem hr_cw117 : hr_cw 117 ∈ lw_tbl := hr_tm4 (List.mem_of_getElem? (i := 5) rfl)
set_option maxRecDepth 20000 in
theorem hr_cw118 : hr_cw 118 ∈ lw_tbl := hr_tm4 (List.mem_of_getElem? (i := 9) rfl)
set_option maxRecDepth 20000 in
theorem hr_cw119 : hr_cw 119 ∈ lw_tbl := hr_tm4 (List.mem_of_getElem? (i := 14) rfl)
set_option maxRecDepth 20000 in
theorem hr_cw120 : hr_cw 120 ∈ lw_tbl := hr_tm4 (List.mem_of_getElem? (i := 18) rfl)
set_option maxRecDepth 20000 in
theorem hr_cw121 : hr_cw 121 ∈ lw_tbl := hr_tm4 (List.mem_of_getElem? (i := 22) rfl)
set_option maxRecDepth 20000 in
theorem hr_cw122 : hr_cw 122 ∈ lw_tbl := hr_tm4 (List.mem_of_getElem? (i := 26) rfl)
set_option maxRecDepth 20000 in
theorem hr_cw123 : hr_cw 123 ∈ lw_tbl := hr_tm4 (List.mem_of_getElem? (i := 30) rfl)
set_option maxRecDepth 20000 in
theorem hr_cw124 : hr_cw 124 ∈ lw_tbl := hr_tm4 (List.mem_of_getElem? (i := 34) rfl)
set_option maxRecDepth 20000 in
theorem hr_cw125 : hr_cw 125 ∈ lw_tbl := hr_tm4 (List.mem_of_getElem? (i := 37) rfl)
set_option maxRecDepth 20000 in
theorem hr_cw126 : hr_cw 126 ∈ lw_tbl := hr_tm4 (List.mem_of_getElem? (i := 41) rfl)
set_option maxRecDepth 20000 in
theorem hr_cw127 : hr_cw 127 ∈ lw_tbl := hr_tm4 (List.mem_of_getElem? (i := 45) rfl)
set_option maxRecDepth 20000 in
theorem hr_cw128 : hr_cw 128 ∈ lw_tbl := hr_tm4 (List.mem_of_getElem? (i := 49) rfl)
set_option maxRecDepth 20000 in
theorem hr_cw129 : hr_cw 129 ∈ lw_tbl := hr_tm4 (List.mem_of_getElem? (i := 52) rfl)
set_option maxRecDepth 20000 in
theorem hr_cw130 : hr_cw 130 ∈ lw_tbl := hr_tm4 (List.mem_of_getElem? (i := 56) rfl)
set_option maxRecDepth 20000 in
theorem hr_cw131 : hr_cw 131 ∈ lw_tbl := hr_tm4 (List.mem_of_getElem? (i := 60) rfl)
set_option maxRecDepth 20000 in
theorem hr_cw132 : hr_cw 132 ∈ lw_tbl := hr_tm4 (List.mem_of_getElem? (i := 64) rfl)
set_option maxRecDepth 20000 in
theorem hr_cw133 : hr_cw 133 ∈ lw_tbl := hr_tm4 (List.mem_of_getElem? (i := 68) rfl)
set_option maxRecDepth 20000 in
theorem hr_cw134 : hr_cw 134 ∈ lw_tbl := hr_tm4 (List.mem_of_getElem? (i := 72) rfl)
set_option maxRecDepth 20000 in
theorem hr_cw135 : hr_cw 135 ∈ lw_tbl := hr_tm4 (List.mem_of_getElem? (i := 76) rfl)
set_option maxRecDepth 20000 in
theorem hr_cw136 : hr_cw 136 ∈ lw_tbl := hr_tm4 (List.mem_of_getElem? (i := 80) rfl)
set_option maxRecDepth 20000 in
theorem hr_cw137 : hr_cw 137 ∈ lw_tbl := hr_tm4 (List.mem_of_getElem? (i := 84) rfl)
set_option maxRecDepth 20000 in
theorem hr_cw138 : hr_cw 138 ∈ lw_tbl := hr_tm4 (List.mem_of_getElem? (i := 88) rfl)
set_option maxRecDepth 20000 in
theorem hr_cw139 : hr_cw 139 ∈ lw_tbl := hr_tm4 (List.mem_of_getElem? (i := 92) rfl)
set_option maxRecDepth 20000 in
theorem hr_cw140 : hr_cw 140 ∈ lw_tbl := hr_tm4 (List.mem_of_getElem? (i := 96) rfl)
set_option maxRecDepth 20000 in
theorem hr_cw141 : hr_cw 141 ∈ lw_tbl := hr_tm4 (List.mem_of_getElem? (i := 101) rfl)
set_option maxRecDepth 20000 in
theorem hr_cw142 : hr_cw 142 ∈ lw_tbl := hr_tm4 (List.mem_of_getElem? (i := 105) rfl)
set_option maxRecDepth 20000 in
theorem hr_cw143 : hr_cw 143 ∈ lw_tbl := hr_tm4 (List.mem_of_getElem? (i := 109) rfl)
set_option maxRecDepth 20000 in
theorem hr_cw144 : hr_cw 144 ∈ lw_tbl := hr_tm4 (List.mem_of_getElem? (i := 113) rfl)
set_option maxRecDepth 20000 in
theorem hr_cw145 : hr_cw 145 ∈ lw_tbl := hr_tm4 (List.mem_of_getElem? (i := 117) rfl)
set_option maxRecDepth 20000 in
theorem hr_cw146 : hr_cw 146 ∈ lw_tbl := hr_tm4 (List.mem_of_getElem? (i := 121) rfl)
set_option maxRecDepth 20000 in
theorem hr_cw147 : hr_cw 147 ∈ lw_tbl := hr_tm4 (List.mem_of_getElem? (i := 125) rfl)
set_option maxRecDepth 20000 in
theorem hr_cw148 : hr_cw 148 ∈ lw_tbl := hr_tm4 (List.mem_of_getElem? (i := 129) rfl)
set_option maxRecDepth 20000 in
theorem hr_cw149 : hr_cw 149 ∈ lw_tbl := hr_tm4 (List.mem_of_getElem? (i := 133) rfl)
set_option maxRecDepth 20000 in
theorem hr_cw150 : hr_cw 150 ∈ lw_tbl := hr_tm4 (List.mem_of_getElem? (i := 137) rfl)
set_option maxRecDepth 20000 in
theorem hr_cw151 : hr_cw 151 ∈ lw_tbl := hr_tm4 (List.mem_of_getElem? (i := 141) rfl)
set_option maxRecDepth 20000 in
theorem hr_cw152 : hr_cw 152 ∈ lw_tbl := hr_tm4 (List.mem_of_getElem? (i := 145) rfl)
set_option maxRecDepth 20000 in
theorem hr_cw153 : hr_cw 153 ∈ lw_tbl := hr_tm4 (List.mem_of_getElem? (i := 149) rfl)
set_option maxRecDepth 20000 in
theorem hr_cw154 : hr_cw 154 ∈ lw_tbl := hr_tm4 (List.mem_of_getElem? (i := 153) rfl)
set_option maxRecDepth 20000 in
theorem hr_cw155 : hr_cw 155 ∈ lw_tbl := hr_tm4 (List.mem_of_getElem? (i := 157) rfl)
set_option maxRecDepth 20000 in
theorem hr_cw156 : hr_cw 156 ∈ lw_tbl := hr_tm4 (List.mem_of_getElem? (i := 161) rfl)
set_option maxRecDepth 20000 in
theorem hr_cw157 : hr_cw 157 ∈ lw_tbl := hr_tm4 (List.mem_of_getElem? (i := 165) rfl)
set_option maxRecDepth 20000 in
theorem hr_cw158 : hr_cw 158 ∈ lw_tbl := hr_tm4 (List.mem_of_getElem? (i := 168) rfl)
set_option maxRecDepth 20000 in
theorem hr_cw159 : hr_cw 159 ∈ lw_tbl := hr_tm4 (List.mem_of_getElem? (i := 172) rfl)
set_option maxRecDepth 20000 in
theorem hr_cw160 : hr_cw 160 ∈ lw_tbl := hr_tm4 (List.mem_of_getElem? (i := 176) rfl)
set_option maxRecDepth 20000 in
theorem hr_cw161 : hr_cw 161 ∈ lw_tbl := hr_tm4 (List.mem_of_getElem? (i := 180) rfl)
set_option maxRecDepth 20000 in
theorem hr_cw162 : hr_cw 162 ∈ lw_tbl := hr_tm4 (List.mem_of_getElem? (i := 184) rfl)
set_option maxRecDepth 20000 in
theorem hr_cw163 : hr_cw 163 ∈ lw_tbl := hr_tm4 (List.mem_of_getElem? (i := 188) rfl)
set_option maxRecDepth 20000 in
theorem hr_cw164 : hr_cw 164 ∈ lw_tbl := hr_tm4 (List.mem_of_getElem? (i := 191) rfl)
set_option maxRecDepth 20000 in
theorem hr_cw165 : hr_cw 165 ∈ lw_tbl := hr_tm4 (List.mem_of_getElem? (i := 195) rfl)
set_option maxRecDepth 20000 in
theorem hr_cw166 : hr_cw 166 ∈ lw_tbl := hr_tm4 (List.mem_of_getElem? (i := 199) rfl)
set_option maxRecDepth 20000 in
theorem hr_cw167 : hr_cw 167 ∈ lw_tbl := hr_tm4 (List.mem_of_getElem? (i := 203) rfl)
set_option maxRecDepth 20000 in
theorem hr_cw168 : hr_cw 168 ∈ lw_tbl := hr_tm4 (List.mem_of_getElem? (i := 207) rfl)
set_option maxRecDepth 20000 in
theorem hr_cw169 : hr_cw 169 ∈ lw_tbl := hr_tm4 (List.mem_of_getElem? (i := 211) rfl)
set_option maxRecDepth 20000 in
theorem hr_cw170 : hr_cw 170 ∈ lw_tbl := hr_tm4 (List.mem_of_getElem? (i := 214) rfl)
set_option maxRecDepth 20000 in
theorem hr_cw171 : hr_cw 171 ∈ lw_tbl := hr_tm4 (List.mem_of_getElem? (i := 220) rfl)
set_option maxRecDepth 20000 in
theorem hr_cw172 : hr_cw 172 ∈ lw_tbl := hr_tm4 (List.mem_of_getElem? (i := 227) rfl)
set_option maxRecDepth 20000 in
theorem hr_cw173 : hr_cw 173 ∈ lw_tbl := hr_tm4 (List.mem_of_getElem? (i := 231) rfl)
set_option maxRecDepth 20000 in
theorem hr_cw174 : hr_cw 174 ∈ lw_tbl := hr_tm4 (List.mem_of_getElem? (i := 235) rfl)
set_option maxRecDepth 20000 in
theorem hr_cw175 : hr_cw 175 ∈ lw_tbl := hr_tm4 (List.mem_of_getElem? (i := 239) rfl)
set_option maxRecDepth 20000 in
theorem hr_cw176 : hr_cw 176 ∈ lw_tbl := hr_tm5 (List.mem_of_getElem? (i := 3) rfl)
set_option maxRecDepth 20000 in
theorem hr_cw177 : hr_cw 177 ∈ lw_tbl := hr_tm5 (List.mem_of_getElem? (i := 7) rfl)
set_option maxRecDepth 20000 in
theorem hr_cw178 : hr_cw 178 ∈ lw_tbl := hr_tm5 (List.mem_of_getElem? (i := 10) rfl)
set_option maxRecDepth 20000 in
theorem hr_cw179 : hr_cw 179 ∈ lw_tbl := hr_tm5 (List.mem_of_getElem? (i := 14) rfl)
set_option maxRecDepth 20000 in
theorem hr_cw180 : hr_cw 180 ∈ lw_tbl := hr_tm5 (List.mem_of_getElem? (i := 18) rfl)
set_option maxRecDepth 20000 in
theorem hr_cw181 : hr_cw 181 ∈ lw_tbl := hr_tm5 (List.mem_of_getElem? (i := 22) rfl)
set_option maxRecDepth 20000 in
theorem hr_cw182 : hr_cw 182 ∈ lw_tbl := hr_tm5 (List.mem_of_getElem? (i := 26) rfl)
set_option maxRecDepth 20000 in
theorem hr_cw183 : hr_cw 183 ∈ lw_tbl := hr_tm5 (List.mem_of_getElem? (i := 30) rfl)
set_option maxRecDepth 20000 in
theorem hr_cw184 : hr_cw 184 ∈ lw_tbl := hr_tm5 (List.mem_of_getElem? (i := 34) rfl)
set_option maxRecDepth 20000 in
theorem hr_cw185 : hr_cw 185 ∈ lw_tbl := hr_tm5 (List.mem_of_getElem? (i := 39) rfl)
set_option maxRecDepth 20000 in
theorem hr_cw186 : hr_cw 186 ∈ lw_tbl := hr_tm5 (List.mem_of_getElem? (i := 43) rfl)
set_option maxRecDepth 20000 in
theorem hr_cw187 : hr_cw 187 ∈ lw_tbl := hr_tm5 (List.mem_of_getElem? (i := 47) rfl)
set_option maxRecDepth 20000 in
theorem hr_cw188 : hr_cw 188 ∈ lw_tbl := hr_tm5 (List.mem_of_getElem? (i := 51) rfl)
set_option maxRecDepth 20000 in
theorem hr_cw189 : hr_cw 189 ∈ lw_tbl := hr_tm5 (List.mem_of_getElem? (i := 55) rfl)
set_option maxRecDepth 20000 in
theorem hr_cw190 : hr_cw 190 ∈ lw_tbl := hr_tm5 (List.mem_of_getElem? (i := 59) rfl)
set_option maxRecDepth 20000 in
theorem hr_cw191 : hr_cw 191 ∈ lw_tbl := hr_tm5 (List.mem_of_getElem? (i := 63) rfl)
set_option maxRecDepth 20000 in
theorem hr_cw192 : hr_cw 192 ∈ lw_tbl := hr_tm5 (List.mem_of_getElem? (i := 67) rfl)
set_option maxRecDepth 20000 in
theorem hr_cw193 : hr_cw 193 ∈ lw_tbl := hr_tm5 (List.mem_of_getElem? (i := 71) rfl)
theorem hr_cwc0 : ∀ y, y < 20 → hr_cw (y + 0) ∈ lw_tbl := by
  intro y hy
  match y, hy with
  | 0, _ => exact hr_cw0
  | 1, _ => exact hr_cw1
  | 2, _ => exact hr_cw2
  | 3, _ => exact hr_cw3
  | 4, _ => exact hr_cw4
  | 5, _ => exact hr_cw5
  | 6, _ => exact hr_cw6
  | 7, _ => exact hr_cw7
  | 8, _ => exact hr_cw8
  | 9, _ => exact hr_cw9
  | 10, _ => exact hr_cw10
  | 11, _ => exact hr_cw11
  | 12, _ => exact hr_cw12
  | 13, _ => exact hr_cw13
  | 14, _ => exact hr_cw14
  | 15, _ => exact hr_cw15
  | 16, _ => exact hr_cw16
  | 17, _ => exact hr_cw17
  | 18, _ => exact hr_cw18
  | 19, _ => exact hr_cw19
  | n + 20, h => exact absurd h (by omega)
theorem hr_cwc1 : ∀ y, y < 20 → hr_cw (y + 20) ∈ lw_tbl := by
  intro y hy
  match y, hy with
  | 0, _ => exact hr_cw20
  | 1, _ => exact hr_cw21
  | 2, _ => exact hr_cw22
  | 3, _ => exact hr_cw23
  | 4, _ => exact hr_cw24
  | 5, _ => exact hr_cw25
  | 6, _ => exact hr_cw26
  | 7, _ => exact hr_cw27
  | 8, _ => exact hr_cw28
  | 9, _ => exact hr_cw29
  | 10, _ => exact hr_cw30
  | 11, _ => exact hr_cw31
  | 12, _ => exact hr_cw32
  | 13, _ => exact hr_cw33
  | 14, _ => exact hr_cw34
  | 15, _ => exact hr_cw35
  | 16, _ => exact hr_cw36
  | 17, _ => exact hr_cw37
  | 18, _ => exact hr_cw38
  | 19, _ => exact hr_cw39
  | n + 20, h => exact absurd h (by omega)
theorem hr_cwc2 : ∀ y, y < 20 → hr_cw (y + 40) ∈ lw_tbl := by
  intro y hy
  match y, hy with
  | 0, _ => exact hr_cw40
  | 1, _ => exact hr_cw41
  | 2, _ => exact hr_cw42
  | 3, _ => exact hr_cw43
  | 4, _ => exact hr_cw44
  | 5, _ => exact hr_cw45
  | 6, _ => exact hr_cw46
  | 7, _ => exact hr_cw47
  | 8, _ => exact hr_cw48
  | 9, _ => exact hr_cw49
  | 10, _ => exact hr_cw50
  | 11, _ => exact hr_cw51
  | 12, _ => exact hr_cw52
  | 13, _ => exact hr_cw53
  | 14, _ => exact hr_cw54
  | 15, _ => exact hr_cw55
  | 16, _ => exact hr_cw56
  | 17, _ => exact hr_cw57
  | 18, _ => exact hr_cw58
  | 19, _ => exact hr_cw59
  | n + 20, h => exact absurd h (by omega)
theorem hr_cwc3 : ∀ y, y < 20 → hr_cw (y + 60) ∈ lw_tbl := by
  intro y hy
  match y, hy with
  | 0, _ => exact hr_cw60
  | 1, _ => exact hr_cw61
  | 2, _ => exact hr_cw62
  | 3, _ => exact hr_cw63
  | 4, _ => exact hr_cw64
  | 5, _ => exact hr_cw65
  | 6, _ => exact hr_cw66
  | 7, _ => exact hr_cw67
  | 8, _ => exact hr_cw68
  | 9, _ => exact hr_cw69
  | 10, _ => exact hr_cw70
  | 11, _ => exact hr_cw71
  | 12, _ => exact hr_cw72
  | 13, _ => exact hr_cw73
  | 14, _ => exact hr_cw74
  | 15, _ => exact hr_cw75
  | 16, _ => exact hr_cw76
  | 17, _ => exact hr_cw77
  | 18, _ => exact hr_cw78
  | 19, _ => exact hr_cw79
  | n + 20, h => exact absurd h (by omega)
theorem hr_cwc4 : ∀ y, y < 20 → hr_cw (y + 80) ∈ lw_tbl := by
  intro y hy
  match y, hy with
  | 0, _ => exact hr_cw80
  | 1, _ => exact hr_cw81
  | 2, _ => exact hr_cw82
  | 3, _ => exact hr_cw83
  | 4, _ => exact hr_cw84
  | 5, _ => exact hr_cw85
  | 6, _ => exact hr_cw86
  | 7, _ => exact hr_cw87
  | 8, _ => exact hr_cw88
  | 9, _ => exact hr_cw89
  | 10, _ => exact hr_cw90
  | 11, _ => exact hr_cw91
  | 12, _ => exact hr_cw92
  | 13, _ => exact hr_cw93
  | 14, _ => exact hr_cw94
  | 15, _ => exact hr_cw95
  | 16, _ => exact hr_cw96
  | 17, _ => exact hr_cw97
  | 18, _ => exact hr_cw98
  | 19, _ => exact hr_cw99
  | n + 20, h => exact absurd h (by omega)
theorem hr_cwc5 : ∀ y, y < 20 → hr_cw (y + 100) ∈ lw_tbl := by
  intro y hy
  match y, hy with
  | 0, _ => exact hr_cw100
  | 1, _ => exact hr_cw101
  | 2, _ => exact hr_cw102
  | 3, _ => exact hr_cw103
  | 4, _ => exact hr_cw104
  | 5, _ => exact hr_cw105
  | 6, _ => exact hr_cw106
  | 7, _ => exact hr_cw107
  | 8, _ => exact hr_cw108
  | 9, _ => exact hr_cw109
  | 10, _ => exact hr_cw110
  | 11, _ => exact hr_cw111
  | 12, _ => exact hr_cw112
  | 13, _ => exact hr_cw113
  | 14, _ => exact hr_cw114
  | 15, _ => exact hr_cw115
  | 16, _ => exact hr_cw116
  | 17, _ => exact hr_cw117
  | 18, _ => exact hr_cw118
  | 19, _ => exact hr_cw119
  | n + 20, h => exact absurd h (by omega)
theorem hr_cwc6 : ∀ y, y < 20 → hr_cw (y + 120) ∈ lw_tbl := by
  intro y hy
  match y, hy with
  | 0, _ => exact hr_cw120
  | 1, _ => exact hr_cw121
  | 2, _ => exact hr_cw122
  | 3, _ => exact hr_cw123
  | 4, _ => exact hr_cw124
  | 5, _ => exact hr_cw125
  | 6, _ => exact hr_cw126
  | 7, _ => exact hr_cw127
  | 8, _ => exact hr_cw128
  | 9, _ => exact hr_cw129
  | 10, _ => exact hr_cw130
  | 11, _ => exact hr_cw131
  | 12, _ => exact hr_cw132
  | 13, _ => exact hr_cw133
  | 14, _ => exact hr_cw134
  | 15, _ => exact hr_cw135
  | 16, _ => exact hr_cw136
  | 17, _ => exact hr_cw137
  | 18, _ => exact hr_cw138
  | 19, _ => exact hr_cw139
  | n + 20, h => exact absurd h (by omega)
theorem hr_cwc7 : ∀ y, y < 20 → hr_cw (y + 140) ∈ lw_tbl := by
  intro y hy
  match y, hy with
  | 0, _ => exact hr_cw140
  | 1, _ => exact hr_cw141
  | 2, _ => exact hr_cw142
  | 3, _ => exact hr_cw143
  | 4, _ => exact hr_cw144
  | 5, _ => exact hr_cw145
  | 6, _ => exact hr_cw146
  | 7, _ => exact hr_cw147
  | 8, _ => exact hr_cw148
  | 9, _ => exact hr_cw149
  | 10, _ => exact hr_cw150
  | 11, _ => exact hr_cw151
  | 12, _ => exact hr_cw152
  | 13, _ => exact hr_cw153
  | 14, _ => exact hr_cw154
  | 15, _ => exact hr_cw155
  | 16, _ => exact hr_cw156
  | 17, _ => exact hr_cw157
  | 18, _ => exact hr_cw158
  | 19, _ => exact hr_cw159
  | n + 20, h => exact absurd h (by omega)
theorem hr_cwc8 : ∀ y, y < 20 → hr_cw (y + 160) ∈ lw_tbl := by
  intro y hy
  match y, hy with
  | 0, _ => exact hr_cw160
  | 1, _ => exact hr_cw161
  | 2, _ => exact hr_cw162
  | 3, _ => exact hr_cw163
  | 4, _ => exact hr_cw164
  | 5, _ => exact hr_cw165
  | 6, _ => exact hr_cw166
  | 7, _ => exact hr_cw167
  | 8, _ => exact hr_cw168
  | 9, _ => exact hr_cw169
  | 10, _ => exact hr_cw170
  | 11, _ => exact hr_cw171
  | 12, _ => exact hr_cw172
  | 13, _ => exact hr_cw173
  | 14, _ => exact hr_cw174
  | 15, _ => exact hr_cw175
  | 16, _ => exact hr_cw176
  | 17, _ => exact hr_cw177
  | 18, _ => exact hr_cw178
  | 19, _ => exact hr_cw179
  | n + 20, h => exact absurd h (by omega)
theorem hr_cwc9 : ∀ y, y < 14 → hr_cw (y + 180) ∈ lw_tbl := by
  intro y hy
  match y, hy with
  | 0, _ => exact hr_cw180
  | 1, _ => exact hr_cw181
  | 2, _ => exact hr_cw182
  | 3, _ => exact hr_cw183
  | 4, _ => exact hr_cw184
  | 5, _ => exact hr_cw185
  | 6, _ => exact hr_cw186
  | 7, _ => exact hr_cw187
  | 8, _ => exact hr_cw188
  | 9, _ => exact hr_cw189
  | 10, _ => exact hr_cw190
  | 11, _ => exact hr_cw191
  | 12, _ => exact hr_cw192
  | 13, _ => exact hr_cw193
  | n + 14, h => exact absurd h (by omega)
theorem hr_k_w : ∀ y, y < hr_nM → hr_cw y ∈ hr_TT := by
  intro y hy
  have hy : y < 194 := hy
  refine List.mem_filter.mpr ⟨?_, hr_gw y⟩
  by_cases h0 : y < 20
  · have := hr_cwc0 (y - 0) (by omega); rwa [show y - 0 + 0 = y by omega] at this
  by_cases h1 : y < 40
  · have := hr_cwc1 (y - 20) (by omega); rwa [show y - 20 + 20 = y by omega] at this
  by_cases h2 : y < 60
  · have := hr_cwc2 (y - 40) (by omega); rwa [show y - 40 + 40 = y by omega] at this
  by_cases h3 : y < 80
  · have := hr_cwc3 (y - 60) (by omega); rwa [show y - 60 + 60 = y by omega] at this
  by_cases h4 : y < 100
  · have := hr_cwc4 (y - 80) (by omega); rwa [show y - 80 + 80 = y by omega] at this
  by_cases h5 : y < 120
  · have := hr_cwc5 (y - 100) (by omega); rwa [show y - 100 + 100 = y by omega] at this
  by_cases h6 : y < 140
  · have := hr_cwc6 (y - 120) (by omega); rwa [show y - 120 + 120 = y by omega] at this
  by_cases h7 : y < 160
  · have := hr_cwc7 (y - 140) (by omega); rwa [show y - 140 + 140 = y by omega] at this
  by_cases h8 : y < 180
  · have := hr_cwc8 (y - 160) (by omega); rwa [show y - 160 + 160 = y by omega] at this
  have := hr_cwc9 (y - 180) (by omega); rwa [show y - 180 + 180 = y by omega] at this
