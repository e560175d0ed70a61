theorem hr_find {α : Type} {l : List α} {f : α → Bool} {β : Type} {g : α → β} {v : β} (h : (l.find? f).map g = some v) : ∃ e, e ∈ l ∧ f e = true ∧ g e = v := by
  cases hf : l.find? f with
  | none => rw [hf] at h; cases h
  | some e =>
    rw [hf] at h
    exact ⟨e, List.mem_of_find?_eq_some hf, List.find?_some hf, Option.some.inj h⟩
theorem hr_getD {α : Type} {l : List α} {d : α} {i : Nat} (h : l.length ≤ i) : l.getD i d = d := by simp [List.getD, List.getElem?_eq_none h]
theorem hr_n57 {a : Nat} (h : a < 57) : ¬ a = 69 := by omega
theorem hr_n70 {a : Nat} (h : 70 ≤ a) : ¬ a = 69 := by omega
theorem hr_e70 {a : Nat} (h : 70 ≤ a) : 70 + (a - 70) = a := by omega
theorem hr_f70 {a : Nat} (h : 70 ≤ a) : 90 + (a - 70) = a + 20 := by omega
theorem hr_e90 {a : Nat} (h : 90 ≤ a) : 90 + (a - 90) = a := by omega
theorem hr_n57' {a : Nat} (h : a < 57) : 57 ≠ a := by omega
theorem hr_ci_word {o i : Nat} {v : Int32} (h : hr_ci o i = some v) : Cond.constant (hr_os o) i v ∈ hr_TT := by
  obtain ⟨e, h1, h2, rfl⟩ := hr_find h
  simp only [Bool.and_eq_true, beq_iff_eq] at h2
  obtain ⟨rfl, rfl⟩ := h2
  exact hr_tt _ (hr_k_c e h1) rfl
theorem hr_cj_word {o i : Nat} {v : Int64} (h : hr_cj o i = some v) : Cond.constantLong (hr_os o) i v ∈ hr_TT := by
  obtain ⟨e, h1, h2, rfl⟩ := hr_find h
  simp only [Bool.and_eq_true, beq_iff_eq] at h2
  obtain ⟨rfl, rfl⟩ := h2
  exact hr_tt _ (hr_k_l e h1) rfl
theorem hr_fl_word {o i c k : Nat} (ho : ¬ o = 10) (h : hr_fl o i = some (c, k)) : c < 7 ∧ k < (hr_cq c).2.2 ∧ Cond.fieldLink (hr_os o) i ((hr_cq c).2.1 k).1 ((hr_cq c).2.1 k).2.1 ((hr_cq c).2.1 k).2.2.1 ∈ hr_TT := by
  unfold hr_fl at h
  rw [if_neg ho] at h
  obtain ⟨e, h1, h2, h3⟩ := hr_find h
  simp only [Bool.and_eq_true, beq_iff_eq] at h2
  obtain ⟨rfl, rfl⟩ := h2
  have h4 := List.all_eq_true.mp hr_k_f e h1
  simp only [hr_okf, Bool.and_eq_true, decide_eq_true_eq] at h4
  obtain ⟨⟨h5, h6⟩, h7⟩ := h4
  obtain ⟨e1, e2⟩ := Prod.mk.inj h3
  subst e1; subst e2
  exact ⟨h5, h6, hr_tt _ h7 rfl⟩
theorem hr_oc_lt {a : Nat} (h : hr_oc a < 7) : a < 57 ∧ hr_ak a = 0 := by
  by_cases h1 : a < 57
  · have : ∀ a, a < 57 → hr_oc a < 7 → hr_ak a = 0 := by decide +kernel
    exact ⟨h1, this a h1 h⟩
  · exfalso
    unfold hr_oc at h
    split at h
    · omega
    · rw [hr_getD (by show 45 ≤ a; omega)] at h
      omega
theorem hr_oc_7 {a : Nat} (h : hr_oc a = 7) : 70 ≤ a ∧ a < 83 := by
  unfold hr_oc at h
  split at h
  · assumption
  · exfalso
    by_cases h1 : a < 45
    · have : ∀ a, a < 45 → ¬ hr_ocl.getD a 99 = 7 := by decide +kernel
      exact this a h1 h
    · rw [hr_getD (by show 45 ≤ a; omega)] at h
      omega
theorem hr_ak_lt {a : Nat} (h : ¬ hr_ak a = 0) : a < 57 ∨ a = 57 ∧ hr_ak a = 1 ∨ (a = 60 ∨ a = 61 ∨ a = 62) ∧ hr_ak a = 1 ∨ (90 ≤ a ∧ a < 103) ∧ hr_ak a = 3 := by
  by_cases h1 : a < 63
  · have : ∀ a, a < 63 → ¬ hr_ak a = 0 → a < 57 ∨ a = 57 ∧ hr_ak a = 1 ∨ (a = 60 ∨ a = 61 ∨ a = 62) ∧ hr_ak a = 1 ∨ (90 ≤ a ∧ a < 103) ∧ hr_ak a = 3 := by decide +kernel
    exact this a h1 h
  · by_cases h2 : 90 ≤ a ∧ a < 103
    · refine Or.inr (Or.inr (Or.inr ⟨h2, ?_⟩))
      unfold hr_ak
      rw [if_pos h2]
    · exfalso
      apply h
      unfold hr_ak
      rw [if_neg h2]
      exact hr_getD (by show 63 ≤ a; omega)
theorem hr_oc_a {ad : Nat → Nat} {sv : Value} {ci : Nat → ClassId} {h : hr_H} {a c : Nat} (hc : c < 7) (ha : hr_oc a = c) : a < 57 ∧ hr_ce ad sv ci h a = .inr (c, hr_fs ad sv h a) := by
  subst ha
  obtain ⟨h1, h2⟩ := hr_oc_lt hc
  exact ⟨h1, by unfold hr_ce; rw [if_pos h2]⟩
theorem hr_ce_arr {ad : Nat → Nat} {sv : Value} {ci : Nat → ClassId} {h : hr_H} {a : Nat} (ha : ¬ hr_ak a = 0) : hr_ce ad sv ci h a = .inl (ci (hr_ak a), hr_all.getD a 0, hr_ac ad h a) := if_neg ha
theorem hr_al_lt {h : hr_H} {a : Nat} (ha : a < 57) : hr_al h a = hr_all.getD a 0 := by
  unfold hr_al
  rw [if_neg (by omega), if_neg (by omega)]
theorem hr_ce_congr {ad : Nat → Nat} {sv : Value} {ci : Nat → ClassId} {h h' : hr_H} {q : Nat} (h1 : ∀ j, h'.1 q j = h.1 q j) (h2 : ∀ j, h'.2 q j = h.2 q j) : hr_ce ad sv ci h' q = hr_ce ad sv ci h q := by
  have e1 : h'.1 q = h.1 q := funext h1
  have e2 : h'.2 q = h.2 q := funext h2
  unfold hr_ce hr_fs hr_ac hr_gf
  simp only [e1, e2]
theorem up2_ne {α : Type} {f : Nat → Nat → α} {a k b j : Nat} {x : α} (h : b ≠ a) : up2 f a k x b j = f b j := if_neg (fun z => h z.1)
theorem up2_row {α : Type} {f : Nat → Nat → α} {a k j : Nat} {x : α} : up2 f a k x a j = if j = k then x else f a j := by
  unfold up2
  by_cases e : j = k
  · rw [if_pos ⟨rfl, e⟩, if_pos e]
  · rw [if_neg (fun z => e z.2), if_neg e]
theorem hr_R.wD {ad : Nat → Nat} {sv : Value} {ci : Nat → ClassId} {D : va_G} {L : Nat} {xs : Nat → Int32} {s : State} (h : hr_C ad sv ci D L xs s) (k : hr_H) : va_D (hr_A ad) (hr_w ad sv ci k) := by
  refine ⟨fun i j p q hi hj e => ?_, fun i q hq => ?_⟩
  · obtain ⟨a1, rfl⟩ := hr_w_lt hi
    obtain ⟨a2, rfl⟩ := hr_w_lt hj
    exact h.2.1 i j a1 a2 e
  · obtain ⟨a1, rfl⟩ := hr_w_lt hq
    exact ⟨i, a1, rfl⟩
def hr_tyq (c : Nat) : Nat → FieldType := ([tyX0, tyX1, tyX2, tyX3, tyX4, tyX5, tyX6] : List (Nat → FieldType)).getD c tyX0
theorem hr_k_ty : ∀ c, c < 7 → ∀ k, k < (hr_cq c).2.2 → parseFieldDescriptor ((hr_cq c).2.1 k).2.2.1 = some (hr_tyq c k) := by decide +kernel
theorem hr_k_nm : ∀ c, c < 7 → ∀ a, a < (hr_cq c).2.2 → ∀ b, b < (hr_cq c).2.2 → a ≠ b → ((hr_cq c).2.1 a).2.1 ≠ ((hr_cq c).2.1 b).2.1 := by decide +kernel
theorem hr_k_ft : ∀ c, c < 7 → ∀ k, k < (hr_cq c).2.2 → (hr_ft c k = 0 → ((hr_cq c).2.1 k).2.2.2 = false ∧ hr_tyq c k = .int) ∧ (hr_ft c k = 1 → ((hr_cq c).2.1 k).2.2.2 = false ∧ hr_tyq c k = .long) ∧ (hr_ft c k = 3 → ((hr_cq c).2.1 k).2.2.2 = false ∧ hr_tyq c k = .boolean) := by decide +kernel
theorem hr_fs_at {ad : Nat → Nat} {sv : Value} {h : hr_H} {a k : Nat} (hk : k < (hr_cq (hr_oc a)).2.2) : (hr_fs ad sv h a)[k]? = some (hr_cv ad sv (hr_gf h a (hr_oc a) k)) := by
  simp [hr_fs, hk]
theorem hr_fs_len {ad : Nat → Nat} {sv : Value} {h : hr_H} {a : Nat} : (hr_fs ad sv h a).length = (hr_cq (hr_oc a)).2.2 := by simp [hr_fs]
theorem hr_fs_set {ad : Nat → Nat} {sv : Value} {h h' : hr_H} {a k : Nat} {v : Value} (hk : k < (hr_cq (hr_oc a)).2.2) (h1 : hr_cv ad sv (hr_gf h' a (hr_oc a) k) = v) (h2 : ∀ j, j ≠ k → hr_gf h' a (hr_oc a) j = hr_gf h a (hr_oc a) j) : hr_fs ad sv h' a = (hr_fs ad sv h a).set k v := by
  apply List.ext_getElem?
  intro j
  rw [List.getElem?_set]
  by_cases hj : j < (hr_cq (hr_oc a)).2.2
  · rw [hr_fs_at hj]
    by_cases e : k = j
    · subst e
      rw [if_pos rfl, if_pos (by rw [hr_fs_len]; exact hk), h1]
    · rw [if_neg e, hr_fs_at hj, h2 j (fun z => e z.symm)]
  · have g1 : (hr_fs ad sv h' a)[j]? = none := by rw [List.getElem?_eq_none_iff, hr_fs_len]; omega
    have g2 : (hr_fs ad sv h a)[j]? = none := by rw [List.getElem?_eq_none_iff, hr_fs_len]; omega
    rw [g1, g2]
    split
    · split
      · rw [hr_fs_len] at *; omega
      · rfl
    · rfl
theorem hr_in_iff {i : Int32} {n : Nat} (h : hr_in i n = true) : vp_in i n := by
  unfold hr_in at h
  simp only [Bool.and_eq_true, decide_eq_true_eq] at h
  intro z
  rcases z with z | z
  · exact h.1 z
  · omega
section
variable {p : Program} {l : Launch} {e : Env} {R : Room} {s : State} {m : MethodId} {args : Array Value} {below : List Frame} {meth : Method} {c : Code} {cells slots : Nat} {Q : State → Prop} {ad : Nat → Nat} {sv : Value} {ci : Nat → ClassId} {D : va_G} {L : Nat} {xs : Nat → Int32}
variable {y pc : Nat} {ls : hr_L} {st : List Value} {h : hr_H} {s' : hr_S}
theorem so_ifnonnull {off : Int} (B : hr_B p R s m args c cells slots ad sv ci D L xs y) (hd : decode (hr_cd y) pc = .ok (.ifnonnull off, 3)) (hx : hr_x y (.ifnonnull off) pc ls st h = some (.inl s')) (k : hr_W p l e R s m args below meth c cells slots Q ad sv ci D L xs (hr_mx y) s') : hr_W p l e R s m args below meth c cells slots Q ad sv ci D L xs (hr_mx y) (pc, ls, st, h) := by
  simp only [hr_x] at hx
  split at hx
  · rename_i a r
    split at hx
    · cases hx
    · rename_i ha
      obtain ⟨t, ht, q⟩ := hr_jp_eq hx
      subst q
      intro H locs lsA hR hS hL
      show W p l e R s m args below meth c H locs cells slots Q (F0 m pc lsA (hr_tv ad sv a :: r.map (hr_cv ad sv)))
      rw [hr_tv_ne ha]
      exact lv_ifnonnull B.1 B.2.1 hd ht (k H locs lsA hR hS hL)
  · have q := hr_go_eq hx
    subst q
    intro H locs lsA hR hS hL
    exact lv_ifnonnullN B.1 B.2.1 hd (k H locs lsA hR hS hL)
  · cases hx
theorem so_tableswitch {d lo hi : Int} {offs : Array Int} {len : Nat} (B : hr_B p R s m args c cells slots ad sv ci D L xs y) (hd : decode (hr_cd y) pc = .ok (.tableswitch d lo hi offs, len)) (hx : hr_x y (.tableswitch d lo hi offs) pc ls st h = some (.inl s')) (k : hr_W p l e R s m args below meth c cells slots Q ad sv ci D L xs (hr_mx y) s') : hr_W p l e R s m args below meth c cells slots Q ad sv ci D L xs (hr_mx y) (pc, ls, st, h) := by
  simp only [hr_x] at hx
  split at hx
  · split at hx
    · rename_i g
      obtain ⟨t, ht, q⟩ := hr_jp_eq hx
      subst q
      intro H locs lsA hR hS hL
      exact lv_tableOut B.1 B.2.1 hd g ht (k H locs lsA hR hS hL)
    · rename_i g
      split at hx
      · rename_i off ho
        obtain ⟨t, ht, q⟩ := hr_jp_eq hx
        subst q
        intro H locs lsA hR hS hL
        exact lv_tableIn B.1 B.2.1 hd (fun z => g (Or.inl z)) (fun z => g (Or.inr z)) ho ht (k H locs lsA hR hS hL)
      · cases hx
  · cases hx
theorem so_lookupswitch {d : Int} {ps : Array (Int × Int)} {len : Nat} (B : hr_B p R s m args c cells slots ad sv ci D L xs y) (hd : decode (hr_cd y) pc = .ok (.lookupswitch d ps, len)) (hx : hr_x y (.lookupswitch d ps) pc ls st h = some (.inl s')) (k : hr_W p l e R s m args below meth c cells slots Q ad sv ci D L xs (hr_mx y) s') : hr_W p l e R s m args below meth c cells slots Q ad sv ci D L xs (hr_mx y) (pc, ls, st, h) := by
  simp only [hr_x] at hx
  split at hx
  · split at hx
    · rename_i g
      obtain ⟨t, ht, q⟩ := hr_jp_eq hx
      subst q
      intro H locs lsA hR hS hL
      exact lv_lookup B.1 B.2.1 hd g rfl ht (k H locs lsA hR hS hL)
    · cases hx
  · cases hx
theorem so_ldc {i : Nat} (B : hr_B p R s m args c cells slots ad sv ci D L xs y) (hd : decode (hr_cd y) pc = .ok (.ldc i, 2)) (hx : hr_x y (.ldc i) pc ls st h = some (.inl s')) (k : hr_W p l e R s m args below meth c cells slots Q ad sv ci D L xs (hr_mx y) s') : hr_W p l e R s m args below meth c cells slots Q ad sv ci D L xs (hr_mx y) (pc, ls, st, h) := by
  simp only [hr_x] at hx
  split at hx
  · rename_i v hv
    have q := hr_go_eq hx
    subst q
    intro H locs lsA hR hS hL
    exact lv_ldc B.1 B.2.1 B.2.2.2.1 (B.2.2.2.2.1 _ (hr_ci_word hv)) hd (k H locs lsA hR hS hL)
  · split at hx
    · rename_i n hn
      have q := hr_go_eq hx
      subst q
      intro H locs lsA hR hS hL
      unfold hr_cs at hn
      split at hn
      · rename_i ho
        have hown := B.2.2.2.1
        rw [ho] at hown
        obtain ⟨h1, h2, h3⟩ := List.findIdx?_eq_some_iff_getElem.mp hn
        have h4 : hr_ls[n]? = some hr_ls[n] := List.getElem?_eq_getElem h1
        have h5 : (hr_ls[n]).1 = i := by simpa using h2
        have hn13 : n < 13 := h1
        have hZ := B.2.2.2.2.2.1.2.2.2.2.2.2.2.2.2.1 n _ h4
        rw [h5] at hZ
        have kk := k H locs lsA hR hS hL
        rw [show (((.ref (70 + n) : Value) :: st).map (hr_cv ad sv)) = hr_tv ad sv (70 + n) :: st.map (hr_cv ad sv) from rfl, hr_tv_ne (show ¬ 70 + n = 69 by omega)] at kk
        exact va_ldcS B.1 B.2.1 (own := "HornRocks$Tape") hown hZ hd kk
      · cases hn
    · cases hx
theorem so_ldc_w {i : Nat} (B : hr_B p R s m args c cells slots ad sv ci D L xs y) (hd : decode (hr_cd y) pc = .ok (.ldc_w i, 3)) (hx : hr_x y (.ldc_w i) pc ls st h = some (.inl s')) (k : hr_W p l e R s m args below meth c cells slots Q ad sv ci D L xs (hr_mx y) s') : hr_W p l e R s m args below meth c cells slots Q ad sv ci D L xs (hr_mx y) (pc, ls, st, h) := by
  simp only [hr_x] at hx
  split at hx
  · rename_i v hv
    have q := hr_go_eq hx
    subst q
    intro H locs lsA hR hS hL
    exact lv_ldcw B.1 B.2.1 B.2.2.2.1 (B.2.2.2.2.1 _ (hr_ci_word hv)) hd (k H locs lsA hR hS hL)
  · cases hx
theorem so_ldc2_w {i : Nat} (B : hr_B p R s m args c cells slots ad sv ci D L xs y) (hd : decode (hr_cd y) pc = .ok (.ldc2_w i, 3)) (hx : hr_x y (.ldc2_w i) pc ls st h = some (.inl s')) (k : hr_W p l e R s m args below meth c cells slots Q ad sv ci D L xs (hr_mx y) s') : hr_W p l e R s m args below meth c cells slots Q ad sv ci D L xs (hr_mx y) (pc, ls, st, h) := by
  simp only [hr_x] at hx
  split at hx
  · rename_i v hv
    have q := hr_go_eq hx
    subst q
    intro H locs lsA hR hS hL
    exact lv_ldc2 B.1 B.2.1 B.2.2.2.1 (B.2.2.2.2.1 _ (hr_cj_word hv)) hd (k H locs lsA hR hS hL)
  · cases hx
theorem hr_gsw0 : Cond.fieldLink "HornRocks" 51 "HornRocks" "SHIP_MOST" "[I" ∈ hr_TT := hr_tt 228 (by decide +kernel) rfl
theorem hr_gsw1 : Cond.fieldLink "HornRocks" 137 "HornRocks" "ROCK_MOST" "[I" ∈ hr_TT := hr_tt 320 (by decide +kernel) rfl
theorem hr_gsw3 : Cond.fieldLink "java/lang/String" 38 "java/lang/String" "COMPACT_STRINGS" "Z" ∈ hr_TT := hr_tt 535 (by decide +kernel) rfl
theorem hr_gsw4 : Cond.fieldLink "java/lang/String" 1053 "jdk/internal/util/Preconditions" "SIOOBE_FORMATTER" "Ljava/util/function/BiFunction;" ∈ hr_TT := hr_tt 551 (by decide +kernel) rfl
theorem so_getstatic {i : Nat} (B : hr_B p R s m args c cells slots ad sv ci D L xs y) (hd : decode (hr_cd y) pc = .ok (.getstatic i, 3)) (hx : hr_x y (.getstatic i) pc ls st h = some (.inl s')) (k : hr_W p l e R s m args below meth c cells slots Q ad sv ci D L xs (hr_mx y) s') : hr_W p l e R s m args below meth c cells slots Q ad sv ci D L xs (hr_mx y) (pc, ls, st, h) := by
  simp only [hr_x] at hx
  split at hx
  · rename_i v hv
    have q := hr_go_eq hx
    subst q
    intro H locs lsA hR hS hL
    have HC := B.2.2.2.2.2.1
    have hown := B.2.2.2.1
    have kk := k H locs lsA hR hS hL
    unfold hr_gs at hv
    by_cases g0 : hr_ow y = 5 ∧ i = 51
    · rw [if_pos g0] at hv
      obtain ⟨u1, rfl⟩ := g0
      rw [u1] at hown
      cases hv
      exact va_gets B.1 B.2.1 (own := "HornRocks") HC.2.2.2.1.1 hS hown (B.2.2.2.2.1 _ hr_gsw0) (fun _ z => z) hd kk
    rw [if_neg g0] at hv
    by_cases g1 : hr_ow y = 5 ∧ i = 137
    · rw [if_pos g1] at hv
      obtain ⟨u1, rfl⟩ := g1
      rw [u1] at hown
      cases hv
      exact va_gets B.1 B.2.1 (own := "HornRocks") HC.2.2.2.2.1.1 hS hown (B.2.2.2.2.1 _ hr_gsw1) (fun _ z => z) hd kk
    rw [if_neg g1] at hv
    by_cases g2 : hr_ow y = 1 ∧ i = 27
    · rw [if_pos g2] at hv
      obtain ⟨u1, rfl⟩ := g2
      rw [u1] at hown
      cases hv
      exact va_getsN B.1 B.2.1 (own := "HornRocks$Rock") (ref := "HornRocks") (host := "HornRocks") HC.2.2.2.2.2.1.1 hS hown (va_Nw.use rfl HC.2.2.2.2.2.2.2.2.2.2.2.1) (fun _ z => z) hd kk
    rw [if_neg g2] at hv
    by_cases g3 : hr_ow y = 10 ∧ i = 38
    · rw [if_pos g3] at hv
      obtain ⟨u1, rfl⟩ := g3
      rw [u1] at hown
      cases hv
      exact va_gets B.1 B.2.1 (own := "java/lang/String") HC.2.2.2.2.2.2.1 hS hown (B.2.2.2.2.1 _ hr_gsw3) (fun _ z => z) hd kk
    rw [if_neg g3] at hv
    by_cases g4 : hr_ow y = 10 ∧ i = 1053
    · rw [if_pos g4] at hv
      obtain ⟨u1, rfl⟩ := g4
      rw [u1] at hown
      cases hv
      exact va_gets B.1 B.2.1 (own := "java/lang/String") HC.2.2.2.2.2.2.2.1.1 hS hown (B.2.2.2.2.1 _ hr_gsw4) (fun _ z => z) hd kk
    rw [if_neg g4] at hv
    cases hv
  · cases hx
theorem hr_sfw0 : Cond.fieldLink "java/lang/String" 9 "java/lang/String" "value" "[B" ∈ hr_TT := hr_tt 1073 (by decide +kernel) rfl
theorem hr_sfw1 : Cond.fieldLink "java/lang/String" 15 "java/lang/String" "coder" "B" ∈ hr_TT := hr_tt 1074 (by decide +kernel) rfl
theorem so_getfield {i : Nat} (B : hr_B p R s m args c cells slots ad sv ci D L xs y) (hd : decode (hr_cd y) pc = .ok (.getfield i, 3)) (hx : hr_x y (.getfield i) pc ls st h = some (.inl s')) (k : hr_W p l e R s m args below meth c cells slots Q ad sv ci D L xs (hr_mx y) s') : hr_W p l e R s m args below meth c cells slots Q ad sv ci D L xs (hr_mx y) (pc, ls, st, h) := by
  simp only [hr_x] at hx
  split at hx
  · rename_i a r
    split at hx
    · rename_i cc kk hf
      split at hx
      · rename_i ha
        have q := hr_go_eq hx
        subst q
        intro H locs lsA hR hS hL
        have HC := B.2.2.2.2.2.1
        have hown := B.2.2.2.1
        have K := k H locs lsA hR hS hL
        by_cases ho : hr_ow y = 10
        · rw [ho] at hown hf
          have hs : ∀ i c q, hr_fl 10 i = some (c, q) → (i = 9 ∧ c = 7 ∧ q = 0) ∨ (i = 15 ∧ c = 7 ∧ q = 1) := by
            intro i c q z
            unfold hr_fl at z
            rw [if_pos rfl] at z
            split at z
            · cases z; exact Or.inl ⟨by assumption, rfl, rfl⟩
            · split at z
              · cases z; exact Or.inr ⟨by assumption, rfl, rfl⟩
              · cases z
          show W p l e R s m args below meth c H locs cells slots Q (F0 m pc lsA (hr_tv ad sv a :: r.map (hr_cv ad sv)))
          rcases hs _ _ _ hf with ⟨rfl, rfl, rfl⟩ | ⟨rfl, rfl, rfl⟩
          · obtain ⟨q1, q2⟩ := hr_oc_7 ha
            rw [hr_tv_ne (by omega)]
            have hE := (HC.2.2.2.2.2.2.2.2.1.1 (a - 70) (by omega)).2.2.1
            dsimp only at hE
            rw [hr_e70 q1, hr_f70 q1] at hE
            have e1 : hr_gf h a 7 0 = .ref (a + 20) := by
              unfold hr_gf hr_ro
              rw [if_neg (by decide), if_pos (by decide), if_pos q1]
            have e2 : hr_cv ad sv (.ref (a + 20)) = .ref (ad (a + 20)) := hr_tv_ne (by omega)
            rw [show (((hr_gf h a 7 0) :: r).map (hr_cv ad sv)) = hr_cv ad sv (hr_gf h a 7 0) :: r.map (hr_cv ad sv) from rfl, e1, e2] at K
            exact vk_getf B.1 B.2.1 (own := "java/lang/String") (ref := "java/lang/String") hE hS hown (B.2.2.2.2.1 _ hr_sfw0) (fun _ z => z) hd K
          · obtain ⟨q1, q2⟩ := hr_oc_7 ha
            rw [hr_tv_ne (by omega)]
            have hE := (HC.2.2.2.2.2.2.2.2.1.1 (a - 70) (by omega)).2.1
            dsimp only at hE
            rw [hr_e70 q1] at hE
            exact vk_getf B.1 B.2.1 (own := "java/lang/String") (ref := "java/lang/String") hE hS hown (B.2.2.2.2.1 _ hr_sfw1) (fun _ z => z) hd K
        · obtain ⟨h7, hk, hw⟩ := hr_fl_word ho hf
          obtain ⟨a57, hce⟩ := hr_oc_a (ad := ad) (sv := sv) (ci := ci) (h := h) h7 ha
          show W p l e R s m args below meth c H locs cells slots Q (F0 m pc lsA (hr_tv ad sv a :: r.map (hr_cv ad sv)))
          rw [hr_tv_ne (by omega)]
          have hat := hr_w_at (ad := ad) (sv := sv) (ci := ci) (h := h) a57
          rw [hce] at hat
          refine va_get (C := (hr_cq cc).1) (T := (hr_cq cc).2.1) (N := (hr_cq cc).2.2) B.1 B.2.1 B.2.2.2.2.1 (hr_k_u cc h7) hown HC.1 hR.1 a hat (hr_cq_at cc h7) kk hk (B.2.2.2.2.1 _ hw) (fun _ z => z) ?_ hd K
          subst ha
          exact hr_fs_at hk
      · cases hx
    · cases hx
  · cases hx
theorem so_putfield {i : Nat} (B : hr_B p R s m args c cells slots ad sv ci D L xs y) (hd : decode (hr_cd y) pc = .ok (.putfield i, 3)) (hx : hr_x y (.putfield i) pc ls st h = some (.inl s')) (k : hr_W p l e R s m args below meth c cells slots Q ad sv ci D L xs (hr_mx y) s') : hr_W p l e R s m args below meth c cells slots Q ad sv ci D L xs (hr_mx y) (pc, ls, st, h) := by
  simp only [hr_x] at hx
  split at hx
  · rename_i x a r
    split at hx
    · rename_i cc kk hf
      split at hx
      · rename_i hc
        obtain ⟨ha, ht⟩ := hc
        have q := hr_go_eq hx
        subst q
        intro H locs lsA hR hS hL
        have HC := B.2.2.2.2.2.1
        have hown := B.2.2.2.1
        by_cases ho : hr_ow y = 10
        · exfalso
          rw [ho] at hf
          unfold hr_fl at hf
          rw [if_pos rfl] at hf
          split at hf
          · cases hf; rcases ht with z | ⟨z, -⟩ <;> revert z <;> decide
          · split at hf
            · cases hf; rcases ht with z | ⟨z, -⟩ <;> revert z <;> decide
            · cases hf
        · obtain ⟨h7, hk, hw⟩ := hr_fl_word ho hf
          obtain ⟨a57, hce⟩ := hr_oc_a (ad := ad) (sv := sv) (ci := ci) (h := h) h7 ha
          show W p l e R s m args below meth c H locs cells slots Q (F0 m pc lsA (.int x :: hr_tv ad sv a :: r.map (hr_cv ad sv)))
          rw [hr_tv_ne (by omega)]
          have hat := hr_w_at (ad := ad) (sv := sv) (ci := ci) (h := h) a57
          rw [hce] at hat
          subst ha
          have hT : ∃ ty, hr_tyq (hr_oc a) kk = ty ∧ ((hr_cq (hr_oc a)).2.1 kk).2.2.2 = false ∧ narrow ty (.int x) = .int x ∧ fits ty (.int x) = true := by
            rcases ht with z | ⟨z, z2⟩
            · obtain ⟨u1, u2⟩ := (hr_k_ft _ h7 kk hk).1 z
              exact ⟨.int, u2, u1, rfl, rfl⟩
            · obtain ⟨u1, u2⟩ := (hr_k_ft _ h7 kk hk).2.2 z
              refine ⟨.boolean, u2, u1, ?_, ?_⟩
              · rcases z2 with rfl | rfl
                · exact zb_n0
                · exact zb_n1
              · rcases z2 with rfl | rfl <;> rfl
          obtain ⟨ty, e1, e2, e3, e4⟩ := hT
          have hgf : hr_gf (up2 h.1 a kk x, h.2) a (hr_oc a) kk = .int x := by
            unfold hr_gf
            rcases ht with z | ⟨z, -⟩ <;> rw [z] <;> simp [up2]
          refine va_put (C := (hr_cq (hr_oc a)).1) (T := (hr_cq (hr_oc a)).2.1) (N := (hr_cq (hr_oc a)).2.2) B.1 B.2.1 B.2.2.2.2.1 (hr_k_u _ h7) (hr_tyq (hr_oc a)) (hr_k_ty _ h7) (hr_k_nm _ h7) hown HC.1 hR.1 (hr_R.wD HC h) hS a hat (hr_cq_at _ h7) kk hk (B.2.2.2.2.1 _ hw) (fun _ z => z) e2 ((hr_k_ty _ h7 kk hk).trans (congrArg some e1)) e3 e4 (by rw [hr_fs_len]; exact hk) hd (fun H1 locs1 hP1 _ hS1 => ?_)
          have hset := hr_w_set (ad := ad) (sv := sv) (ci := ci) (h := h) (h' := (up2 h.1 a kk x, h.2)) (k := a) (e := .inr (hr_oc a, (hr_fs ad sv h a).set kk (.int x))) a57 (by
            rw [(hr_oc_a h7 rfl).2, hr_fs_set (h := h) (h' := (up2 h.1 a kk x, h.2)) (v := .int x) hk (by rw [hgf]; rfl) (fun j hj => by unfold hr_gf; simp only [up2_row, if_neg hj])])
            (fun q _ hq => hr_ce_congr (fun j => up2_ne hq) (fun j => rfl))
          rw [hset] at hP1
          exact k H1 locs1 lsA ⟨hP1, fun j hj => (up2_ne (by omega)).trans (hR.2.1 j hj), hR.2.2⟩ hS1 hL
      · cases hx
    · cases hx
  · rename_i x a r
    split at hx
    · rename_i cc kk hf
      split at hx
      · rename_i hc
        obtain ⟨ha, ht⟩ := hc
        have q := hr_go_eq hx
        subst q
        intro H locs lsA hR hS hL
        have HC := B.2.2.2.2.2.1
        have hown := B.2.2.2.1
        by_cases ho : hr_ow y = 10
        · exfalso
          rw [ho] at hf
          unfold hr_fl at hf
          rw [if_pos rfl] at hf
          split at hf
          · cases hf; revert ht; decide
          · split at hf
            · cases hf; revert ht; decide
            · cases hf
        · obtain ⟨h7, hk, hw⟩ := hr_fl_word ho hf
          obtain ⟨a57, hce⟩ := hr_oc_a (ad := ad) (sv := sv) (ci := ci) (h := h) h7 ha
          show W p l e R s m args below meth c H locs cells slots Q (F0 m pc lsA (.long x :: hr_tv ad sv a :: r.map (hr_cv ad sv)))
          rw [hr_tv_ne (by omega)]
          have hat := hr_w_at (ad := ad) (sv := sv) (ci := ci) (h := h) a57
          rw [hce] at hat
          subst ha
          obtain ⟨e2, e1⟩ := (hr_k_ft _ h7 kk hk).2.1 ht
          have hgf : hr_gf (h.1, up2 h.2 a kk x) a (hr_oc a) kk = .long x := by
            unfold hr_gf
            rw [if_pos ht]; simp [up2]
          refine va_put (C := (hr_cq (hr_oc a)).1) (T := (hr_cq (hr_oc a)).2.1) (N := (hr_cq (hr_oc a)).2.2) B.1 B.2.1 B.2.2.2.2.1 (hr_k_u _ h7) (hr_tyq (hr_oc a)) (hr_k_ty _ h7) (hr_k_nm _ h7) hown HC.1 hR.1 (hr_R.wD HC h) hS a hat (hr_cq_at _ h7) kk hk (B.2.2.2.2.1 _ hw) (fun _ z => z) e2 ((hr_k_ty _ h7 kk hk).trans (congrArg some e1)) rfl rfl (by rw [hr_fs_len]; exact hk) hd (fun H1 locs1 hP1 _ hS1 => ?_)
          have hset := hr_w_set (ad := ad) (sv := sv) (ci := ci) (h := h) (h' := (h.1, up2 h.2 a kk x)) (k := a) (e := .inr (hr_oc a, (hr_fs ad sv h a).set kk (.long x))) a57 (by
            rw [(hr_oc_a h7 rfl).2, hr_fs_set (h := h) (h' := (h.1, up2 h.2 a kk x)) (v := .long x) hk (by rw [hgf]; rfl) (fun j hj => by unfold hr_gf; simp only [up2_row, if_neg hj])])
            (fun q _ hq => hr_ce_congr (fun j => rfl) (fun j => up2_ne hq))
          rw [hset] at hP1
          exact k H1 locs1 lsA ⟨hP1, hR.2.1, (up2_ne (by omega)).trans hR.2.2⟩ hS1 hL
      · cases hx
    · cases hx
  · cases hx
theorem so_iaload (B : hr_B p R s m args c cells slots ad sv ci D L xs y) (hd : decode (hr_cd y) pc = .ok (.iaload, 1)) (hx : hr_ld 1 pc ls st h = some (.inl s'))  (k : hr_W p l e R s m args below meth c cells slots Q ad sv ci D L xs (hr_mx y) s') : hr_W p l e R s m args below meth c cells slots Q ad sv ci D L xs (hr_mx y) (pc, ls, st, h) := by
  unfold hr_ld at hx
  split at hx
  · rename_i i a r
    split at hx
    · rename_i hc
      obtain ⟨ha, hi⟩ := hc
      have q := hr_go_eq hx
      subst q
      intro H locs lsA hR hS hL
      have HC := B.2.2.2.2.2.1
      have K := k H locs lsA hR hS hL
      have hz : ¬ hr_ak a = 0 := by rw [ha]; decide
      show W p l e R s m args below meth c H locs cells slots Q (F0 m pc lsA (.int i :: hr_tv ad sv a :: r.map (hr_cv ad sv)))
      rcases hr_ak_lt hz with a57 | ⟨rfl, -⟩ | ⟨a6, -⟩ | ⟨a9, a3⟩
      · rw [hr_tv_ne (hr_n57 a57)]
        have hat := hr_w_at (ad := ad) (sv := sv) (ci := ci) (h := h) a57
        rw [hr_ce_arr hz, ha] at hat
        have e1 : hr_ac ad h a = .inl (h.1 a) := by unfold hr_ac; rw [ha]; rfl
        have e2 : hr_ai h a i.toNatClampNeg = h.1 a i.toNatClampNeg := by unfold hr_ai; rw [if_pos (by omega)]
        rw [e1] at hat
        rw [show (((.int (hr_ai h a i.toNatClampNeg) : Value) :: r).map (hr_cv ad sv)) = .int (hr_ai h a i.toNatClampNeg) :: r.map (hr_cv ad sv) from rfl, e2] at K
        rw [hr_al_lt a57] at hi
        exact va_iald B.1 B.2.1 HC.1 hR.1 a 0 hat rfl (hr_in_iff hi) hd K
      · rw [hr_tv_ne (by decide)]
        have e3 : hr_al h 57 = L := by
          unfold hr_al
          rw [if_pos rfl, hR.2.2]
          show (lN L).toInt.toNat = L
          rw [lN_toInt HC.2.2.1]
          rfl
        rw [e3] at hi
        have hlt : i.toNatClampNeg < L := by
          have := hr_in_iff hi
          exact Nat.not_le.mp (fun z => this (Or.inr z))
        have e2 : hr_ai h 57 i.toNatClampNeg = xs i.toNatClampNeg := by unfold hr_ai; rw [if_pos (by decide)]; exact hR.2.1 _ hlt
        rw [show (((.int (hr_ai h 57 i.toNatClampNeg) : Value) :: r).map (hr_cv ad sv)) = .int (hr_ai h 57 i.toNatClampNeg) :: r.map (hr_cv ad sv) from rfl, e2] at K
        exact va_sld B.1 B.2.1 HC.2.2.2.2.2.2.2.2.2.2.2.2.1 HC.2.2.2.2.2.2.2.2.2.2.2.2.2.1 HC.2.2.2.2.2.2.2.2.2.2.2.2.2.2 hS (hr_in_iff hi) hd K
      · rw [hr_tv_ne (by omega)]
        rcases a6 with rfl | rfl | rfl
        · exact va_ti B.1 B.2.1 HC.2.2.2.1.2 hS (hr_in_iff hi) rfl hd K
        · exact va_ti B.1 B.2.1 HC.2.2.2.2.1.2 hS (hr_in_iff hi) rfl hd K
        · exact va_ti B.1 B.2.1 HC.2.2.2.2.2.1.2 hS (hr_in_iff hi) rfl hd K
      · exfalso; omega
    · cases hx
  · cases hx
theorem so_baload (B : hr_B p R s m args c cells slots ad sv ci D L xs y) (hd : decode (hr_cd y) pc = .ok (.baload, 1)) (hx : hr_ld 3 pc ls st h = some (.inl s'))  (k : hr_W p l e R s m args below meth c cells slots Q ad sv ci D L xs (hr_mx y) s') : hr_W p l e R s m args below meth c cells slots Q ad sv ci D L xs (hr_mx y) (pc, ls, st, h) := by
  unfold hr_ld at hx
  split at hx
  · rename_i i a r
    split at hx
    · rename_i hc
      obtain ⟨ha, hi⟩ := hc
      have q := hr_go_eq hx
      subst q
      intro H locs lsA hR hS hL
      have HC := B.2.2.2.2.2.1
      have K := k H locs lsA hR hS hL
      have hz : ¬ hr_ak a = 0 := by rw [ha]; decide
      show W p l e R s m args below meth c H locs cells slots Q (F0 m pc lsA (.int i :: hr_tv ad sv a :: r.map (hr_cv ad sv)))
      rcases hr_ak_lt hz with a57 | ⟨rfl, -⟩ | ⟨a6, -⟩ | ⟨a9, a3⟩
      · rw [hr_tv_ne (hr_n57 a57)]
        have hat := hr_w_at (ad := ad) (sv := sv) (ci := ci) (h := h) a57
        rw [hr_ce_arr hz, ha] at hat
        have e1 : hr_ac ad h a = .inl (h.1 a) := by unfold hr_ac; rw [ha]; rfl
        have e2 : hr_ai h a i.toNatClampNeg = h.1 a i.toNatClampNeg := by unfold hr_ai; rw [if_pos (by omega)]
        rw [e1] at hat
        rw [show (((.int (hr_ai h a i.toNatClampNeg) : Value) :: r).map (hr_cv ad sv)) = .int (hr_ai h a i.toNatClampNeg) :: r.map (hr_cv ad sv) from rfl, e2] at K
        rw [hr_al_lt a57] at hi
        exact va_bald B.1 B.2.1 HC.1 hR.1 a 2 hat rfl (hr_in_iff hi) hd K
      · exact absurd ha (by decide)
      · rcases a6 with rfl | rfl | rfl <;> exact absurd ha (by decide)
      · rw [hr_tv_ne (hr_n70 (Nat.le_trans (by decide) a9.1))]
        have hT := (HC.2.2.2.2.2.2.2.2.1.1 (a - 90) (by omega)).2.2.2
        dsimp only at hT
        rw [hr_e90 a9.1] at hT
        have e3 : hr_al h a = hr_sl.getD (a - 90) 0 := by
          unfold hr_al
          rw [if_neg (by omega), if_pos a9]
        rw [e3] at hi
        have e2 : hr_ai h a i.toNatClampNeg = (hr_sb.getD (a - 90) []).getD i.toNatClampNeg 0 := by
          unfold hr_ai
          rw [if_neg (by omega), if_neg (by omega), if_neg (by omega), if_neg (by omega)]
        rw [show (((.int (hr_ai h a i.toNatClampNeg) : Value) :: r).map (hr_cv ad sv)) = .int (hr_ai h a i.toNatClampNeg) :: r.map (hr_cv ad sv) from rfl, e2] at K
        exact va_tb B.1 B.2.1 hT hS (hr_in_iff hi) rfl hd K
    · cases hx
  · cases hx
theorem so_caload (B : hr_B p R s m args c cells slots ad sv ci D L xs y) (hd : decode (hr_cd y) pc = .ok (.caload, 1)) (hx : hr_ld 4 pc ls st h = some (.inl s'))  (k : hr_W p l e R s m args below meth c cells slots Q ad sv ci D L xs (hr_mx y) s') : hr_W p l e R s m args below meth c cells slots Q ad sv ci D L xs (hr_mx y) (pc, ls, st, h) := by
  unfold hr_ld at hx
  split at hx
  · rename_i i a r
    split at hx
    · rename_i hc
      obtain ⟨ha, hi⟩ := hc
      have q := hr_go_eq hx
      subst q
      intro H locs lsA hR hS hL
      have HC := B.2.2.2.2.2.1
      have K := k H locs lsA hR hS hL
      have hz : ¬ hr_ak a = 0 := by rw [ha]; decide
      show W p l e R s m args below meth c H locs cells slots Q (F0 m pc lsA (.int i :: hr_tv ad sv a :: r.map (hr_cv ad sv)))
      rcases hr_ak_lt hz with a57 | ⟨rfl, -⟩ | ⟨a6, -⟩ | ⟨a9, a3⟩
      · rw [hr_tv_ne (hr_n57 a57)]
        have hat := hr_w_at (ad := ad) (sv := sv) (ci := ci) (h := h) a57
        rw [hr_ce_arr hz, ha] at hat
        have e1 : hr_ac ad h a = .inl (h.1 a) := by unfold hr_ac; rw [ha]; rfl
        have e2 : hr_ai h a i.toNatClampNeg = h.1 a i.toNatClampNeg := by unfold hr_ai; rw [if_pos (by omega)]
        rw [e1] at hat
        rw [show (((.int (hr_ai h a i.toNatClampNeg) : Value) :: r).map (hr_cv ad sv)) = .int (hr_ai h a i.toNatClampNeg) :: r.map (hr_cv ad sv) from rfl, e2] at K
        rw [hr_al_lt a57] at hi
        exact va_cald B.1 B.2.1 HC.1 hR.1 a 3 hat rfl (hr_in_iff hi) hd K
      · exact absurd ha (by decide)
      · rcases a6 with rfl | rfl | rfl <;> exact absurd ha (by decide)
      · exfalso; omega
    · cases hx
  · cases hx
theorem so_laload  (B : hr_B p R s m args c cells slots ad sv ci D L xs y) (hd : decode (hr_cd y) pc = .ok (.laload, 1)) (hx : hr_x y (.laload) pc ls st h = some (.inl s')) (k : hr_W p l e R s m args below meth c cells slots Q ad sv ci D L xs (hr_mx y) s') : hr_W p l e R s m args below meth c cells slots Q ad sv ci D L xs (hr_mx y) (pc, ls, st, h) := by
  simp only [hr_x] at hx
  split at hx
  · rename_i i a r
    split at hx
    · rename_i hc
      obtain ⟨ha, hi⟩ := hc
      have q := hr_go_eq hx
      subst q
      intro H locs lsA hR hS hL
      have HC := B.2.2.2.2.2.1
      have K := k H locs lsA hR hS hL
      have hz : ¬ hr_ak a = 0 := by rw [ha]; decide
      have a57 : a < 57 := by
        rcases hr_ak_lt hz with u | ⟨-, u⟩ | ⟨-, u⟩ | ⟨-, u⟩
        · exact u
        all_goals (rw [ha] at u; exact absurd u (by decide))
      show W p l e R s m args below meth c H locs cells slots Q (F0 m pc lsA (.int i :: hr_tv ad sv a :: r.map (hr_cv ad sv)))
      rw [hr_tv_ne (hr_n57 a57)]
      have hat := hr_w_at (ad := ad) (sv := sv) (ci := ci) (h := h) a57
      have e1 : hr_ac ad h a = .inr (.inl (h.2 a)) := by unfold hr_ac; rw [ha]; rfl
      rw [hr_ce_arr hz, ha, e1] at hat
      rw [hr_al_lt a57] at hi
      exact va_lald B.1 B.2.1 HC.1 hR.1 a 1 hat rfl (hr_in_iff hi) hd K
    · cases hx
  · cases hx
theorem so_aaload  (B : hr_B p R s m args c cells slots ad sv ci D L xs y) (hd : decode (hr_cd y) pc = .ok (.aaload, 1)) (hx : hr_x y (.aaload) pc ls st h = some (.inl s')) (k : hr_W p l e R s m args below meth c cells slots Q ad sv ci D L xs (hr_mx y) s') : hr_W p l e R s m args below meth c cells slots Q ad sv ci D L xs (hr_mx y) (pc, ls, st, h) := by
  simp only [hr_x] at hx
  split at hx
  · rename_i i a r
    split at hx
    · rename_i hc
      obtain ⟨ha, hi⟩ := hc
      have q := hr_go_eq hx
      subst q
      intro H locs lsA hR hS hL
      have HC := B.2.2.2.2.2.1
      have K := k H locs lsA hR hS hL
      have hz : ¬ hr_ak a = 0 := by rcases ha with z | z <;> rw [z] <;> decide
      have a57 : a < 57 := by
        rcases hr_ak_lt hz with u | ⟨-, u⟩ | ⟨-, u⟩ | ⟨-, u⟩
        · exact u
        all_goals (rcases ha with z | z <;> rw [z] at u <;> exact absurd u (by decide))
      show W p l e R s m args below meth c H locs cells slots Q (F0 m pc lsA (.int i :: hr_tv ad sv a :: r.map (hr_cv ad sv)))
      rw [hr_tv_ne (hr_n57 a57)]
      have hat := hr_w_at (ad := ad) (sv := sv) (ci := ci) (h := h) a57
      have e1 : hr_ac ad h a = .inr (.inr (.inr (.inr (fun j => some (ad (hr_ra a j)))))) := by unfold hr_ac; rw [if_neg (by rcases ha with z | z <;> rw [z] <;> decide), if_pos ha]
      rw [hr_ce_arr hz, e1] at hat
      rw [hr_al_lt a57] at hi
      have hin := hr_in_iff hi
      have hlt : i.toNatClampNeg < hr_all.getD a 0 := Nat.not_le.mp (fun z => hin (Or.inr z))
      have hr69 : ¬ hr_ra a i.toNatClampNeg = 69 := by
        have h1 : ∀ a, a < 57 → hr_ak a = 5 ∨ hr_ak a = 6 → hr_all.getD a 0 ≤ 8 := by decide +kernel
        have h2 := h1 a a57 ha
        have h3 : ∀ a, a < 57 → hr_ak a = 5 ∨ hr_ak a = 6 → a ≤ 34 := by decide +kernel
        have h4 := h3 a a57 ha
        unfold hr_ra
        split <;> omega
      rw [show (((.ref (hr_ra a i.toNatClampNeg) : Value) :: r).map (hr_cv ad sv)) = hr_tv ad sv (hr_ra a i.toNatClampNeg) :: r.map (hr_cv ad sv) from rfl, hr_tv_ne hr69] at K
      rcases ha with z | z
      · rw [z] at hat
        exact va_aldq B.1 B.2.1 HC.1 hR.1 a 4 (C := "HornRocks$Rock") hat rfl hin hd K
      · rw [z] at hat
        exact va_aldq B.1 B.2.1 HC.1 hR.1 a 5 (C := "HornRocks$Sheet") hat rfl hin hd K
    · cases hx
  · cases hx
theorem so_iastore  (B : hr_B p R s m args c cells slots ad sv ci D L xs y) (hd : decode (hr_cd y) pc = .ok (.iastore, 1)) (hx : hr_x y (.iastore) pc ls st h = some (.inl s')) (k : hr_W p l e R s m args below meth c cells slots Q ad sv ci D L xs (hr_mx y) s') : hr_W p l e R s m args below meth c cells slots Q ad sv ci D L xs (hr_mx y) (pc, ls, st, h) := by
  simp only [hr_x] at hx
  split at hx
  · rename_i x i a r
    split at hx
    · rename_i hc
      obtain ⟨ha, a57, hi⟩ := hc
      have q := hr_go_eq hx
      subst q
      intro H locs lsA hR hS hL
      have HC := B.2.2.2.2.2.1
      have hz : ¬ hr_ak a = 0 := by rw [ha]; decide
      show W p l e R s m args below meth c H locs cells slots Q (F0 m pc lsA (.int x :: .int i :: hr_tv ad sv a :: r.map (hr_cv ad sv)))
      rw [hr_tv_ne (hr_n57 a57)]
      have hat := hr_w_at (ad := ad) (sv := sv) (ci := ci) (h := h) a57
      have e1 : ∀ h : hr_H, hr_ac ad h a = .inl (h.1 a) := by intro h; unfold hr_ac; rw [ha]; rfl
      rw [hr_ce_arr hz, ha, e1] at hat
      rw [hr_al_lt a57] at hi
      refine va_iast B.1 B.2.1 HC.1 hR.1 (hr_R.wD HC h) hS a 0 hat rfl (hr_in_iff hi) hd (fun H1 locs1 hP1 _ hS1 => ?_)
      have hset := hr_w_set (ad := ad) (sv := sv) (ci := ci) (h := h) (h' := (up2 h.1 a i.toNatClampNeg x, h.2)) (k := a) (e := .inl (ci 1, hr_all.getD a 0, .inl (upd (h.1 a) i.toNatClampNeg x))) a57 (by
        rw [hr_ce_arr hz, ha, e1]
        have q : (up2 h.1 a i.toNatClampNeg x) a = upd (h.1 a) i.toNatClampNeg x := by funext j; exact up2_row
        show Sum.inl (ci 1, hr_all.getD a 0, Sum.inl ((up2 h.1 a i.toNatClampNeg x) a)) = _
        rw [q]) (fun q _ hq => hr_ce_congr (fun j => up2_ne hq) (fun j => rfl))
      rw [show (List.set (hr_w ad sv ci h) a (ad a, .inl (ci 1, hr_all.getD a 0, .inl (upd (h.1 a) i.toNatClampNeg x)))) = hr_w ad sv ci (up2 h.1 a i.toNatClampNeg x, h.2) from hset] at hP1
      exact k H1 locs1 lsA ⟨hP1, fun j hj => (up2_ne (hr_n57' a57)).trans (hR.2.1 j hj), hR.2.2⟩ hS1 hL
    · cases hx
  · cases hx
theorem so_bastore  (B : hr_B p R s m args c cells slots ad sv ci D L xs y) (hd : decode (hr_cd y) pc = .ok (.bastore, 1)) (hx : hr_x y (.bastore) pc ls st h = some (.inl s')) (k : hr_W p l e R s m args below meth c cells slots Q ad sv ci D L xs (hr_mx y) s') : hr_W p l e R s m args below meth c cells slots Q ad sv ci D L xs (hr_mx y) (pc, ls, st, h) := by
  simp only [hr_x] at hx
  split at hx
  · rename_i x i a r
    split at hx
    · rename_i hc
      obtain ⟨ha, a57, hi⟩ := hc
      have q := hr_go_eq hx
      subst q
      intro H locs lsA hR hS hL
      have HC := B.2.2.2.2.2.1
      have hz : ¬ hr_ak a = 0 := by rw [ha]; decide
      show W p l e R s m args below meth c H locs cells slots Q (F0 m pc lsA (.int x :: .int i :: hr_tv ad sv a :: r.map (hr_cv ad sv)))
      rw [hr_tv_ne (hr_n57 a57)]
      have hat := hr_w_at (ad := ad) (sv := sv) (ci := ci) (h := h) a57
      have e1 : ∀ h : hr_H, hr_ac ad h a = .inl (h.1 a) := by intro h; unfold hr_ac; rw [ha]; rfl
      rw [hr_ce_arr hz, ha, e1] at hat
      rw [hr_al_lt a57] at hi
      refine va_bast B.1 B.2.1 HC.1 hR.1 (hr_R.wD HC h) hS a 2 hat rfl (hr_in_iff hi) hd (fun H1 locs1 hP1 _ hS1 => ?_)
      have hset := hr_w_set (ad := ad) (sv := sv) (ci := ci) (h := h) (h' := (up2 h.1 a i.toNatClampNeg x.toInt8.toInt32, h.2)) (k := a) (e := .inl (ci 3, hr_all.getD a 0, .inl (upd (h.1 a) i.toNatClampNeg (vp_nar .byte x)))) a57 (by
        rw [hr_ce_arr hz, ha, e1, vp_nar_byte]
        have q : (up2 h.1 a i.toNatClampNeg x.toInt8.toInt32) a = upd (h.1 a) i.toNatClampNeg x.toInt8.toInt32 := by funext j; exact up2_row
        show Sum.inl (ci 3, hr_all.getD a 0, Sum.inl ((up2 h.1 a i.toNatClampNeg x.toInt8.toInt32) a)) = _
        rw [q]) (fun q _ hq => hr_ce_congr (fun j => up2_ne hq) (fun j => rfl))
      rw [show (List.set (hr_w ad sv ci h) a (ad a, .inl (ci 3, hr_all.getD a 0, .inl (upd (h.1 a) i.toNatClampNeg (vp_nar .byte x))))) = hr_w ad sv ci (up2 h.1 a i.toNatClampNeg x.toInt8.toInt32, h.2) from hset] at hP1
      exact k H1 locs1 lsA ⟨hP1, fun j hj => (up2_ne (hr_n57' a57)).trans (hR.2.1 j hj), hR.2.2⟩ hS1 hL
    · cases hx
  · cases hx
theorem so_lastore  (B : hr_B p R s m args c cells slots ad sv ci D L xs y) (hd : decode (hr_cd y) pc = .ok (.lastore, 1)) (hx : hr_x y (.lastore) pc ls st h = some (.inl s')) (k : hr_W p l e R s m args below meth c cells slots Q ad sv ci D L xs (hr_mx y) s') : hr_W p l e R s m args below meth c cells slots Q ad sv ci D L xs (hr_mx y) (pc, ls, st, h) := by
  simp only [hr_x] at hx
  split at hx
  · rename_i x i a r
    split at hx
    · rename_i hc
      obtain ⟨ha, hi⟩ := hc
      have q := hr_go_eq hx
      subst q
      intro H locs lsA hR hS hL
      have HC := B.2.2.2.2.2.1
      have hz : ¬ hr_ak a = 0 := by rw [ha]; decide
      have a57 : a < 57 := by
        rcases hr_ak_lt hz with u | ⟨-, u⟩ | ⟨-, u⟩ | ⟨-, u⟩
        · exact u
        all_goals (rw [ha] at u; exact absurd u (by decide))
      show W p l e R s m args below meth c H locs cells slots Q (F0 m pc lsA (.long x :: .int i :: hr_tv ad sv a :: r.map (hr_cv ad sv)))
      rw [hr_tv_ne (hr_n57 a57)]
      have hat := hr_w_at (ad := ad) (sv := sv) (ci := ci) (h := h) a57
      have e1 : ∀ h : hr_H, hr_ac ad h a = .inr (.inl (h.2 a)) := by intro h; unfold hr_ac; rw [ha]; rfl
      rw [hr_ce_arr hz, ha, e1] at hat
      rw [hr_al_lt a57] at hi
      refine va_last B.1 B.2.1 HC.1 hR.1 (hr_R.wD HC h) hS a 1 hat rfl (hr_in_iff hi) hd (fun H1 locs1 hP1 _ hS1 => ?_)
      have hset := hr_w_set (ad := ad) (sv := sv) (ci := ci) (h := h) (h' := (h.1, up2 h.2 a i.toNatClampNeg x)) (k := a) (e := .inl (ci 2, hr_all.getD a 0, .inr (.inl (vp_updL (h.2 a) i.toNatClampNeg x)))) a57 (by
        rw [hr_ce_arr hz, ha, e1]
        have q : (up2 h.2 a i.toNatClampNeg x) a = vp_updL (h.2 a) i.toNatClampNeg x := by funext j; exact up2_row
        show Sum.inl (ci 2, hr_all.getD a 0, Sum.inr (Sum.inl ((up2 h.2 a i.toNatClampNeg x) a))) = _
        rw [q]) (fun q _ hq => hr_ce_congr (fun j => rfl) (fun j => up2_ne hq))
      rw [show (List.set (hr_w ad sv ci h) a (ad a, .inl (ci 2, hr_all.getD a 0, .inr (.inl (vp_updL (h.2 a) i.toNatClampNeg x))))) = hr_w ad sv ci (h.1, up2 h.2 a i.toNatClampNeg x) from hset] at hP1
      exact k H1 locs1 lsA ⟨hP1, hR.2.1, (up2_ne (hr_n57' a57)).trans hR.2.2⟩ hS1 hL
    · cases hx
  · cases hx
theorem so_arraylength  (B : hr_B p R s m args c cells slots ad sv ci D L xs y) (hd : decode (hr_cd y) pc = .ok (.arraylength, 1)) (hx : hr_x y (.arraylength) pc ls st h = some (.inl s')) (k : hr_W p l e R s m args below meth c cells slots Q ad sv ci D L xs (hr_mx y) s') : hr_W p l e R s m args below meth c cells slots Q ad sv ci D L xs (hr_mx y) (pc, ls, st, h) := by
  simp only [hr_x] at hx
  split at hx
  · rename_i a r
    split at hx
    · rename_i ha
      have q := hr_go_eq hx
      subst q
      intro H locs lsA hR hS hL
      have HC := B.2.2.2.2.2.1
      have K := k H locs lsA hR hS hL
      have hz : ¬ hr_ak a = 0 := by omega
      show W p l e R s m args below meth c H locs cells slots Q (F0 m pc lsA (hr_tv ad sv a :: r.map (hr_cv ad sv)))
      rw [show (((.int (Int32.ofNat (hr_al h a)) : Value) :: r).map (hr_cv ad sv)) = .int (Int32.ofNat (hr_al h a)) :: r.map (hr_cv ad sv) from rfl] at K
      rcases hr_ak_lt hz with a57 | ⟨rfl, -⟩ | ⟨a6, -⟩ | ⟨a9, a3⟩
      · rw [hr_tv_ne (hr_n57 a57)]
        have hat := hr_w_at (ad := ad) (sv := sv) (ci := ci) (h := h) a57
        rw [hr_ce_arr hz] at hat
        rw [hr_al_lt a57] at K
        have hak : ∀ a, a < 57 → ¬ hr_ak a = 0 → hr_ak a ≤ 6 := by decide +kernel
        have h6 := hak a a57 hz
        have hty : ∃ ty, (hr_ty ci)[hr_ak a - 1]? = some (ci (hr_ak a), ty) := by
          rcases (show hr_ak a = 1 ∨ hr_ak a = 2 ∨ hr_ak a = 3 ∨ hr_ak a = 4 ∨ hr_ak a = 5 ∨ hr_ak a = 6 by omega) with z | z | z | z | z | z <;> rw [z] <;> exact ⟨_, rfl⟩
        obtain ⟨ty, hty⟩ := hty
        exact va_alen B.1 B.2.1 HC.1 hR.1 a (hr_ak a - 1) hat hty rfl hd K
      · rw [hr_tv_ne (by decide)]
        have e3 : hr_al h 57 = L := by
          unfold hr_al
          rw [if_pos rfl, hR.2.2]
          show (lN L).toInt.toNat = L
          rw [lN_toInt HC.2.2.1]
          rfl
        rw [e3] at K
        exact va_slen B.1 B.2.1 HC.2.2.2.2.2.2.2.2.2.2.2.2.1 HC.2.2.2.2.2.2.2.2.2.2.2.2.2.1 HC.2.2.2.2.2.2.2.2.2.2.2.2.2.2 hS hd K
      · rw [hr_tv_ne (by omega)]
        rcases a6 with rfl | rfl | rfl
        · exact va_tlen B.1 B.2.1 HC.2.2.2.1.2 hS rfl hd K
        · exact va_tlen B.1 B.2.1 HC.2.2.2.2.1.2 hS rfl hd K
        · exact va_tlen B.1 B.2.1 HC.2.2.2.2.2.1.2 hS rfl hd K
      · rw [hr_tv_ne (hr_n70 (Nat.le_trans (by decide) a9.1))]
        have hT := (HC.2.2.2.2.2.2.2.2.1.1 (a - 90) (by omega)).2.2.2
        dsimp only at hT
        rw [hr_e90 a9.1] at hT
        have e3 : hr_al h a = hr_sl.getD (a - 90) 0 := by
          unfold hr_al
          rw [if_neg (by omega), if_pos a9]
        rw [e3] at K
        exact va_tlen B.1 B.2.1 hT hS rfl hd K
    · cases hx
  · cases hx
end
