/-! ===== the constructors, over the machine itself: shared rows ===== -/
theorem arrV_ext {cI : ClassId} {N : Nat} {f g : Nat → Value} (h : ∀ j, j < N → f j = g j) : arrV cI N f = arrV cI N g := by
  unfold arrV
  congr 2
  funext j
  exact h j.val j.isLt
/-- the numbers of an array are those of another function, as far as it goes -/
theorem va_P.q {D : va_G} {cl : List vw_C} {ws : va_W} {H : Heap} {k a : Nat} {cA : ClassId} {n : Nat} {f g : Nat → Option Nat} (h : va_P D cl ws H) (hk : ws[k]? = some (a, .inl (cA, n, .inr (.inr (.inr (.inr f)))))) (hfg : ∀ j, j < n → f j = g j) : va_P D cl (ws.set k (a, .inl (cA, n, .inr (.inr (.inr (.inr g)))))) H := by
  intro i q hq
  rw [List.getElem?_set] at hq
  split at hq
  · rename_i e
    split at hq
    · cases hq
      have := h k _ hk
      show H[a]? = some (vp_cell cA (n, .inr (.inr (.inr (.inr g)))))
      have h2 : H[a]? = some (vp_cell cA (n, .inr (.inr (.inr (.inr f))))) := this
      rw [h2, vp_cell_q, vp_cell_q]
      exact congrArg some (arrV_ext (fun j hj => by rw [hfg j hj]))
    · cases hq
  · exact h i q hq
/-- behind a constructor: the caller's cells, and what the new one has become -/
theorem ct_join {A0 : Nat → Prop} {D : va_G} {cl : List vw_C} {wr w1 : va_W} {x : Nat × va_E} {H H1 : Heap} (hP : va_P D cl (wr ++ [x]) H) (hD : va_D A0 (wr ++ [x])) (hk : ∀ q : Nat, q < H.size → ¬ va_A [x] H.size q → H1[q]? = H[q]?) (hF : ∀ q, va_A [x] H.size q → A0 q) (hP1 : va_P D cl w1 H1) (hD1 : va_D (va_A [x] H.size) w1) : va_P D cl (wr ++ w1) H1 ∧ va_D A0 (wr ++ w1) := by
  have hl : ∀ (k : Nat) (q : Nat × va_E), wr[k]? = some q → k < wr.length ∧ (wr ++ [x])[k]? = some q := fun k q hq => by
    have h1 := (List.getElem?_eq_some_iff.mp hq).1
    exact ⟨h1, by rw [List.getElem?_append_left h1]; exact hq⟩
  have hxx : (wr ++ [x])[wr.length]? = some x := by rw [List.getElem?_append_right (Nat.le_refl _), Nat.sub_self]; rfl
  have hn : ∀ (k : Nat) (q : Nat × va_E), wr[k]? = some q → ¬ va_A [x] H.size q.1 ∧ q.1 < H.size := fun k q hq => by
    obtain ⟨h1, h2⟩ := hl k q hq
    have h3 := (hP k q h2).lt
    refine ⟨?_, h3⟩
    rintro (⟨i, e, hi⟩ | hi)
    · have hi0 : i = 0 := by
        have := (List.getElem?_eq_some_iff.mp hi).1
        simp at this
        exact this
      subst hi0
      cases hi
      have := hD.1 k wr.length q _ h2 hxx rfl
      omega
    · omega
  have hPr : va_P D cl wr H1 := fun k q hq => by
    obtain ⟨h1, h2⟩ := hn k q hq
    exact (hP k q (hl k q hq).2).kept (hk q.1 h2 h1)
  refine ⟨hPr.app hP1, ?_, ?_⟩
  · intro i j p q hi hj he
    by_cases ci : i < wr.length
    · rw [List.getElem?_append_left ci] at hi
      by_cases cj : j < wr.length
      · rw [List.getElem?_append_left cj] at hj
        exact hD.1 i j p q (hl i p hi).2 (hl j q hj).2 he
      · rw [List.getElem?_append_right (by omega)] at hj
        have h1 := hD1.2 _ q hj
        rw [← he] at h1
        exact absurd h1 (hn i p hi).1
    · rw [List.getElem?_append_right (by omega)] at hi
      by_cases cj : j < wr.length
      · rw [List.getElem?_append_left cj] at hj
        have h1 := hD1.2 _ p hi
        rw [he] at h1
        exact absurd h1 (hn j q hj).1
      · rw [List.getElem?_append_right (by omega)] at hj
        have := hD1.1 _ _ p q hi hj he
        omega
  · intro k q hq
    by_cases c : k < wr.length
    · rw [List.getElem?_append_left c] at hq
      exact hD.2 k q (hl k q hq).2
    · rw [List.getElem?_append_right (by omega)] at hq
      exact hF _ (hD1.2 _ q hq)
theorem ky_i {D : va_G} {ci : Nat → ClassId} {s : State} {cA : ClassId} (hK : va_K D hr_cl (hr_ty ci) s) (hN : va_K D hr_cl (hr_ty ci ++ [(cA, .int)]) s) : cA = ci 1 := by
  have a : s.vm.findClass ("[" ++ (FieldType.int).toString) = some cA := (hN.2 6 (cA, .int) rfl).2
  have b : s.vm.findClass ("[" ++ (FieldType.int).toString) = some (ci 1) := (hK.2 0 (ci 1, .int) rfl).2
  exact Option.some.inj (a.symm.trans b)
theorem ky_l {D : va_G} {ci : Nat → ClassId} {s : State} {cA : ClassId} (hK : va_K D hr_cl (hr_ty ci) s) (hN : va_K D hr_cl (hr_ty ci ++ [(cA, .long)]) s) : cA = ci 2 := by
  have a : s.vm.findClass ("[" ++ (FieldType.long).toString) = some cA := (hN.2 6 (cA, .long) rfl).2
  have b : s.vm.findClass ("[" ++ (FieldType.long).toString) = some (ci 2) := (hK.2 1 (ci 2, .long) rfl).2
  exact Option.some.inj (a.symm.trans b)
theorem ky_b {D : va_G} {ci : Nat → ClassId} {s : State} {cA : ClassId} (hK : va_K D hr_cl (hr_ty ci) s) (hN : va_K D hr_cl (hr_ty ci ++ [(cA, .byte)]) s) : cA = ci 3 := by
  have a : s.vm.findClass ("[" ++ (FieldType.byte).toString) = some cA := (hN.2 6 (cA, .byte) rfl).2
  have b : s.vm.findClass ("[" ++ (FieldType.byte).toString) = some (ci 3) := (hK.2 2 (ci 3, .byte) rfl).2
  exact Option.some.inj (a.symm.trans b)
theorem ky_c {D : va_G} {ci : Nat → ClassId} {s : State} {cA : ClassId} (hK : va_K D hr_cl (hr_ty ci) s) (hN : va_K D hr_cl (hr_ty ci ++ [(cA, .char)]) s) : cA = ci 4 := by
  have a : s.vm.findClass ("[" ++ (FieldType.char).toString) = some cA := (hN.2 6 (cA, .char) rfl).2
  have b : s.vm.findClass ("[" ++ (FieldType.char).toString) = some (ci 4) := (hK.2 3 (ci 4, .char) rfl).2
  exact Option.some.inj (a.symm.trans b)
theorem ky_r {D : va_G} {ci : Nat → ClassId} {s : State} {cA : ClassId} (hK : va_K D hr_cl (hr_ty ci) s) (hN : va_K D hr_cl (hr_ty ci ++ [(cA, .object "HornRocks$Rock")]) s) : cA = ci 5 := by
  obtain ⟨k1, c1, -, -, -, a⟩ : va_RA s cA (.object "HornRocks$Rock") := (hN.2 6 (cA, .object "HornRocks$Rock") rfl).2
  obtain ⟨k2, c2, -, -, -, b⟩ : va_RA s (ci 5) (.object "HornRocks$Rock") := (hK.2 4 (ci 5, .object "HornRocks$Rock") rfl).2
  exact Option.some.inj (a.symm.trans b)
theorem ky_s {D : va_G} {ci : Nat → ClassId} {s : State} {cA : ClassId} (hK : va_K D hr_cl (hr_ty ci) s) (hN : va_K D hr_cl (hr_ty ci ++ [(cA, .object "HornRocks$Sheet")]) s) : cA = ci 6 := by
  obtain ⟨k1, c1, -, -, -, a⟩ : va_RA s cA (.object "HornRocks$Sheet") := (hN.2 6 (cA, .object "HornRocks$Sheet") rfl).2
  obtain ⟨k2, c2, -, -, -, b⟩ : va_RA s (ci 6) (.object "HornRocks$Sheet") := (hK.2 5 (ci 6, .object "HornRocks$Sheet") rfl).2
  exact Option.some.inj (a.symm.trans b)
/-- what a constructor's walk stands on -/
def ct_X (p : Program) (s : State) (m : MethodId) (args : Array Value) (meth : Method) (c : Code) (D : va_G) (ci : Nat → ClassId) (y : Nat) : Prop := p.tables.exec = Jvm.exec ∧ c.code = hr_cd y ∧ s.vm.findClass (hr_os (hr_ow y)) = some m.cls ∧ (∀ w ∈ hr_TT, w.before args s = true) ∧ va_K D hr_cl (hr_ty ci) s ∧ (hr_ow y = 7 ∨ meth.name = "<init>")
section
variable {p : Program} {l : Launch} {e : Env} {R : Room} {s : State} {m : MethodId} {args : Array Value} {below : List Frame} {meth : Method} {c : Code} {H : Heap} {locs : List Loc} {cells slots : Nat} {Q : State → Prop} {D : va_G} {ci : Nat → ClassId} {y : Nat} {A : Nat → Prop} {ws : va_W} {H0 : Heap} {pc : Nat} {ls : Array Slot} {rest : List Value} {a : Nat}
theorem ct_putF (X : ct_X p s m args meth c D ci y) (hP : va_P D hr_cl ws H) (hD : va_D A ws) (hS : va_S A H0 H locs) {i cc k : Nat} (q0 : Nat) {fs : List Value} {v : Value} (hf : hr_fl (hr_ow y) i = some (cc, k)) (ho : ¬ hr_ow y = 10) (hl7 : ¬ hr_ow y = 7) (he : ws[q0]? = some (a, .inr (cc, fs))) (hfin : ((hr_cq cc).2.1 k).2.2.2 = true) (hdecl : ((hr_cq cc).2.1 k).1 = hr_os (hr_ow y)) (hn : narrow (hr_tyq cc k) v = v) (hfit : fits (hr_tyq cc k) v = true) (hl : k < fs.length) (hdg : decode (hr_cd y) pc = .ok (.putfield i, 3))
    (kk : ∀ (H1 : Heap) (locs1 : List Loc), va_P D hr_cl (ws.set q0 (a, .inr (cc, fs.set k v))) H1 → va_D A (ws.set q0 (a, .inr (cc, fs.set k v))) → va_S A H0 H1 locs1 → W p l e R s m args below meth c H1 locs1 cells slots Q (F0 m (pc + 3) ls rest)) : W p l e R s m args below meth c H locs cells slots Q (F0 m pc ls (v :: .ref a :: rest)) := by
  obtain ⟨hx, hb, hown, hts, hK, hin⟩ := X
  obtain ⟨h7, hk, hw⟩ := hr_fl_word ho hf
  exact va_putF (C := (hr_cq cc).1) (T := (hr_cq cc).2.1) (N := (hr_cq cc).2.2) hx hb hts (hr_k_u _ h7) (hr_tyq cc) (hr_k_ty _ h7) (hr_k_nm _ h7) hown hK hP hD hS q0 he (hr_cq_at _ h7) k hk (hts _ hw) (fun _ z => z) hfin (hin.resolve_left hl7) hdecl (hr_k_ty _ h7 k hk) hn hfit hl hdg kk
theorem ct_put (X : ct_X p s m args meth c D ci y) (hP : va_P D hr_cl ws H) (hD : va_D A ws) (hS : va_S A H0 H locs) {i cc k : Nat} (q0 : Nat) {fs : List Value} {v : Value} (hf : hr_fl (hr_ow y) i = some (cc, k)) (ho : ¬ hr_ow y = 10) (he : ws[q0]? = some (a, .inr (cc, fs))) (hfin : ((hr_cq cc).2.1 k).2.2.2 = false) (hn : narrow (hr_tyq cc k) v = v) (hfit : fits (hr_tyq cc k) v = true) (hl : k < fs.length) (hdg : decode (hr_cd y) pc = .ok (.putfield i, 3))
    (kk : ∀ (H1 : Heap) (locs1 : List Loc), va_P D hr_cl (ws.set q0 (a, .inr (cc, fs.set k v))) H1 → va_D A (ws.set q0 (a, .inr (cc, fs.set k v))) → va_S A H0 H1 locs1 → W p l e R s m args below meth c H1 locs1 cells slots Q (F0 m (pc + 3) ls rest)) : W p l e R s m args below meth c H locs cells slots Q (F0 m pc ls (v :: .ref a :: rest)) := by
  obtain ⟨hx, hb, hown, hts, hK, hin⟩ := X
  obtain ⟨h7, hk, hw⟩ := hr_fl_word ho hf
  exact va_put (C := (hr_cq cc).1) (T := (hr_cq cc).2.1) (N := (hr_cq cc).2.2) hx hb hts (hr_k_u _ h7) (hr_tyq cc) (hr_k_ty _ h7) (hr_k_nm _ h7) hown hK hP hD hS q0 he (hr_cq_at _ h7) k hk (hts _ hw) (fun _ z => z) hfin (hr_k_ty _ h7 k hk) hn hfit hl hdg kk
theorem ct_get (X : ct_X p s m args meth c D ci y) (hP : va_P D hr_cl ws H) {i cc k : Nat} (q0 : Nat) {fs : List Value} {v : Value} (hf : hr_fl (hr_ow y) i = some (cc, k)) (ho : ¬ hr_ow y = 10) (he : ws[q0]? = some (a, .inr (cc, fs))) (hv : fs[k]? = some v) (hdg : decode (hr_cd y) pc = .ok (.getfield i, 3))
    (kk : W p l e R s m args below meth c H locs cells slots Q (F0 m (pc + 3) ls (v :: rest))) : W p l e R s m args below meth c H locs cells slots Q (F0 m pc ls (.ref a :: rest)) := by
  obtain ⟨hx, hb, hown, hts, hK, hin⟩ := X
  obtain ⟨h7, hk, hw⟩ := hr_fl_word ho hf
  exact va_get (C := (hr_cq cc).1) (T := (hr_cq cc).2.1) (N := (hr_cq cc).2.2) hx hb hts (hr_k_u _ h7) hown hK hP q0 he (hr_cq_at _ h7) k hk (hts _ hw) (fun _ z => z) hv hdg kk
theorem ct_arrI (X : ct_X p s m args meth c D ci y) (hP : va_P D hr_cl ws H) (hD : va_D A ws) (hS : va_S A H0 H locs) (hA : ∀ q, H0.size ≤ q → A q) {n : Int32} {N : Nat} (hn : ¬ n < 0) (hN : n.toNatClampNeg = N) (hb4 : N ≤ 1000) (hc : cells + 1 ≤ R.cells) (hs : slots + N ≤ R.slots) (hdg : decode (hr_cd y) pc = .ok (.newarray .int, 2))
    (kk : ∀ (q : Nat) (H1 : Heap), va_P D hr_cl (ws ++ [(q, .inl (ci 1, N, .inl (fun _ => 0)))]) H1 → va_D A (ws ++ [(q, .inl (ci 1, N, .inl (fun _ => 0)))]) → va_S A H0 H1 locs → W p l e R s m args below meth c H1 locs (cells + 1) (slots + N) Q (F0 m (pc + 2) ls (.ref q :: rest))) : W p l e R s m args below meth c H locs cells slots Q (F0 m pc ls (.int n :: rest)) := by
  obtain ⟨hx, hb, hown, hts, hK, hin⟩ := X
  refine va_newa (a0 := (N, .inl (fun _ => 0))) (ty := .int) hx hb (hts _ (hr_tt 223 (by decide +kernel) rfl)) rfl hK hP hD hS hA (fun _ => rfl) hn hN (by show N * 4 ≤ _; omega) hc hs hdg (fun q cA H1 hN hP1 hD1 hS1 => ?_)
  have e := ky_i hK hN
  subst e
  exact kk q H1 hP1 hD1 hS1
theorem ct_arrL (X : ct_X p s m args meth c D ci y) (hP : va_P D hr_cl ws H) (hD : va_D A ws) (hS : va_S A H0 H locs) (hA : ∀ q, H0.size ≤ q → A q) {n : Int32} {N : Nat} (hn : ¬ n < 0) (hN : n.toNatClampNeg = N) (hb4 : N ≤ 1000) (hc : cells + 1 ≤ R.cells) (hs : slots + N ≤ R.slots) (hdg : decode (hr_cd y) pc = .ok (.newarray .long, 2))
    (kk : ∀ (q : Nat) (H1 : Heap), va_P D hr_cl (ws ++ [(q, .inl (ci 2, N, .inr (.inl (fun _ => 0))))]) H1 → va_D A (ws ++ [(q, .inl (ci 2, N, .inr (.inl (fun _ => 0))))]) → va_S A H0 H1 locs → W p l e R s m args below meth c H1 locs (cells + 1) (slots + N) Q (F0 m (pc + 2) ls (.ref q :: rest))) : W p l e R s m args below meth c H locs cells slots Q (F0 m pc ls (.int n :: rest)) := by
  obtain ⟨hx, hb, hown, hts, hK, hin⟩ := X
  refine va_newa (a0 := (N, .inr (.inl (fun _ => 0)))) (ty := .long) hx hb (hts _ (hr_tt 197 (by decide +kernel) rfl)) rfl hK hP hD hS hA (fun _ => rfl) hn hN (by show N * 8 ≤ _; omega) hc hs hdg (fun q cA H1 hN hP1 hD1 hS1 => ?_)
  have e := ky_l hK hN
  subst e
  exact kk q H1 hP1 hD1 hS1
theorem ct_arrB (X : ct_X p s m args meth c D ci y) (hP : va_P D hr_cl ws H) (hD : va_D A ws) (hS : va_S A H0 H locs) (hA : ∀ q, H0.size ≤ q → A q) {n : Int32} {N : Nat} (hn : ¬ n < 0) (hN : n.toNatClampNeg = N) (hb4 : N ≤ 1000) (hc : cells + 1 ≤ R.cells) (hs : slots + N ≤ R.slots) (hdg : decode (hr_cd y) pc = .ok (.newarray .byte, 2))
    (kk : ∀ (q : Nat) (H1 : Heap), va_P D hr_cl (ws ++ [(q, .inl (ci 3, N, .inl (fun _ => 0)))]) H1 → va_D A (ws ++ [(q, .inl (ci 3, N, .inl (fun _ => 0)))]) → va_S A H0 H1 locs → W p l e R s m args below meth c H1 locs (cells + 1) (slots + N) Q (F0 m (pc + 2) ls (.ref q :: rest))) : W p l e R s m args below meth c H locs cells slots Q (F0 m pc ls (.int n :: rest)) := by
  obtain ⟨hx, hb, hown, hts, hK, hin⟩ := X
  refine va_newa (a0 := (N, .inl (fun _ => 0))) (ty := .byte) hx hb (hts _ (hr_tt 176 (by decide +kernel) rfl)) rfl hK hP hD hS hA (fun _ => rfl) hn hN (by show N * 1 ≤ _; omega) hc hs hdg (fun q cA H1 hN hP1 hD1 hS1 => ?_)
  have e := ky_b hK hN
  subst e
  exact kk q H1 hP1 hD1 hS1
theorem ct_arrC (X : ct_X p s m args meth c D ci y) (hP : va_P D hr_cl ws H) (hD : va_D A ws) (hS : va_S A H0 H locs) (hA : ∀ q, H0.size ≤ q → A q) {n : Int32} {N : Nat} (hn : ¬ n < 0) (hN : n.toNatClampNeg = N) (hb4 : N ≤ 1000) (hc : cells + 1 ≤ R.cells) (hs : slots + N ≤ R.slots) (hdg : decode (hr_cd y) pc = .ok (.newarray .char, 2))
    (kk : ∀ (q : Nat) (H1 : Heap), va_P D hr_cl (ws ++ [(q, .inl (ci 4, N, .inl (fun _ => 0)))]) H1 → va_D A (ws ++ [(q, .inl (ci 4, N, .inl (fun _ => 0)))]) → va_S A H0 H1 locs → W p l e R s m args below meth c H1 locs (cells + 1) (slots + N) Q (F0 m (pc + 2) ls (.ref q :: rest))) : W p l e R s m args below meth c H locs cells slots Q (F0 m pc ls (.int n :: rest)) := by
  obtain ⟨hx, hb, hown, hts, hK, hin⟩ := X
  refine va_newa (a0 := (N, .inl (fun _ => 0))) (ty := .char) hx hb (hts _ (hr_tt 758 (by decide +kernel) rfl)) rfl hK hP hD hS hA (fun _ => rfl) hn hN (by show N * 2 ≤ _; omega) hc hs hdg (fun q cA H1 hN hP1 hD1 hS1 => ?_)
  have e := ky_c hK hN
  subst e
  exact kk q H1 hP1 hD1 hS1
/-- a new object -/
theorem ct_new (X : ct_X p s m args meth c D ci y) (hP : va_P D hr_cl ws H) (hD : va_D A ws) (hS : va_S A H0 H locs) (hA : ∀ q, H0.size ≤ q → A q) {i : Nat} (cc : Nat) (h7 : cc < 7) {fs : List Value} (hcl : Cond.classLink (hr_os (hr_ow y)) i (hr_cq cc).1 ∈ hr_TT) (hinst : Cond.instantiable (hr_cq cc).1 (hr_cq cc).2.2 ∈ hr_TT) (hini : Cond.initialized (hr_cq cc).1 ∈ hr_TT) (hfs : ∀ j, j < (hr_cq cc).2.2 → defaultValue (hr_tyq cc j) = vp_V fs j) (hc : cells + 1 ≤ R.cells) (hs : slots + (hr_cq cc).2.2 ≤ R.slots) (hdg : decode (hr_cd y) pc = .ok (.new i, 3))
    (kk : ∀ (q : Nat) (H1 : Heap), va_P D hr_cl (ws ++ [(q, .inr (cc, fs))]) H1 → va_D A (ws ++ [(q, .inr (cc, fs))]) → va_S A H0 H1 locs → W p l e R s m args below meth c H1 locs (cells + 1) (slots + (hr_cq cc).2.2) Q (F0 m (pc + 3) ls (.ref q :: rest))) : W p l e R s m args below meth c H locs cells slots Q (F0 m pc ls rest) := by
  obtain ⟨hx, hb, hown, hts, hK, hin⟩ := X
  exact va_new (C := (hr_cq cc).1) (T := (hr_cq cc).2.1) (N := (hr_cq cc).2.2) hx hb hts (hr_k_u _ h7) (hr_tyq cc) (hr_k_ty _ h7) hown (hts _ hcl) (hts _ hinst) (hts _ hini) hK hP hD hS hA (hr_cq_at _ h7) hfs hc hs hdg kk
/-- Object() -/
theorem ct_obj (X : ct_X p s m args meth c D ci y) {i n : Nat} (hlink : Cond.methodLink (hr_os (hr_ow y)) i Lib.objectInit ∈ hr_TT) (hmx : c.maxLocals = n) (hl : ls.size = n) (hf : 1 ≤ R.frames) (hlo : 12 ≤ R.locals) (hdg : decode (hr_cd y) pc = .ok (.invokespecial i, 3))
    (kk : W p l e R s m args below meth c H locs cells slots Q (F0 m (pc + 3) ls [])) : W p l e R s m args below meth c H locs cells slots Q (F0 m pc ls [.ref a]) := by
  obtain ⟨hx, hb, hown, hts, hK, hin⟩ := X
  exact W.objInit hx hb hown (hts _ hlink) (hts _ (hr_tt 62 (by decide +kernel) rfl)) (hts _ (hr_tt 63 (by decide +kernel) rfl)) rfl (by rw [hmx]; exact hl) rfl hdg hf hlo kk
end
