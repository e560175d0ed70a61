set_option maxHeartbeats 8000000 in
set_option maxRecDepth 100000 in
/-- from the entry, for every script of at most 3072 ints, the law comes to its end with true -/
theorem whole_start {p : Program} {e : Env} {s : State} {m : MethodId} {below : List Frame} {meth : Method} {c : Code} (l : Launch) {b L : Nat} {xs : Nat → Int32} (hL : L ≤ 3072) (C0 : lw_At p s m meth c b L xs) : W p l e room_1 s m #[Value.ref b] below meth c s.heap [] 0 0 (lw_Z below #[Value.ref b] s) (entryFrame m ([Value.ref b] : List Value).toArray 4) := by
  obtain ⟨hx, hb, hr, hml, hown, hts, hX, hbl, hlocks, hgv⟩ := C0
  have htt : ∀ w ∈ hr_TT, w.before #[Value.ref b] s = true := fun w hw => hts w (List.mem_filter.mp hw).1
  obtain ⟨D, ci, hK⟩ := st_K hts
  obtain ⟨t0, t1, t2, sv, aK, aV, hCC⟩ := st_C hL hK hts hX hbl hgv
  have hN : ct_N s := ⟨va_AO.of (hts _ (List.mem_of_getElem? (i := 71) (by decide +kernel))), va_AO.of (hts _ (List.mem_of_getElem? (i := 178) (by decide +kernel))), va_Nw.of rfl (hts _ (List.mem_of_getElem? (i := 73) (by decide +kernel))), va_Nw.of rfl (hts _ (List.mem_of_getElem? (i := 138) (by decide +kernel)))⟩
  have hbc : c.code = hr_cd 194 := hb
  have hown7 : s.vm.findClass (hr_os (hr_ow 194)) = some m.cls := hown
  have X : ct_X p s m #[Value.ref b] meth c D ci 194 := ⟨hx, hbc, hown7, htt, hK, Or.inl rfl⟩
  have hA : ∀ q, s.heap.size ≤ q → (fun q => s.heap.size ≤ q) q := fun _ h => h
  have hl : lv_has _ 4 [(0, .ref b)] := lv_entry ([.ref b]) (n := 4) (Nat.le_of_ble_eq_true rfl)
  rw [lg_entry_eq]
  have hP0 : va_P D hr_cl [] s.heap := fun k q hq => by simp at hq
  have hD0 : va_D (fun q => s.heap.size ≤ q) [] := ⟨fun i j p q hi => by simp at hi, fun k q hq => by simp at hq⟩
  refine ct_new X hP0 hD0 va_S.rf hA 5 (by decide) (fs := [.null, .null, .null, .int 0, .null, .null, .null, .null]) (hr_tt 56 (by decide +kernel) rfl) (hr_tt 57 (by decide +kernel) rfl) (hr_tt 41 (by decide +kernel) rfl) (by decide +kernel) (by decide) (by decide) dL_law_0 (fun q0 H hP hD hS => ?_)
  refine lv_dup hx hbc dL_law_3 rfl ?_
  refine ct_callI X (n := 4) (ws := []) hml hl.1 hN (ct_Horn l D ci) (by decide) rfl rfl (by decide +kernel) (hr_tt 58 (by decide +kernel) rfl) (hr_tt 41 (by decide +kernel) rfl) (hr_tt 59 (by decide +kernel) rfl) ⟨by decide, by decide⟩ ⟨by decide, by decide⟩ (Nat.le_of_ble_eq_true rfl) hP hD hS hA dL_law_4 (fun u H locs hP hD hS => ?_)
  have hP : va_P D hr_cl (xW ci q0 u) H := hP
  have hD : va_D (fun q => s.heap.size ≤ q) (xW ci q0 u) := hD
  refine lv_astore_n hx hbc dL_law_7 rfl hl (by decide) rfl (fun ls hl => ?_)
  have hl : lv_has ls 4 [(1, .ref q0), (0, .ref b)] := hl
  refine ct_new X hP hD hS hA 6 (by decide) (fs := [.null, .null, .null, .int 0, .null, .null, .int 0, .int 0, .int 0, .int 0, .long 0, .null, .null, .null, .null, .null, .null, .null]) (hr_tt 697 (by decide +kernel) rfl) (hr_tt 698 (by decide +kernel) rfl) (hr_tt 47 (by decide +kernel) rfl) (by decide +kernel) (by decide) (by decide) dL_law_8 (fun q44 H hP hD hS => ?_)
  refine lv_dup hx hbc dL_law_11 rfl ?_
  refine ct_callI X (n := 4) (ws := xW ci q0 u) hml hl.1 hN (ct_Model l D ci) (by decide) rfl rfl (by decide +kernel) (hr_tt 699 (by decide +kernel) rfl) (hr_tt 47 (by decide +kernel) rfl) (hr_tt 700 (by decide +kernel) rfl) ⟨by decide, by decide⟩ ⟨by decide, by decide⟩ (Nat.le_of_ble_eq_true rfl) hP hD hS hA dL_law_12 (fun v H locs hP hD hS => ?_)
  refine lv_astore_n hx hbc dL_law_15 rfl hl (by decide) rfl (fun ls hl => ?_)
  have hl : lv_has ls 4 [(2, .ref q44), (1, .ref q0), (0, .ref b)] := hl
  refine W.widen (k := 600000) (n := 7302250) (by decide) (by decide) ?_
  refine va_forget hS.2.2 ?_
  have hC := hCC (adF q0 q44 u v b t0 t1 t2 aK aV) rfl rfl rfl rfl (fun i hi => adF_K hi) (fun i hi => adF_V hi) (fun i j hi hj he => by
    obtain ⟨e1, h1⟩ := adF_at (ci := ci) (q0 := q0) (q44 := q44) (u := u) (v := v) (b := b) (t0 := t0) (t1 := t1) (t2 := t2) (aK := aK) (aV := aV) hi
    obtain ⟨e2, h2⟩ := adF_at (ci := ci) (q0 := q0) (q44 := q44) (u := u) (v := v) (b := b) (t0 := t0) (t1 := t1) (t2 := t2) (aK := aK) (aV := aV) hj
    exact hD.1 i j _ _ h1 h2 he) (fun k hk => by
    obtain ⟨e1, h1⟩ := adF_at (ci := ci) (q0 := q0) (q44 := q44) (u := u) (v := v) (b := b) (t0 := t0) (t1 := t1) (t2 := t2) (aK := aK) (aV := aV) hk
    exact hD.2 k _ h1)
  have hge : ∀ q, hr_A (adF q0 q44 u v b t0 t1 t2 aK aV) q → s.heap.size ≤ q := fun q ⟨k, hk, e0⟩ => by
    obtain ⟨e1, h1⟩ := adF_at (ci := ci) (q0 := q0) (q44 := q44) (u := u) (v := v) (b := b) (t0 := t0) (t1 := t1) (t2 := t2) (aK := aK) (aV := aV) hk
    rw [e0]
    exact hD.2 k _ h1
  obtain ⟨I', J', hden⟩ := law_den hL (st_Wd xs L) (show J0 L 57 0 = lN L from rfl)
  obtain ⟨n, hrun⟩ := den_run hden
  have BB : hr_B p room_1 s m #[Value.ref b] c 600000 7302250 (adF q0 q44 u v b t0 t1 t2 aK aV) sv ci D L xs 194 := ⟨hx, hbc, hml, hown7, htt, hC, ⟨by decide +kernel, by decide +kernel⟩, ⟨by decide, by decide⟩⟩
  refine hr_sim BB n (fun k _ => hr_met l _ sv ci D L xs k) _ _ _ hrun ?_ H [] ls (st_R hP) ⟨hS.1, fun a h _ => hS.2.1 a h (Nat.not_le.mpr h), fun _ h => by cases h⟩ (hr_LR.of hl rfl (fun i w hw => ?_))
  · intro op pc len ls st H locs lsA hd hln hxx hR' hS'
    refine va_forget (fun q hq => hge _ (hS'.2.2 q hq)) ?_
    cases op with
    | ireturn =>
      rcases hln with hln | rfl
      · exact absurd hln (Nat.succ_ne_zero _)
      have hxx : hr_ret 194 st = some (.inr (.inl (some (.int 1)))) := hxx
      unfold hr_ret at hxx
      split at hxx
      · split at hxx
        · cases hxx
          exact lw_ret hx hb hr hlocks hd
        · cases hxx
      · cases hxx
    | lreturn =>
      simp only [hr_x] at hxx
      split at hxx
      · split at hxx <;> cases hxx
      · cases hxx
    | areturn =>
      simp only [hr_x] at hxx
      split at hxx
      · split at hxx <;> cases hxx
      · split at hxx <;> cases hxx
      · cases hxx
    | return_ =>
      simp only [hr_x] at hxx
      split at hxx
      · split at hxx <;> cases hxx
      · cases hxx
    | _ => exact absurd hxx hr_x_noret
  · have h4 : i < 4 := (List.getElem?_eq_some_iff.mp hw).1
    rcases (show i = 0 ∨ i = 1 ∨ i = 2 ∨ i = 3 by omega) with rfl | rfl | rfl | rfl
    · cases hw; exact List.mem_cons_of_mem _ (List.mem_cons_of_mem _ List.mem_cons_self)
    · cases hw; exact List.mem_cons_of_mem _ List.mem_cons_self
    · cases hw; exact List.mem_cons_self
    · cases hw
