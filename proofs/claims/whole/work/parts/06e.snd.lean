theorem hr_k_mk : ∀ e ∈ hr_lm, (e.2.2.2.1 = 0 → ¬ (e.2.2.1 = nJM_abs ∨ e.2.2.1 = nJM_max)) ∧ (e.2.2.2.1 ≠ 0 → e.2.2.2.1 ≠ 1 → ((e.1 = 1 ∧ e.2.1 = 31) ∨ (e.1 = 2 ∧ e.2.1 = 90)) ∧ e.2.2.1 = nX_far) := by decide +kernel
theorem hr_ml_word {o i z k p0 : Nat} (h : hr_ml o i = some (z, k, p0)) : z < hr_nM ∧ Cond.initialized (hr_nm z).cls ∈ hr_TT ∧
    (k = 0 → ¬ (z = nJM_abs ∨ z = nJM_max) ∧ Cond.methodLink (hr_os o) i (hr_nm z) ∈ hr_TT ∧ Cond.instanceMethod (hr_nm z) ∈ hr_TT ∧ Cond.selects (hr_nm z).cls (hr_nm z) (hr_nm z) ∈ hr_TT) ∧
    (k = 1 → Cond.methodLink (hr_os o) i (hr_nm z) ∈ hr_TT ∧ Cond.static (hr_nm z) ∈ hr_TT) ∧
    (k ≠ 0 → k ≠ 1 → ((o = 1 ∧ i = 31) ∨ (o = 2 ∧ i = 90)) ∧ z = nX_far ∧ Cond.static (hr_nm z) ∈ hr_TT) := by
  obtain ⟨e, h1, h2, h3⟩ := hr_find h
  simp only [Bool.and_eq_true, beq_iff_eq] at h2
  obtain ⟨rfl, rfl⟩ := h2
  have h4 := hr_k_m e h1
  have h5 := hr_k_mk e h1
  obtain ⟨e1, e2⟩ := Prod.mk.inj h3
  obtain ⟨e3, e4⟩ := Prod.mk.inj e2
  subst e1; subst e3
  unfold hr_okm at h4
  simp only [Bool.and_eq_true, decide_eq_true_eq] at h4
  obtain ⟨⟨h6, h7⟩, h8⟩ := h4
  refine ⟨h6, hr_tt _ h8 rfl, fun hk => ?_, fun hk => ?_, fun hk hk1 => ?_⟩
  · rw [if_pos hk] at h7
    simp only [Bool.and_eq_true, decide_eq_true_eq] at h7
    exact ⟨h5.1 hk, hr_tt _ h7.1.1 rfl, hr_tt _ h7.1.2 rfl, hr_tt _ h7.2 rfl⟩
  · rw [if_neg (by omega), if_pos hk] at h7
    simp only [Bool.and_eq_true, decide_eq_true_eq] at h7
    exact ⟨hr_tt _ h7.1 rfl, hr_tt _ h7.2 rfl⟩
  · rw [if_neg hk, if_neg hk1] at h7
    simp only [Bool.and_eq_true, decide_eq_true_eq] at h7
    exact ⟨(h5.2 hk hk1).1, (h5.2 hk hk1).2, hr_tt _ h7.2 rfl⟩
theorem hr_y_facts {y : Nat} (h : y < hr_nM) : (hr_nm y).cls = hr_os (hr_ow y) ∧ (plainName (hr_nm y).cls = true ∨ y = nJM_abs ∨ y = nJM_max) ∧ ((hr_nm y).cls ≠ "java/lang/invoke/MethodHandle" ∧ (hr_nm y).cls ≠ "java/lang/invoke/VarHandle") ∧ (parseMethodDescriptor (hr_nm y).desc).map (fun d => d.parameters.length) = some (hr_na y) := by
  have h1 := hr_k_y y h
  unfold hr_oky at h1
  simp only [Bool.and_eq_true, Bool.or_eq_true, decide_eq_true_eq] at h1
  exact ⟨h1.1.1.1, h1.1.1.2, h1.1.2, h1.2⟩
theorem hr_acw0 : Cond.methodLink "HornRocks" 231 arraycopyName ∈ hr_TT := hr_tt 647 (by decide +kernel) rfl
theorem hr_acw1 : Cond.static arraycopyName ∈ hr_TT := hr_tt 648 (by decide +kernel) rfl
theorem hr_acw2 : Cond.native arraycopyName ∈ lw_tbl := List.mem_of_getElem? (i := 649) (by decide +kernel)
theorem hr_acw3 : Cond.initialized "java/lang/System" ∈ hr_TT := hr_tt 55 (by decide +kernel) rfl
theorem hr_acw2g : goodWord (Cond.native arraycopyName) = true := by decide +kernel
theorem hr_mabs_nm : hr_nm nJM_abs = Lib.Math.abs.name := by decide +kernel
theorem hr_mmax_nm : hr_nm nJM_max = Lib.Math.max.name := by decide +kernel
theorem hr_mabs_cd : hr_cw nJM_abs = Cond.code Lib.Math.abs.name Lib.Math.abs.code 1 (some .int) := by decide +kernel
theorem hr_mmax_cd : hr_cw nJM_max = Cond.code Lib.Math.max.name Lib.Math.max.code 2 (some .int) := by decide +kernel
/-- the contract of a method that the tables hold -/
def hr_ws (z : Nat) : List Cond := Cond.code (hr_nm z) (hr_cd z) (hr_mx z) (hr_rt z) :: hr_TT
def hr_rm (z : Nat) : Room := { frames := hr_rf z, cells := 0, slots := 0, locals := hr_rl z }
def hr_Pc (ad : Nat → Nat) (sv : Value) (ci : Nat → ClassId) (D : va_G) (L : Nat) (xs : Nat → Int32) (as : List Value) (h : hr_H) : Array Value → State → Prop := va_Pc (as.map (hr_cv ad sv)) (fun U => hr_C ad sv ci D L xs U ∧ hr_R ad sv ci D L xs h U.heap)
def hr_Qc (ad : Nat → Nat) (sv : Value) (ci : Nat → ClassId) (D : va_G) (L : Nat) (xs : Nat → Int32) (v : Option Value) (h' : hr_H) : Array Value → State → Outcome → State → Prop := fun _ st o t => o = .returned (v.map (hr_cv ad sv)) ∧ hr_R ad sv ci D L xs h' t.heap ∧ va_F (hr_A ad) st t
def hr_M (l : Launch) (ad : Nat → Nat) (sv : Value) (ci : Nat → ClassId) (D : va_G) (L : Nat) (xs : Nat → Int32) (n : Nat) : Prop := ∀ (z : Nat) (as : List Value) (h : hr_H) (v : Option Value) (h' : hr_H), z < hr_nM → ¬ (z = nJM_abs ∨ z = nJM_max) → hr_ok (hr_mx z) as = true → hr_run n z (0, hr_en (hr_mx z) as, [], h) = some (v, h') → Met l (hr_nm z) (hr_ws z) (hr_rm z) (hr_Pc ad sv ci D L xs as h) (hr_Qc ad sv ci D L xs v h') 0 0 (hr_A ad)
theorem hr_blind {ad : Nat → Nat} {sv : Value} {ci : Nat → ClassId} {D : va_G} {L : Nat} {xs : Nat → Int32} {as : List Value} {h : hr_H} : FrameBlind (hr_Pc ad sv ci D L xs as h) := fun a U g mk q => ⟨q.1, hr_C.same (s := U) (U := U.calling g mk a) q.2.1 rfl rfl, q.2.2⟩
theorem hr_gd {z : Nat} (hz : z < hr_nM) : GoodIn hr_TT (hr_ws z) := fun w hw => by
  rcases List.mem_cons.mp hw with rfl | hw
  · exact ⟨hr_k_w z hz, good_of_word (hr_gw z)⟩
  · exact ⟨hw, good_of_word (List.mem_filter.mp hw).2⟩
theorem hr_gt {w : Cond} (hw : w ∈ hr_TT) : w ∈ hr_TT ∧ ((w.onTables && w.keeps) = true ∨ ∃ ty, w = .arrayClass ty) := ⟨hw, good_of_word (List.mem_filter.mp hw).2⟩
theorem hr_vmap {ad : Nat → Nat} {sv : Value} (v : Option Value) (r : List Value) : (v.map (hr_cv ad sv)).toList ++ r.map (hr_cv ad sv) = (v.toList ++ r).map (hr_cv ad sv) := by cases v <;> rfl
section
variable {p : Program} {l : Launch} {e : Env} {R : Room} {s : State} {m : MethodId} {args : Array Value} {below : List Frame} {meth : Method} {c : Code} {cells slots : Nat} {Q : State → Prop} {ad : Nat → Nat} {sv : Value} {ci : Nat → ClassId} {D : va_G} {L : Nat} {xs : Nat → Int32}
variable {y pc : Nat} {ls : hr_L} {st : List Value} {h : hr_H} {s' : hr_S}
theorem hr_goes {H : Heap} {locs : List Loc} {lsA : Array Slot} {st0 rest : List Value} {v : Option Value} {h' : hr_H} {a0 : Array Value} (hr : va_Run p l e R s m args below meth c H locs cells slots 0 0 (F0 m pc lsA st0) rest (hr_Qc ad sv ci D L xs v h' a0) (hr_A ad)) (hS : va_S (hr_A ad) s.heap H locs)
    (kk : ∀ (H1 : Heap) (locs1 : List Loc), hr_R ad sv ci D L xs h' H1 → va_S (hr_A ad) s.heap H1 locs1 → W p l e R s m args below meth c H1 locs1 cells slots Q (F0 m (pc + 3) lsA ((v.map (hr_cv ad sv)).toList ++ rest))) : W p l e R s m args below meth c H locs cells slots Q (F0 m pc lsA st0) := by
  intro T hT X
  obtain ⟨v1, st₀, t, T', L1, h0, X', hL, e1, e2, ⟨hv, hRt, hz, hk⟩, st⟩ := hr T hT X
  have hv : v1 = v.map (hr_cv ad sv) := by injection hv
  subst hv
  rw [h0] at hz hk
  obtain ⟨t2, a1, b1⟩ := kk T'.heap (locs ++ L1) (by rw [e1]; exact hRt)
    ⟨Nat.le_trans hS.1 (by rw [e1]; exact hz), fun q h1 h2 => by rw [e1, hk q (Nat.lt_of_lt_of_le h1 hS.1) h2]; exact hS.2.1 q h1 h2, fun q hq => by
      rcases List.mem_append.mp hq with h | h
      · exact hS.2.2 q h
      · exact hL q h⟩ T' rfl X'
  exact ⟨t2, st t2 a1, b1⟩
theorem hr_call_of {z z' pc' : Nat} {a0 as as' rs rest : List Value} (hx : hr_call y z pc a0 as rs = some (.inr (.inr (z', as', pc', rest)))) : z' = z ∧ as' = as ∧ pc' = pc + 3 ∧ rest = rs ∧ hr_rf z + 1 ≤ hr_rf y ∧ 8 + (hr_mx z + 11) + hr_rl z ≤ hr_rl y ∧ hr_cat rs ≤ 8 := by
  unfold hr_call at hx
  split at hx
  · rename_i g
    cases hx
    exact ⟨rfl, rfl, rfl, rfl, g⟩
  · cases hx
theorem so_invokevirtual {i z pc' : Nat} {as rest : List Value} {v : Option Value} {h' : hr_H} (B : hr_B p R s m args c cells slots ad sv ci D L xs y) (hd : decode (hr_cd y) pc = .ok (.invokevirtual i, 3)) (hx : hr_inv y i pc ls st h = some (.inr (.inr (z, as, pc', rest)))) (hM : z < hr_nM → ¬ (z = nJM_abs ∨ z = nJM_max) → Met l (hr_nm z) (hr_ws z) (hr_rm z) (hr_Pc ad sv ci D L xs as h) (hr_Qc ad sv ci D L xs v h') 0 0 (hr_A ad)) (k : hr_W p l e R s m args below meth c cells slots Q ad sv ci D L xs (hr_mx y) (pc', ls, v.toList ++ rest, h')) : hr_W p l e R s m args below meth c cells slots Q ad sv ci D L xs (hr_mx y) (pc, ls, st, h) := by
  unfold hr_inv at hx
  split at hx
  · rename_i z0 p0 hm
    split at hx
    · rename_i b r hdr
      split at hx
      · rename_i hb
        obtain ⟨rfl, rfl, rfl, rfl, r1, r2, r3⟩ := hr_call_of hx
        obtain ⟨w1, w2, w3, -, -⟩ := hr_ml_word hm
        obtain ⟨u0, u1, u2, u3⟩ := w3 rfl
        obtain ⟨f1, f2, f3, f4⟩ := hr_y_facts w1
        have hM := hM w1 u0
        intro H locs lsA hR hS hL
        have HC := B.2.2.2.2.2.1
        have hts := B.2.2.2.2.1
        have hst : st.map (hr_cv ad sv) = (((st.take (hr_na z)).reverse).map (hr_cv ad sv)).reverse ++ hr_tv ad sv b :: rest.map (hr_cv ad sv) := by
          rw [← List.map_reverse, List.reverse_reverse]
          have : st = st.take (hr_na z) ++ (.ref b :: rest) := by rw [← hdr, List.take_append_drop]
          conv => lhs; rw [this]
          rw [List.map_append]
          rfl
        have hb69 : ¬ b = 69 := by
          intro q
          subst q
          have h9 : hr_oc 69 = 99 := by decide +kernel
          rw [h9] at hb
          have : ∀ z, z < 194 → ¬ 99 = hr_cc z := by decide +kernel
          exact this z w1 hb
        rw [hr_tv_ne hb69] at hst
        have hrecv : ∃ cell : Cell, H[ad b]? = some cell ∧ cell.vm.isStatics = false ∧ s.vm.findClass (hr_nm z).cls = some cell.cls := by
          unfold hr_cc at hb
          split at hb
          · rename_i ho
            obtain ⟨q1, q2⟩ := hr_oc_7 hb
            have := vk_recv (i := b - 70) HC.2.2.2.2.2.2.2.2.1 (by omega) hS
            (try dsimp only at this)
            rw [hr_e70 q1] at this
            rw [f1, ho]
            exact this
          · rename_i ho
            have h7 : hr_ow z < 7 := by
              have : ∀ e ∈ hr_lm, e.2.2.2.1 = 0 → ¬ hr_ow e.2.2.1 = 10 → hr_ow e.2.2.1 < 7 := by decide +kernel
              obtain ⟨e, m1, m2, m3⟩ := hr_find hm
              obtain ⟨e1, e2⟩ := Prod.mk.inj m3
              obtain ⟨e3, e4⟩ := Prod.mk.inj e2
              rw [← e1] at ho ⊢
              exact this e m1 e3 ho
            obtain ⟨a57, hce⟩ := hr_oc_a (ad := ad) (sv := sv) (ci := ci) (h := h) h7 hb
            have hat := hr_w_at (ad := ad) (sv := sv) (ci := ci) (h := h) a57
            rw [hce] at hat
            have := va_recv HC.1 hR.1 (hr_cq_at _ h7) hat
            have e : ∀ o, o < 7 → (hr_cq o).1 = hr_os o := by decide +kernel
            rw [e _ h7, ← f1] at this
            exact this
        have hW8 : 2 * (F0 m pc lsA (st.map (hr_cv ad sv))).monitorRoom + ((rest.map (hr_cv ad sv)).map fun v => v.category).sum ≤ 8 := by
          rw [hr_cat_map HC.sv]
          show 2 * 0 + _ ≤ 8
          omega
        refine hr_goes (va_runV (C := (hr_nm z).cls) (b := ad b) (As := ((st.take (hr_na z)).reverse).map (hr_cv ad sv)) (rest := rest.map (hr_cv ad sv)) (nL := hr_mx y) (n := hr_na z) ⟨B.1, B.2.1, B.2.2.1, B.2.2.2.1, hts⟩ hM
          ⟨callB_of (hr_na z) hts (hr_gd w1) rfl rfl rfl (hts _ w2) (hts _ u1) ⟨f3.1, f3.2, f4⟩ ⟨Nat.le_trans r1 B.2.2.2.2.2.2.1.1, Nat.le_trans r2 B.2.2.2.2.2.2.1.2⟩, hts _ u2, hts _ u3⟩
          ⟨hr_blind, hrecv, fun U hU hW => ⟨?_, HC.warm hW hU hS, by rw [hU]; exact hR⟩⟩ rfl ?_ hL.1.1 hst hW8 hd B.2.2.2.2.2.2.2) hS (fun H1 locs1 hR1 hS1 => ?_)
        · show (Value.ref (ad b) :: _).toArray = _
          rw [List.map_cons]
          show _ = (hr_tv ad sv b :: _).toArray
          rw [hr_tv_ne hb69]
        · rw [List.length_map, List.length_reverse, List.length_take]
          have : hr_na z ≤ st.length := by
            have := congrArg List.length hdr
            rw [List.length_drop] at this
            simp at this
            omega
          omega
        · rw [hr_vmap]
          exact k H1 locs1 lsA hR1 hS1 hL
      · cases hx
    · cases hx
  · cases hx
theorem so_invokestatic {i z pc' : Nat} {as rest : List Value} {v : Option Value} {h' : hr_H} (B : hr_B p R s m args c cells slots ad sv ci D L xs y) (hd : decode (hr_cd y) pc = .ok (.invokestatic i, 3)) (hx : hr_ins y i pc ls st h = some (.inr (.inr (z, as, pc', rest)))) (hM : z < hr_nM → ¬ (z = nJM_abs ∨ z = nJM_max) → Met l (hr_nm z) (hr_ws z) (hr_rm z) (hr_Pc ad sv ci D L xs as h) (hr_Qc ad sv ci D L xs v h') 0 0 (hr_A ad)) (k : hr_W p l e R s m args below meth c cells slots Q ad sv ci D L xs (hr_mx y) (pc', ls, v.toList ++ rest, h')) : hr_W p l e R s m args below meth c cells slots Q ad sv ci D L xs (hr_mx y) (pc, ls, st, h) := by
  unfold hr_ins at hx
  split at hx
  · split at hx
    · split at hx
      · cases hx
      · cases hx
    · cases hx
  · split at hx
    · rename_i z0 kd p0 hm
      split at hx
      · split at hx
        · split at hx <;> cases hx
        · cases hx
      · rename_i n1
        split at hx
        · split at hx
          · split at hx <;> cases hx
          · cases hx
        · rename_i n2
          split at hx
          · rename_i hln
            obtain ⟨rfl, rfl, rfl, rfl, r1, r2, r3⟩ := hr_call_of hx
            obtain ⟨w1, w2, -, w4, w5⟩ := hr_ml_word hm
            obtain ⟨f1, f2, f3, f4⟩ := hr_y_facts w1
            have hM := hM w1 (fun q => q.elim n1 n2)
            intro H locs lsA hR hS hL
            have HC := B.2.2.2.2.2.1
            have hts := B.2.2.2.2.1
            have hst : st.map (hr_cv ad sv) = (((st.take (hr_na z)).reverse).map (hr_cv ad sv)).reverse ++ (st.drop (hr_na z)).map (hr_cv ad sv) := by
              rw [← List.map_reverse, List.reverse_reverse, ← List.map_append, List.take_append_drop]
            have hW8 : 2 * (F0 m pc lsA (st.map (hr_cv ad sv))).monitorRoom + (((st.drop (hr_na z)).map (hr_cv ad sv)).map fun v => v.category).sum ≤ 8 := by
              rw [hr_cat_map HC.sv]
              show 2 * 0 + _ ≤ 8
              omega
            have hlen : (((st.take (hr_na z)).reverse).map (hr_cv ad sv)).length = hr_na z := by
              rw [List.length_map, List.length_reverse, List.length_take]
              omega
            have hPre : PreS s H (hr_Pc ad sv ci D L xs (st.take (hr_na z)).reverse h) (((st.take (hr_na z)).reverse).map (hr_cv ad sv)) := ⟨hr_blind, fun U hU hW => ⟨rfl, HC.warm hW hU hS, by rw [hU]; exact hR⟩⟩
            have hK : ∀ (H1 : Heap) (locs1 : List Loc), hr_R ad sv ci D L xs h' H1 → va_S (hr_A ad) s.heap H1 locs1 → W p l e R s m args below meth c H1 locs1 cells slots Q (F0 m (pc + 3) lsA ((v.map (hr_cv ad sv)).toList ++ (st.drop (hr_na z)).map (hr_cv ad sv))) := by
              intro H1 locs1 hR1 hS1
              rw [hr_vmap]
              exact k H1 locs1 lsA hR1 hS1 hL
            by_cases hk : kd + 1 = 1
            · obtain ⟨u1, u2⟩ := w4 hk
              exact hr_goes (va_runS (As := ((st.take (hr_na z)).reverse).map (hr_cv ad sv)) (rest := (st.drop (hr_na z)).map (hr_cv ad sv)) (nL := hr_mx y) (n := hr_na z) ⟨B.1, B.2.1, B.2.2.1, B.2.2.2.1, hts⟩ hM
                ⟨callB_of (hr_na z) hts (hr_gd w1) rfl rfl rfl (hts _ w2) (hts _ u1) ⟨f3.1, f3.2, f4⟩ ⟨Nat.le_trans r1 B.2.2.2.2.2.2.1.1, Nat.le_trans r2 B.2.2.2.2.2.2.1.2⟩, hts _ u2⟩
                hPre rfl hlen hL.1.1 hst hW8 hd B.2.2.2.2.2.2.2) hS hK
            · obtain ⟨u1, u2, u3⟩ := w5 (by omega) hk
              have hnw : va_Nw (.methodLinkNest (hr_os (hr_ow y)) i (hr_nm z) "HornRocks") s := by
                subst u2
                rcases u1 with ⟨q1, q2⟩ | ⟨q1, q2⟩
                · rw [q1, q2]; exact HC.2.2.2.2.2.2.2.2.2.2.1.1
                · rw [q1, q2]; exact HC.2.2.2.2.2.2.2.2.2.2.1.2
              exact hr_goes (va_runSN (host := "HornRocks") (As := ((st.take (hr_na z)).reverse).map (hr_cv ad sv)) (rest := (st.drop (hr_na z)).map (hr_cv ad sv)) (nL := hr_mx y) (n := hr_na z) ⟨B.1, B.2.1, B.2.2.1, B.2.2.2.1, hts⟩ hM
                ⟨va_cnB (hr_na z) hts (hr_gd w1) rfl rfl rfl hnw (hts _ w2) ⟨f3.1, f3.2, f4⟩ ⟨Nat.le_trans r1 B.2.2.2.2.2.2.1.1, Nat.le_trans r2 B.2.2.2.2.2.2.1.2⟩, hts _ u3, trivial⟩
                hPre rfl hlen hL.1.1 hst hW8 hd B.2.2.2.2.2.2.2) hS hK
          · cases hx
    · cases hx
theorem so_ins {i : Nat} (B : hr_B p R s m args c cells slots ad sv ci D L xs y) (hd : decode (hr_cd y) pc = .ok (.invokestatic i, 3)) (hx : hr_ins y i pc ls st h = some (.inl s')) (k : hr_W p l e R s m args below meth c cells slots Q ad sv ci D L xs (hr_mx y) s') : hr_W p l e R s m args below meth c cells slots Q ad sv ci D L xs (hr_mx y) (pc, ls, st, h) := by
  unfold hr_ins at hx
  split at hx
  · rename_i h5
    obtain ⟨ho, rfl⟩ := h5
    split at hx
    · rename_i n dp b sp a r
      split at hx
      · rename_i hc
        obtain ⟨ha, hb, hn, hsp, hdp, h1, h2, h3, h4⟩ := hc
        have q := hr_go_eq hx
        subst q
        intro H locs lsA hR hS hL
        have HC := B.2.2.2.2.2.1
        have hts := B.2.2.2.2.1
        have hown := B.2.2.2.1
        rw [ho] at hown
        have hza : ¬ hr_ak a = 0 := by rw [ha]; decide
        have hzb : ¬ hr_ak b = 0 := by rw [hb]; decide
        have a57 : a < 57 := by
          rcases hr_ak_lt hza with u | ⟨-, u⟩ | ⟨-, u⟩ | ⟨-, u⟩
          · exact u
          all_goals (rw [ha] at u; exact absurd u (by decide))
        have b57 : b < 57 := by
          rcases hr_ak_lt hzb with u | ⟨-, u⟩ | ⟨-, u⟩ | ⟨-, u⟩
          · exact u
          all_goals (rw [hb] at u; exact absurd u (by decide))
        show W p l e R s m args below meth c H locs cells slots Q (F0 m pc lsA (.int n :: .int dp :: hr_tv ad sv b :: .int sp :: hr_tv ad sv a :: r.map (hr_cv ad sv)))
        rw [hr_tv_ne (hr_n57 a57), hr_tv_ne (hr_n57 b57)]
        have hata := hr_w_at (ad := ad) (sv := sv) (ci := ci) (h := h) a57
        have hatb := hr_w_at (ad := ad) (sv := sv) (ci := ci) (h := h) b57
        have e1 : ∀ h : hr_H, hr_ac ad h a = .inr (.inl (h.2 a)) := by intro h; unfold hr_ac; rw [ha]; rfl
        have e2 : ∀ h : hr_H, hr_ac ad h b = .inr (.inl (h.2 b)) := by intro h; unfold hr_ac; rw [hb]; rfl
        rw [hr_ce_arr hza, ha, e1] at hata
        rw [hr_ce_arr hzb, hb, e2] at hatb
        rw [hr_al_lt a57] at h1
        rw [hr_al_lt b57] at h2
        refine va_copyl B.1 B.2.1 (by rw [B.2.2.1, hL.1.1]) (own := "HornRocks") hown (hts _ hr_acw0) (hts _ (List.mem_filter.mpr ⟨hr_acw2, hr_acw2g⟩)) (hts _ hr_acw1) (hts _ hr_acw3) HC.1 hR.1 (hr_R.wD HC h) hS a b 1 1 (ty := .long) hata hatb rfl rfl rfl hsp hdp hn h1 h2 (fun _ _ => rfl) (Nat.le_trans h3 B.2.2.2.2.2.2.1.1) (by
          rw [hr_cat_map HC.sv]
          have : nativeFrameWords "java/lang/System" "arraycopy" 5 = 7 := by decide +kernel
          rw [this]
          have := B.2.2.2.2.2.2.1.2
          omega) hd (fun H1 locs1 hP1 _ hS1 => ?_)
        have hset := hr_w_set (ad := ad) (sv := sv) (ci := ci) (h := h) (h' := (h.1, hr_cpy h.2 a sp.toNatClampNeg b dp.toNatClampNeg n.toNatClampNeg)) (k := b) (e := .inl (ci 2, hr_all.getD b 0, .inr (.inl (va_cpy (h.2 a) (h.2 b) sp.toNatClampNeg dp.toNatClampNeg n.toNatClampNeg)))) b57 (by
          rw [hr_ce_arr hzb, hb, e2]
          have q : hr_cpy h.2 a sp.toNatClampNeg b dp.toNatClampNeg n.toNatClampNeg b = va_cpy (h.2 a) (h.2 b) sp.toNatClampNeg dp.toNatClampNeg n.toNatClampNeg := by funext j; exact if_pos rfl
          show Sum.inl (ci 2, hr_all.getD b 0, Sum.inr (Sum.inl (hr_cpy h.2 a sp.toNatClampNeg b dp.toNatClampNeg n.toNatClampNeg b))) = _
          rw [q]) (fun q _ hq => hr_ce_congr (fun j => rfl) (fun j => if_neg hq))
        rw [show (List.set (hr_w ad sv ci h) b (ad b, .inl (ci 2, hr_all.getD b 0, .inr (.inl (va_cpy (h.2 a) (h.2 b) sp.toNatClampNeg dp.toNatClampNeg n.toNatClampNeg))))) = hr_w ad sv ci (h.1, hr_cpy h.2 a sp.toNatClampNeg b dp.toNatClampNeg n.toNatClampNeg) from hset] at hP1
        exact k H1 locs1 lsA ⟨hP1, hR.2.1, (if_neg (hr_n57' b57)).trans hR.2.2⟩ hS1 hL
      · cases hx
    · cases hx
  · split at hx
    · rename_i z0 kd p0 hm
      obtain ⟨w1, w2, -, w4, w5⟩ := hr_ml_word hm
      have hts := B.2.2.2.2.1
      split at hx
      · rename_i hz
        subst hz
        split at hx
        · rename_i x r
          split at hx
          · rename_i hr
            have q := hr_go_eq hx
            subst q
            intro H locs lsA hR hS hL
            have HC := B.2.2.2.2.2.1
            by_cases hk : kd + 1 = 1
            · obtain ⟨u1, u2⟩ := w4 hk
              have hcw := hts _ (hr_k_w _ w1)
              rw [hr_mabs_cd] at hcw
              rw [hr_mabs_nm] at u1 u2 w2
              exact va_mabs B.1 B.2.1 (by rw [B.2.2.1, hL.1.1]) B.2.2.2.1 (hts _ u1) (hts _ u2) (hts _ w2) hcw (Nat.le_trans hr.1 B.2.2.2.2.2.2.1.1) (by rw [hr_cat_map HC.sv]; exact Nat.le_trans hr.2 B.2.2.2.2.2.2.1.2) B.2.2.2.2.2.2.2.1 B.2.2.2.2.2.2.2.2 hd (k H locs lsA hR hS hL)
            · exact absurd (w5 (by omega) hk).2.1 (by decide)
          · cases hx
        · cases hx
      · split at hx
        · rename_i hz
          subst hz
          split at hx
          · rename_i b a r
            split at hx
            · rename_i hr
              have q := hr_go_eq hx
              subst q
              intro H locs lsA hR hS hL
              have HC := B.2.2.2.2.2.1
              by_cases hk : kd + 1 = 1
              · obtain ⟨u1, u2⟩ := w4 hk
                have hcw := hts _ (hr_k_w _ w1)
                rw [hr_mmax_cd] at hcw
                rw [hr_mmax_nm] at u1 u2 w2
                exact va_mmax B.1 B.2.1 (by rw [B.2.2.1, hL.1.1]) B.2.2.2.1 (hts _ u1) (hts _ u2) (hts _ w2) hcw (Nat.le_trans hr.1 B.2.2.2.2.2.2.1.1) (by rw [hr_cat_map HC.sv]; exact Nat.le_trans hr.2 B.2.2.2.2.2.2.1.2) B.2.2.2.2.2.2.2.1 B.2.2.2.2.2.2.2.2 hd (k H locs lsA hR hS hL)
              · exact absurd (w5 (by omega) hk).2.1 (by decide)
            · cases hx
          · cases hx
        · split at hx
          · unfold hr_call at hx
            split at hx <;> cases hx
          · cases hx
    · cases hx
end
