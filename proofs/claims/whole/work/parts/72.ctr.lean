/-! ===== the constructors: contracts ===== -/
/-- links of mates and arrays over own classes -/
def ct_N (U : State) : Prop := va_AO "HornRocks$Rock" U ∧ va_AO "HornRocks$Sheet" U ∧ va_Nw (.methodLinkNest "HornRocks$Sea" 36 (hr_nm 2) "HornRocks") U ∧ va_Nw (.methodLinkNest "HornRocks" 28 (hr_nm 3) "HornRocks") U
theorem ct_N.warm {s U : State} (h : ct_N s) (hW : s.WarmedH U.vm) : ct_N U := ⟨va_AO.moved hW.alike h.1, va_AO.moved hW.alike h.2.1, va_Nw.warmM hW h.2.2.1, va_Nw.warmM hW h.2.2.2⟩
theorem ct_N.same {u U : State} (h : ct_N u) (hv : U.vm = u.vm) : ct_N U := ⟨va_AO.moved (by rw [hv]; exact Vm.Alike.refl u.vm) h.1, va_AO.moved (by rw [hv]; exact Vm.Alike.refl u.vm) h.2.1, va_Nw.same rfl hv.symm h.2.2.1, va_Nw.same rfl hv.symm h.2.2.2⟩
/-- a constructor's contract: the new object alone becomes a world of cells -/
def ct_M {S : Type} (l : Launch) (D : va_G) (ci : Nat → ClassId) (z rf rl mc ms cc : Nat) (fs : List Value) (Wo : Nat → S → va_W) : Prop :=
  ∀ (h0 sz : Nat), Met l (hr_nm z) (hr_ws z) { frames := rf, cells := mc, slots := ms, locals := rl }
    (va_Pc [.ref h0] (fun U => U.heap.size = sz ∧ va_P D hr_cl [(h0, .inr (cc, fs))] U.heap ∧ va_K D hr_cl (hr_ty ci) U ∧ va_D (fun _ => True) [(h0, .inr (cc, fs))] ∧ ct_N U))
    (va_Qv (fun _ : S => True) (fun u t => va_P D hr_cl (Wo h0 u) t.heap ∧ va_D (va_A [(h0, .inr (cc, fs))] sz) (Wo h0 u)) (va_A [(h0, .inr (cc, fs))] sz)) mc ms (va_A [(h0, .inr (cc, fs))] sz)
theorem ct_of {S : Type} {l : Launch} {D : va_G} {ci : Nat → ClassId} {z rf rl mc ms cc : Nat} {fs : List Value} {Wo : Nat → S → va_W} (hz : z < hr_nM) (hj : ¬ (z = nJM_abs ∨ z = nJM_max)) (hrt : hr_rt z = none) (hnm : (hr_nm z).name = "<init>") (hmx : 1 ≤ hr_mx z)
    (body : ∀ (p : Program) (e : Env) (s : State) (m : MethodId) (args : Array Value) (below : List Frame) (meth : Method) (c : Code) (h0 : Nat) (A : Nat → Prop) (ls : Array Slot) (Q : State → Prop), ct_X p s m args meth c D ci z → c.maxLocals = hr_mx z → ct_N s → (∀ q, s.heap.size ≤ q → A q) → va_P D hr_cl [(h0, .inr (cc, fs))] s.heap → va_D A [(h0, .inr (cc, fs))] → lv_has ls (hr_mx z) [(0, .ref h0)] →
      (∀ (H : Heap) (locs : List Loc) (pc : Nat) (ls : Array Slot) (u : S), va_P D hr_cl (Wo h0 u) H → va_D A (Wo h0 u) → va_S A s.heap H locs → decode (hr_cd z) pc = .ok (.return_, 1) → W p l e { frames := rf, cells := mc, slots := ms, locals := rl } s m args below meth c H locs mc ms Q (F0 m pc ls [])) →
      W p l e { frames := rf, cells := mc, slots := ms, locals := rl } s m args below meth c s.heap [] 0 0 Q (F0 m 0 ls [])) : ct_M l D ci z rf rl mc ms cc fs Wo := by
  intro h0 sz
  obtain ⟨f1, f2, f3, f4⟩ := hr_y_facts hz
  refine Met.ofW (cc := hr_cd z) (maxL := hr_mx z) (ret := hr_rt z) (f2.resolve_right hj) rfl ?_
  intro p e s m args below meth c s₁ B hml hv
  obtain ⟨rfl, hsz, hP, hK, hD0, hN⟩ := hv
  have hx := B.exec
  have hb := B.bytes
  have hr := B.returns
  rw [hrt] at hr
  have hts0 := atoms_spec (ws := hr_ws z) B.pre
  have hts : ∀ w ∈ hr_TT, w.before #[Value.ref h0] s = true := fun w hw => hts0 w (List.mem_cons_of_mem _ hw)
  have hown : s.vm.findClass (hr_nm z).cls = some m.cls := findClass_of_methodNamed B.named
  rw [f1] at hown
  have hlocks := B.notSynchronized
  have hin : meth.name = "<init>" := ((name_of_methodNamed B.named B.method).1).trans hnm
  subst hsz
  have hD := hD0.self (sz := s.heap.size)
  have hl := lv_entry ([.ref h0]) (n := hr_mx z) hmx
  rw [lg_entry_eq]
  exact body p e s m _ below meth c h0 _ _ _ ⟨hx, hb, hown, hts, hK, Or.inr hin⟩ hml hN (fun q h => Or.inr h) hP hD hl (fun H locs pc ls u hP1 hD1 hS1 hdg => W.vret hx hb hr (fun t ht hW => ⟨⟨u, rfl, trivial, by rw [ht]; exact hP1, hD1⟩, hS1.F ht⟩) hS1.2.2 hdg hlocks)
section
variable {p : Program} {l : Launch} {e : Env} {R : Room} {s : State} {m : MethodId} {args : Array Value} {below : List Frame} {meth : Method} {c : Code} {H : Heap} {locs : List Loc} {cells slots : Nat} {Q : State → Prop} {D : va_G} {ci : Nat → ClassId} {y : Nat} {A : Nat → Prop} {ws : va_W} {H0 : Heap} {pc : Nat} {ls : Array Slot} {rest : List Value} {q n : Nat}
theorem ct_one {x : va_E} (hP : va_P D hr_cl (ws ++ [(q, x)]) H) (hD : va_D A (ws ++ [(q, x)])) (hS : va_S A H0 H locs) (hA : ∀ q, H0.size ≤ q → A q) : va_P D hr_cl [(q, x)] H ∧ va_D (fun _ => True) [(q, x)] ∧ ∀ b, va_A [(q, x)] H.size b → A b := by
  have hxx : (ws ++ [(q, x)])[ws.length]? = some (q, x) := by rw [List.getElem?_append_right (Nat.le_refl _), Nat.sub_self]; rfl
  have h1 : ∀ (k : Nat) (z : Nat × va_E), ([(q, x)] : va_W)[k]? = some z → k = 0 ∧ z = (q, x) := fun k z hz => by
    have h := (List.getElem?_eq_some_iff.mp hz).1
    have h0 : k = 0 := by simp at h; exact h
    subst h0
    cases hz
    exact ⟨rfl, rfl⟩
  refine ⟨fun k z hz => ?_, ⟨fun i j a b hi hj _ => ?_, fun _ _ _ => trivial⟩, fun b hb => ?_⟩
  · rw [(h1 k z hz).2]; exact hP _ _ hxx
  · rw [(h1 i a hi).1, (h1 j b hj).1]
  · rcases hb with ⟨k, e, hk⟩ | hb
    · have := (h1 k _ hk).2
      cases this
      exact hD.2 _ _ hxx
    · exact hA b (Nat.le_trans hS.1 hb)
/-- a call of a constructor of a mate -/
theorem ct_callN (X : ct_X p s m args meth c D ci y) (hml : c.maxLocals = n) (hsz : ls.size = n) (hN : ct_N s) {S : Type} {z rf rl mc ms cc i : Nat} {fs : List Value} {Wo : Nat → S → va_W} {host : String} (hM : ct_M l D ci z rf rl mc ms cc fs Wo) (hz : z < hr_nM) (hrt : hr_rt z = none) (hnm : (hr_nm z).name = "<init>") (hd : (hr_nm z).cls ≠ "java/lang/invoke/MethodHandle" ∧ (hr_nm z).cls ≠ "java/lang/invoke/VarHandle" ∧ (parseMethodDescriptor (hr_nm z).desc).map (fun d => d.parameters.length) = some 0) (hlink : va_Nw (.methodLinkNest (hr_os (hr_ow y)) i (hr_nm z) host) s) (hini : Cond.initialized (hr_nm z).cls ∈ hr_TT) (hinst : Cond.instanceMethod (hr_nm z) ∈ hr_TT) (hR : rf + 1 ≤ R.frames ∧ 8 + (hr_mx z + 11) + rl ≤ R.locals) (hf : cells + mc ≤ R.cells ∧ slots + ms ≤ R.slots) (hcat : (rest.map fun v => v.category).sum ≤ 8)
    (hP : va_P D hr_cl (ws ++ [(q, .inr (cc, fs))]) H) (hD : va_D A (ws ++ [(q, .inr (cc, fs))])) (hS : va_S A H0 H locs) (hA : ∀ q, H0.size ≤ q → A q) (hdg : decode (hr_cd y) pc = .ok (.invokespecial i, 3))
    (kk : ∀ (u : S) (H1 : Heap) (locs1 : List Loc), va_P D hr_cl (ws ++ Wo q u) H1 → va_D A (ws ++ Wo q u) → va_S A H0 H1 locs1 → W p l e R s m args below meth c H1 locs1 (cells + mc) (slots + ms) Q (F0 m (pc + 3) ls rest)) : W p l e R s m args below meth c H locs cells slots Q (F0 m pc ls (.ref q :: rest)) := by
  obtain ⟨hx, hb, hown, hts, hK, hin⟩ := X
  obtain ⟨hPc, hDc, hFc⟩ := ct_one hP hD hS hA
  have hw : hr_ws z = Cond.code (hr_nm z) (hr_cd z) (hr_mx z) none :: hr_TT := by unfold hr_ws; rw [hrt]
  refine va_callv (va_runIN (As := []) (rest := rest) ⟨hx, hb, hml, hown, hts⟩ (hM q H.size) ⟨va_cnB 0 hts (hr_gd hz) hw rfl rfl hlink (hts _ hini) hd hR, hnm, hts _ hinst⟩ ⟨fun a U g mk w => ?_, fun U hU hW => ⟨rfl, by rw [hU], by rw [hU]; exact hPc, va_K.moved hW.alike hK, hDc, hN.warm hW⟩⟩ rfl rfl hsz rfl (lv_room hcat) hdg hf) hS (fun b _ h => hFc b h) hFc (fun u t H1 locs1 ht hvm _ hB hz1 hk1 hS1 => ?_)
  · obtain ⟨q0, q1, qP, qK, qD, qN⟩ := w
    exact ⟨q0, q1, qP, va_K.moved (u := U) (U := U.calling g mk a) (Vm.Alike.refl U.vm) qK, qD, ct_N.same (u := U) (U := U.calling g mk a) qN rfl⟩
  · obtain ⟨hP1, hD1⟩ := hB
    rw [ht] at hP1
    obtain ⟨hP2, hD2⟩ := ct_join hP hD hk1 hFc hP1 hD1
    exact kk u H1 locs1 hP2 hD2 hS1
/-- a call of a constructor -/
theorem ct_callI (X : ct_X p s m args meth c D ci y) (hml : c.maxLocals = n) (hsz : ls.size = n) (hN : ct_N s) {S : Type} {z rf rl mc ms cc i : Nat} {fs : List Value} {Wo : Nat → S → va_W} (hM : ct_M l D ci z rf rl mc ms cc fs Wo) (hz : z < hr_nM) (hrt : hr_rt z = none) (hnm : (hr_nm z).name = "<init>") (hd : (hr_nm z).cls ≠ "java/lang/invoke/MethodHandle" ∧ (hr_nm z).cls ≠ "java/lang/invoke/VarHandle" ∧ (parseMethodDescriptor (hr_nm z).desc).map (fun d => d.parameters.length) = some 0) (hlink : Cond.methodLink (hr_os (hr_ow y)) i (hr_nm z) ∈ hr_TT) (hini : Cond.initialized (hr_nm z).cls ∈ hr_TT) (hinst : Cond.instanceMethod (hr_nm z) ∈ hr_TT) (hR : rf + 1 ≤ R.frames ∧ 8 + (hr_mx z + 11) + rl ≤ R.locals) (hf : cells + mc ≤ R.cells ∧ slots + ms ≤ R.slots) (hcat : (rest.map fun v => v.category).sum ≤ 8)
    (hP : va_P D hr_cl (ws ++ [(q, .inr (cc, fs))]) H) (hD : va_D A (ws ++ [(q, .inr (cc, fs))])) (hS : va_S A H0 H locs) (hA : ∀ q, H0.size ≤ q → A q) (hdg : decode (hr_cd y) pc = .ok (.invokespecial i, 3))
    (kk : ∀ (u : S) (H1 : Heap) (locs1 : List Loc), va_P D hr_cl (ws ++ Wo q u) H1 → va_D A (ws ++ Wo q u) → va_S A H0 H1 locs1 → W p l e R s m args below meth c H1 locs1 (cells + mc) (slots + ms) Q (F0 m (pc + 3) ls rest)) : W p l e R s m args below meth c H locs cells slots Q (F0 m pc ls (.ref q :: rest)) := by
  obtain ⟨hx, hb, hown, hts, hK, hin⟩ := X
  obtain ⟨hPc, hDc, hFc⟩ := ct_one hP hD hS hA
  have hw : hr_ws z = Cond.code (hr_nm z) (hr_cd z) (hr_mx z) none :: hr_TT := by unfold hr_ws; rw [hrt]
  refine va_callv (va_runI (As := []) (rest := rest) ⟨hx, hb, hml, hown, hts⟩ (hM q H.size) (cwI 0 hts (hr_gd hz) hw rfl rfl (hts _ hini) (hts _ hlink) (hts _ hinst) hnm hd hR) ⟨fun a U g mk w => ?_, fun U hU hW => ⟨rfl, by rw [hU], by rw [hU]; exact hPc, va_K.moved hW.alike hK, hDc, hN.warm hW⟩⟩ rfl rfl hsz rfl (lv_room hcat) hdg hf) hS (fun b _ h => hFc b h) hFc (fun u t H1 locs1 ht hvm _ hB hz1 hk1 hS1 => ?_)
  · obtain ⟨q0, q1, qP, qK, qD, qN⟩ := w
    exact ⟨q0, q1, qP, va_K.moved (u := U) (U := U.calling g mk a) (Vm.Alike.refl U.vm) qK, qD, ct_N.same (u := U) (U := U.calling g mk a) qN rfl⟩
  · obtain ⟨hP1, hD1⟩ := hB
    rw [ht] at hP1
    obtain ⟨hP2, hD2⟩ := ct_join hP hD hk1 hFc hP1 hD1
    exact kk u H1 locs1 hP2 hD2 hS1
end
