/-! ===== each instruction is the machine's ===== -/
def hr_B (p : Program) (R : Room) (s : State) (m : MethodId) (args : Array Value) (c : Code) (cells slots : Nat) (ad : Nat → Nat) (sv : Value) (ci : Nat → ClassId) (D : va_G) (L : Nat) (xs : Nat → Int32) (y : Nat) : Prop :=
  p.tables.exec = Jvm.exec ∧ c.code = hr_cd y ∧ c.maxLocals = hr_mx y ∧ s.vm.findClass (hr_os (hr_ow y)) = some m.cls ∧ (∀ w ∈ hr_TT, w.before args s = true) ∧ hr_C ad sv ci D L xs s ∧ (hr_rf y ≤ R.frames ∧ hr_rl y ≤ R.locals) ∧ (cells ≤ R.cells ∧ slots ≤ R.slots)
def hr_W (p : Program) (l : Launch) (e : Env) (R : Room) (s : State) (m : MethodId) (args : Array Value) (below : List Frame) (meth : Method) (c : Code) (cells slots : Nat) (Q : State → Prop) (ad : Nat → Nat) (sv : Value) (ci : Nat → ClassId) (D : va_G) (L : Nat) (xs : Nat → Int32) (nL : Nat) (S : hr_S) : Prop :=
  ∀ (H : Heap) (locs : List Loc) (lsA : Array Slot), hr_R ad sv ci D L xs S.2.2.2 H → va_S (hr_A ad) s.heap H locs → hr_LR ad sv nL lsA S.2.1 → W p l e R s m args below meth c H locs cells slots Q (F0 m S.1 lsA (S.2.2.1.map (hr_cv ad sv)))
theorem hr_go_eq {pc : Nat} {ls : hr_L} {st : List Value} {h : hr_H} {s' : hr_S} (hx : hr_go pc ls st h = some (.inl s')) : s' = (pc, ls, st, h) := by unfold hr_go at hx; cases hx; rfl
theorem hr_jp_eq {pc : Nat} {off : Int} {ls : hr_L} {st : List Value} {h : hr_H} {s' : hr_S} (hx : hr_jp pc off ls st h = some (.inl s')) : ∃ t : Nat, (pc : Int) + off = (t : Int) ∧ s' = (t, ls, st, h) := by
  unfold hr_jp at hx
  split at hx
  · rename_i h0
    exact ⟨((pc : Int) + off).toNat, (Int.toNat_of_nonneg h0).symm, hr_go_eq hx⟩
  · cases hx
theorem hr_C.sv {ad : Nat → Nat} {sv : Value} {ci : Nat → ClassId} {D : va_G} {L : Nat} {xs : Nat → Int32} {s : State} (h : hr_C ad sv ci D L xs s) : sv = .null ∨ ∃ t, sv = .ref t := h.2.2.2.2.2.2.2.1.2
theorem hr_tv_nr {ad : Nat → Nat} {sv : Value} (hs : sv = .null ∨ ∃ t, sv = .ref t) (k : Nat) : hr_tv ad sv k = .null ∨ ∃ t, hr_tv ad sv k = .ref t := by
  unfold hr_tv
  split
  · exact hs
  · exact Or.inr ⟨_, rfl⟩
theorem hr_tv_ne {ad : Nat → Nat} {sv : Value} {k : Nat} (h : ¬ k = 69) : hr_tv ad sv k = .ref (ad k) := if_neg h
section
variable {p : Program} {l : Launch} {e : Env} {R : Room} {s : State} {m : MethodId} {args : Array Value} {below : List Frame} {meth : Method} {c : Code} {cells slots : Nat} {Q : State → Prop} {ad : Nat → Nat} {sv : Value} {ci : Nat → ClassId} {D : va_G} {L : Nat} {xs : Nat → Int32}
variable {y pc : Nat} {ls : hr_L} {st : List Value} {h : hr_H} {s' : hr_S}
theorem so_iconst {n : Int} (B : hr_B p R s m args c cells slots ad sv ci D L xs y) (hd : decode (hr_cd y) pc = .ok (.iconst n, 1)) (hx : hr_go (pc + 1) ls (.int (Int32.ofInt n) :: st) h = some (.inl s')) (k : hr_W p l e R s m args below meth c cells slots Q ad sv ci D L xs (hr_mx y) s') : hr_W p l e R s m args below meth c cells slots Q ad sv ci D L xs (hr_mx y) (pc, ls, st, h) := by
  have q := hr_go_eq hx
  subst q
  intro H locs lsA hR hS hL
  exact lv_iconst B.1 B.2.1 hd rfl (k H locs lsA hR hS hL)
theorem so_bipush {n : Int} (B : hr_B p R s m args c cells slots ad sv ci D L xs y) (hd : decode (hr_cd y) pc = .ok (.bipush n, 2)) (hx : hr_go (pc + 2) ls (.int (Int8.ofInt n).toInt32 :: st) h = some (.inl s')) (k : hr_W p l e R s m args below meth c cells slots Q ad sv ci D L xs (hr_mx y) s') : hr_W p l e R s m args below meth c cells slots Q ad sv ci D L xs (hr_mx y) (pc, ls, st, h) := by
  have q := hr_go_eq hx
  subst q
  intro H locs lsA hR hS hL
  exact lv_bipush B.1 B.2.1 hd rfl (k H locs lsA hR hS hL)
theorem so_sipush {n : Int} (B : hr_B p R s m args c cells slots ad sv ci D L xs y) (hd : decode (hr_cd y) pc = .ok (.sipush n, 3)) (hx : hr_go (pc + 3) ls (.int (Int16.ofInt n).toInt32 :: st) h = some (.inl s')) (k : hr_W p l e R s m args below meth c cells slots Q ad sv ci D L xs (hr_mx y) s') : hr_W p l e R s m args below meth c cells slots Q ad sv ci D L xs (hr_mx y) (pc, ls, st, h) := by
  have q := hr_go_eq hx
  subst q
  intro H locs lsA hR hS hL
  exact lv_sipush B.1 B.2.1 hd rfl (k H locs lsA hR hS hL)
theorem so_lconst {n : Fin 2} (B : hr_B p R s m args c cells slots ad sv ci D L xs y) (hd : decode (hr_cd y) pc = .ok (.lconst n, 1)) (hx : hr_go (pc + 1) ls (.long (Int64.ofNat (n : Nat)) :: st) h = some (.inl s')) (k : hr_W p l e R s m args below meth c cells slots Q ad sv ci D L xs (hr_mx y) s') : hr_W p l e R s m args below meth c cells slots Q ad sv ci D L xs (hr_mx y) (pc, ls, st, h) := by
  have q := hr_go_eq hx
  subst q
  intro H locs lsA hR hS hL
  exact lv_lconst B.1 B.2.1 hd rfl (k H locs lsA hR hS hL)
theorem so_null  (B : hr_B p R s m args c cells slots ad sv ci D L xs y) (hd : decode (hr_cd y) pc = .ok (.aconst_null, 1)) (hx : hr_go (pc + 1) ls (.null :: st) h = some (.inl s')) (k : hr_W p l e R s m args below meth c cells slots Q ad sv ci D L xs (hr_mx y) s') : hr_W p l e R s m args below meth c cells slots Q ad sv ci D L xs (hr_mx y) (pc, ls, st, h) := by
  have q := hr_go_eq hx
  subst q
  intro H locs lsA hR hS hL
  exact lv_null B.1 B.2.1 hd (k H locs lsA hR hS hL)
theorem so_iload_n {i : Fin 4} (B : hr_B p R s m args c cells slots ad sv ci D L xs y) (hd : decode (hr_cd y) pc = .ok (.iload_n i, 1)) (hx : hr_ldi (pc + 1) ls i st h = some (.inl s')) (k : hr_W p l e R s m args below meth c cells slots Q ad sv ci D L xs (hr_mx y) s') : hr_W p l e R s m args below meth c cells slots Q ad sv ci D L xs (hr_mx y) (pc, ls, st, h) := by
  unfold hr_ldi at hx
  split at hx
  · rename_i x hl
    have q := hr_go_eq hx
    subst q
    intro H locs lsA hR hS hL
    exact lv_iload_n B.1 B.2.1 hd rfl (hL.2.2 i _ hl) (k H locs lsA hR hS hL)
  · cases hx
theorem so_iload {i : Nat} (B : hr_B p R s m args c cells slots ad sv ci D L xs y) (hd : decode (hr_cd y) pc = .ok (.iload i, 2)) (hx : hr_ldi (pc + 2) ls i st h = some (.inl s')) (k : hr_W p l e R s m args below meth c cells slots Q ad sv ci D L xs (hr_mx y) s') : hr_W p l e R s m args below meth c cells slots Q ad sv ci D L xs (hr_mx y) (pc, ls, st, h) := by
  unfold hr_ldi at hx
  split at hx
  · rename_i x hl
    have q := hr_go_eq hx
    subst q
    intro H locs lsA hR hS hL
    exact lv_iload B.1 B.2.1 hd (hL.2.2 i _ hl) (k H locs lsA hR hS hL)
  · cases hx
theorem so_lload_n {i : Fin 4} (B : hr_B p R s m args c cells slots ad sv ci D L xs y) (hd : decode (hr_cd y) pc = .ok (.lload_n i, 1)) (hx : hr_ldl (pc + 1) ls i st h = some (.inl s')) (k : hr_W p l e R s m args below meth c cells slots Q ad sv ci D L xs (hr_mx y) s') : hr_W p l e R s m args below meth c cells slots Q ad sv ci D L xs (hr_mx y) (pc, ls, st, h) := by
  unfold hr_ldl at hx
  split at hx
  · rename_i x hl
    have q := hr_go_eq hx
    subst q
    intro H locs lsA hR hS hL
    exact lv_lload_n B.1 B.2.1 hd rfl (hL.2.2 i _ hl) (k H locs lsA hR hS hL)
  · cases hx
theorem so_lload {i : Nat} (B : hr_B p R s m args c cells slots ad sv ci D L xs y) (hd : decode (hr_cd y) pc = .ok (.lload i, 2)) (hx : hr_ldl (pc + 2) ls i st h = some (.inl s')) (k : hr_W p l e R s m args below meth c cells slots Q ad sv ci D L xs (hr_mx y) s') : hr_W p l e R s m args below meth c cells slots Q ad sv ci D L xs (hr_mx y) (pc, ls, st, h) := by
  unfold hr_ldl at hx
  split at hx
  · rename_i x hl
    have q := hr_go_eq hx
    subst q
    intro H locs lsA hR hS hL
    exact lv_lload B.1 B.2.1 hd (hL.2.2 i _ hl) (k H locs lsA hR hS hL)
  · cases hx
theorem so_val {i : Nat} {v : Value} {H : Heap} {locs : List Loc} {lsA : Array Slot} {rest : List Value} (B : hr_B p R s m args c cells slots ad sv ci D L xs y) (hd : decode (hr_cd y) pc = .ok (.aload i, 2)) (hv : v = .null ∨ ∃ t, v = .ref t) (hl : lsA[i]? = some (Slot.val v)) (k : W p l e R s m args below meth c H locs cells slots Q (F0 m (pc + 2) lsA (v :: rest))) : W p l e R s m args below meth c H locs cells slots Q (F0 m pc lsA rest) := by
  rcases hv with rfl | ⟨t, rfl⟩
  · exact lv_aloadN B.1 B.2.1 hd hl k
  · exact lv_aload B.1 B.2.1 hd hl k
theorem so_val_n {i : Fin 4} {v : Value} {H : Heap} {locs : List Loc} {lsA : Array Slot} {rest : List Value} (B : hr_B p R s m args c cells slots ad sv ci D L xs y) (hd : decode (hr_cd y) pc = .ok (.aload_n i, 1)) (hv : v = .null ∨ ∃ t, v = .ref t) (hl : lsA[(i : Nat)]? = some (Slot.val v)) (k : W p l e R s m args below meth c H locs cells slots Q (F0 m (pc + 1) lsA (v :: rest))) : W p l e R s m args below meth c H locs cells slots Q (F0 m pc lsA rest) := by
  rcases hv with rfl | ⟨t, rfl⟩
  · exact lv_aload_nN B.1 B.2.1 hd rfl hl k
  · exact lv_aload_n B.1 B.2.1 hd rfl hl k
theorem so_aload_n {i : Fin 4} (B : hr_B p R s m args c cells slots ad sv ci D L xs y) (hd : decode (hr_cd y) pc = .ok (.aload_n i, 1)) (hx : hr_lda (pc + 1) ls i st h = some (.inl s')) (k : hr_W p l e R s m args below meth c cells slots Q ad sv ci D L xs (hr_mx y) s') : hr_W p l e R s m args below meth c cells slots Q ad sv ci D L xs (hr_mx y) (pc, ls, st, h) := by
  unfold hr_lda at hx
  split at hx
  · rename_i x hl
    have q := hr_go_eq hx
    subst q
    intro H locs lsA hR hS hL
    exact so_val_n B hd (hr_tv_nr B.2.2.2.2.2.1.sv x) (hL.2.2 i _ hl) (k H locs lsA hR hS hL)
  · rename_i hl
    have q := hr_go_eq hx
    subst q
    intro H locs lsA hR hS hL
    exact so_val_n B hd (Or.inl rfl) (hL.2.2 i _ hl) (k H locs lsA hR hS hL)
  · cases hx
theorem so_aload {i : Nat} (B : hr_B p R s m args c cells slots ad sv ci D L xs y) (hd : decode (hr_cd y) pc = .ok (.aload i, 2)) (hx : hr_lda (pc + 2) ls i st h = some (.inl s')) (k : hr_W p l e R s m args below meth c cells slots Q ad sv ci D L xs (hr_mx y) s') : hr_W p l e R s m args below meth c cells slots Q ad sv ci D L xs (hr_mx y) (pc, ls, st, h) := by
  unfold hr_lda at hx
  split at hx
  · rename_i x hl
    have q := hr_go_eq hx
    subst q
    intro H locs lsA hR hS hL
    exact so_val B hd (hr_tv_nr B.2.2.2.2.2.1.sv x) (hL.2.2 i _ hl) (k H locs lsA hR hS hL)
  · rename_i hl
    have q := hr_go_eq hx
    subst q
    intro H locs lsA hR hS hL
    exact so_val B hd (Or.inl rfl) (hL.2.2 i _ hl) (k H locs lsA hR hS hL)
  · cases hx
theorem so_istore_n {i : Fin 4} (B : hr_B p R s m args c cells slots ad sv ci D L xs y) (hd : decode (hr_cd y) pc = .ok (.istore_n i, 1)) (hx : hr_sti (pc + 1) ls i st h = some (.inl s')) (k : hr_W p l e R s m args below meth c cells slots Q ad sv ci D L xs (hr_mx y) s') : hr_W p l e R s m args below meth c cells slots Q ad sv ci D L xs (hr_mx y) (pc, ls, st, h) := by
  unfold hr_sti at hx
  split at hx
  · rename_i x r
    unfold hr_sto at hx
    split at hx
    · rename_i hi
      have q := hr_go_eq hx
      subst q
      intro H locs lsA hR hS hL
      exact lv_istore_n B.1 B.2.1 hd rfl hL.has (by rw [← hL.2.1]; exact hi.1) rfl (fun lsB hB => k H locs lsB hR hS (hr_LR.set1 B.2.2.2.2.2.1.sv hL.2.1 hi.2 hB))
    · cases hx
  · cases hx
theorem so_istore {i : Nat} (B : hr_B p R s m args c cells slots ad sv ci D L xs y) (hd : decode (hr_cd y) pc = .ok (.istore i, 2)) (hx : hr_sti (pc + 2) ls i st h = some (.inl s')) (k : hr_W p l e R s m args below meth c cells slots Q ad sv ci D L xs (hr_mx y) s') : hr_W p l e R s m args below meth c cells slots Q ad sv ci D L xs (hr_mx y) (pc, ls, st, h) := by
  unfold hr_sti at hx
  split at hx
  · rename_i x r
    unfold hr_sto at hx
    split at hx
    · rename_i hi
      have q := hr_go_eq hx
      subst q
      intro H locs lsA hR hS hL
      exact lv_istore B.1 B.2.1 hd hL.has (by rw [← hL.2.1]; exact hi.1) rfl (fun lsB hB => k H locs lsB hR hS (hr_LR.set1 B.2.2.2.2.2.1.sv hL.2.1 hi.2 hB))
    · cases hx
  · cases hx
theorem so_lstore {i : Nat} (B : hr_B p R s m args c cells slots ad sv ci D L xs y) (hd : decode (hr_cd y) pc = .ok (.lstore i, 2)) (hx : hr_stl (pc + 2) ls i st h = some (.inl s')) (k : hr_W p l e R s m args below meth c cells slots Q ad sv ci D L xs (hr_mx y) s') : hr_W p l e R s m args below meth c cells slots Q ad sv ci D L xs (hr_mx y) (pc, ls, st, h) := by
  unfold hr_stl at hx
  split at hx
  · rename_i x r
    unfold hr_sto2 at hx
    split at hx
    · rename_i hi
      have q := hr_go_eq hx
      subst q
      intro H locs lsA hR hS hL
      exact lv_lstore B.1 B.2.1 hd hL.has (by rw [← hL.2.1]; exact hi.1) rfl (fun lsB hB => k H locs lsB hR hS (hr_LR.set2 B.2.2.2.2.2.1.sv hL.2.1 hi.2 hB))
    · cases hx
  · cases hx
theorem so_vst_n {i : Fin 4} {v : Value} {lv : List (Nat × Value)} {nL : Nat} {H : Heap} {locs : List Loc} {lsA : Array Slot} {rest : List Value} (B : hr_B p R s m args c cells slots ad sv ci D L xs y) (hd : decode (hr_cd y) pc = .ok (.astore_n i, 1)) (hv : v = .null ∨ ∃ t, v = .ref t) (h : lv_has lsA nL lv) (hn : (i : Nat) < nL) (k : ∀ lsB : Array Slot, lv_has lsB nL (((i : Nat), v) :: lv.filter (fun q => !(q.1 == (i : Nat)) && !(q.1 + 1 == (i : Nat) && q.2.category == 2))) → W p l e R s m args below meth c H locs cells slots Q (F0 m (pc + 1) lsB rest)) : W p l e R s m args below meth c H locs cells slots Q (F0 m pc lsA (v :: rest)) := by
  rcases hv with rfl | ⟨t, rfl⟩
  · exact lv_astore_nN B.1 B.2.1 hd rfl h hn rfl k
  · exact lv_astore_n B.1 B.2.1 hd rfl h hn rfl k
theorem so_astore_n {i : Fin 4} (B : hr_B p R s m args c cells slots ad sv ci D L xs y) (hd : decode (hr_cd y) pc = .ok (.astore_n i, 1)) (hx : hr_sta (pc + 1) ls i st h = some (.inl s')) (k : hr_W p l e R s m args below meth c cells slots Q ad sv ci D L xs (hr_mx y) s') : hr_W p l e R s m args below meth c cells slots Q ad sv ci D L xs (hr_mx y) (pc, ls, st, h) := by
  unfold hr_sta at hx
  split at hx
  · rename_i x r
    unfold hr_sto at hx
    split at hx
    · rename_i hi
      have q := hr_go_eq hx
      subst q
      intro H locs lsA hR hS hL
      exact so_vst_n B hd (hr_tv_nr B.2.2.2.2.2.1.sv x) hL.has (by rw [← hL.2.1]; exact hi.1) (fun lsB hB => k H locs lsB hR hS (hr_LR.set1 B.2.2.2.2.2.1.sv hL.2.1 hi.2 hB))
    · cases hx
  · rename_i r
    unfold hr_sto at hx
    split at hx
    · rename_i hi
      have q := hr_go_eq hx
      subst q
      intro H locs lsA hR hS hL
      exact so_vst_n B hd (Or.inl rfl) hL.has (by rw [← hL.2.1]; exact hi.1) (fun lsB hB => k H locs lsB hR hS (hr_LR.set1 B.2.2.2.2.2.1.sv hL.2.1 hi.2 hB))
    · cases hx
  · cases hx
theorem so_vst {i : Nat} {v : Value} {lv : List (Nat × Value)} {nL : Nat} {H : Heap} {locs : List Loc} {lsA : Array Slot} {rest : List Value} (B : hr_B p R s m args c cells slots ad sv ci D L xs y) (hd : decode (hr_cd y) pc = .ok (.astore i, 2)) (hv : v = .null ∨ ∃ t, v = .ref t) (h : lv_has lsA nL lv) (hn : (i : Nat) < nL) (k : ∀ lsB : Array Slot, lv_has lsB nL (((i : Nat), v) :: lv.filter (fun q => !(q.1 == (i : Nat)) && !(q.1 + 1 == (i : Nat) && q.2.category == 2))) → W p l e R s m args below meth c H locs cells slots Q (F0 m (pc + 2) lsB rest)) : W p l e R s m args below meth c H locs cells slots Q (F0 m pc lsA (v :: rest)) := by
  rcases hv with rfl | ⟨t, rfl⟩
  · exact lv_astoreN B.1 B.2.1 hd h hn rfl k
  · exact lv_astore B.1 B.2.1 hd h hn rfl k
theorem so_astore {i : Nat} (B : hr_B p R s m args c cells slots ad sv ci D L xs y) (hd : decode (hr_cd y) pc = .ok (.astore i, 2)) (hx : hr_sta (pc + 2) ls i st h = some (.inl s')) (k : hr_W p l e R s m args below meth c cells slots Q ad sv ci D L xs (hr_mx y) s') : hr_W p l e R s m args below meth c cells slots Q ad sv ci D L xs (hr_mx y) (pc, ls, st, h) := by
  unfold hr_sta at hx
  split at hx
  · rename_i x r
    unfold hr_sto at hx
    split at hx
    · rename_i hi
      have q := hr_go_eq hx
      subst q
      intro H locs lsA hR hS hL
      exact so_vst B hd (hr_tv_nr B.2.2.2.2.2.1.sv x) hL.has (by rw [← hL.2.1]; exact hi.1) (fun lsB hB => k H locs lsB hR hS (hr_LR.set1 B.2.2.2.2.2.1.sv hL.2.1 hi.2 hB))
    · cases hx
  · rename_i r
    unfold hr_sto at hx
    split at hx
    · rename_i hi
      have q := hr_go_eq hx
      subst q
      intro H locs lsA hR hS hL
      exact so_vst B hd (Or.inl rfl) hL.has (by rw [← hL.2.1]; exact hi.1) (fun lsB hB => k H locs lsB hR hS (hr_LR.set1 B.2.2.2.2.2.1.sv hL.2.1 hi.2 hB))
    · cases hx
  · cases hx
theorem so_iinc {i : Nat} {n : Int} (B : hr_B p R s m args c cells slots ad sv ci D L xs y) (hd : decode (hr_cd y) pc = .ok (.iinc i n, 3)) (hx : hr_x y (.iinc i n) pc ls st h = some (.inl s')) (k : hr_W p l e R s m args below meth c cells slots Q ad sv ci D L xs (hr_mx y) s') : hr_W p l e R s m args below meth c cells slots Q ad sv ci D L xs (hr_mx y) (pc, ls, st, h) := by
  simp only [hr_x] at hx
  split at hx
  · rename_i x hl
    unfold hr_sto at hx
    split at hx
    · rename_i hi
      have q := hr_go_eq hx
      subst q
      intro H locs lsA hR hS hL
      obtain ⟨j, hj⟩ := List.getElem?_of_mem (hr_as_mem (ad := ad) (sv := sv).mpr ⟨_, hl, rfl⟩)
      exact lv_iinc B.1 B.2.1 hd hL.has hj rfl (by rw [← hL.2.1]; exact hi.1) rfl (fun lsB hB => k H locs lsB hR hS (hr_LR.set1 B.2.2.2.2.2.1.sv hL.2.1 hi.2 hB))
    · cases hx
  · cases hx
theorem so_iadd (B : hr_B p R s m args c cells slots ad sv ci D L xs y) (hd : decode (hr_cd y) pc = .ok (.iadd, 1)) (hx : hr_bi (· + ·) pc ls st h = some (.inl s')) (k : hr_W p l e R s m args below meth c cells slots Q ad sv ci D L xs (hr_mx y) s') : hr_W p l e R s m args below meth c cells slots Q ad sv ci D L xs (hr_mx y) (pc, ls, st, h) := by
  unfold hr_bi at hx
  split at hx
  · rename_i b a r
    have q := hr_go_eq hx
    subst q
    intro H locs lsA hR hS hL
    exact lv_iadd B.1 B.2.1 hd (k H locs lsA hR hS hL)
  · cases hx
theorem so_isub (B : hr_B p R s m args c cells slots ad sv ci D L xs y) (hd : decode (hr_cd y) pc = .ok (.isub, 1)) (hx : hr_bi (· - ·) pc ls st h = some (.inl s')) (k : hr_W p l e R s m args below meth c cells slots Q ad sv ci D L xs (hr_mx y) s') : hr_W p l e R s m args below meth c cells slots Q ad sv ci D L xs (hr_mx y) (pc, ls, st, h) := by
  unfold hr_bi at hx
  split at hx
  · rename_i b a r
    have q := hr_go_eq hx
    subst q
    intro H locs lsA hR hS hL
    exact lv_isub B.1 B.2.1 hd (k H locs lsA hR hS hL)
  · cases hx
theorem so_imul (B : hr_B p R s m args c cells slots ad sv ci D L xs y) (hd : decode (hr_cd y) pc = .ok (.imul, 1)) (hx : hr_bi (· * ·) pc ls st h = some (.inl s')) (k : hr_W p l e R s m args below meth c cells slots Q ad sv ci D L xs (hr_mx y) s') : hr_W p l e R s m args below meth c cells slots Q ad sv ci D L xs (hr_mx y) (pc, ls, st, h) := by
  unfold hr_bi at hx
  split at hx
  · rename_i b a r
    have q := hr_go_eq hx
    subst q
    intro H locs lsA hR hS hL
    exact lv_imul B.1 B.2.1 hd (k H locs lsA hR hS hL)
  · cases hx
theorem so_iand (B : hr_B p R s m args c cells slots ad sv ci D L xs y) (hd : decode (hr_cd y) pc = .ok (.iand, 1)) (hx : hr_bi (· &&& ·) pc ls st h = some (.inl s')) (k : hr_W p l e R s m args below meth c cells slots Q ad sv ci D L xs (hr_mx y) s') : hr_W p l e R s m args below meth c cells slots Q ad sv ci D L xs (hr_mx y) (pc, ls, st, h) := by
  unfold hr_bi at hx
  split at hx
  · rename_i b a r
    have q := hr_go_eq hx
    subst q
    intro H locs lsA hR hS hL
    exact lv_iand B.1 B.2.1 hd (k H locs lsA hR hS hL)
  · cases hx
theorem so_ior (B : hr_B p R s m args c cells slots ad sv ci D L xs y) (hd : decode (hr_cd y) pc = .ok (.ior, 1)) (hx : hr_bi (· ||| ·) pc ls st h = some (.inl s')) (k : hr_W p l e R s m args below meth c cells slots Q ad sv ci D L xs (hr_mx y) s') : hr_W p l e R s m args below meth c cells slots Q ad sv ci D L xs (hr_mx y) (pc, ls, st, h) := by
  unfold hr_bi at hx
  split at hx
  · rename_i b a r
    have q := hr_go_eq hx
    subst q
    intro H locs lsA hR hS hL
    exact lv_ior B.1 B.2.1 hd (k H locs lsA hR hS hL)
  · cases hx
theorem so_ishl (B : hr_B p R s m args c cells slots ad sv ci D L xs y) (hd : decode (hr_cd y) pc = .ok (.ishl, 1)) (hx : hr_bi (fun x y => x <<< (y &&& 31)) pc ls st h = some (.inl s')) (k : hr_W p l e R s m args below meth c cells slots Q ad sv ci D L xs (hr_mx y) s') : hr_W p l e R s m args below meth c cells slots Q ad sv ci D L xs (hr_mx y) (pc, ls, st, h) := by
  unfold hr_bi at hx
  split at hx
  · rename_i b a r
    have q := hr_go_eq hx
    subst q
    intro H locs lsA hR hS hL
    exact lv_ishl B.1 B.2.1 hd (k H locs lsA hR hS hL)
  · cases hx
theorem so_ishr (B : hr_B p R s m args c cells slots ad sv ci D L xs y) (hd : decode (hr_cd y) pc = .ok (.ishr, 1)) (hx : hr_bi (fun x y => x >>> (y &&& 31)) pc ls st h = some (.inl s')) (k : hr_W p l e R s m args below meth c cells slots Q ad sv ci D L xs (hr_mx y) s') : hr_W p l e R s m args below meth c cells slots Q ad sv ci D L xs (hr_mx y) (pc, ls, st, h) := by
  unfold hr_bi at hx
  split at hx
  · rename_i b a r
    have q := hr_go_eq hx
    subst q
    intro H locs lsA hR hS hL
    exact lv_ishr B.1 B.2.1 hd (k H locs lsA hR hS hL)
  · cases hx
theorem so_iushr (B : hr_B p R s m args c cells slots ad sv ci D L xs y) (hd : decode (hr_cd y) pc = .ok (.iushr, 1)) (hx : hr_bi (fun x y => (x.toUInt32 >>> (y.toUInt32 &&& Int32.toUInt32 31)).toInt32) pc ls st h = some (.inl s')) (k : hr_W p l e R s m args below meth c cells slots Q ad sv ci D L xs (hr_mx y) s') : hr_W p l e R s m args below meth c cells slots Q ad sv ci D L xs (hr_mx y) (pc, ls, st, h) := by
  unfold hr_bi at hx
  split at hx
  · rename_i b a r
    have q := hr_go_eq hx
    subst q
    intro H locs lsA hR hS hL
    exact lv_iushr B.1 B.2.1 hd rfl (k H locs lsA hR hS hL)
  · cases hx
theorem so_idiv (B : hr_B p R s m args c cells slots ad sv ci D L xs y) (hd : decode (hr_cd y) pc = .ok (.idiv, 1)) (hx : hr_dv (· / ·) pc ls st h = some (.inl s')) (k : hr_W p l e R s m args below meth c cells slots Q ad sv ci D L xs (hr_mx y) s') : hr_W p l e R s m args below meth c cells slots Q ad sv ci D L xs (hr_mx y) (pc, ls, st, h) := by
  unfold hr_dv at hx
  split at hx
  · rename_i b a r
    split at hx
    · cases hx
    · rename_i hb
      have q := hr_go_eq hx
      subst q
      intro H locs lsA hR hS hL
      exact lv_idiv B.1 B.2.1 hd hb (k H locs lsA hR hS hL)
  · cases hx
theorem so_irem (B : hr_B p R s m args c cells slots ad sv ci D L xs y) (hd : decode (hr_cd y) pc = .ok (.irem, 1)) (hx : hr_dv (fun x y => x - x / y * y) pc ls st h = some (.inl s')) (k : hr_W p l e R s m args below meth c cells slots Q ad sv ci D L xs (hr_mx y) s') : hr_W p l e R s m args below meth c cells slots Q ad sv ci D L xs (hr_mx y) (pc, ls, st, h) := by
  unfold hr_dv at hx
  split at hx
  · rename_i b a r
    split at hx
    · cases hx
    · rename_i hb
      have q := hr_go_eq hx
      subst q
      intro H locs lsA hR hS hL
      exact lv_irem B.1 B.2.1 hd hb (k H locs lsA hR hS hL)
  · cases hx
theorem so_ladd (B : hr_B p R s m args c cells slots ad sv ci D L xs y) (hd : decode (hr_cd y) pc = .ok (.ladd, 1)) (hx : hr_bl (· + ·) pc ls st h = some (.inl s')) (k : hr_W p l e R s m args below meth c cells slots Q ad sv ci D L xs (hr_mx y) s') : hr_W p l e R s m args below meth c cells slots Q ad sv ci D L xs (hr_mx y) (pc, ls, st, h) := by
  unfold hr_bl at hx
  split at hx
  · rename_i b a r
    have q := hr_go_eq hx
    subst q
    intro H locs lsA hR hS hL
    exact lv_ladd B.1 B.2.1 hd (k H locs lsA hR hS hL)
  · cases hx
theorem so_lsub (B : hr_B p R s m args c cells slots ad sv ci D L xs y) (hd : decode (hr_cd y) pc = .ok (.lsub, 1)) (hx : hr_bl (· - ·) pc ls st h = some (.inl s')) (k : hr_W p l e R s m args below meth c cells slots Q ad sv ci D L xs (hr_mx y) s') : hr_W p l e R s m args below meth c cells slots Q ad sv ci D L xs (hr_mx y) (pc, ls, st, h) := by
  unfold hr_bl at hx
  split at hx
  · rename_i b a r
    have q := hr_go_eq hx
    subst q
    intro H locs lsA hR hS hL
    exact lv_lsub B.1 B.2.1 hd (k H locs lsA hR hS hL)
  · cases hx
theorem so_lmul (B : hr_B p R s m args c cells slots ad sv ci D L xs y) (hd : decode (hr_cd y) pc = .ok (.lmul, 1)) (hx : hr_bl (· * ·) pc ls st h = some (.inl s')) (k : hr_W p l e R s m args below meth c cells slots Q ad sv ci D L xs (hr_mx y) s') : hr_W p l e R s m args below meth c cells slots Q ad sv ci D L xs (hr_mx y) (pc, ls, st, h) := by
  unfold hr_bl at hx
  split at hx
  · rename_i b a r
    have q := hr_go_eq hx
    subst q
    intro H locs lsA hR hS hL
    exact lv_lmul B.1 B.2.1 hd (k H locs lsA hR hS hL)
  · cases hx
theorem so_land (B : hr_B p R s m args c cells slots ad sv ci D L xs y) (hd : decode (hr_cd y) pc = .ok (.land, 1)) (hx : hr_bl (· &&& ·) pc ls st h = some (.inl s')) (k : hr_W p l e R s m args below meth c cells slots Q ad sv ci D L xs (hr_mx y) s') : hr_W p l e R s m args below meth c cells slots Q ad sv ci D L xs (hr_mx y) (pc, ls, st, h) := by
  unfold hr_bl at hx
  split at hx
  · rename_i b a r
    have q := hr_go_eq hx
    subst q
    intro H locs lsA hR hS hL
    exact lv_land B.1 B.2.1 hd (k H locs lsA hR hS hL)
  · cases hx
theorem so_lor (B : hr_B p R s m args c cells slots ad sv ci D L xs y) (hd : decode (hr_cd y) pc = .ok (.lor, 1)) (hx : hr_bl (· ||| ·) pc ls st h = some (.inl s')) (k : hr_W p l e R s m args below meth c cells slots Q ad sv ci D L xs (hr_mx y) s') : hr_W p l e R s m args below meth c cells slots Q ad sv ci D L xs (hr_mx y) (pc, ls, st, h) := by
  unfold hr_bl at hx
  split at hx
  · rename_i b a r
    have q := hr_go_eq hx
    subst q
    intro H locs lsA hR hS hL
    exact lv_lor B.1 B.2.1 hd (k H locs lsA hR hS hL)
  · cases hx
theorem so_lshl (B : hr_B p R s m args c cells slots ad sv ci D L xs y) (hd : decode (hr_cd y) pc = .ok (.lshl, 1)) (hx : hr_x y .lshl pc ls st h = some (.inl s')) (k : hr_W p l e R s m args below meth c cells slots Q ad sv ci D L xs (hr_mx y) s') : hr_W p l e R s m args below meth c cells slots Q ad sv ci D L xs (hr_mx y) (pc, ls, st, h) := by
  simp only [hr_x] at hx
  split at hx
  · have q := hr_go_eq hx
    subst q
    intro H locs lsA hR hS hL
    exact lv_lshl B.1 B.2.1 hd rfl (k H locs lsA hR hS hL)
  · cases hx
theorem so_lcmp (B : hr_B p R s m args c cells slots ad sv ci D L xs y) (hd : decode (hr_cd y) pc = .ok (.lcmp, 1)) (hx : hr_x y .lcmp pc ls st h = some (.inl s')) (k : hr_W p l e R s m args below meth c cells slots Q ad sv ci D L xs (hr_mx y) s') : hr_W p l e R s m args below meth c cells slots Q ad sv ci D L xs (hr_mx y) (pc, ls, st, h) := by
  simp only [hr_x] at hx
  split at hx
  · have q := hr_go_eq hx
    subst q
    intro H locs lsA hR hS hL
    exact W.lcmp B.1 B.2.1 hd (k H locs lsA hR hS hL)
  · cases hx
theorem so_l2i (B : hr_B p R s m args c cells slots ad sv ci D L xs y) (hd : decode (hr_cd y) pc = .ok (.l2i, 1)) (hx : hr_x y .l2i pc ls st h = some (.inl s')) (k : hr_W p l e R s m args below meth c cells slots Q ad sv ci D L xs (hr_mx y) s') : hr_W p l e R s m args below meth c cells slots Q ad sv ci D L xs (hr_mx y) (pc, ls, st, h) := by
  simp only [hr_x] at hx
  split at hx
  · have q := hr_go_eq hx
    subst q
    intro H locs lsA hR hS hL
    exact lv_l2i B.1 B.2.1 hd rfl (k H locs lsA hR hS hL)
  · cases hx
theorem so_ineg (B : hr_B p R s m args c cells slots ad sv ci D L xs y) (hd : decode (hr_cd y) pc = .ok (.ineg, 1)) (hx : hr_un (fun x => .int (-x)) pc ls st h = some (.inl s')) (k : hr_W p l e R s m args below meth c cells slots Q ad sv ci D L xs (hr_mx y) s') : hr_W p l e R s m args below meth c cells slots Q ad sv ci D L xs (hr_mx y) (pc, ls, st, h) := by
  unfold hr_un at hx
  split at hx
  · rename_i a r
    have q := hr_go_eq hx
    subst q
    intro H locs lsA hR hS hL
    exact lv_ineg B.1 B.2.1 hd (k H locs lsA hR hS hL)
  · cases hx
theorem so_i2l (B : hr_B p R s m args c cells slots ad sv ci D L xs y) (hd : decode (hr_cd y) pc = .ok (.i2l, 1)) (hx : hr_un (fun x => .long x.toInt64) pc ls st h = some (.inl s')) (k : hr_W p l e R s m args below meth c cells slots Q ad sv ci D L xs (hr_mx y) s') : hr_W p l e R s m args below meth c cells slots Q ad sv ci D L xs (hr_mx y) (pc, ls, st, h) := by
  unfold hr_un at hx
  split at hx
  · rename_i a r
    have q := hr_go_eq hx
    subst q
    intro H locs lsA hR hS hL
    exact lv_i2l B.1 B.2.1 hd rfl (k H locs lsA hR hS hL)
  · cases hx
theorem so_i2b (B : hr_B p R s m args c cells slots ad sv ci D L xs y) (hd : decode (hr_cd y) pc = .ok (.i2b, 1)) (hx : hr_un (fun x => .int x.toInt8.toInt32) pc ls st h = some (.inl s')) (k : hr_W p l e R s m args below meth c cells slots Q ad sv ci D L xs (hr_mx y) s') : hr_W p l e R s m args below meth c cells slots Q ad sv ci D L xs (hr_mx y) (pc, ls, st, h) := by
  unfold hr_un at hx
  split at hx
  · rename_i a r
    have q := hr_go_eq hx
    subst q
    intro H locs lsA hR hS hL
    exact lv_i2b B.1 B.2.1 hd rfl (k H locs lsA hR hS hL)
  · cases hx
theorem so_i2s (B : hr_B p R s m args c cells slots ad sv ci D L xs y) (hd : decode (hr_cd y) pc = .ok (.i2s, 1)) (hx : hr_un (fun x => .int x.toInt16.toInt32) pc ls st h = some (.inl s')) (k : hr_W p l e R s m args below meth c cells slots Q ad sv ci D L xs (hr_mx y) s') : hr_W p l e R s m args below meth c cells slots Q ad sv ci D L xs (hr_mx y) (pc, ls, st, h) := by
  unfold hr_un at hx
  split at hx
  · rename_i a r
    have q := hr_go_eq hx
    subst q
    intro H locs lsA hR hS hL
    exact lv_i2s B.1 B.2.1 hd rfl (k H locs lsA hR hS hL)
  · cases hx
theorem so_i2c (B : hr_B p R s m args c cells slots ad sv ci D L xs y) (hd : decode (hr_cd y) pc = .ok (.i2c, 1)) (hx : hr_un (fun x => .int (x.toUInt32 % 65536).toInt32) pc ls st h = some (.inl s')) (k : hr_W p l e R s m args below meth c cells slots Q ad sv ci D L xs (hr_mx y) s') : hr_W p l e R s m args below meth c cells slots Q ad sv ci D L xs (hr_mx y) (pc, ls, st, h) := by
  unfold hr_un at hx
  split at hx
  · rename_i a r
    have q := hr_go_eq hx
    subst q
    intro H locs lsA hR hS hL
    exact lv_i2c B.1 B.2.1 hd rfl (k H locs lsA hR hS hL)
  · cases hx
theorem so_dup (B : hr_B p R s m args c cells slots ad sv ci D L xs y) (hd : decode (hr_cd y) pc = .ok (.dup, 1)) (hx : hr_x y .dup pc ls st h = some (.inl s')) (k : hr_W p l e R s m args below meth c cells slots Q ad sv ci D L xs (hr_mx y) s') : hr_W p l e R s m args below meth c cells slots Q ad sv ci D L xs (hr_mx y) (pc, ls, st, h) := by
  simp only [hr_x] at hx
  split at hx
  · split at hx
    · rename_i g
      have q := hr_go_eq hx
      subst q
      intro H locs lsA hR hS hL
      exact lv_dup B.1 B.2.1 hd (by rw [hr_cv_cat B.2.2.2.2.2.1.sv]; exact g) (k H locs lsA hR hS hL)
    · cases hx
  · cases hx
theorem so_pop (B : hr_B p R s m args c cells slots ad sv ci D L xs y) (hd : decode (hr_cd y) pc = .ok (.pop, 1)) (hx : hr_x y .pop pc ls st h = some (.inl s')) (k : hr_W p l e R s m args below meth c cells slots Q ad sv ci D L xs (hr_mx y) s') : hr_W p l e R s m args below meth c cells slots Q ad sv ci D L xs (hr_mx y) (pc, ls, st, h) := by
  simp only [hr_x] at hx
  split at hx
  · split at hx
    · rename_i g
      have q := hr_go_eq hx
      subst q
      intro H locs lsA hR hS hL
      exact lv_pop B.1 B.2.1 hd (by rw [hr_cv_cat B.2.2.2.2.2.1.sv]; exact g) (k H locs lsA hR hS hL)
    · cases hx
  · cases hx
theorem so_dup2 (B : hr_B p R s m args c cells slots ad sv ci D L xs y) (hd : decode (hr_cd y) pc = .ok (.dup2, 1)) (hx : hr_x y .dup2 pc ls st h = some (.inl s')) (k : hr_W p l e R s m args below meth c cells slots Q ad sv ci D L xs (hr_mx y) s') : hr_W p l e R s m args below meth c cells slots Q ad sv ci D L xs (hr_mx y) (pc, ls, st, h) := by
  simp only [hr_x] at hx
  split at hx
  · split at hx
    · rename_i g
      have q := hr_go_eq hx
      subst q
      intro H locs lsA hR hS hL
      exact lv_dup2_11 B.1 B.2.1 hd (by rw [hr_cv_cat B.2.2.2.2.2.1.sv]; exact g.1) (by rw [hr_cv_cat B.2.2.2.2.2.1.sv]; exact g.2) (k H locs lsA hR hS hL)
    · cases hx
  · cases hx
theorem so_goto {off : Int} (B : hr_B p R s m args c cells slots ad sv ci D L xs y) (hd : decode (hr_cd y) pc = .ok (.goto off, 3)) (hx : hr_jp pc off ls st h = some (.inl s')) (k : hr_W p l e R s m args below meth c cells slots Q ad sv ci D L xs (hr_mx y) s') : hr_W p l e R s m args below meth c cells slots Q ad sv ci D L xs (hr_mx y) (pc, ls, st, h) := by
  obtain ⟨t, ht, q⟩ := hr_jp_eq hx
  subst q
  intro H locs lsA hR hS hL
  exact lv_goto B.1 B.2.1 hd ht (k H locs lsA hR hS hL)
theorem so_if_eq {off : Int} {a : Int32} {H : Heap} {locs : List Loc} {lsA : Array Slot} {rest : List Value} (B : hr_B p R s m args c cells slots ad sv ci D L xs y) (hd : decode (hr_cd y) pc = .ok (.ifCond .eq off, 3)) (g : ¬ (a = 0)) (k : W p l e R s m args below meth c H locs cells slots Q (F0 m (pc + 3) lsA rest)) : W p l e R s m args below meth c H locs cells slots Q (F0 m pc lsA (.int a :: rest)) := by
  obtain ⟨hx, hb, -⟩ := B
  intro T hT X
  obtain ⟨t, u, v⟩ := k T hT X
  refine ⟨t, ?_, v⟩
  jvm_step X.here [X.here.top, hx, hb, hd, Op.ifCond.holds, g]
  exact u
theorem so_if_ne {off : Int} {a : Int32} {H : Heap} {locs : List Loc} {lsA : Array Slot} {rest : List Value} (B : hr_B p R s m args c cells slots ad sv ci D L xs y) (hd : decode (hr_cd y) pc = .ok (.ifCond .ne off, 3)) (g : ¬ (¬ a = 0)) (k : W p l e R s m args below meth c H locs cells slots Q (F0 m (pc + 3) lsA rest)) : W p l e R s m args below meth c H locs cells slots Q (F0 m pc lsA (.int a :: rest)) := by
  obtain ⟨hx, hb, -⟩ := B
  have g := Decidable.not_not.mp g
  intro T hT X
  obtain ⟨t, u, v⟩ := k T hT X
  refine ⟨t, ?_, v⟩
  jvm_step X.here [X.here.top, hx, hb, hd, Op.ifCond.holds, g]
  exact u
theorem so_if_lt {off : Int} {a : Int32} {H : Heap} {locs : List Loc} {lsA : Array Slot} {rest : List Value} (B : hr_B p R s m args c cells slots ad sv ci D L xs y) (hd : decode (hr_cd y) pc = .ok (.ifCond .lt off, 3)) (g : ¬ (a < 0)) (k : W p l e R s m args below meth c H locs cells slots Q (F0 m (pc + 3) lsA rest)) : W p l e R s m args below meth c H locs cells slots Q (F0 m pc lsA (.int a :: rest)) := by
  obtain ⟨hx, hb, -⟩ := B
  intro T hT X
  obtain ⟨t, u, v⟩ := k T hT X
  refine ⟨t, ?_, v⟩
  jvm_step X.here [X.here.top, hx, hb, hd, Op.ifCond.holds, g]
  exact u
theorem so_if_ge {off : Int} {a : Int32} {H : Heap} {locs : List Loc} {lsA : Array Slot} {rest : List Value} (B : hr_B p R s m args c cells slots ad sv ci D L xs y) (hd : decode (hr_cd y) pc = .ok (.ifCond .ge off, 3)) (g : ¬ (0 ≤ a)) (k : W p l e R s m args below meth c H locs cells slots Q (F0 m (pc + 3) lsA rest)) : W p l e R s m args below meth c H locs cells slots Q (F0 m pc lsA (.int a :: rest)) := by
  obtain ⟨hx, hb, -⟩ := B
  intro T hT X
  obtain ⟨t, u, v⟩ := k T hT X
  refine ⟨t, ?_, v⟩
  jvm_step X.here [X.here.top, hx, hb, hd, Op.ifCond.holds, g]
  exact u
theorem so_if_gt {off : Int} {a : Int32} {H : Heap} {locs : List Loc} {lsA : Array Slot} {rest : List Value} (B : hr_B p R s m args c cells slots ad sv ci D L xs y) (hd : decode (hr_cd y) pc = .ok (.ifCond .gt off, 3)) (g : ¬ (0 < a)) (k : W p l e R s m args below meth c H locs cells slots Q (F0 m (pc + 3) lsA rest)) : W p l e R s m args below meth c H locs cells slots Q (F0 m pc lsA (.int a :: rest)) := by
  obtain ⟨hx, hb, -⟩ := B
  intro T hT X
  obtain ⟨t, u, v⟩ := k T hT X
  refine ⟨t, ?_, v⟩
  jvm_step X.here [X.here.top, hx, hb, hd, Op.ifCond.holds, g]
  exact u
theorem so_if_le {off : Int} {a : Int32} {H : Heap} {locs : List Loc} {lsA : Array Slot} {rest : List Value} (B : hr_B p R s m args c cells slots ad sv ci D L xs y) (hd : decode (hr_cd y) pc = .ok (.ifCond .le off, 3)) (g : ¬ (a ≤ 0)) (k : W p l e R s m args below meth c H locs cells slots Q (F0 m (pc + 3) lsA rest)) : W p l e R s m args below meth c H locs cells slots Q (F0 m pc lsA (.int a :: rest)) := by
  obtain ⟨hx, hb, -⟩ := B
  intro T hT X
  obtain ⟨t, u, v⟩ := k T hT X
  refine ⟨t, ?_, v⟩
  jvm_step X.here [X.here.top, hx, hb, hd, Op.ifCond.holds, g]
  exact u
theorem so_icmp_eq {off : Int} {a b : Int32} {H : Heap} {locs : List Loc} {lsA : Array Slot} {rest : List Value} (B : hr_B p R s m args c cells slots ad sv ci D L xs y) (hd : decode (hr_cd y) pc = .ok (.if_icmp .eq off, 3)) (g : ¬ (a = b)) (k : W p l e R s m args below meth c H locs cells slots Q (F0 m (pc + 3) lsA rest)) : W p l e R s m args below meth c H locs cells slots Q (F0 m pc lsA (.int b :: .int a :: rest)) := by
  obtain ⟨hx, hb, -⟩ := B
  intro T hT X
  obtain ⟨t, u, v⟩ := k T hT X
  refine ⟨t, ?_, v⟩
  jvm_step X.here [X.here.top, hx, hb, hd, Op.if_icmp.holds, g]
  exact u
theorem so_icmp_ne {off : Int} {a b : Int32} {H : Heap} {locs : List Loc} {lsA : Array Slot} {rest : List Value} (B : hr_B p R s m args c cells slots ad sv ci D L xs y) (hd : decode (hr_cd y) pc = .ok (.if_icmp .ne off, 3)) (g : ¬ (¬ a = b)) (k : W p l e R s m args below meth c H locs cells slots Q (F0 m (pc + 3) lsA rest)) : W p l e R s m args below meth c H locs cells slots Q (F0 m pc lsA (.int b :: .int a :: rest)) := by
  obtain ⟨hx, hb, -⟩ := B
  have g := Decidable.not_not.mp g
  intro T hT X
  obtain ⟨t, u, v⟩ := k T hT X
  refine ⟨t, ?_, v⟩
  jvm_step X.here [X.here.top, hx, hb, hd, Op.if_icmp.holds, g]
  exact u
theorem so_icmp_lt {off : Int} {a b : Int32} {H : Heap} {locs : List Loc} {lsA : Array Slot} {rest : List Value} (B : hr_B p R s m args c cells slots ad sv ci D L xs y) (hd : decode (hr_cd y) pc = .ok (.if_icmp .lt off, 3)) (g : ¬ (a < b)) (k : W p l e R s m args below meth c H locs cells slots Q (F0 m (pc + 3) lsA rest)) : W p l e R s m args below meth c H locs cells slots Q (F0 m pc lsA (.int b :: .int a :: rest)) := by
  obtain ⟨hx, hb, -⟩ := B
  intro T hT X
  obtain ⟨t, u, v⟩ := k T hT X
  refine ⟨t, ?_, v⟩
  jvm_step X.here [X.here.top, hx, hb, hd, Op.if_icmp.holds, g]
  exact u
theorem so_icmp_ge {off : Int} {a b : Int32} {H : Heap} {locs : List Loc} {lsA : Array Slot} {rest : List Value} (B : hr_B p R s m args c cells slots ad sv ci D L xs y) (hd : decode (hr_cd y) pc = .ok (.if_icmp .ge off, 3)) (g : ¬ (b ≤ a)) (k : W p l e R s m args below meth c H locs cells slots Q (F0 m (pc + 3) lsA rest)) : W p l e R s m args below meth c H locs cells slots Q (F0 m pc lsA (.int b :: .int a :: rest)) := by
  obtain ⟨hx, hb, -⟩ := B
  intro T hT X
  obtain ⟨t, u, v⟩ := k T hT X
  refine ⟨t, ?_, v⟩
  jvm_step X.here [X.here.top, hx, hb, hd, Op.if_icmp.holds, g]
  exact u
theorem so_icmp_gt {off : Int} {a b : Int32} {H : Heap} {locs : List Loc} {lsA : Array Slot} {rest : List Value} (B : hr_B p R s m args c cells slots ad sv ci D L xs y) (hd : decode (hr_cd y) pc = .ok (.if_icmp .gt off, 3)) (g : ¬ (b < a)) (k : W p l e R s m args below meth c H locs cells slots Q (F0 m (pc + 3) lsA rest)) : W p l e R s m args below meth c H locs cells slots Q (F0 m pc lsA (.int b :: .int a :: rest)) := by
  obtain ⟨hx, hb, -⟩ := B
  intro T hT X
  obtain ⟨t, u, v⟩ := k T hT X
  refine ⟨t, ?_, v⟩
  jvm_step X.here [X.here.top, hx, hb, hd, Op.if_icmp.holds, g]
  exact u
theorem so_icmp_le {off : Int} {a b : Int32} {H : Heap} {locs : List Loc} {lsA : Array Slot} {rest : List Value} (B : hr_B p R s m args c cells slots ad sv ci D L xs y) (hd : decode (hr_cd y) pc = .ok (.if_icmp .le off, 3)) (g : ¬ (a ≤ b)) (k : W p l e R s m args below meth c H locs cells slots Q (F0 m (pc + 3) lsA rest)) : W p l e R s m args below meth c H locs cells slots Q (F0 m pc lsA (.int b :: .int a :: rest)) := by
  obtain ⟨hx, hb, -⟩ := B
  intro T hT X
  obtain ⟨t, u, v⟩ := k T hT X
  refine ⟨t, ?_, v⟩
  jvm_step X.here [X.here.top, hx, hb, hd, Op.if_icmp.holds, g]
  exact u
theorem so_ifCond {cc : ClassFile.Cond} {off : Int} (B : hr_B p R s m args c cells slots ad sv ci D L xs y) (hd : decode (hr_cd y) pc = .ok (.ifCond cc off, 3)) (hx : hr_x y (.ifCond cc off) pc ls st h = some (.inl s')) (k : hr_W p l e R s m args below meth c cells slots Q ad sv ci D L xs (hr_mx y) s') : hr_W p l e R s m args below meth c cells slots Q ad sv ci D L xs (hr_mx y) (pc, ls, st, h) := by
  simp only [hr_x] at hx
  split at hx
  · split at hx
    · rename_i g
      obtain ⟨t, ht, q⟩ := hr_jp_eq hx
      subst q
      intro H locs lsA hR hS hL
      cases cc
      · rw [hc_eq] at g; exact lv_if_eq B.1 B.2.1 hd ht (fun _ => (k H locs lsA hR hS hL)) (fun z => absurd g z)
      · rw [hc_ne] at g; exact lv_if_ne B.1 B.2.1 hd ht (fun _ => (k H locs lsA hR hS hL)) (fun z => absurd z g)
      · rw [hc_lt] at g; exact lv_if_lt B.1 B.2.1 hd ht (fun _ => (k H locs lsA hR hS hL)) (fun z => absurd g z)
      · rw [hc_ge] at g; exact lv_if_ge B.1 B.2.1 hd ht (fun _ => (k H locs lsA hR hS hL)) (fun z => absurd g z)
      · rw [hc_gt] at g; exact lv_if_gt B.1 B.2.1 hd ht (fun _ => (k H locs lsA hR hS hL)) (fun z => absurd g z)
      · rw [hc_le] at g; exact lv_if_le B.1 B.2.1 hd ht (fun _ => (k H locs lsA hR hS hL)) (fun z => absurd g z)
    · rename_i g
      have q := hr_go_eq hx
      subst q
      intro H locs lsA hR hS hL
      cases cc
      · rw [hc_eq] at g; exact so_if_eq B hd g (k H locs lsA hR hS hL)
      · rw [hc_ne] at g; exact so_if_ne B hd g (k H locs lsA hR hS hL)
      · rw [hc_lt] at g; exact so_if_lt B hd g (k H locs lsA hR hS hL)
      · rw [hc_ge] at g; exact so_if_ge B hd g (k H locs lsA hR hS hL)
      · rw [hc_gt] at g; exact so_if_gt B hd g (k H locs lsA hR hS hL)
      · rw [hc_le] at g; exact so_if_le B hd g (k H locs lsA hR hS hL)
  · cases hx
theorem so_if_icmp {cc : ClassFile.Cond} {off : Int} (B : hr_B p R s m args c cells slots ad sv ci D L xs y) (hd : decode (hr_cd y) pc = .ok (.if_icmp cc off, 3)) (hx : hr_x y (.if_icmp cc off) pc ls st h = some (.inl s')) (k : hr_W p l e R s m args below meth c cells slots Q ad sv ci D L xs (hr_mx y) s') : hr_W p l e R s m args below meth c cells slots Q ad sv ci D L xs (hr_mx y) (pc, ls, st, h) := by
  simp only [hr_x] at hx
  split at hx
  · split at hx
    · rename_i g
      obtain ⟨t, ht, q⟩ := hr_jp_eq hx
      subst q
      intro H locs lsA hR hS hL
      cases cc
      · rw [hc_eq] at g; exact lv_icmp_eq B.1 B.2.1 hd ht (fun _ => (k H locs lsA hR hS hL)) (fun z => absurd g z)
      · rw [hc_ne] at g; exact lv_icmp_ne B.1 B.2.1 hd ht (fun _ => (k H locs lsA hR hS hL)) (fun z => absurd z g)
      · rw [hc_lt] at g; exact lv_icmp_lt B.1 B.2.1 hd ht (fun _ => (k H locs lsA hR hS hL)) (fun z => absurd g z)
      · rw [hc_ge] at g; exact lv_icmp_ge B.1 B.2.1 hd ht (fun _ => (k H locs lsA hR hS hL)) (fun z => absurd g z)
      · rw [hc_gt] at g; exact lv_icmp_gt B.1 B.2.1 hd ht (fun _ => (k H locs lsA hR hS hL)) (fun z => absurd g z)
      · rw [hc_le] at g; exact lv_icmp_le B.1 B.2.1 hd ht (fun _ => (k H locs lsA hR hS hL)) (fun z => absurd g z)
    · rename_i g
      have q := hr_go_eq hx
      subst q
      intro H locs lsA hR hS hL
      cases cc
      · rw [hc_eq] at g; exact so_icmp_eq B hd g (k H locs lsA hR hS hL)
      · rw [hc_ne] at g; exact so_icmp_ne B hd g (k H locs lsA hR hS hL)
      · rw [hc_lt] at g; exact so_icmp_lt B hd g (k H locs lsA hR hS hL)
      · rw [hc_ge] at g; exact so_icmp_ge B hd g (k H locs lsA hR hS hL)
      · rw [hc_gt] at g; exact so_icmp_gt B hd g (k H locs lsA hR hS hL)
      · rw [hc_le] at g; exact so_icmp_le B hd g (k H locs lsA hR hS hL)
  · cases hx
end
