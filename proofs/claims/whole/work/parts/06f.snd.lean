/-! ===== a run of the abstract machine is a run of the machine ===== -/
theorem hr_go_nc {pc : Nat} {ls : hr_L} {st : List Value} {h : hr_H} {q : Nat × List Value × Nat × List Value} : ¬ hr_go pc ls st h = some (.inr (.inr q)) := by intro z; unfold hr_go at z; cases z
theorem hr_jp_nc {pc : Nat} {off : Int} {ls : hr_L} {st : List Value} {h : hr_H} {q : Nat × List Value × Nat × List Value} : ¬ hr_jp pc off ls st h = some (.inr (.inr q)) := by
  intro z
  unfold hr_jp at z
  split at z
  · exact hr_go_nc z
  · cases z
theorem hr_sto_nc {pc i : Nat} {ls : hr_L} {v : Value} {st : List Value} {h : hr_H} {q : Nat × List Value × Nat × List Value} : ¬ hr_sto pc ls i v st h = some (.inr (.inr q)) := by
  intro z
  unfold hr_sto at z
  split at z
  · exact hr_go_nc z
  · cases z
theorem hr_sto2_nc {pc i : Nat} {ls : hr_L} {v : Value} {st : List Value} {h : hr_H} {q : Nat × List Value × Nat × List Value} : ¬ hr_sto2 pc ls i v st h = some (.inr (.inr q)) := by
  intro z
  unfold hr_sto2 at z
  split at z
  · exact hr_go_nc z
  · cases z
set_option maxHeartbeats 4000000 in
theorem hr_x_nocall {y pc : Nat} {op : Instr} {ls : hr_L} {st : List Value} {h : hr_H} {q : Nat × List Value × Nat × List Value} (h1 : ¬ ∃ i, op = .invokevirtual i) (h2 : ¬ ∃ i, op = .invokestatic i) : ¬ hr_x y op pc ls st h = some (.inr (.inr q)) := by
  intro z
  cases op
  case invokevirtual i => exact h1 ⟨i, rfl⟩
  case invokestatic i => exact h2 ⟨i, rfl⟩
  all_goals first
    | (cases z; done)
    | exact hr_go_nc z
    | exact hr_jp_nc z
    | (simp only [hr_x, hr_ldi, hr_ldl, hr_lda, hr_sti, hr_stl, hr_sta, hr_bi, hr_dv, hr_bl, hr_un, hr_ld, hr_ret] at z
       repeat' split at z
       all_goals first | (cases z; done) | exact hr_go_nc z | exact hr_jp_nc z | exact hr_sto_nc z | exact hr_sto2_nc z)
theorem hr_go_nr {pc : Nat} {ls : hr_L} {st : List Value} {h : hr_H} {q : Option Value} : ¬ hr_go pc ls st h = some (.inr (.inl q)) := by intro z; unfold hr_go at z; cases z
theorem hr_jp_nr {pc : Nat} {off : Int} {ls : hr_L} {st : List Value} {h : hr_H} {q : Option Value} : ¬ hr_jp pc off ls st h = some (.inr (.inl q)) := by
  intro z
  unfold hr_jp at z
  split at z
  · exact hr_go_nr z
  · cases z
theorem hr_sto_nr {pc i : Nat} {ls : hr_L} {v : Value} {st : List Value} {h : hr_H} {q : Option Value} : ¬ hr_sto pc ls i v st h = some (.inr (.inl q)) := by
  intro z
  unfold hr_sto at z
  split at z
  · exact hr_go_nr z
  · cases z
theorem hr_sto2_nr {pc i : Nat} {ls : hr_L} {v : Value} {st : List Value} {h : hr_H} {q : Option Value} : ¬ hr_sto2 pc ls i v st h = some (.inr (.inl q)) := by
  intro z
  unfold hr_sto2 at z
  split at z
  · exact hr_go_nr z
  · cases z
def hr_isr (op : Instr) : Bool := match op with
  | .ireturn => true
  | .lreturn => true
  | .areturn => true
  | .return_ => true
  | _ => false
set_option maxHeartbeats 4000000 in
theorem hr_x_noret {y pc : Nat} {op : Instr} {ls : hr_L} {st : List Value} {h : hr_H} {q : Option Value} (ho : hr_isr op = false := by rfl) : ¬ hr_x y op pc ls st h = some (.inr (.inl q)) := by
  intro z
  cases op
  all_goals first
    | (cases ho; done)
    | (cases z; done)
    | exact hr_go_nr z
    | exact hr_jp_nr z
    | (simp only [hr_x, hr_ldi, hr_ldl, hr_lda, hr_sti, hr_stl, hr_sta, hr_bi, hr_dv, hr_bl, hr_un, hr_ld, hr_inv, hr_ins, hr_call] at z
       repeat' split at z
       all_goals first | (cases z; done) | exact hr_go_nr z | exact hr_jp_nr z | exact hr_sto_nr z | exact hr_sto2_nr z)
section
variable {p : Program} {l : Launch} {e : Env} {R : Room} {s : State} {m : MethodId} {args : Array Value} {below : List Frame} {meth : Method} {c : Code} {cells slots : Nat} {Q : State → Prop} {ad : Nat → Nat} {sv : Value} {ci : Nat → ClassId} {D : va_G} {L : Nat} {xs : Nat → Int32}
variable {y : Nat}
theorem so_step {pc len : Nat} {op : Instr} {ls : hr_L} {st : List Value} {h : hr_H} {s' : hr_S} (B : hr_B p R s m args c cells slots ad sv ci D L xs y) (hd : decode (hr_cd y) pc = .ok (op, len)) (hl : hr_ln op = 0 ∨ len = hr_ln op) (hx : hr_x y op pc ls st h = some (.inl s')) (k : hr_W p l e R s m args below meth c cells slots Q ad sv ci D L xs (hr_mx y) s') : hr_W p l e R s m args below meth c cells slots Q ad sv ci D L xs (hr_mx y) (pc, ls, st, h) := by
  cases op with
  | iconst n =>
    rcases hl with hl | rfl
    · exact absurd hl (Nat.succ_ne_zero _)
    · exact so_iconst B hd hx k
  | bipush n =>
    rcases hl with hl | rfl
    · exact absurd hl (Nat.succ_ne_zero _)
    · exact so_bipush B hd hx k
  | sipush n =>
    rcases hl with hl | rfl
    · exact absurd hl (Nat.succ_ne_zero _)
    · exact so_sipush B hd hx k
  | lconst n =>
    rcases hl with hl | rfl
    · exact absurd hl (Nat.succ_ne_zero _)
    · exact so_lconst B hd hx k
  | aconst_null =>
    rcases hl with hl | rfl
    · exact absurd hl (Nat.succ_ne_zero _)
    · exact so_null B hd hx k
  | iload_n i =>
    rcases hl with hl | rfl
    · exact absurd hl (Nat.succ_ne_zero _)
    · exact so_iload_n B hd hx k
  | iload i =>
    rcases hl with hl | rfl
    · exact absurd hl (Nat.succ_ne_zero _)
    · exact so_iload B hd hx k
  | lload_n i =>
    rcases hl with hl | rfl
    · exact absurd hl (Nat.succ_ne_zero _)
    · exact so_lload_n B hd hx k
  | lload i =>
    rcases hl with hl | rfl
    · exact absurd hl (Nat.succ_ne_zero _)
    · exact so_lload B hd hx k
  | aload_n i =>
    rcases hl with hl | rfl
    · exact absurd hl (Nat.succ_ne_zero _)
    · exact so_aload_n B hd hx k
  | aload i =>
    rcases hl with hl | rfl
    · exact absurd hl (Nat.succ_ne_zero _)
    · exact so_aload B hd hx k
  | istore_n i =>
    rcases hl with hl | rfl
    · exact absurd hl (Nat.succ_ne_zero _)
    · exact so_istore_n B hd hx k
  | istore i =>
    rcases hl with hl | rfl
    · exact absurd hl (Nat.succ_ne_zero _)
    · exact so_istore B hd hx k
  | lstore i =>
    rcases hl with hl | rfl
    · exact absurd hl (Nat.succ_ne_zero _)
    · exact so_lstore B hd hx k
  | astore_n i =>
    rcases hl with hl | rfl
    · exact absurd hl (Nat.succ_ne_zero _)
    · exact so_astore_n B hd hx k
  | astore i =>
    rcases hl with hl | rfl
    · exact absurd hl (Nat.succ_ne_zero _)
    · exact so_astore B hd hx k
  | iinc i n =>
    rcases hl with hl | rfl
    · exact absurd hl (Nat.succ_ne_zero _)
    · exact so_iinc B hd hx k
  | iadd =>
    rcases hl with hl | rfl
    · exact absurd hl (Nat.succ_ne_zero _)
    · exact so_iadd B hd hx k
  | isub =>
    rcases hl with hl | rfl
    · exact absurd hl (Nat.succ_ne_zero _)
    · exact so_isub B hd hx k
  | imul =>
    rcases hl with hl | rfl
    · exact absurd hl (Nat.succ_ne_zero _)
    · exact so_imul B hd hx k
  | iand =>
    rcases hl with hl | rfl
    · exact absurd hl (Nat.succ_ne_zero _)
    · exact so_iand B hd hx k
  | ior =>
    rcases hl with hl | rfl
    · exact absurd hl (Nat.succ_ne_zero _)
    · exact so_ior B hd hx k
  | ishl =>
    rcases hl with hl | rfl
    · exact absurd hl (Nat.succ_ne_zero _)
    · exact so_ishl B hd hx k
  | ishr =>
    rcases hl with hl | rfl
    · exact absurd hl (Nat.succ_ne_zero _)
    · exact so_ishr B hd hx k
  | iushr =>
    rcases hl with hl | rfl
    · exact absurd hl (Nat.succ_ne_zero _)
    · exact so_iushr B hd hx k
  | idiv =>
    rcases hl with hl | rfl
    · exact absurd hl (Nat.succ_ne_zero _)
    · exact so_idiv B hd hx k
  | irem =>
    rcases hl with hl | rfl
    · exact absurd hl (Nat.succ_ne_zero _)
    · exact so_irem B hd hx k
  | ladd =>
    rcases hl with hl | rfl
    · exact absurd hl (Nat.succ_ne_zero _)
    · exact so_ladd B hd hx k
  | lsub =>
    rcases hl with hl | rfl
    · exact absurd hl (Nat.succ_ne_zero _)
    · exact so_lsub B hd hx k
  | lmul =>
    rcases hl with hl | rfl
    · exact absurd hl (Nat.succ_ne_zero _)
    · exact so_lmul B hd hx k
  | land =>
    rcases hl with hl | rfl
    · exact absurd hl (Nat.succ_ne_zero _)
    · exact so_land B hd hx k
  | lor =>
    rcases hl with hl | rfl
    · exact absurd hl (Nat.succ_ne_zero _)
    · exact so_lor B hd hx k
  | lshl =>
    rcases hl with hl | rfl
    · exact absurd hl (Nat.succ_ne_zero _)
    · exact so_lshl B hd hx k
  | lcmp =>
    rcases hl with hl | rfl
    · exact absurd hl (Nat.succ_ne_zero _)
    · exact so_lcmp B hd hx k
  | l2i =>
    rcases hl with hl | rfl
    · exact absurd hl (Nat.succ_ne_zero _)
    · exact so_l2i B hd hx k
  | ineg =>
    rcases hl with hl | rfl
    · exact absurd hl (Nat.succ_ne_zero _)
    · exact so_ineg B hd hx k
  | i2l =>
    rcases hl with hl | rfl
    · exact absurd hl (Nat.succ_ne_zero _)
    · exact so_i2l B hd hx k
  | i2b =>
    rcases hl with hl | rfl
    · exact absurd hl (Nat.succ_ne_zero _)
    · exact so_i2b B hd hx k
  | i2s =>
    rcases hl with hl | rfl
    · exact absurd hl (Nat.succ_ne_zero _)
    · exact so_i2s B hd hx k
  | i2c =>
    rcases hl with hl | rfl
    · exact absurd hl (Nat.succ_ne_zero _)
    · exact so_i2c B hd hx k
  | dup =>
    rcases hl with hl | rfl
    · exact absurd hl (Nat.succ_ne_zero _)
    · exact so_dup B hd hx k
  | dup2 =>
    rcases hl with hl | rfl
    · exact absurd hl (Nat.succ_ne_zero _)
    · exact so_dup2 B hd hx k
  | pop =>
    rcases hl with hl | rfl
    · exact absurd hl (Nat.succ_ne_zero _)
    · exact so_pop B hd hx k
  | iaload =>
    rcases hl with hl | rfl
    · exact absurd hl (Nat.succ_ne_zero _)
    · exact so_iaload B hd hx k
  | baload =>
    rcases hl with hl | rfl
    · exact absurd hl (Nat.succ_ne_zero _)
    · exact so_baload B hd hx k
  | caload =>
    rcases hl with hl | rfl
    · exact absurd hl (Nat.succ_ne_zero _)
    · exact so_caload B hd hx k
  | laload =>
    rcases hl with hl | rfl
    · exact absurd hl (Nat.succ_ne_zero _)
    · exact so_laload B hd hx k
  | aaload =>
    rcases hl with hl | rfl
    · exact absurd hl (Nat.succ_ne_zero _)
    · exact so_aaload B hd hx k
  | iastore =>
    rcases hl with hl | rfl
    · exact absurd hl (Nat.succ_ne_zero _)
    · exact so_iastore B hd hx k
  | bastore =>
    rcases hl with hl | rfl
    · exact absurd hl (Nat.succ_ne_zero _)
    · exact so_bastore B hd hx k
  | lastore =>
    rcases hl with hl | rfl
    · exact absurd hl (Nat.succ_ne_zero _)
    · exact so_lastore B hd hx k
  | arraylength =>
    rcases hl with hl | rfl
    · exact absurd hl (Nat.succ_ne_zero _)
    · exact so_arraylength B hd hx k
  | goto off =>
    rcases hl with hl | rfl
    · exact absurd hl (Nat.succ_ne_zero _)
    · exact so_goto B hd hx k
  | ifCond cc off =>
    rcases hl with hl | rfl
    · exact absurd hl (Nat.succ_ne_zero _)
    · exact so_ifCond B hd hx k
  | if_icmp cc off =>
    rcases hl with hl | rfl
    · exact absurd hl (Nat.succ_ne_zero _)
    · exact so_if_icmp B hd hx k
  | ifnonnull off =>
    rcases hl with hl | rfl
    · exact absurd hl (Nat.succ_ne_zero _)
    · exact so_ifnonnull B hd hx k
  | ldc i =>
    rcases hl with hl | rfl
    · exact absurd hl (Nat.succ_ne_zero _)
    · exact so_ldc B hd hx k
  | ldc_w i =>
    rcases hl with hl | rfl
    · exact absurd hl (Nat.succ_ne_zero _)
    · exact so_ldc_w B hd hx k
  | ldc2_w i =>
    rcases hl with hl | rfl
    · exact absurd hl (Nat.succ_ne_zero _)
    · exact so_ldc2_w B hd hx k
  | getstatic i =>
    rcases hl with hl | rfl
    · exact absurd hl (Nat.succ_ne_zero _)
    · exact so_getstatic B hd hx k
  | getfield i =>
    rcases hl with hl | rfl
    · exact absurd hl (Nat.succ_ne_zero _)
    · exact so_getfield B hd hx k
  | putfield i =>
    rcases hl with hl | rfl
    · exact absurd hl (Nat.succ_ne_zero _)
    · exact so_putfield B hd hx k
  | invokestatic i =>
    rcases hl with hl | rfl
    · exact absurd hl (Nat.succ_ne_zero _)
    · exact so_ins B hd hx k
  | tableswitch d lo hi offs => exact so_tableswitch B hd hx k
  | lookupswitch d ps => exact so_lookupswitch B hd hx k
  | invokevirtual i =>
    exfalso
    have hx : hr_inv y i pc ls st h = some (.inl s') := hx
    unfold hr_inv at hx
    split at hx
    · split at hx
      · split at hx
        · unfold hr_call at hx
          split at hx <;> cases hx
        · cases hx
      · cases hx
    · cases hx
  | ireturn =>
    exfalso
    have hx : hr_ret y st = some (.inl s') := hx
    unfold hr_ret at hx
    split at hx
    · split at hx <;> cases hx
    · cases hx
  | lreturn =>
    exfalso
    simp only [hr_x] at hx
    split at hx
    · split at hx <;> cases hx
    · cases hx
  | areturn =>
    exfalso
    simp only [hr_x] at hx
    split at hx
    · split at hx <;> cases hx
    · split at hx <;> cases hx
    · cases hx
  | return_ =>
    exfalso
    simp only [hr_x] at hx
    split at hx
    · split at hx <;> cases hx
    · cases hx
  | _ => cases hx
theorem so_any_call {pc len z pc' : Nat} {op : Instr} {ls : hr_L} {st as rest : List Value} {h h' : hr_H} {v : Option Value} (B : hr_B p R s m args c cells slots ad sv ci D L xs y) (hd : decode (hr_cd y) pc = .ok (op, len)) (hl : hr_ln op = 0 ∨ len = hr_ln op) (hx : hr_x y op pc ls st h = some (.inr (.inr (z, as, pc', rest)))) (hM : z < hr_nM → ¬ (z = nJM_abs ∨ z = nJM_max) → Met l (hr_nm z) (hr_ws z) (hr_rm z) (hr_Pc ad sv ci D L xs as h) (hr_Qc ad sv ci D L xs v h') 0 0 (hr_A ad)) (k : hr_W p l e R s m args below meth c cells slots Q ad sv ci D L xs (hr_mx y) (pc', ls, v.toList ++ rest, h')) : hr_W p l e R s m args below meth c cells slots Q ad sv ci D L xs (hr_mx y) (pc, ls, st, h) := by
  by_cases h1 : ∃ i, op = .invokevirtual i
  · obtain ⟨i, rfl⟩ := h1
    rcases hl with hl | rfl
    · exact absurd hl (Nat.succ_ne_zero _)
    · exact so_invokevirtual B hd hx hM k
  by_cases h2 : ∃ i, op = .invokestatic i
  · obtain ⟨i, rfl⟩ := h2
    rcases hl with hl | rfl
    · exact absurd hl (Nat.succ_ne_zero _)
    · exact so_invokestatic B hd hx hM k
  exfalso
  exact hr_x_nocall h1 h2 hx
/-- what a return needs -/
def hr_RT (p : Program) (l : Launch) (e : Env) (R : Room) (s : State) (m : MethodId) (args : Array Value) (below : List Frame) (meth : Method) (c : Code) (cells slots : Nat) (Q : State → Prop) (ad : Nat → Nat) (sv : Value) (ci : Nat → ClassId) (D : va_G) (L : Nat) (xs : Nat → Int32) (y : Nat) (v : Option Value) (h' : hr_H) : Prop := ∀ (op : Instr) (pc len : Nat) (ls : hr_L) (st : List Value) (H : Heap) (locs : List Loc) (lsA : Array Slot), decode (hr_cd y) pc = .ok (op, len) → (hr_ln op = 0 ∨ len = hr_ln op) → hr_x y op pc ls st h' = some (.inr (.inl v)) → hr_R ad sv ci D L xs h' H → va_S (hr_A ad) s.heap H locs → W p l e R s m args below meth c H locs cells slots Q (F0 m pc lsA (st.map (hr_cv ad sv)))
theorem hr_sim (B : hr_B p R s m args c cells slots ad sv ci D L xs y) : ∀ (n : Nat), (∀ k, k < n → hr_M l ad sv ci D L xs k) → ∀ (S : hr_S) (v : Option Value) (h' : hr_H), hr_run n y S = some (v, h') → hr_RT p l e R s m args below meth c cells slots Q ad sv ci D L xs y v h' → hr_W p l e R s m args below meth c cells slots Q ad sv ci D L xs (hr_mx y) S := by
  intro n
  induction n with
  | zero => intro _ S v h' hr; cases hr
  | succ n ih =>
    intro hM S v h' hr hRT
    obtain ⟨pc, ls, st, h⟩ := S
    have ih' := ih (fun k hk => hM k (by omega))
    rw [hr_run] at hr
    cases hd : decode (hr_cd y) pc with
    | error z => simp only [hd] at hr; cases hr
    | ok q =>
      obtain ⟨op, len⟩ := q
      simp only [hd] at hr
      by_cases hl : hr_ln op = 0 ∨ len = hr_ln op
      · simp only [hl, if_true] at hr
        cases hx : hr_x y op pc ls st h with
        | none => simp only [hx] at hr; cases hr
        | some q =>
          rcases q with s' | w | ⟨z, as, pc', rest⟩
          · simp only [hx] at hr
            exact so_step B hd hl hx (ih' s' v h' hr hRT)
          · simp only [hx] at hr
            cases hr
            intro H locs lsA hR hS hL
            exact hRT op pc len ls st H locs lsA hd hl hx hR hS
          · simp only [hx] at hr
            by_cases hk : hr_ok (hr_mx z) as = true
            · simp only [hk, if_true] at hr
              cases hc : hr_run n z (0, hr_en (hr_mx z) as, [], h) with
              | none => simp only [hc] at hr; cases hr
              | some q =>
                obtain ⟨w, h2⟩ := q
                simp only [hc] at hr
                exact so_any_call B hd hl hx (fun hz hj => hM n (by omega) z as h w h2 hz hj hk hc) (ih' _ v h' hr hRT)
            · simp only [hk] at hr; cases hr
      · simp only [hl, if_false] at hr; cases hr
end
theorem hr_met (l : Launch) (ad : Nat → Nat) (sv : Value) (ci : Nat → ClassId) (D : va_G) (L : Nat) (xs : Nat → Int32) : ∀ n, hr_M l ad sv ci D L xs n := by
  intro n
  induction n using Nat.strongRecOn with
  | ind n ih =>
    intro z as h v h' hz hj hk hrun
    obtain ⟨f1, f2, f3, f4⟩ := hr_y_facts hz
    have hpl : plainName (hr_nm z).cls = true := f2.resolve_right hj
    refine Met.ofW (cc := hr_cd z) (maxL := hr_mx z) (ret := hr_rt z) hpl rfl ?_
    intro p e s m args below meth c s₁ B hml hv
    obtain ⟨rfl, hC, hR⟩ := hv
    have hx := B.exec
    have hb := B.bytes
    have hr := B.returns
    have hts0 := atoms_spec (ws := hr_ws z) B.pre
    have hts : ∀ w ∈ hr_TT, w.before ((as.map (hr_cv ad sv)).toArray) s = true := fun w hw => hts0 w (List.mem_cons_of_mem _ hw)
    have hown : s.vm.findClass (hr_nm z).cls = some m.cls := findClass_of_methodNamed B.named
    rw [f1] at hown
    have hlocks := B.notSynchronized
    have BB : hr_B p (headSpec (hr_ws z) (hr_rm z)).room s m ((as.map (hr_cv ad sv)).toArray) c 0 0 ad sv ci D L xs z := ⟨hx, hb, hml, hown, hts, hC, ⟨Nat.le_refl _, Nat.le_refl _⟩, ⟨Nat.zero_le _, Nat.zero_le _⟩⟩
    rw [lg_entry_eq]
    refine hr_sim BB n ih _ v h' hrun ?_ s.heap [] _ hR va_S.rf (hr_LR_entry hC.sv hk)
    intro op pc len ls st H locs lsA hd hl hxx hR' hS
    have hq : ∀ (w : Option Value), w = v.map (hr_cv ad sv) → ∀ t : State, t.heap = H → s.WarmedH t.vm → hr_Qc ad sv ci D L xs v h' ((as.map (hr_cv ad sv)).toArray) s (.returned w) t := fun w hw t ht hW => ⟨by rw [hw], by rw [ht]; exact hR', hS.F ht⟩
    cases op with
    | ireturn =>
      rcases hl with hl | rfl
      · exact absurd hl (Nat.succ_ne_zero _)
      have hxx : hr_ret z st = some (.inr (.inl v)) := hxx
      unfold hr_ret at hxx
      split at hxx
      · split at hxx
        · rename_i hc
          cases hxx
          obtain ⟨g1, g2⟩ := hc
          obtain ⟨ty, hty⟩ := Option.isSome_iff_exists.mp g2
          rw [hty] at g1 hr
          exact W.zret (ty := ty) hx hb hr g1 (hq _ rfl) hS.2.2 hd hlocks
        · cases hxx
      · cases hxx
    | lreturn =>
      rcases hl with hl | rfl
      · exact absurd hl (Nat.succ_ne_zero _)
      simp only [hr_x] at hxx
      split at hxx
      · split at hxx
        · rename_i hc
          cases hxx
          rw [hc] at hr
          exact W.lret hx hb hr (hq _ rfl) hS.2.2 hd hlocks
        · cases hxx
      · cases hxx
    | areturn =>
      rcases hl with hl | rfl
      · exact absurd hl (Nat.succ_ne_zero _)
      simp only [hr_x] at hxx
      split at hxx
      · split at hxx
        · rename_i ty hc
          cases hxx
          rw [hc] at hr
          exact W.aret (rt := .object ty) hx hb hr (Or.inl ⟨_, rfl⟩) (hr_tv_nr hC.sv _) (hq _ rfl) hS.2.2 hd hlocks
        · cases hxx
      · split at hxx
        · rename_i ty hc
          cases hxx
          rw [hc] at hr
          exact W.aret (rt := .object ty) hx hb hr (Or.inl ⟨_, rfl⟩) (Or.inl rfl) (hq _ rfl) hS.2.2 hd hlocks
        · cases hxx
      · cases hxx
    | return_ =>
      rcases hl with hl | rfl
      · exact absurd hl (Nat.succ_ne_zero _)
      simp only [hr_x] at hxx
      split at hxx
      · split at hxx
        · rename_i hc
          cases hxx
          rw [hc] at hr
          exact W.vret hx hb hr (hq _ rfl) hS.2.2 hd hlocks
        · cases hxx
      · cases hxx
    | _ => exact absurd hxx hr_x_noret
