/-! ===== the room of numbers beside the machine's heap ===== -/
def hr_A (ad : Nat → Nat) : Nat → Prop := fun q => ∃ k, k < 57 ∧ q = ad k
def hr_tv (ad : Nat → Nat) (sv : Value) (k : Nat) : Value := if k = 69 then sv else .ref (ad k)
def hr_cv (ad : Nat → Nat) (sv : Value) (v : Value) : Value := match v with
  | .ref k => hr_tv ad sv k
  | v => v
def hr_ty (ci : Nat → ClassId) : List (ClassId × FieldType) := [(ci 1, .int), (ci 2, .long), (ci 3, .byte), (ci 4, .char), (ci 5, .object "HornRocks$Rock"), (ci 6, .object "HornRocks$Sheet")]
def hr_fs (ad : Nat → Nat) (sv : Value) (h : hr_H) (k : Nat) : List Value := (List.range (hr_cq (hr_oc k)).2.2).map (fun j => hr_cv ad sv (hr_gf h k (hr_oc k) j))
def hr_ac (ad : Nat → Nat) (h : hr_H) (k : Nat) : (Nat → Int32) ⊕ (Nat → Int64) ⊕ (Nat → UInt32) ⊕ (Nat → UInt64) ⊕ (Nat → Option Nat) :=
  if hr_ak k = 2 then .inr (.inl (h.2 k)) else if hr_ak k = 5 ∨ hr_ak k = 6 then .inr (.inr (.inr (.inr (fun j => some (ad (hr_ra k j)))))) else .inl (h.1 k)
def hr_ce (ad : Nat → Nat) (sv : Value) (ci : Nat → ClassId) (h : hr_H) (k : Nat) : va_E :=
  if hr_ak k = 0 then .inr (hr_oc k, hr_fs ad sv h k) else .inl (ci (hr_ak k), hr_all.getD k 0, hr_ac ad h k)
def hr_w (ad : Nat → Nat) (sv : Value) (ci : Nat → ClassId) (h : hr_H) : va_W := (List.range 57).map (fun k => (ad k, hr_ce ad sv ci h k))
theorem hr_w_at {ad : Nat → Nat} {sv : Value} {ci : Nat → ClassId} {h : hr_H} {k : Nat} (hk : k < 57) : (hr_w ad sv ci h)[k]? = some (ad k, hr_ce ad sv ci h k) := by
  simp [hr_w, hk]
theorem hr_w_lt {ad : Nat → Nat} {sv : Value} {ci : Nat → ClassId} {h : hr_H} {k : Nat} {q : Nat × va_E} (hq : (hr_w ad sv ci h)[k]? = some q) : k < 57 ∧ q = (ad k, hr_ce ad sv ci h k) := by
  have hk : k < 57 := by
    have := (List.getElem?_eq_some_iff.mp hq).1
    simpa [hr_w] using this
  rw [hr_w_at hk] at hq
  exact ⟨hk, (Option.some.inj hq).symm⟩
theorem hr_w_set {ad : Nat → Nat} {sv : Value} {ci : Nat → ClassId} {h h' : hr_H} {k : Nat} {e : va_E} (hk : k < 57) (he : hr_ce ad sv ci h' k = e) (ho : ∀ q, q < 57 → q ≠ k → hr_ce ad sv ci h' q = hr_ce ad sv ci h q) : (hr_w ad sv ci h).set k (ad k, e) = hr_w ad sv ci h' := by
  apply List.ext_getElem?
  intro i
  rw [List.getElem?_set]
  by_cases hi : i < 57
  · rw [hr_w_at hi]
    by_cases e1 : k = i
    · subst e1
      simp [hr_w, hk, he]
    · rw [if_neg e1, hr_w_at hi, ho i hi (fun z => e1 z.symm)]
  · have h1 : (hr_w ad sv ci h')[i]? = none := by simp [hr_w]; omega
    have h2 : (hr_w ad sv ci h)[i]? = none := by simp [hr_w]; omega
    rw [h1, h2]
    by_cases e1 : k = i
    · omega
    · rw [if_neg e1]
def hr_R (ad : Nat → Nat) (sv : Value) (ci : Nat → ClassId) (D : va_G) (L : Nat) (xs : Nat → Int32) (h : hr_H) (H : Heap) : Prop := va_P D hr_cl (hr_w ad sv ci h) H ∧ (∀ j, j < L → h.1 57 j = xs j) ∧ h.2 57 0 = lN L
/-- what holds at a method's start and as long as it runs -/
def hr_C (ad : Nat → Nat) (sv : Value) (ci : Nat → ClassId) (D : va_G) (L : Nat) (xs : Nat → Int32) (s : State) : Prop :=
  va_K D hr_cl (hr_ty ci) s ∧ (∀ i j, i < 57 → j < 57 → ad i = ad j → i = j) ∧ L < 2 ^ 31 ∧
  (va_Z "HornRocks" "SHIP_MOST" "[I" (.ref (ad 60)) (hr_A ad) s s.heap ∧ va_T .int (ad 60) 3 (fun j => .int (hr_st0.getD j 0)) (hr_A ad) s s.heap) ∧
  (va_Z "HornRocks" "ROCK_MOST" "[I" (.ref (ad 61)) (hr_A ad) s s.heap ∧ va_T .int (ad 61) 5 (fun j => .int (hr_st1.getD j 0)) (hr_A ad) s s.heap) ∧
  (va_Z "HornRocks" "ABOVE" "[I" (.ref (ad 62)) (hr_A ad) s s.heap ∧ va_T .int (ad 62) 6 (fun j => .int (hr_st2.getD j 0)) (hr_A ad) s s.heap) ∧
  va_Z "java/lang/String" "COMPACT_STRINGS" "Z" (.int 1) (hr_A ad) s s.heap ∧
  (va_Z "jdk/internal/util/Preconditions" "SIOOBE_FORMATTER" "Ljava/util/function/BiFunction;" sv (hr_A ad) s s.heap ∧ (sv = .null ∨ ∃ t, sv = .ref t)) ∧
  vk_S 13 hr_sl hr_sb (fun i => ad (70 + i)) (fun i => ad (90 + i)) (hr_A ad) s s.heap ∧
  (∀ (i : Nat) (e : Nat × String), hr_ls[i]? = some e → vk_R "HornRocks$Tape" e.1 e.2 (ad (70 + i)) s) ∧
  (va_Nw (.methodLinkNest "HornRocks$Rock" 31 ⟨"HornRocks", "far", "(II)I"⟩ "HornRocks") s ∧ va_Nw (.methodLinkNest "HornRocks$Sea" 90 ⟨"HornRocks", "far", "(II)I"⟩ "HornRocks") s) ∧
  va_Nw (.fieldLinkNest "HornRocks$Rock" 27 "HornRocks" "ABOVE" "[I" "HornRocks") s ∧
  (va_X (ad 57) L xs s s.heap ∧ ad 57 < s.heap.size ∧ ¬ hr_A ad (ad 57))
theorem hr_C.move {ad : Nat → Nat} {sv : Value} {ci : Nat → ClassId} {D : va_G} {L : Nat} {xs : Nat → Int32} {u U : State} (h : hr_C ad sv ci D L xs u) (hvm : u.vm.Alike U.vm) (hz : u.heap.size ≤ U.heap.size) (hq : ∀ a : Nat, a < u.heap.size → ¬ hr_A ad a → U.heap[a]? = u.heap[a]?)
    (hr : ∀ own k tx a, vk_R own k tx a u → vk_R own k tx a U) (hf : ∀ a i b n d t, va_Nw (.fieldLinkNest a i b n d t) u → va_Nw (.fieldLinkNest a i b n d t) U) (hm : ∀ a i x t, va_Nw (.methodLinkNest a i x t) u → va_Nw (.methodLinkNest a i x t) U) : hr_C ad sv ci D L xs U := by
  obtain ⟨h1, h2, h3, ⟨h4, h5⟩, ⟨h6, h7⟩, ⟨h8, h9⟩, h10, ⟨h11, h12⟩, h13, h14, ⟨h15, h16⟩, h17, h18, h19, h20⟩ := h
  exact ⟨va_K.moved hvm h1, h2, h3, ⟨(va_Z.moved hvm h4).kept hq, (va_T.moved hvm h5).kept hq⟩, ⟨(va_Z.moved hvm h6).kept hq, (va_T.moved hvm h7).kept hq⟩, ⟨(va_Z.moved hvm h8).kept hq, (va_T.moved hvm h9).kept hq⟩, (va_Z.moved hvm h10).kept hq, ⟨(va_Z.moved hvm h11).kept hq, h12⟩, (vk_S.moved hvm h13).kept hq,
    fun i e he => hr _ _ _ _ (h14 i e he), ⟨hm _ _ _ _ h15, hm _ _ _ _ h16⟩, hf _ _ _ _ _ _ h17, (va_X.moved hvm h18).kept (hq _ h19 h20), Nat.lt_of_lt_of_le h19 hz, h20⟩
theorem hr_C.warm {ad : Nat → Nat} {sv : Value} {ci : Nat → ClassId} {D : va_G} {L : Nat} {xs : Nat → Int32} {s U : State} {H : Heap} {locs : List Loc} (h : hr_C ad sv ci D L xs s) (hW : s.WarmedH U.vm) (hU : U.heap = H) (hS : va_S (hr_A ad) s.heap H locs) : hr_C ad sv ci D L xs U :=
  h.move hW.alike (by rw [hU]; exact hS.1) (fun a h1 h2 => by rw [hU]; exact hS.2.1 a h1 h2) (fun _ _ _ _ z => z.warm hW) (fun _ _ _ _ _ _ z => va_Nw.warmF hW z) (fun _ _ _ _ z => va_Nw.warmM hW z)
theorem hr_C.same {ad : Nat → Nat} {sv : Value} {ci : Nat → ClassId} {D : va_G} {L : Nat} {xs : Nat → Int32} {s U : State} (h : hr_C ad sv ci D L xs s) (hv : U.vm = s.vm) (hU : U.heap = s.heap) : hr_C ad sv ci D L xs U :=
  h.move (by rw [hv]; exact Vm.Alike.refl s.vm) (by rw [hU]; exact Nat.le_refl _) (fun a h1 h2 => by rw [hU]) (fun _ _ _ _ z => z.same hv) (fun _ _ _ _ _ _ z => va_Nw.same rfl hv.symm z) (fun _ _ _ _ z => va_Nw.same rfl hv.symm z)
theorem hr_cv_cat {ad : Nat → Nat} {sv : Value} (hs : sv = .null ∨ ∃ t, sv = .ref t) (v : Value) : (hr_cv ad sv v).category = v.category := by
  cases v <;> try rfl
  rename_i k
  show (hr_tv ad sv k).category = 1
  unfold hr_tv
  split
  · rcases hs with rfl | ⟨t, rfl⟩ <;> rfl
  · rfl
theorem hr_cat_map {ad : Nat → Nat} {sv : Value} (hs : sv = .null ∨ ∃ t, sv = .ref t) (r : List Value) : ((r.map (hr_cv ad sv)).map fun v => v.category).sum = hr_cat r := by
  unfold hr_cat
  rw [List.map_map]
  congr 1
  exact List.map_congr_left (fun v _ => hr_cv_cat hs v)
/-- the locals beside the machine's -/
def hr_LR (ad : Nat → Nat) (sv : Value) (nL : Nat) (lsA : Array Slot) (ls : hr_L) : Prop := lv_has lsA nL [] ∧ ls.length = nL ∧ ∀ (i : Nat) (v : Value), ls[i]? = some (some v) → lsA[i]? = some (Slot.val (hr_cv ad sv v))
def hr_as (ad : Nat → Nat) (sv : Value) (ls : hr_L) : List (Nat × Value) := (List.range ls.length).filterMap (fun i => (ls[i]?.getD none).map (fun v => (i, hr_cv ad sv v)))
theorem hr_as_mem {ad : Nat → Nat} {sv : Value} {ls : hr_L} {i : Nat} {w : Value} : (i, w) ∈ hr_as ad sv ls ↔ ∃ v, ls[i]? = some (some v) ∧ w = hr_cv ad sv v := by
  unfold hr_as
  simp only [List.mem_filterMap, List.mem_range]
  constructor
  · rintro ⟨j, hj, h⟩
    cases e : ls[j]? with
    | none => rw [e] at h; simp at h
    | some o =>
      rw [e] at h
      cases o with
      | none => simp at h
      | some v =>
        simp at h
        obtain ⟨rfl, rfl⟩ := h
        exact ⟨v, e, rfl⟩
  · rintro ⟨v, h, rfl⟩
    refine ⟨i, (List.getElem?_eq_some_iff.mp h).1, ?_⟩
    rw [h]
    rfl
theorem hr_LR.has {ad : Nat → Nat} {sv : Value} {nL : Nat} {lsA : Array Slot} {ls : hr_L} (h : hr_LR ad sv nL lsA ls) : lv_has lsA nL (hr_as ad sv ls) := by
  refine ⟨h.1.1, h.1.2.1, fun q hq => ?_⟩
  obtain ⟨i, w⟩ := q
  obtain ⟨v, hv, rfl⟩ := hr_as_mem.mp hq
  exact h.2.2 i v hv
theorem hr_LR.of {ad : Nat → Nat} {sv : Value} {nL : Nat} {lsA : Array Slot} {ls : hr_L} {l : List (Nat × Value)} (h : lv_has lsA nL l) (hn : ls.length = nL) (hi : ∀ i v, ls[i]? = some (some v) → (i, hr_cv ad sv v) ∈ l) : hr_LR ad sv nL lsA ls :=
  ⟨⟨h.1, h.2.1, fun _ z => by cases z⟩, hn, fun i v hv => h.2.2 _ (hi i v hv)⟩
theorem hr_LR.set1 {ad : Nat → Nat} {sv : Value} {nL : Nat} {ls : hr_L} {i : Nat} {v : Value} {lsB : Array Slot} (hs : sv = .null ∨ ∃ t, sv = .ref t) (hn : ls.length = nL) (hi : i = 0 ∨ hr_is2 ls[i - 1]? = false)
    (h : lv_has lsB nL ((i, hr_cv ad sv v) :: (hr_as ad sv ls).filter (fun q => !(q.1 == i) && !(q.1 + 1 == i && q.2.category == 2)))) : hr_LR ad sv nL lsB (ls.set i (some v)) := by
  refine hr_LR.of h (by rw [List.length_set]; exact hn) (fun j w hw => ?_)
  rw [List.getElem?_set] at hw
  by_cases e : i = j
  · subst e
    rw [if_pos rfl] at hw
    split at hw
    · have hw := Option.some.inj (Option.some.inj hw)
      subst hw
      exact List.mem_cons_self
    · cases hw
  · rw [if_neg e] at hw
    refine List.mem_cons_of_mem _ (List.mem_filter.mpr ⟨hr_as_mem.mpr ⟨w, hw, rfl⟩, ?_⟩)
    have e1 : (j == i) = false := by simp; omega
    simp only [e1, Bool.not_false, Bool.true_and]
    by_cases e2 : j + 1 = i
    · have hc : (hr_cv ad sv w).category ≠ 2 := by
        rw [hr_cv_cat hs]
        rcases hi with h0 | h0
        · omega
        · rw [show i - 1 = j by omega, hw] at h0
          cases w <;> first | (cases h0; done) | (intro z; cases z; done)
      simp [e2, hc]
    · simp [e2]
theorem hr_LR.set2 {ad : Nat → Nat} {sv : Value} {nL : Nat} {ls : hr_L} {i : Nat} {x : Int64} {lsB : Array Slot} (hs : sv = .null ∨ ∃ t, sv = .ref t) (hn : ls.length = nL) (hi : i = 0 ∨ hr_is2 ls[i - 1]? = false)
    (h : lv_has lsB nL ((i, .long x) :: (hr_as ad sv ls).filter (fun q => !(q.1 == i) && (!(q.1 == i + 1) && !(q.1 + 1 == i && q.2.category == 2))))) : hr_LR ad sv nL lsB ((ls.set i (some (.long x))).set (i + 1) none) := by
  refine hr_LR.of h (by rw [List.length_set, List.length_set]; exact hn) (fun j w hw => ?_)
  rw [List.getElem?_set] at hw
  by_cases e0 : i + 1 = j
  · subst e0
    rw [if_pos rfl] at hw
    split at hw <;> cases hw
  rw [if_neg e0, List.getElem?_set] at hw
  by_cases e : i = j
  · subst e
    rw [if_pos rfl] at hw
    split at hw
    · have hw := Option.some.inj (Option.some.inj hw)
      subst hw
      exact List.mem_cons_self
    · cases hw
  · rw [if_neg e] at hw
    refine List.mem_cons_of_mem _ (List.mem_filter.mpr ⟨hr_as_mem.mpr ⟨w, hw, rfl⟩, ?_⟩)
    have e1 : (j == i) = false := by simp; omega
    have e3 : (j == i + 1) = false := by simp; omega
    simp only [e1, e3, Bool.not_false, Bool.true_and]
    by_cases e2 : j + 1 = i
    · have hc : (hr_cv ad sv w).category ≠ 2 := by
        rw [hr_cv_cat hs]
        rcases hi with h0 | h0
        · omega
        · rw [show i - 1 = j by omega, hw] at h0
          cases w <;> first | (cases h0; done) | (intro z; cases z; done)
      simp [e2, hc]
    · simp [e2]
/-- the locals at a method's start -/
theorem hr_en_args {ad : Nat → Nat} {sv : Value} (hs : sv = .null ∨ ∃ t, sv = .ref t) : ∀ (args : List Value) (o i : Nat) (v : Value), (args.flatMap (fun v => if v.category = 2 then [some v, (none : Option Value)] else [some v]))[i]? = some (some v) → (o + i, hr_cv ad sv v) ∈ lv_args o (args.map (hr_cv ad sv)) := by
  intro args
  induction args with
  | nil => intro o i v h; simp at h
  | cons a as ih =>
    intro o i v h
    simp only [List.map_cons, lv_args, hr_cv_cat hs]
    simp only [List.flatMap_cons] at h
    by_cases hc : a.category = 2
    · rw [if_pos hc] at h ⊢
      match i, h with
      | 0, h =>
        simp at h
        subst h
        exact List.mem_cons_self
      | 1, h => simp at h
      | i + 2, h =>
        simp at h
        have := ih (o + 2) i v (by simpa using h)
        rw [show o + (i + 2) = o + 2 + i by omega]
        exact List.mem_cons_of_mem _ this
    · rw [if_neg hc] at h ⊢
      match i, h with
      | 0, h =>
        simp at h
        subst h
        exact List.mem_cons_self
      | i + 1, h =>
        simp at h
        have := ih (o + 1) i v (by simpa using h)
        rw [show o + (i + 1) = o + 1 + i by omega]
        exact List.mem_cons_of_mem _ this
theorem hr_sl_len {ad : Nat → Nat} {sv : Value} (hs : sv = .null ∨ ∃ t, sv = .ref t) (args : List Value) : (lg_sl (args.map (hr_cv ad sv))).length = (args.flatMap (fun v => if v.category = 2 then [some v, (none : Option Value)] else [some v])).length := by
  induction args with
  | nil => rfl
  | cons a as ih =>
    unfold lg_sl at ih ⊢
    simp only [List.map_cons, List.flatMap_cons, List.length_append, ih, hr_cv_cat hs]
    split <;> rfl
theorem hr_LR_entry {ad : Nat → Nat} {sv : Value} {n : Nat} {args : List Value} (hs : sv = .null ∨ ∃ t, sv = .ref t) (hk : hr_ok n args = true) : hr_LR ad sv n ((lg_sl (args.map (hr_cv ad sv)) ++ List.replicate (n - (lg_sl (args.map (hr_cv ad sv))).length) Slot.unset).toArray) (hr_en n args) := by
  have hk : (args.flatMap (fun v => if v.category = 2 then [some v, (none : Option Value)] else [some v])).length ≤ n := by simpa [hr_ok] using hk
  refine hr_LR.of (lv_entry (args.map (hr_cv ad sv)) (n := n) (by rw [hr_sl_len hs]; exact hk)) ?_ (fun i v hv => ?_)
  · simp only [hr_en, List.length_append, List.length_replicate]
    omega
  · have h : (args.flatMap (fun v => if v.category = 2 then [some v, (none : Option Value)] else [some v]))[i]? = some (some v) := by
      simp only [hr_en] at hv
      rw [List.getElem?_append] at hv
      split at hv
      · exact hv
      · have := List.eq_of_mem_replicate (List.mem_of_getElem? hv)
        cases this
    have := hr_en_args (ad := ad) hs args 0 i v h
    rwa [Nat.zero_add] at this
