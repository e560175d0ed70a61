/-! ===== the start: the addresses, the walk of the law up to its loop ===== -/
def adL (q0 q44 : Nat) (u : Nat → Nat → Nat) (v : Nat → Nat) : List Nat := q0 :: u 0 0 :: u 1 0 :: u 1 1 :: u 1 2 :: u 1 3 :: u 1 4 :: u 1 5 :: u 1 6 :: u 1 7 :: u 1 8 :: u 0 1 :: u 2 0 :: u 2 1 :: u 2 2 :: u 2 3 :: u 2 4 :: u 2 5 :: u 2 6 :: u 2 7 :: u 2 8 :: u 0 2 :: u 3 0 :: u 3 1 :: u 3 2 :: u 3 3 :: u 3 4 :: u 3 5 :: u 3 6 :: u 3 7 :: u 3 8 :: u 0 3 :: u 0 4 :: u 0 5 :: u 0 6 :: u 4 0 :: u 5 0 :: u 4 1 :: u 5 1 :: u 4 2 :: u 5 2 :: u 4 3 :: u 5 3 :: u 0 7 :: q44 :: v 0 :: v 1 :: v 2 :: v 3 :: v 4 :: v 5 :: v 6 :: v 7 :: v 8 :: v 9 :: v 10 :: v 11 :: []
def adF (q0 q44 : Nat) (u : Nat → Nat → Nat) (v : Nat → Nat) (b t0 t1 t2 : Nat) (aK aV : Nat → Nat) : Nat → Nat := fun k => if k < 57 then (adL q0 q44 u v).getD k 0 else if k = 57 then b else if k = 60 then t0 else if k = 61 then t1 else if k = 62 then t2 else if k < 90 then aK (k - 70) else aV (k - 90)
set_option maxRecDepth 100000 in
theorem adL_eq (ci : Nat → ClassId) (q0 q44 : Nat) (u : Nat → Nat → Nat) (v : Nat → Nat) : (xW ci q0 u ++ mW ci q44 v).map Prod.fst = adL q0 q44 u v := rfl
section
variable {ci : Nat → ClassId} {q0 q44 : Nat} {u : Nat → Nat → Nat} {v : Nat → Nat} {b t0 t1 t2 : Nat} {aK aV : Nat → Nat} {D : va_G} {H : Heap} {sv : Value} {xs : Nat → Int32} {L : Nat}
theorem adF_at {k : Nat} (hk : k < 57) : ∃ e, (xW ci q0 u ++ mW ci q44 v)[k]? = some (adF q0 q44 u v b t0 t1 t2 aK aV k, e) := by
  have h1 : (adL q0 q44 u v)[k]? = some (adF q0 q44 u v b t0 t1 t2 aK aV k) := by
    unfold adF
    rw [if_pos hk, List.getD_eq_getElem?_getD]
    have h2 : k < (adL q0 q44 u v).length := hk
    rw [List.getElem?_eq_getElem h2]
    rfl
  rw [← adL_eq ci, List.getElem?_map] at h1
  cases hq : (xW ci q0 u ++ mW ci q44 v)[k]? with
  | none => rw [hq] at h1; cases h1
  | some q =>
    rw [hq] at h1
    refine ⟨q.2, ?_⟩
    have h3 : q.1 = adF q0 q44 u v b t0 t1 t2 aK aV k := Option.some.inj h1
    rw [← h3]
theorem adF_K {i : Nat} (hi : i < 13) : adF q0 q44 u v b t0 t1 t2 aK aV (70 + i) = aK i := by
  unfold adF
  rw [if_neg (by omega), if_neg (by omega), if_neg (by omega), if_neg (by omega), if_neg (by omega), if_pos (by omega), Nat.add_sub_cancel_left]
theorem adF_V {i : Nat} (hi : i < 13) : adF q0 q44 u v b t0 t1 t2 aK aV (90 + i) = aV i := by
  unfold adF
  rw [if_neg (by omega), if_neg (by omega), if_neg (by omega), if_neg (by omega), if_neg (by omega), if_neg (by omega), Nat.add_sub_cancel_left]
set_option maxHeartbeats 8000000 in
set_option maxRecDepth 100000 in
theorem st_w (ws : va_W) (hws : ws = ((((xW ci q0 u ++ mW ci q44 v).set 2 (u 1 0, .inl (ci 5, 8, .inr (.inr (.inr (.inr (fun j => some (adF q0 q44 u v b t0 t1 t2 aK aV (hr_ra 2 j))))))))).set 12 (u 2 0, .inl (ci 5, 8, .inr (.inr (.inr (.inr (fun j => some (adF q0 q44 u v b t0 t1 t2 aK aV (hr_ra 12 j))))))))).set 22 (u 3 0, .inl (ci 5, 8, .inr (.inr (.inr (.inr (fun j => some (adF q0 q44 u v b t0 t1 t2 aK aV (hr_ra 22 j))))))))).set 34 (u 0 6, .inl (ci 6, 4, .inr (.inr (.inr (.inr (fun j => some (adF q0 q44 u v b t0 t1 t2 aK aV (hr_ra 34 j))))))))) : ∀ k, k < 57 → ws[k]? = some (adF q0 q44 u v b t0 t1 t2 aK aV k, hr_ce (adF q0 q44 u v b t0 t1 t2 aK aV) sv ci (I0 xs, J0 L) k) := by
  subst hws
  intro k hk
  match k, hk with
  | 0, _ => rfl
  | 1, _ => rfl
  | 2, _ => rfl
  | 3, _ => rfl
  | 4, _ => rfl
  | 5, _ => rfl
  | 6, _ => rfl
  | 7, _ => rfl
  | 8, _ => rfl
  | 9, _ => rfl
  | 10, _ => rfl
  | 11, _ => rfl
  | 12, _ => rfl
  | 13, _ => rfl
  | 14, _ => rfl
  | 15, _ => rfl
  | 16, _ => rfl
  | 17, _ => rfl
  | 18, _ => rfl
  | 19, _ => rfl
  | 20, _ => rfl
  | 21, _ => rfl
  | 22, _ => rfl
  | 23, _ => rfl
  | 24, _ => rfl
  | 25, _ => rfl
  | 26, _ => rfl
  | 27, _ => rfl
  | 28, _ => rfl
  | 29, _ => rfl
  | 30, _ => rfl
  | 31, _ => rfl
  | 32, _ => rfl
  | 33, _ => rfl
  | 34, _ => rfl
  | 35, _ => rfl
  | 36, _ => rfl
  | 37, _ => rfl
  | 38, _ => rfl
  | 39, _ => rfl
  | 40, _ => rfl
  | 41, _ => rfl
  | 42, _ => rfl
  | 43, _ => rfl
  | 44, _ => rfl
  | 45, _ => rfl
  | 46, _ => rfl
  | 47, _ => rfl
  | 48, _ => rfl
  | 49, _ => rfl
  | 50, _ => rfl
  | 51, _ => rfl
  | 52, _ => rfl
  | 53, _ => rfl
  | 54, _ => rfl
  | 55, _ => rfl
  | 56, _ => rfl
  | n + 57, h => exact absurd h (by omega)
theorem st_R (hP : va_P D hr_cl (xW ci q0 u ++ mW ci q44 v) H) : hr_R (adF q0 q44 u v b t0 t1 t2 aK aV) sv ci D L xs (I0 xs, J0 L) H := by
  have c8 : ∀ j, j < 8 → j = 0 ∨ j = 1 ∨ j = 2 ∨ j = 3 ∨ j = 4 ∨ j = 5 ∨ j = 6 ∨ j = 7 := fun j h => by omega
  have c4 : ∀ j, j < 4 → j = 0 ∨ j = 1 ∨ j = 2 ∨ j = 3 := fun j h => by omega
  have h1 := hP.q (k := 2) (g := fun j => some (adF q0 q44 u v b t0 t1 t2 aK aV (hr_ra 2 j))) rfl (fun j hj => by rcases c8 j hj with rfl | rfl | rfl | rfl | rfl | rfl | rfl | rfl <;> rfl)
  have h2 := h1.q (k := 12) (g := fun j => some (adF q0 q44 u v b t0 t1 t2 aK aV (hr_ra 12 j))) rfl (fun j hj => by rcases c8 j hj with rfl | rfl | rfl | rfl | rfl | rfl | rfl | rfl <;> rfl)
  have h3 := h2.q (k := 22) (g := fun j => some (adF q0 q44 u v b t0 t1 t2 aK aV (hr_ra 22 j))) rfl (fun j hj => by rcases c8 j hj with rfl | rfl | rfl | rfl | rfl | rfl | rfl | rfl <;> rfl)
  have h4 := h3.q (k := 34) (g := fun j => some (adF q0 q44 u v b t0 t1 t2 aK aV (hr_ra 34 j))) rfl (fun j hj => by rcases c4 j hj with rfl | rfl | rfl | rfl <;> rfl)
  refine ⟨fun k q hq => ?_, fun j _ => rfl, rfl⟩
  obtain ⟨hk, rfl⟩ := hr_w_lt hq
  exact h4 k _ (st_w _ rfl k hk)
end
