/-- one way more: the best so far (64: none) -/
def mst (q h r way b : Nat) : Nat := if N_nb q way = 64 then b else if b = 64 then N_nb q way else if h = 0 then (if N_far (N_nb q way) r ≤ N_far b r then b else N_nb q way) else (if N_far b r ≤ N_far (N_nb q way) r then b else N_nb q way)
def mR (q h r : Nat) (st : Nat × Nat) (b : Nat) : Prop := (b = 64 ∧ st = (q, 0)) ∨ (b < 64 ∧ st = (b, if h = 0 then 100 + N_far b r else 100 - N_far b r))
theorem mR_step {q h r way b : Nat} {st : Nat × Nat} (hq : q < 64) (hr : r < 64) (hw : way < 4) (hR : mR q h r st b) : mR q h r (N_byS q h r way st) (mst q h r way b) := by
  unfold N_byS mst
  by_cases c : N_nb q way = 64
  · rw [if_pos c, if_pos c]; exact hR
  · have hx : N_nb q way < 64 := (nb_lt q hq way hw).resolve_left c
    have hf := far_le hx hr
    rw [if_neg c, if_neg c]
    rcases hR with ⟨rfl, rfl⟩ | ⟨hb, rfl⟩
    · rw [if_pos rfl, if_neg (by dsimp only; split <;> omega)]
      exact Or.inr ⟨hx, rfl⟩
    · have hfb := far_le hb hr
      rw [if_neg (show ¬ b = 64 by omega)]
      by_cases ch : h = 0
      · simp only [ch, if_true]
        by_cases cc : N_far (N_nb q way) r ≤ N_far b r
        · rw [if_pos cc, if_pos (by omega)]; exact Or.inr ⟨hb, by rw [if_pos rfl]⟩
        · rw [if_neg cc, if_neg (by omega)]; exact Or.inr ⟨hx, by rw [if_pos rfl]⟩
      · simp only [ch, if_false]
        by_cases cc : N_far b r ≤ N_far (N_nb q way) r
        · rw [if_pos cc, if_pos (by omega)]; exact Or.inr ⟨hb, by rw [if_neg ch]⟩
        · rw [if_neg cc, if_neg (by omega)]; exact Or.inr ⟨hx, by rw [if_neg ch]⟩
def mF (q h r : Nat) : Nat → Nat
  | 0 => 64
  | k + 1 => mst q h r k (mF q h r k)
theorem mF_by {q h r : Nat} (hq : q < 64) (hr : r < 64) : mF q h r 4 = N_by q h r := by
  have r0 : mR q h r (q, 0) (mF q h r 0) := Or.inl ⟨rfl, rfl⟩
  have r1 := mR_step hq hr (show 0 < 4 by decide) r0
  have r2 := mR_step hq hr (show 1 < 4 by decide) r1
  have r3 := mR_step hq hr (show 2 < 4 by decide) r2
  have r4 := mR_step hq hr (show 3 < 4 by decide) r3
  rcases r4 with ⟨e, _⟩ | ⟨_, e⟩
  · exfalso
    have st : ∀ way b, mst q h r way b = 64 → N_nb q way < 64 → False := by
      intro way b he hx
      unfold mst at he
      rw [if_neg (by omega)] at he
      by_cases cb : b = 64
      · rw [if_pos cb] at he; omega
      · rw [if_neg cb] at he
        split at he <;> split at he <;> omega
    have st2 : ∀ way b, mst q h r way b = 64 → b = 64 := by
      intro way b he
      unfold mst at he
      by_cases cb : b = 64
      · exact cb
      · split at he
        · exact he
        · split at he <;> split at he <;> omega
    have e3 := st2 3 _ e
    have e2 := st2 2 _ e3
    have e1 := st2 1 _ e2
    by_cases c : q < 8
    · exact st 2 _ e3 (by unfold N_nb; rw [if_neg (by decide), if_neg (by decide), if_pos rfl, if_neg (by omega)]; omega)
    · exact st 0 _ e1 (by unfold N_nb; rw [if_pos rfl, if_neg c]; omega)
  · show _ = (N_byS q h r 3 (N_byS q h r 2 (N_byS q h r 1 (N_byS q h r 0 (q, 0))))).1
    rw [e]
    rfl
theorem mF_lt {q h r : Nat} (hq : q < 64) : ∀ k, k ≤ 4 → mF q h r k ≤ 64 := by
  intro k
  induction k with
  | zero => intro _; exact Nat.le_refl _
  | succ k ih =>
    intro hk
    have h1 := ih (by omega)
    have h2 := nb_lt q hq k (by omega)
    show mst q h r k (mF q h r k) ≤ 64
    unfold mst
    repeat' split
    all_goals omega
section
variable {I I' : Nat → Nat → Int32} {J J' : Nat → Nat → Int64} {t t' : Nat → Nat} {n B : Nat}
theorem mb_neg {x : Nat} (hx : x ≤ 64) : (mb x < 0) = (x = 64) := by
  unfold mb
  by_cases c : x = 64
  · rw [if_pos c]; exact propext ⟨fun _ => c, fun _ => by decide⟩
  · rw [if_neg c]; exact propext ⟨fun q => absurd q (nI_pos (by omega)), fun q => absurd q c⟩
theorem mb_nneg {x : Nat} (hx : x ≤ 64) : (0 ≤ mb x) = ¬ (x = 64) := by
  rw [← mb_neg hx]
  exact propext Int32.not_lt.symm
theorem mb_in {x : Nat} (h : ¬ x = 64) : mb x = nI x := if_neg h
end
