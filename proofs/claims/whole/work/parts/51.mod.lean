section
variable {I I' : Nat → Nat → Int32} {J J' : Nat → Nat → Int64} {t t' : Nat → Nat} {n B : Nat}
theorem drV_row : ∀ m, (∀ k, m ≤ k → ∀ j, j < 5 → drV t m (6 + 5 * k + j) = t (6 + 5 * k + j)) ∧ ∀ j, j < 6 → drV t m j = t j := by
  intro m
  induction m with
  | zero => exact ⟨fun _ _ _ _ => rfl, fun _ _ => rfl⟩
  | succ m ih =>
    have e : drV t (m + 1) = if d1V t m = true then upV (drV t m) (7 + 5 * m) (t (7 + 5 * m) - 1) else drV t m := rfl
    rw [e]
    split
    · exact ⟨fun k hk j hj => by rw [upV_ne (by omega)]; exact ih.1 k (by omega) j hj, fun j hj => by rw [upV_ne (by omega)]; exact ih.2 j hj⟩
    · exact ⟨fun k hk j hj => ih.1 k (by omega) j hj, ih.2⟩
end
