def N_far (a b : Nat) : Nat := (a / 8 - b / 8) + (b / 8 - a / 8) + ((a % 8 - b % 8) + (b % 8 - a % 8))
theorem far_N : ∀ a, a < 64 → ∀ b, b < 64 → P_far (nI a) (nI b) = nI (N_far a b) := by decide +kernel
/-- the square beside one: 64: it isn't on the chart -/
def P_nb (q way : Int32) : Int32 := if way = 0 then (if q / 8 ≤ 0 then (-1) else q - 8) else if way = 1 then (if 7 ≤ P_rm q 8 then (-1) else q + 1) else if way = 2 then (if 7 ≤ q / 8 then (-1) else q + 8) else (if P_rm q 8 ≤ 0 then (-1) else q - 1)
def N_nb (q way : Nat) : Nat := if way = 0 then (if q < 8 then 64 else q - 8) else if way = 1 then (if 7 ≤ q % 8 then 64 else q + 1) else if way = 2 then (if 56 ≤ q then 64 else q + 8) else (if q % 8 = 0 then 64 else q - 1)
theorem nb_N : ∀ q, q < 64 → ∀ w, w < 4 → P_nb (nI q) (nI w) = if N_nb q w = 64 then (-1) else nI (N_nb q w) := by decide +kernel
theorem nb_lt : ∀ q, q < 64 → ∀ w, w < 4 → N_nb q w = 64 ∨ N_nb q w < 64 := by decide +kernel
def P_byS (q h r way : Int32) (st : Int32 × Int32) : Int32 × Int32 := if P_nb q way < 0 then st else if (if h = 0 then P_far (P_nb q way) r else -(P_far (P_nb q way) r)) ≤ st.2 then st else (P_nb q way, if h = 0 then P_far (P_nb q way) r else -(P_far (P_nb q way) r))
def P_by (q h r : Int32) : Int32 := (P_byS q h r 3 (P_byS q h r 2 (P_byS q h r 1 (P_byS q h r 0 (q, -1000000))))).1
/-- where she goes by a rock: of those beside hers the farthest (heart 0) or nearest, of several the first -/
def N_byS (q h r way : Nat) (st : Nat × Nat) : Nat × Nat := if N_nb q way = 64 then st else if (if h = 0 then 100 + N_far (N_nb q way) r else 100 - N_far (N_nb q way) r) ≤ st.2 then st else (N_nb q way, if h = 0 then 100 + N_far (N_nb q way) r else 100 - N_far (N_nb q way) r)
def N_by (q h r : Nat) : Nat := (N_byS q h r 3 (N_byS q h r 2 (N_byS q h r 1 (N_byS q h r 0 (q, 0))))).1
theorem by_N0 : ∀ q, q < 64 → ∀ r, r < 64 → P_by (nI q) (nI 0) (nI r) = nI (N_by q 0 r) := by decide +kernel
theorem by_N1 : ∀ q, q < 64 → ∀ r, r < 64 → P_by (nI q) (nI 1) (nI r) = nI (N_by q 1 r) := by decide +kernel
theorem by_lt0 : ∀ q, q < 64 → ∀ r, r < 64 → N_by q 0 r < 64 := by decide +kernel
theorem by_lt1 : ∀ q, q < 64 → ∀ r, r < 64 → N_by q 1 r < 64 := by decide +kernel
