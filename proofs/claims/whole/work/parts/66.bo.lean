/-! ===== both sides of a call ===== -/
/-- class and model hold the same -/
def Wd (I : Nat → Nat → Int32) (J : Nat → Nat → Int64) : Prop := ∃ (t : Nat → Nat) (n kp : Nat) (u : Nat → Nat) (m : Nat) (y : Nat → Int32) (bt : Nat → Nat) (L : Nat) (w z : Nat → Nat) (num : Nat → Nat → Int64), Cl I J t n kp u m y bt L w z num ∧ Md I J t n kp u m y bt L w z num
/-- the script is as it was -/
def frS (I I' : Nat → Nat → Int32) (J J' : Nat → Nat → Int64) : Prop := ∀ b, 57 ≤ b → ∀ j, I' b j = I b j ∧ J' b j = J b j
def BoI (mX mM : Nat) (eX eM : hr_L) : Prop := ∀ (I : Nat → Nat → Int32) (J : Nat → Nat → Int64), Wd I J → ∃ (v : Int32) (I1 : Nat → Nat → Int32) (J1 : Nat → Nat → Int64) (I2 : Nat → Nat → Int32) (J2 : Nat → Nat → Int64), den mX (0, eX, [], (I, J)) = some (some (.int v), (I1, J1)) ∧ den mM (0, eM, [], (I1, J1)) = some (some (.int v), (I2, J2)) ∧ Wd I2 J2 ∧ frS I I1 J J1 ∧ frS I1 I2 J1 J2
def BoL (mX mM : Nat) (eX eM : hr_L) : Prop := ∀ (I : Nat → Nat → Int32) (J : Nat → Nat → Int64), Wd I J → ∃ (v : Int64) (I1 : Nat → Nat → Int32) (J1 : Nat → Nat → Int64) (I2 : Nat → Nat → Int32) (J2 : Nat → Nat → Int64), den mX (0, eX, [], (I, J)) = some (some (.long v), (I1, J1)) ∧ den mM (0, eM, [], (I1, J1)) = some (some (.long v), (I2, J2)) ∧ Wd I2 J2 ∧ frS I I1 J J1 ∧ frS I1 I2 J1 J2
def bestI (b : Nat) : Int32 := if b = 0 then fnd 3 else nI (b - 1)
theorem bestR_int (b : Nat) : bestR b = .int (bestI b) := by unfold bestR bestI; split <;> rfl
section
variable {I I' : Nat → Nat → Int32} {J J' : Nat → Nat → Int64} {t t' : Nat → Nat} {n n' kp kp' : Nat} {u u' : Nat → Nat} {m m' : Nat} {y y' : Nat → Int32} {bt bt' : Nat → Nat} {L L' : Nat} {w w' z z' : Nat → Nat} {num num' : Nat → Nat → Int64} {mX mM : Nat} {eX eM : hr_L}
theorem frS.trans {I'' : Nat → Nat → Int32} {J'' : Nat → Nat → Int64} (h : frS I I' J J') (h' : frS I' I'' J' J'') : frS I I'' J J'' := fun b hb j => ⟨((h' b hb j).1).trans (h b hb j).1, ((h' b hb j).2).trans (h b hb j).2⟩
theorem Md.fr (h : Md I J t n kp u m y bt L w z num) (ho : frX I I' J J') : Md I' J' t n kp u m y bt L w z num := by
  obtain ⟨h1, h2, ⟨h3, h4, h5⟩, h6, ⟨h7, h8, h9⟩, h10, h11, h12, h13⟩ := h
  have o := fun b j (q : 44 ≤ b) => (ho b q j).1
  refine ⟨fun j hj => (o 45 j (by decide)).trans (h1 j hj), h2, ⟨(o 44 3 (by decide)).trans h3, h4, fun hk => ⟨fun j hj => (o 46 j (by decide)).trans ((h5 hk).1 j hj), (h5 hk).2⟩⟩, fun j hj => (o 48 j (by decide)).trans (h6 j hj), ⟨(o 44 6 (by decide)).trans h7, h8, fun j hj => ⟨(h9 j hj).1, (o 49 j (by decide)).trans (h9 j hj).2⟩⟩, fun s hs => ?_, fun j hj => (o 50 j (by decide)).trans (h11 j hj), fun j hj => (o 51 j (by decide)).trans (h12 j hj), fun j hj => (o 52 j (by decide)).trans (h13 j hj)⟩
  obtain ⟨a1, a2, a3, a4, a5⟩ := h10 s hs
  exact ⟨(o 53 s (by decide)).trans a1, a2, (o 54 s (by decide)).trans a3, a4, fun i hi => ((ho 55 (by decide) _).2).trans (a5 i hi)⟩
theorem Cl.fr (h : Cl I J t n kp u m y bt L w z num) (ho : frM I I' J J') : Cl I' J' t n kp u m y bt L w z num := by
  obtain ⟨h1, h2, ⟨h3, h4, h5⟩, h6, ⟨h7, h8, h9⟩, h10⟩ := h
  have o := fun b j (q : b < 44) => (ho b (Or.inl q) j).1
  refine ⟨h1.congr (fun b _ _ j => o b j (by omega)) h2.2.1, h2, ⟨(o 0 3 (by decide)).trans h3, h4, fun hk => ⟨(h5 hk).1.congr (fun b _ _ j => o b j (by omega)) (h5 hk).2.2.1, (h5 hk).2⟩⟩, fun j hj => (o 43 j (by decide)).trans (h6 j hj), ⟨(o 32 1 (by decide)).trans h7, h8, fun j hj => ⟨(h9 j hj).1, (o 33 j (by decide)).trans (h9 j hj).2⟩⟩, fun s hs => ?_⟩
  obtain ⟨a1, a2, a3, a4, a5⟩ := h10 s hs
  exact ⟨(o _ _ (by omega)).trans a1, a2, (o _ _ (by omega)).trans a3, a4, fun i hi => ((ho _ (Or.inl (by omega)) _).2).trans (a5 i hi)⟩
theorem boI {v : Int32} (hC : Cl I J t n kp u m y bt L w z num) (hM : Md I J t n kp u m y bt L w z num) (hx : XR mX eX I J (.int v) (fun I' J' => Cl I' J' t' n' kp' u' m' y' bt' L' w' z' num')) (hm : ∀ I1 J1, Md I1 J1 t n kp u m y bt L w z num → MR mM eM I1 J1 (.int v) (fun I' J' => Md I' J' t' n' kp' u' m' y' bt' L' w' z' num')) : ∃ (v : Int32) (I1 : Nat → Nat → Int32) (J1 : Nat → Nat → Int64) (I2 : Nat → Nat → Int32) (J2 : Nat → Nat → Int64), den mX (0, eX, [], (I, J)) = some (some (.int v), (I1, J1)) ∧ den mM (0, eM, [], (I1, J1)) = some (some (.int v), (I2, J2)) ∧ Wd I2 J2 ∧ frS I I1 J J1 ∧ frS I1 I2 J1 J2 := by
  obtain ⟨I1, J1, e1, f1, c1⟩ := hx
  obtain ⟨I2, J2, e2, f2, c2⟩ := hm I1 J1 (hM.fr f1)
  exact ⟨v, I1, J1, I2, J2, e1, e2, ⟨t', n', kp', u', m', y', bt', L', w', z', num', Cl.fr c1 f2, c2⟩, fun b hb j => f1 b (by omega) j, fun b hb j => f2 b (Or.inr hb) j⟩
theorem boL {v : Int64} (hC : Cl I J t n kp u m y bt L w z num) (hM : Md I J t n kp u m y bt L w z num) (hx : XR mX eX I J (.long v) (fun I' J' => Cl I' J' t' n' kp' u' m' y' bt' L' w' z' num')) (hm : ∀ I1 J1, Md I1 J1 t n kp u m y bt L w z num → MR mM eM I1 J1 (.long v) (fun I' J' => Md I' J' t' n' kp' u' m' y' bt' L' w' z' num')) : ∃ (v : Int64) (I1 : Nat → Nat → Int32) (J1 : Nat → Nat → Int64) (I2 : Nat → Nat → Int32) (J2 : Nat → Nat → Int64), den mX (0, eX, [], (I, J)) = some (some (.long v), (I1, J1)) ∧ den mM (0, eM, [], (I1, J1)) = some (some (.long v), (I2, J2)) ∧ Wd I2 J2 ∧ frS I I1 J J1 ∧ frS I1 I2 J1 J2 := by
  obtain ⟨I1, J1, e1, f1, c1⟩ := hx
  obtain ⟨I2, J2, e2, f2, c2⟩ := hm I1 J1 (hM.fr f1)
  exact ⟨v, I1, J1, I2, J2, e1, e2, ⟨t', n', kp', u', m', y', bt', L', w', z', num', Cl.fr c1 f2, c2⟩, fun b hb j => f1 b (by omega) j, fun b hb j => f2 b (Or.inr hb) j⟩
end
section
variable {a1 a2 a3 a4 a5 : Int32} {v : Int64}
theorem B_ship : BoI nX_ship nM_ship [some (.ref 0), some (.int a1), some (.int a2)] [some (.ref 44), some (.int a1), some (.int a2), none] := by
  rintro I J ⟨t, n, kp, u, m, y, bt, L, w, z, num, hC, hM⟩
  by_cases c : ∃ k v, k < 3 ∧ v ≤ mostS k ∧ a1 = nI k ∧ a2 = nI v
  · obtain ⟨k, v, hk, hv, rfl, rfl⟩ := c
    exact boI hC hM (X_ship_ok hC hk hv) (fun _ _ h => M_ship_ok h hk hv)
  · exact boI hC hM (X_ship_no hC c) (fun _ _ h => M_ship_no h c)
theorem B_now : BoI nX_now nM_now [some (.ref 0), some (.int a1)] [some (.ref 44), some (.int a1)] := by
  rintro I J ⟨t, n, kp, u, m, y, bt, L, w, z, num, hC, hM⟩
  by_cases c : rng a1 7
  · obtain ⟨k, hk, rfl⟩ := c
    exact boI hC hM (X_now_ok hC hk) (fun _ _ h => M_now_ok h hk)
  · exact boI hC hM (X_now_no hC c) (fun _ _ h => M_now_no h c)
theorem B_rock : BoI nX_rock nM_rock [some (.ref 0), some (.int a1), some (.int a2)] [some (.ref 44), some (.int a1), some (.int a2)] := by
  rintro I J ⟨t, n, kp, u, m, y, bt, L, w, z, num, hC, hM⟩
  by_cases c : rng a1 6 ∧ rng a2 64
  · obtain ⟨⟨k, hk, rfl⟩, q, hq, rfl⟩ := c
    have hn := hC.2.1.2.1
    by_cases c8 : n = 8
    · exact boI hC hM (X_rock_full hC hk hq c8) (fun _ _ h => M_rock_full h hk hq c8)
    · exact boI hC hM (X_rock_ok hC hk hq (by omega)) (fun _ _ h => M_rock_ok h hk hq (by omega))
  · exact boI hC hM (X_rock_no hC c) (fun _ _ h => M_rock_no h c)
theorem B_of : BoI nX_of nM_of [some (.ref 0), some (.int a1), some (.int a2), none] [some (.ref 44), some (.int a1), some (.int a2)] := by
  rintro I J ⟨t, n, kp, u, m, y, bt, L, w, z, num, hC, hM⟩
  by_cases c : rng a1 n ∧ rng a2 9
  · obtain ⟨⟨k, hk, rfl⟩, q, hq, rfl⟩ := c
    exact boI hC hM (X_of_ok hC hk hq) (fun _ _ h => M_of_ok h hk hq)
  · exact boI hC hM (X_of_no hC c) (fun _ _ h => M_of_no h c)
theorem B_set : BoI nX_set nM_set [some (.ref 0), some (.int a1), some (.int a2), some (.int a3)] [some (.ref 44), some (.int a1), some (.int a2), some (.int a3), none, none] := by
  rintro I J ⟨t, n, kp, u, m, y, bt, L, w, z, num, hC, hM⟩
  by_cases c : ∃ k q v, k < n ∧ (1 ≤ q ∧ q < 5) ∧ v ≤ mostR q ∧ a1 = nI k ∧ a2 = nI q ∧ a3 = nI v
  · obtain ⟨k, q, v, hk, hq, hv, rfl, rfl, rfl⟩ := c
    exact boI hC hM (X_set_ok hC hk hq hv) (fun _ _ h => M_set_ok h hk hq hv)
  · exact boI hC hM (X_set_no hC c) (fun _ _ h => M_set_no h c)
theorem B_turn : BoI nX_turn nM_turn [some (.ref 0), some (.int a1), some (.int a2), none] [some (.ref 44), some (.int a1), some (.int a2), none] := by
  rintro I J ⟨t, n, kp, u, m, y, bt, L, w, z, num, hC, hM⟩
  by_cases c : rng a1 n ∧ rng a2 6
  · obtain ⟨⟨k, hk, rfl⟩, q, hq, rfl⟩ := c
    exact boI hC hM (X_turn_ok hC hk hq) (fun _ _ h => M_turn_ok h hk hq)
  · exact boI hC hM (X_turn_no hC c) (fun _ _ h => M_turn_no h c)
theorem B_as : BoI nX_as nM_as [some (.ref 0), some (.int a1), some (.int a2), none] [some (.ref 44), some (.int a1), some (.int a2), none] := by
  rintro I J ⟨t, n, kp, u, m, y, bt, L, w, z, num, hC, hM⟩
  by_cases c : rng a1 n ∧ rng a2 6
  · obtain ⟨⟨k, hk, rfl⟩, q, hq, rfl⟩ := c
    cases ci : N_is (t (6 + 5 * k)) q with
    | true => exact boI hC hM (X_as_ok hC hk hq ci) (fun _ _ h => M_as_ok h hk hq ci)
    | false => exact boI hC hM (X_as_kind hC hk hq ci) (fun _ _ h => M_as_kind h hk hq ci)
  · exact boI hC hM (X_as_no hC c) (fun _ _ h => M_as_no h c)
theorem B_sounds : BoI nX_sounds nM_sounds [some (.ref 0), some (.int a1), some (.int a2)] [some (.ref 44), some (.int a1), some (.int a2)] := by
  rintro I J ⟨t, n, kp, u, m, y, bt, L, w, z, num, hC, hM⟩
  by_cases c : rng a1 n ∧ rng a2 64
  · obtain ⟨⟨k, hk, rfl⟩, q, hq, rfl⟩ := c
    exact boI hC hM (X_sounds_ok hC hk hq) (fun _ _ h => M_sounds_ok h hk hq)
  · exact boI hC hM (X_sounds_no hC c) (fun _ _ h => M_sounds_no h c)
theorem B_loudest : BoI nX_loudest nM_loudest [some (.ref 0), some (.int a1)] [some (.ref 44), some (.int a1), none, none] := by
  rintro I J ⟨t, n, kp, u, m, y, bt, L, w, z, num, hC, hM⟩
  by_cases c : rng a1 64
  · obtain ⟨q, hq, rfl⟩ := c
    by_cases c0 : (loV t q n).1 = 0
    · exact boI hC hM (X_loudest_none hC hq c0) (fun _ _ h => M_loudest_none h hq c0)
    · exact boI hC hM (X_loudest_ok hC hq c0) (fun _ _ h => M_loudest_ok h hq c0)
  · exact boI hC hM (X_loudest_no hC c) (fun _ _ h => M_loudest_no h c)
theorem B_watches : BoI nX_watches nM_watches [some (.ref 0), some (.int a1)] [some (.ref 44), some (.int a1)] := by
  rintro I J ⟨t, n, kp, u, m, y, bt, L, w, z, num, hC, hM⟩
  by_cases c : ∃ c, 1 ≤ c ∧ c ≤ 100 ∧ a1 = nI c
  · obtain ⟨c, h1, h2, rfl⟩ := c
    by_cases c0 : t 0 + c ≤ 99999
    · exact boI hC hM (X_watches_ok hC ⟨h1, h2⟩ c0) (fun _ _ h => M_watches_ok h ⟨h1, h2⟩ c0)
    · exact boI hC hM (X_watches_state hC ⟨h1, h2⟩ c0) (fun _ _ h => M_watches_state h ⟨h1, h2⟩ c0)
  · exact boI hC hM (X_watches_no hC c) (fun _ _ h => M_watches_no h c)
theorem B_on : BoI nX_on nM_on [some (.ref 0), some (.int a1), some (.int a2)] [some (.ref 44), some (.int a1), some (.int a2)] := by
  rintro I J ⟨t, n, kp, u, m, y, bt, L, w, z, num, hC, hM⟩
  by_cases c : rng a1 201 ∧ rng a2 2
  · obtain ⟨⟨k, hk, rfl⟩, q, hq, rfl⟩ := c
    exact boI hC hM (X_on_ok hC (by omega) hq) (fun _ _ h => M_on_ok h (by omega) hq)
  · exact boI hC hM (X_on_no hC c) (fun _ _ h => M_on_no h c)
theorem B_moved : BoI nX_moved nM_moved [some (.ref 0), some (.int a1), some (.int a2)] [some (.ref 44), some (.int a1), some (.int a2)] := by
  rintro I J ⟨t, n, kp, u, m, y, bt, L, w, z, num, hC, hM⟩
  by_cases c : rng a1 n ∧ rng a2 201
  · obtain ⟨⟨k, hk, rfl⟩, q, hq, rfl⟩ := c
    exact boI hC hM (X_moved_ok hC hk (by omega)) (fun _ _ h => M_moved_ok h hk (by omega))
  · exact boI hC hM (X_moved_no hC c) (fun _ _ h => M_moved_no h c)
theorem B_strikes : BoI nX_strikes nM_strikes [some (.ref 0)] [some (.ref 44)] := by
  rintro I J ⟨t, n, kp, u, m, y, bt, L, w, z, num, hC, hM⟩
  by_cases c : fiV (ftV 1) t n 201 ≤ 200
  · exact boI hC hM ((X_strikes hC).1 c) (fun _ _ h => (M_strikes h).1 c)
  · exact boI hC hM ((X_strikes hC).2 c) (fun _ _ h => (M_strikes h).2 c)
theorem B_home : BoI nX_home nM_home [some (.ref 0)] [some (.ref 44)] := by
  rintro I J ⟨t, n, kp, u, m, y, bt, L, w, z, num, hC, hM⟩
  by_cases c : fiV (ftV 2) t n 201 ≤ 200
  · exact boI hC hM ((X_home hC).1 c) (fun _ _ h => (M_home h).1 c)
  · exact boI hC hM ((X_home hC).2 c) (fun _ _ h => (M_home h).2 c)
theorem B_comes : BoI nX_comes nM_comes [some (.ref 0), some (.int a1)] [some (.ref 44), some (.int a1)] := by
  rintro I J ⟨t, n, kp, u, m, y, bt, L, w, z, num, hC, hM⟩
  by_cases c : rng a1 64
  · obtain ⟨q, hq, rfl⟩ := c
    by_cases c0 : fiV (sqV q) t n 201 ≤ 200
    · exact boI hC hM ((X_comes hC hq).1 c0) (fun _ _ h => (M_comes h hq).1 c0)
    · exact boI hC hM ((X_comes hC hq).2 c0) (fun _ _ h => (M_comes h hq).2 c0)
  · exact boI hC hM (X_comes_no hC c) (fun _ _ h => M_comes_no h c)
theorem B_ear : BoI nX_ear nM_ear [some (.ref 0), none] [some (.ref 44), none, none, none, none] := by
  rintro I J ⟨t, n, kp, u, m, y, bt, L, w, z, num, hC, hM⟩
  exact boI hC hM (bestR_int _ ▸ X_ear_all hC) (fun _ _ h => bestR_int _ ▸ M_ear_all h)
theorem B_begin : BoI nX_begin nM_begin [some (.ref 0), some (.int a1), none] [some (.ref 44), some (.int a1), none, none, none, none] := by
  rintro I J ⟨t, n, kp, u, m, y, bt, L, w, z, num, hC, hM⟩
  by_cases c : rng a1 8
  · obtain ⟨k, hk, rfl⟩ := c
    exact boI hC hM (bestR_int _ ▸ X_begin_ok hC hk) (fun _ _ h => bestR_int _ ▸ M_begin_ok h hk)
  · exact boI hC hM (X_begin_no hC c) (fun _ _ h => M_begin_no h c)
theorem B_silence : BoI nX_silence nM_silence [some (.ref 0), none] [some (.ref 44), none, none, none, none, none] := by
  rintro I J ⟨t, n, kp, u, m, y, bt, L, w, z, num, hC, hM⟩
  exact boI hC hM (bestR_int _ ▸ X_silence_all hC) (fun _ _ h => bestR_int _ ▸ M_silence_all h)
theorem B_kind : BoI nX_kind nM_kind [some (.ref 0), some (.int a1), none] [some (.ref 44), some (.int a1), none, none, none, none] := by
  rintro I J ⟨t, n, kp, u, m, y, bt, L, w, z, num, hC, hM⟩
  by_cases c : rng a1 n
  · obtain ⟨k, hk, rfl⟩ := c
    exact boI hC hM (bestR_int _ ▸ X_kind_ok hC hk) (fun _ _ h => bestR_int _ ▸ M_kind_ok h hk)
  · exact boI hC hM (X_kind_no hC c) (fun _ _ h => M_kind_no h c)
theorem B_horn : BoI nX_horn nM_horn [some (.ref 0), some (.int a1), some (.int a2), none] [some (.ref 44), some (.int a1), some (.int a2), none] := by
  rintro I J ⟨t, n, kp, u, m, y, bt, L, w, z, num, hC, hM⟩
  by_cases c : rng a1 n ∧ ∃ c, 1 ≤ c ∧ c ≤ 100 ∧ a2 = nI c
  · obtain ⟨⟨k, hk, rfl⟩, c, h1, h2, rfl⟩ := c
    exact boI hC hM (bestR_int _ ▸ X_horn_ok hC hk ⟨h1, h2⟩) (fun _ _ h => bestR_int _ ▸ M_horn_ok h hk ⟨h1, h2⟩)
  · exact boI hC hM (X_horn_no hC c) (fun _ _ h => M_horn_no h c)
theorem B_fewest : BoI nX_fewest nM_fewest [some (.ref 0), some (.int a1), none, none, none] [some (.ref 44), some (.int a1), none, none, none] := by
  rintro I J ⟨t, n, kp, u, m, y, bt, L, w, z, num, hC, hM⟩
  by_cases c : ∃ c, 1 ≤ c ∧ c ≤ 40 ∧ a1 = nI c
  · obtain ⟨c, h1, h2, rfl⟩ := c
    exact boI hC hM (bestR_int _ ▸ X_fewest_ok hC ⟨h1, h2⟩) (fun _ _ h => bestR_int _ ▸ M_fewest_ok h ⟨h1, h2⟩)
  · exact boI hC hM (X_fewest_no hC c) (fun _ _ h => M_fewest_no h c)
theorem B_feed : BoI nX_feed nM_feed [some (.ref 0), some (.int a1), some (.int a2)] [some (.ref 44), some (.int a1), some (.int a2), none] := by
  rintro I J ⟨t, n, kp, u, m, y, bt, L, w, z, num, hC, hM⟩
  by_cases c : ∃ c, 1 ≤ c ∧ c ≤ 4 ∧ a2 = nI c
  · obtain ⟨c, h1, h2, rfl⟩ := c
    by_cases c0 : L + c ≤ 120
    · exact boI hC hM (X_feed_ok hC ⟨h1, h2⟩ c0) (fun _ _ h => M_feed_ok h ⟨h1, h2⟩ c0)
    · exact boI hC hM (X_feed_full hC ⟨h1, h2⟩ c0) (fun _ _ h => M_feed_full h ⟨h1, h2⟩ c0)
  · exact boI hC hM (X_feed_no hC c) (fun _ _ h => M_feed_no h c)
theorem B_wipe : BoI nX_wipe nM_wipe [some (.ref 0), none] [some (.ref 44), none] := by
  rintro I J ⟨t, n, kp, u, m, y, bt, L, w, z, num, hC, hM⟩
  exact boI hC hM (X_wipe_all hC) (fun _ _ h => M_wipe_all h)
theorem B_chart : BoI nX_chart nM_chart [some (.ref 0), none] [some (.ref 44), none, none] := by
  rintro I J ⟨t, n, kp, u, m, y, bt, L, w, z, num, hC, hM⟩
  exact boI hC hM (X_chart_all hC) (fun _ _ h => M_chart_all h)
theorem B_sheet : BoI nX_sheet nM_sheet [some (.ref 0), some (.int a1), some (.int a2), some (.int a3)] [some (.ref 44), some (.int a1), some (.int a2), some (.int a3), none] := by
  rintro I J ⟨t, n, kp, u, m, y, bt, L, w, z, num, hC, hM⟩
  by_cases c : rng a1 4 ∧ ∃ b, isW b ∧ a2 = nI b
  · obtain ⟨⟨s, hs, rfl⟩, b, hb, rfl⟩ := c
    by_cases c1 : a3 < 0
    · exact boI hC hM (X_sheet_size hC hs hb c1) (fun _ _ h => M_sheet_size h hs hb c1)
    · by_cases c2 : a3 ≤ 40
      · obtain ⟨k, hk, rfl⟩ := nI_of2 (M := 40) (n := 40) (by decide) c1 c2
        exact boI hC hM (X_sheet_ok hC hs hb hk) (fun _ _ h => M_sheet_ok h hs hb hk)
      · exact boI hC hM (X_sheet_big hC hs hb c1 c2) (fun _ _ h => M_sheet_big h hs hb c1 c2)
  · exact boI hC hM (X_sheet_no hC c) (fun _ _ h => M_sheet_no h c)
theorem B_write : BoL nX_write nM_write [some (.ref 0), some (.int a1), some (.int a2), some (.long v), none, none, none, none, none] [some (.ref 44), some (.int a1), some (.int a2), some (.long v), none, none, none, none] := by
  rintro I J ⟨t, n, kp, u, m, y, bt, L, w, z, num, hC, hM⟩
  by_cases c : rng a1 4
  · obtain ⟨s, hs, rfl⟩ := c
    by_cases c0 : w s = 0
    · exact boL hC hM (X_write_miss hC hs c0) (fun _ _ h => M_write_miss h hs c0)
    · by_cases c2 : rng a2 (z s)
      · obtain ⟨i, hi, rfl⟩ := c2
        exact boL hC hM (X_write_ok hC hs c0 hi) (fun _ _ h => M_write_ok h hs c0 hi)
      · exact boL hC hM (X_write_out hC hs c0 c2) (fun _ _ h => M_write_out h hs c0 c2)
  · exact boL hC hM (X_write_no hC c) (fun _ _ h => M_write_no h c)
theorem B_copy : BoI nX_copy nM_copy [some (.ref 0), some (.int a1), some (.int a2), some (.int a3), some (.int a4), some (.int a5), none, none] [some (.ref 44), some (.int a1), some (.int a2), some (.int a3), some (.int a4), some (.int a5), none] := by
  rintro I J ⟨t, n, kp, u, m, y, bt, L, w, z, num, hC, hM⟩
  by_cases c : rng a1 4 ∧ rng a3 4
  · obtain ⟨⟨s, hs, rfl⟩, r, hr, rfl⟩ := c
    by_cases c0 : w s = 0 ∨ w r = 0
    · exact boI hC hM (X_copy_miss hC hs hr c0) (fun _ _ h => M_copy_miss h hs hr c0)
    · have n1 : w s ≠ 0 := fun q => c0 (Or.inl q)
      have n2 : w r ≠ 0 := fun q => c0 (Or.inr q)
      by_cases c1 : w s = w r
      · by_cases c2 : inR a2 a5 (z s) ∧ inR a4 a5 (z r)
        · obtain ⟨⟨i, k, rfl, rfl, h1⟩, j, k', rfl, h2, h3⟩ := c2
          have a4' := (hM.sh hs).2.2.2.1
          have b4' := (hM.sh hr).2.2.2.1
          have e := (nI_eq (show k < 2 ^ 31 by omega) (show k' < 2 ^ 31 by omega)).mp h2
          subst e
          exact boI hC hM (X_copy_ok hC hs hr n1 c1 h1 h3) (fun _ _ h => M_copy_ok h hs hr n1 c1 h1 h3)
        · exact boI hC hM (X_copy_out hC hs hr n1 c1 c2) (fun _ _ h => M_copy_out h hs hr n1 c1 c2)
      · exact boI hC hM (X_copy_kind hC hs hr n1 n2 c1) (fun _ _ h => M_copy_kind h hs hr n1 n2 c1)
  · exact boI hC hM (X_copy_no hC c) (fun _ _ h => M_copy_no h c)
theorem B_lays : BoI nX_lays nM_lays [some (.ref 0), some (.int a1), none, none, none, none, none, none] [some (.ref 44), some (.int a1), none, none, none, none] := by
  rintro I J ⟨t, n, kp, u, m, y, bt, L, w, z, num, hC, hM⟩
  by_cases c : rng a1 4
  · obtain ⟨s, hs, rfl⟩ := c
    by_cases c0 : w s = 0
    · exact boI hC hM (X_lays_miss hC hs c0) (fun _ _ h => M_lays_miss h hs c0)
    · exact boI hC hM (X_lays_ok hC hs c0) (fun _ _ h => M_lays_ok h hs c0)
  · exact boI hC hM (X_lays_no hC c) (fun _ _ h => M_lays_no h c)
theorem B_book : BoI nX_book nM_book [some (.ref 0), some (.int a1), none, none, none] [some (.ref 44), some (.int a1), none, none] := by
  rintro I J ⟨t, n, kp, u, m, y, bt, L, w, z, num, hC, hM⟩
  by_cases c : rng a1 4
  · obtain ⟨s, hs, rfl⟩ := c
    by_cases c0 : w s = 0
    · exact boI hC hM (X_book_miss hC hs c0) (fun _ _ h => M_book_miss h hs c0)
    · exact boI hC hM (X_book_ok hC hs c0) (fun _ _ h => M_book_ok h hs c0)
  · exact boI hC hM (X_book_no hC c) (fun _ _ h => M_book_no h c)
theorem B_read : BoI nX_read nM_read [some (.ref 0), some (.int a1), none, none, none, none, none] [some (.ref 44), some (.int a1), none, none, none] := by
  rintro I J ⟨t, n, kp, u, m, y, bt, L, w, z, num, hC, hM⟩
  by_cases c : rng a1 4
  · obtain ⟨s, hs, rfl⟩ := c
    by_cases c0 : w s = 0
    · exact boI hC hM (X_read_miss hC hs c0) (fun _ _ h => M_read_miss h hs c0)
    · exact boI hC hM (X_read_ok hC hs c0) (fun _ _ h => M_read_ok h hs c0)
  · exact boI hC hM (X_read_no hC c) (fun _ _ h => M_read_no h c)
theorem B_image : BoI nX_image nM_image [some (.ref 0)] [some (.ref 44), none] := by
  rintro I J ⟨t, n, kp, u, m, y, bt, L, w, z, num, hC, hM⟩
  exact boI hC hM (X_image_all hC) (fun _ _ h => M_image_all h)
theorem B_undo : BoI nX_undo nM_undo [some (.ref 0)] [some (.ref 44), none] := by
  rintro I J ⟨t, n, kp, u, m, y, bt, L, w, z, num, hC, hM⟩
  have hk := hC.2.2.1.2.1
  by_cases c : kp = 1
  · exact boI hC hM (X_undo_ok hC c) (fun _ _ h => M_undo_ok h c)
  · exact boI hC hM (X_undo_no hC (by omega)) (fun _ _ h => M_undo_no h (by omega))
theorem B_tear : BoI nX_tear nM_tear [some (.ref 0), none] [some (.ref 44), none] := by
  rintro I J ⟨t, n, kp, u, m, y, bt, L, w, z, num, hC, hM⟩
  exact boI hC hM (X_tear_all hC) (fun _ _ h => M_tear_all h)
theorem B_count : BoI nX_count nM_count [some (.ref 0), some (.int a1)] [some (.ref 44), some (.int a1)] := by
  rintro I J ⟨t, n, kp, u, m, y, bt, L, w, z, num, hC, hM⟩
  by_cases c : rng a1 4
  · obtain ⟨k, hk, rfl⟩ := c
    exact boI hC hM (X_count_ok hC hk) (fun _ _ h => M_count_ok h hk)
  · exact boI hC hM (X_count_no hC c) (fun _ _ h => M_count_no h c)
theorem B_status : BoI nX_status nM_status [some (.ref 0), some (.int a1), none, none] [some (.ref 44), some (.int a1), none, none] := by
  rintro I J ⟨t, n, kp, u, m, y, bt, L, w, z, num, hC, hM⟩
  by_cases c1 : a1 = -1
  · subst c1
    exact boI hC hM (X_status_all hC) (fun _ _ h => M_status_all h)
  · by_cases c : rng a1 7
    · obtain ⟨k, hk, rfl⟩ := c
      exact boI hC hM (X_status_ok hC hk) (fun _ _ h => M_status_ok h hk)
    · exact boI hC hM (X_status_no hC c1 c) (fun _ _ h => M_status_no h c1 c)
end
