/-! ===== the constructors, walked (by wip/whole/gen73.py) ===== -/
theorem cn_6 : (6 : Int32).toNatClampNeg = 6 := by decide
theorem cn_7 : (7 : Int32).toNatClampNeg = 7 := by decide
abbrev seaW (ci : Nat → ClassId) (q : Nat) (u : Nat → Nat) : va_W := [(q, .inr (2, [.int 0, .int 0, .int 5, .int 0, .int 0, .int 0, .ref (u 0)])), (u 0, .inl (ci 5, 8, .inr (.inr (.inr (.inr (fun j => some (u (1 + j)))))))), (u 1, .inr (1, [.int 0, .int 0, .int 0, .int 0, .int 0])), (u 2, .inr (1, [.int 0, .int 0, .int 0, .int 0, .int 0])), (u 3, .inr (1, [.int 0, .int 0, .int 0, .int 0, .int 0])), (u 4, .inr (1, [.int 0, .int 0, .int 0, .int 0, .int 0])), (u 5, .inr (1, [.int 0, .int 0, .int 0, .int 0, .int 0])), (u 6, .inr (1, [.int 0, .int 0, .int 0, .int 0, .int 0])), (u 7, .inr (1, [.int 0, .int 0, .int 0, .int 0, .int 0])), (u 8, .inr (1, [.int 0, .int 0, .int 0, .int 0, .int 0]))]
abbrev tapeW (ci : Nat → ClassId) (q : Nat) (u : Nat → Nat) : va_W := [(q, .inr (4, [.ref (u 0), .int 0, .int 0, .int 0, .int 0, .int 0])), (u 0, .inl (ci 3, 120, .inl (fun _ => 0)))]
abbrev sheetW (ci : Nat → ClassId) (q : Nat) (u : Nat → Nat) : va_W := [(q, .inr (3, [.int 0, .int 0, .ref (u 0)])), (u 0, .inl (ci 2, 40, .inr (.inl (fun _ => 0))))]
set_option maxHeartbeats 8000000 in
set_option maxRecDepth 100000 in
theorem ct_Rock (l : Launch) (D : va_G) (ci : Nat → ClassId) : ct_M (S := Nat → Nat) l D ci 2 1 12 0 0 1 [.int 0, .int 0, .int 0, .int 0, .int 0] (fun h0 _ => [(h0, .inr (1, [.int 0, .int 0, .int 0, .int 0, .int 0]))]) := by
  refine ct_of (by decide) (by decide) rfl rfl (by decide) ?_
  intro p e s m args below meth c h0 A ls Q X hml hN hA hP hD hl ret
  obtain ⟨hx, hb, hown, hts, hK, hin⟩ := id X
  have hl : lv_has ls 1 [(0, .ref h0)] := hl
  have hml : c.maxLocals = 1 := hml
  refine lv_aload_n hx hb dRi_0 rfl (lv_at hl 0 rfl) ?_
  refine ct_obj X (n := 1) (hr_tt 76 (by decide +kernel) rfl) hml hl.1 (by decide) (by decide) dRi_1 ?_
  refine W.widen (k := 0) (n := 0) (by decide) (by decide) ?_
  exact ret s.heap [] 4 ls (fun _ => 0) hP hD va_S.rf dRi_4
set_option maxHeartbeats 8000000 in
set_option maxRecDepth 100000 in
theorem ct_Choice (l : Launch) (D : va_G) (ci : Nat → ClassId) : ct_M (S := Nat → Nat) l D ci 3 1 12 0 0 0 [.int 0, .int 0] (fun h0 _ => [(h0, .inr (0, [.int 0, .int 0]))]) := by
  refine ct_of (by decide) (by decide) rfl rfl (by decide) ?_
  intro p e s m args below meth c h0 A ls Q X hml hN hA hP hD hl ret
  obtain ⟨hx, hb, hown, hts, hK, hin⟩ := id X
  have hl : lv_has ls 1 [(0, .ref h0)] := hl
  have hml : c.maxLocals = 1 := hml
  refine lv_aload_n hx hb dCi_0 rfl (lv_at hl 0 rfl) ?_
  refine ct_obj X (n := 1) (hr_tt 141 (by decide +kernel) rfl) hml hl.1 (by decide) (by decide) dCi_1 ?_
  refine W.widen (k := 0) (n := 0) (by decide) (by decide) ?_
  exact ret s.heap [] 4 ls (fun _ => 0) hP hD va_S.rf dCi_4
set_option maxHeartbeats 8000000 in
set_option maxRecDepth 100000 in
theorem ct_Tape (l : Launch) (D : va_G) (ci : Nat → ClassId) : ct_M (S := Nat → Nat) l D ci 4 1 12 1 120 4 [.null, .int 0, .int 0, .int 0, .int 0, .int 0] (fun h0 u => tapeW ci h0 u) := by
  refine ct_of (by decide) (by decide) rfl rfl (by decide) ?_
  intro p e s m args below meth c h0 A ls Q X hml hN hA hP hD hl ret
  obtain ⟨hx, hb, hown, hts, hK, hin⟩ := id X
  have hl : lv_has ls 1 [(0, .ref h0)] := hl
  have hml : c.maxLocals = 1 := hml
  refine lv_aload_n hx hb dTi_0 rfl (lv_at hl 0 rfl) ?_
  refine ct_obj X (n := 1) (hr_tt 155 (by decide +kernel) rfl) hml hl.1 (by decide) (by decide) dTi_1 ?_
  refine lv_aload_n hx hb dTi_4 rfl (lv_at hl 0 rfl) ?_
  refine lv_bipush (v := 120) hx hb dTi_5 (by decide) ?_
  refine ct_arrB X hP hD va_S.rf hA (N := 120) (by decide) (by decide) (by decide) (by decide) (by decide) dTi_7 (fun q7 H hP hD hS => ?_)
  have hP : va_P D hr_cl [(h0, .inr (4, [.null, .int 0, .int 0, .int 0, .int 0, .int 0])), (q7, .inl (ci 3, 120, .inl (fun _ => 0)))] H := hP
  have hD : va_D A [(h0, .inr (4, [.null, .int 0, .int 0, .int 0, .int 0, .int 0])), (q7, .inl (ci 3, 120, .inl (fun _ => 0)))] := hD
  refine W.widen (k := 1) (n := 120) (by decide) (by decide) ?_
  refine ct_putF X hP hD hS (i := 9) (cc := 4) (k := 0) 0 (by decide +kernel) (by decide) (by decide) rfl rfl (by decide +kernel) rfl rfl (Nat.le_of_ble_eq_true rfl) dTi_9 (fun H locs hP hD hS => ?_)
  have hP : va_P D hr_cl [(h0, .inr (4, [.ref q7, .int 0, .int 0, .int 0, .int 0, .int 0])), (q7, .inl (ci 3, 120, .inl (fun _ => 0)))] H := hP
  have hD : va_D A [(h0, .inr (4, [.ref q7, .int 0, .int 0, .int 0, .int 0, .int 0])), (q7, .inl (ci 3, 120, .inl (fun _ => 0)))] := hD
  refine lv_aload_n hx hb dTi_12 rfl (lv_at hl 0 rfl) ?_
  refine lv_iconst (v := 0) hx hb dTi_13 (by decide) ?_
  refine ct_put X hP hD hS (i := 15) (cc := 4) (k := 1) 0 (by decide +kernel) (by decide) rfl rfl rfl rfl (Nat.le_of_ble_eq_true rfl) dTi_14 (fun H locs hP hD hS => ?_)
  have hP : va_P D hr_cl [(h0, .inr (4, [.ref q7, .int 0, .int 0, .int 0, .int 0, .int 0])), (q7, .inl (ci 3, 120, .inl (fun _ => 0)))] H := hP
  have hD : va_D A [(h0, .inr (4, [.ref q7, .int 0, .int 0, .int 0, .int 0, .int 0])), (q7, .inl (ci 3, 120, .inl (fun _ => 0)))] := hD
  refine W.widen (k := 1) (n := 120) (by decide) (by decide) ?_
  exact ret H locs 17 ls (fun _ => q7) hP hD hS dTi_17
set_option maxHeartbeats 8000000 in
set_option maxRecDepth 100000 in
theorem ct_Sheet (l : Launch) (D : va_G) (ci : Nat → ClassId) : ct_M (S := Nat → Nat) l D ci 5 1 12 1 40 3 [.int 0, .int 0, .null] (fun h0 u => sheetW ci h0 u) := by
  refine ct_of (by decide) (by decide) rfl rfl (by decide) ?_
  intro p e s m args below meth c h0 A ls Q X hml hN hA hP hD hl ret
  obtain ⟨hx, hb, hown, hts, hK, hin⟩ := id X
  have hl : lv_has ls 1 [(0, .ref h0)] := hl
  have hml : c.maxLocals = 1 := hml
  refine lv_aload_n hx hb dHi_0 rfl (lv_at hl 0 rfl) ?_
  refine ct_obj X (n := 1) (hr_tt 183 (by decide +kernel) rfl) hml hl.1 (by decide) (by decide) dHi_1 ?_
  refine lv_aload_n hx hb dHi_4 rfl (lv_at hl 0 rfl) ?_
  refine lv_iconst (v := 0) hx hb dHi_5 (by decide) ?_
  refine ct_put X hP hD va_S.rf (i := 9) (cc := 3) (k := 0) 0 (by decide +kernel) (by decide) rfl rfl rfl rfl (Nat.le_of_ble_eq_true rfl) dHi_6 (fun H locs hP hD hS => ?_)
  have hP : va_P D hr_cl [(h0, .inr (3, [.int 0, .int 0, .null]))] H := hP
  have hD : va_D A [(h0, .inr (3, [.int 0, .int 0, .null]))] := hD
  refine lv_aload_n hx hb dHi_9 rfl (lv_at hl 0 rfl) ?_
  refine lv_iconst (v := 0) hx hb dHi_10 (by decide) ?_
  refine ct_put X hP hD hS (i := 15) (cc := 3) (k := 1) 0 (by decide +kernel) (by decide) rfl rfl rfl rfl (Nat.le_of_ble_eq_true rfl) dHi_11 (fun H locs hP hD hS => ?_)
  have hP : va_P D hr_cl [(h0, .inr (3, [.int 0, .int 0, .null]))] H := hP
  have hD : va_D A [(h0, .inr (3, [.int 0, .int 0, .null]))] := hD
  refine lv_aload_n hx hb dHi_14 rfl (lv_at hl 0 rfl) ?_
  refine lv_bipush (v := 40) hx hb dHi_15 (by decide) ?_
  refine ct_arrL X hP hD hS hA (N := 40) (by decide) (by decide) (by decide) (by decide) (by decide) dHi_17 (fun q17 H hP hD hS => ?_)
  have hP : va_P D hr_cl [(h0, .inr (3, [.int 0, .int 0, .null])), (q17, .inl (ci 2, 40, .inr (.inl (fun _ => 0))))] H := hP
  have hD : va_D A [(h0, .inr (3, [.int 0, .int 0, .null])), (q17, .inl (ci 2, 40, .inr (.inl (fun _ => 0))))] := hD
  refine W.widen (k := 1) (n := 40) (by decide) (by decide) ?_
  refine ct_putF X hP hD hS (i := 18) (cc := 3) (k := 2) 0 (by decide +kernel) (by decide) (by decide) rfl rfl (by decide +kernel) rfl rfl (Nat.le_of_ble_eq_true rfl) dHi_19 (fun H locs hP hD hS => ?_)
  have hP : va_P D hr_cl [(h0, .inr (3, [.int 0, .int 0, .ref q17])), (q17, .inl (ci 2, 40, .inr (.inl (fun _ => 0))))] H := hP
  have hD : va_D A [(h0, .inr (3, [.int 0, .int 0, .ref q17])), (q17, .inl (ci 2, 40, .inr (.inl (fun _ => 0))))] := hD
  refine W.widen (k := 1) (n := 40) (by decide) (by decide) ?_
  exact ret H locs 22 ls (fun _ => q17) hP hD hS dHi_22
set_option maxHeartbeats 8000000 in
set_option maxRecDepth 100000 in
theorem ct_Sea (l : Launch) (D : va_G) (ci : Nat → ClassId) : ct_M (S := Nat → Nat) l D ci 1 2 32 9 48 2 [.int 0, .int 0, .int 0, .int 0, .int 0, .int 0, .null] (fun h0 u => seaW ci h0 u) := by
  refine ct_of (by decide) (by decide) rfl rfl (by decide) ?_
  intro p e s m args below meth c h0 A ls Q X hml hN hA hP hD hl ret
  obtain ⟨hx, hb, hown, hts, hK, hin⟩ := id X
  have hl : lv_has ls 2 [(0, .ref h0)] := hl
  have hml : c.maxLocals = 2 := hml
  refine lv_aload_n hx hb dSi_0 rfl (lv_at hl 0 rfl) ?_
  refine ct_obj X (n := 2) (hr_tt 69 (by decide +kernel) rfl) hml hl.1 (by decide) (by decide) dSi_1 ?_
  refine lv_aload_n hx hb dSi_4 rfl (lv_at hl 0 rfl) ?_
  refine lv_iconst (v := 0) hx hb dSi_5 (by decide) ?_
  refine ct_put X hP hD va_S.rf (i := 9) (cc := 2) (k := 0) 0 (by decide +kernel) (by decide) rfl rfl rfl rfl (Nat.le_of_ble_eq_true rfl) dSi_6 (fun H locs hP hD hS => ?_)
  have hP : va_P D hr_cl [(h0, .inr (2, [.int 0, .int 0, .int 0, .int 0, .int 0, .int 0, .null]))] H := hP
  have hD : va_D A [(h0, .inr (2, [.int 0, .int 0, .int 0, .int 0, .int 0, .int 0, .null]))] := hD
  refine lv_aload_n hx hb dSi_9 rfl (lv_at hl 0 rfl) ?_
  refine lv_iconst (v := 0) hx hb dSi_10 (by decide) ?_
  refine ct_put X hP hD hS (i := 15) (cc := 2) (k := 1) 0 (by decide +kernel) (by decide) rfl rfl rfl rfl (Nat.le_of_ble_eq_true rfl) dSi_11 (fun H locs hP hD hS => ?_)
  have hP : va_P D hr_cl [(h0, .inr (2, [.int 0, .int 0, .int 0, .int 0, .int 0, .int 0, .null]))] H := hP
  have hD : va_D A [(h0, .inr (2, [.int 0, .int 0, .int 0, .int 0, .int 0, .int 0, .null]))] := hD
  refine lv_aload_n hx hb dSi_14 rfl (lv_at hl 0 rfl) ?_
  refine lv_iconst (v := 5) hx hb dSi_15 (by decide) ?_
  refine ct_put X hP hD hS (i := 18) (cc := 2) (k := 2) 0 (by decide +kernel) (by decide) rfl rfl rfl rfl (Nat.le_of_ble_eq_true rfl) dSi_16 (fun H locs hP hD hS => ?_)
  have hP : va_P D hr_cl [(h0, .inr (2, [.int 0, .int 0, .int 5, .int 0, .int 0, .int 0, .null]))] H := hP
  have hD : va_D A [(h0, .inr (2, [.int 0, .int 0, .int 5, .int 0, .int 0, .int 0, .null]))] := hD
  refine lv_aload_n hx hb dSi_19 rfl (lv_at hl 0 rfl) ?_
  refine lv_iconst (v := 0) hx hb dSi_20 (by decide) ?_
  refine ct_put X hP hD hS (i := 21) (cc := 2) (k := 3) 0 (by decide +kernel) (by decide) rfl rfl rfl rfl (Nat.le_of_ble_eq_true rfl) dSi_21 (fun H locs hP hD hS => ?_)
  have hP : va_P D hr_cl [(h0, .inr (2, [.int 0, .int 0, .int 5, .int 0, .int 0, .int 0, .null]))] H := hP
  have hD : va_D A [(h0, .inr (2, [.int 0, .int 0, .int 5, .int 0, .int 0, .int 0, .null]))] := hD
  refine lv_aload_n hx hb dSi_24 rfl (lv_at hl 0 rfl) ?_
  refine lv_iconst (v := 0) hx hb dSi_25 (by decide) ?_
  refine ct_put X hP hD hS (i := 24) (cc := 2) (k := 4) 0 (by decide +kernel) (by decide) rfl rfl rfl rfl (Nat.le_of_ble_eq_true rfl) dSi_26 (fun H locs hP hD hS => ?_)
  have hP : va_P D hr_cl [(h0, .inr (2, [.int 0, .int 0, .int 5, .int 0, .int 0, .int 0, .null]))] H := hP
  have hD : va_D A [(h0, .inr (2, [.int 0, .int 0, .int 5, .int 0, .int 0, .int 0, .null]))] := hD
  refine lv_aload_n hx hb dSi_29 rfl (lv_at hl 0 rfl) ?_
  refine lv_iconst (v := 0) hx hb dSi_30 (by decide) ?_
  refine ct_put X hP hD hS (i := 27) (cc := 2) (k := 5) 0 (by decide +kernel) (by decide) rfl rfl rfl rfl (Nat.le_of_ble_eq_true rfl) dSi_31 (fun H locs hP hD hS => ?_)
  have hP : va_P D hr_cl [(h0, .inr (2, [.int 0, .int 0, .int 5, .int 0, .int 0, .int 0, .null]))] H := hP
  have hD : va_D A [(h0, .inr (2, [.int 0, .int 0, .int 5, .int 0, .int 0, .int 0, .null]))] := hD
  refine lv_aload_n hx hb dSi_34 rfl (lv_at hl 0 rfl) ?_
  refine lv_bipush (v := 8) hx hb dSi_35 (by decide) ?_
  refine va_newq (C := "HornRocks$Rock") (N' := 8) hx hb hown (hts _ (hr_tt 70 (by decide +kernel) rfl)) hN.1 hK hP hD hS hA (by decide) (by decide) (by decide) (by decide) (by decide) dSi_37 (fun q37 cA H hKn hP hD hS => ?_)
  have ec := ky_r hK hKn
  subst ec
  clear hKn
  have hP : va_P D hr_cl [(h0, .inr (2, [.int 0, .int 0, .int 5, .int 0, .int 0, .int 0, .null])), (q37, .inl (ci 5, 8, .inr (.inr (.inr (.inr (fun _ => none))))))] H := hP
  have hD : va_D A [(h0, .inr (2, [.int 0, .int 0, .int 5, .int 0, .int 0, .int 0, .null])), (q37, .inl (ci 5, 8, .inr (.inr (.inr (.inr (fun _ => none))))))] := hD
  refine W.widen (k := 1) (n := 8) (by decide) (by decide) ?_
  refine ct_putF X hP hD hS (i := 32) (cc := 2) (k := 6) 0 (by decide +kernel) (by decide) (by decide) rfl rfl (by decide +kernel) rfl rfl (Nat.le_of_ble_eq_true rfl) dSi_40 (fun H locs hP hD hS => ?_)
  have hP : va_P D hr_cl [(h0, .inr (2, [.int 0, .int 0, .int 5, .int 0, .int 0, .int 0, .ref q37])), (q37, .inl (ci 5, 8, .inr (.inr (.inr (.inr (fun _ => none))))))] H := hP
  have hD : va_D A [(h0, .inr (2, [.int 0, .int 0, .int 5, .int 0, .int 0, .int 0, .ref q37])), (q37, .inl (ci 5, 8, .inr (.inr (.inr (.inr (fun _ => none))))))] := hD
  refine lv_iconst (v := 0) hx hb dSi_43 (by decide) ?_
  refine lv_istore_n hx hb dSi_44 rfl hl (by decide) rfl (fun ls hl => ?_)
  have hl : lv_has ls 2 [(1, .int 0), (0, .ref h0)] := hl
  refine lv_iload_n hx hb dSi_45 rfl (lv_at hl 0 rfl) ?_
  refine lv_bipush (v := 8) hx hb dSi_46 (by decide) ?_
  refine lv_icmp_ge (tgt := 70) hx hb dSi_48 (by decide) (fun h => absurd h (by decide)) (fun _ => ?_)
  refine lv_aload_n hx hb dSi_51 rfl (lv_at hl 1 rfl) ?_
  refine ct_get X hP (i := 32) (cc := 2) (k := 6) 0 (by decide +kernel) (by decide) rfl rfl dSi_52 ?_
  refine lv_iload_n hx hb dSi_55 rfl (lv_at hl 0 rfl) ?_
  refine ct_new X hP hD hS hA 1 (by decide) (fs := [.int 0, .int 0, .int 0, .int 0, .int 0]) (hr_tt 70 (by decide +kernel) rfl) (hr_tt 72 (by decide +kernel) rfl) (hr_tt 43 (by decide +kernel) rfl) (by decide +kernel) (by decide) (by decide) dSi_56 (fun q56_0 H hP hD hS => ?_)
  have hP : va_P D hr_cl [(h0, .inr (2, [.int 0, .int 0, .int 5, .int 0, .int 0, .int 0, .ref q37])), (q37, .inl (ci 5, 8, .inr (.inr (.inr (.inr (fun _ => none)))))), (q56_0, .inr (1, [.int 0, .int 0, .int 0, .int 0, .int 0]))] H := hP
  have hD : va_D A [(h0, .inr (2, [.int 0, .int 0, .int 5, .int 0, .int 0, .int 0, .ref q37])), (q37, .inl (ci 5, 8, .inr (.inr (.inr (.inr (fun _ => none)))))), (q56_0, .inr (1, [.int 0, .int 0, .int 0, .int 0, .int 0]))] := hD
  refine W.widen (k := 2) (n := 13) (by decide) (by decide) ?_
  refine lv_dup hx hb dSi_59 rfl ?_
  refine ct_callN X (n := 2) (ws := [(h0, .inr (2, [.int 0, .int 0, .int 5, .int 0, .int 0, .int 0, .ref q37])), (q37, .inl (ci 5, 8, .inr (.inr (.inr (.inr (fun _ => none))))))]) hml hl.1 hN (ct_Rock l D ci) (by decide) rfl rfl (by decide +kernel) hN.2.2.1 (hr_tt 43 (by decide +kernel) rfl) (hr_tt 74 (by decide +kernel) rfl) ⟨by decide, by decide⟩ ⟨by decide, by decide⟩ (Nat.le_of_ble_eq_true rfl) hP hD hS hA dSi_60 (fun u60_1 H locs hP hD hS => ?_)
  have hP : va_P D hr_cl [(h0, .inr (2, [.int 0, .int 0, .int 5, .int 0, .int 0, .int 0, .ref q37])), (q37, .inl (ci 5, 8, .inr (.inr (.inr (.inr (fun _ => none)))))), (q56_0, .inr (1, [.int 0, .int 0, .int 0, .int 0, .int 0]))] H := hP
  have hD : va_D A [(h0, .inr (2, [.int 0, .int 0, .int 5, .int 0, .int 0, .int 0, .ref q37])), (q37, .inl (ci 5, 8, .inr (.inr (.inr (.inr (fun _ => none)))))), (q56_0, .inr (1, [.int 0, .int 0, .int 0, .int 0, .int 0]))] := hD
  refine W.widen (k := 2) (n := 13) (by decide) (by decide) ?_
  refine va_astq hx hb hK hP hD hS 1 4 2 1 (r := (RX1, TX1, 5)) rfl rfl rfl rfl (show ¬ ((0 : Int32) < 0 ∨ 8 ≤ (0 : Int32).toNatClampNeg) by decide) dSi_63 (fun H locs hP hD hS => ?_)
  have hP : va_P D hr_cl [(h0, .inr (2, [.int 0, .int 0, .int 5, .int 0, .int 0, .int 0, .ref q37])), (q37, .inl (ci 5, 8, .inr (.inr (.inr (.inr (va_up (fun _ => none) (0 : Int32).toNatClampNeg (some q56_0))))))), (q56_0, .inr (1, [.int 0, .int 0, .int 0, .int 0, .int 0]))] H := hP
  have hD : va_D A [(h0, .inr (2, [.int 0, .int 0, .int 5, .int 0, .int 0, .int 0, .ref q37])), (q37, .inl (ci 5, 8, .inr (.inr (.inr (.inr (va_up (fun _ => none) (0 : Int32).toNatClampNeg (some q56_0))))))), (q56_0, .inr (1, [.int 0, .int 0, .int 0, .int 0, .int 0]))] := hD
  refine lv_iinc (v := 1) (k := 0) hx hb dSi_64 hl rfl (by decide) (by decide) rfl (fun ls hl => ?_)
  have hl : lv_has ls 2 [(1, .int 1), (0, .ref h0)] := hl
  refine lv_goto (tgt := 45) hx hb dSi_67 (by decide) ?_
  refine lv_iload_n hx hb dSi_45 rfl (lv_at hl 0 rfl) ?_
  refine lv_bipush (v := 8) hx hb dSi_46 (by decide) ?_
  refine lv_icmp_ge (tgt := 70) hx hb dSi_48 (by decide) (fun h => absurd h (by decide)) (fun _ => ?_)
  refine lv_aload_n hx hb dSi_51 rfl (lv_at hl 1 rfl) ?_
  refine ct_get X hP (i := 32) (cc := 2) (k := 6) 0 (by decide +kernel) (by decide) rfl rfl dSi_52 ?_
  refine lv_iload_n hx hb dSi_55 rfl (lv_at hl 0 rfl) ?_
  refine ct_new X hP hD hS hA 1 (by decide) (fs := [.int 0, .int 0, .int 0, .int 0, .int 0]) (hr_tt 70 (by decide +kernel) rfl) (hr_tt 72 (by decide +kernel) rfl) (hr_tt 43 (by decide +kernel) rfl) (by decide +kernel) (by decide) (by decide) dSi_56 (fun q56_2 H hP hD hS => ?_)
  have hP : va_P D hr_cl [(h0, .inr (2, [.int 0, .int 0, .int 5, .int 0, .int 0, .int 0, .ref q37])), (q37, .inl (ci 5, 8, .inr (.inr (.inr (.inr (va_up (fun _ => none) (0 : Int32).toNatClampNeg (some q56_0))))))), (q56_0, .inr (1, [.int 0, .int 0, .int 0, .int 0, .int 0])), (q56_2, .inr (1, [.int 0, .int 0, .int 0, .int 0, .int 0]))] H := hP
  have hD : va_D A [(h0, .inr (2, [.int 0, .int 0, .int 5, .int 0, .int 0, .int 0, .ref q37])), (q37, .inl (ci 5, 8, .inr (.inr (.inr (.inr (va_up (fun _ => none) (0 : Int32).toNatClampNeg (some q56_0))))))), (q56_0, .inr (1, [.int 0, .int 0, .int 0, .int 0, .int 0])), (q56_2, .inr (1, [.int 0, .int 0, .int 0, .int 0, .int 0]))] := hD
  refine W.widen (k := 3) (n := 18) (by decide) (by decide) ?_
  refine lv_dup hx hb dSi_59 rfl ?_
  refine ct_callN X (n := 2) (ws := [(h0, .inr (2, [.int 0, .int 0, .int 5, .int 0, .int 0, .int 0, .ref q37])), (q37, .inl (ci 5, 8, .inr (.inr (.inr (.inr (va_up (fun _ => none) (0 : Int32).toNatClampNeg (some q56_0))))))), (q56_0, .inr (1, [.int 0, .int 0, .int 0, .int 0, .int 0]))]) hml hl.1 hN (ct_Rock l D ci) (by decide) rfl rfl (by decide +kernel) hN.2.2.1 (hr_tt 43 (by decide +kernel) rfl) (hr_tt 74 (by decide +kernel) rfl) ⟨by decide, by decide⟩ ⟨by decide, by decide⟩ (Nat.le_of_ble_eq_true rfl) hP hD hS hA dSi_60 (fun u60_3 H locs hP hD hS => ?_)
  have hP : va_P D hr_cl [(h0, .inr (2, [.int 0, .int 0, .int 5, .int 0, .int 0, .int 0, .ref q37])), (q37, .inl (ci 5, 8, .inr (.inr (.inr (.inr (va_up (fun _ => none) (0 : Int32).toNatClampNeg (some q56_0))))))), (q56_0, .inr (1, [.int 0, .int 0, .int 0, .int 0, .int 0])), (q56_2, .inr (1, [.int 0, .int 0, .int 0, .int 0, .int 0]))] H := hP
  have hD : va_D A [(h0, .inr (2, [.int 0, .int 0, .int 5, .int 0, .int 0, .int 0, .ref q37])), (q37, .inl (ci 5, 8, .inr (.inr (.inr (.inr (va_up (fun _ => none) (0 : Int32).toNatClampNeg (some q56_0))))))), (q56_0, .inr (1, [.int 0, .int 0, .int 0, .int 0, .int 0])), (q56_2, .inr (1, [.int 0, .int 0, .int 0, .int 0, .int 0]))] := hD
  refine W.widen (k := 3) (n := 18) (by decide) (by decide) ?_
  refine va_astq hx hb hK hP hD hS 1 4 3 1 (r := (RX1, TX1, 5)) rfl rfl rfl rfl (show ¬ ((1 : Int32) < 0 ∨ 8 ≤ (1 : Int32).toNatClampNeg) by decide) dSi_63 (fun H locs hP hD hS => ?_)
  have hP : va_P D hr_cl [(h0, .inr (2, [.int 0, .int 0, .int 5, .int 0, .int 0, .int 0, .ref q37])), (q37, .inl (ci 5, 8, .inr (.inr (.inr (.inr (va_up (va_up (fun _ => none) (0 : Int32).toNatClampNeg (some q56_0)) (1 : Int32).toNatClampNeg (some q56_2))))))), (q56_0, .inr (1, [.int 0, .int 0, .int 0, .int 0, .int 0])), (q56_2, .inr (1, [.int 0, .int 0, .int 0, .int 0, .int 0]))] H := hP
  have hD : va_D A [(h0, .inr (2, [.int 0, .int 0, .int 5, .int 0, .int 0, .int 0, .ref q37])), (q37, .inl (ci 5, 8, .inr (.inr (.inr (.inr (va_up (va_up (fun _ => none) (0 : Int32).toNatClampNeg (some q56_0)) (1 : Int32).toNatClampNeg (some q56_2))))))), (q56_0, .inr (1, [.int 0, .int 0, .int 0, .int 0, .int 0])), (q56_2, .inr (1, [.int 0, .int 0, .int 0, .int 0, .int 0]))] := hD
  refine lv_iinc (v := 2) (k := 0) hx hb dSi_64 hl rfl (by decide) (by decide) rfl (fun ls hl => ?_)
  have hl : lv_has ls 2 [(1, .int 2), (0, .ref h0)] := hl
  refine lv_goto (tgt := 45) hx hb dSi_67 (by decide) ?_
  refine lv_iload_n hx hb dSi_45 rfl (lv_at hl 0 rfl) ?_
  refine lv_bipush (v := 8) hx hb dSi_46 (by decide) ?_
  refine lv_icmp_ge (tgt := 70) hx hb dSi_48 (by decide) (fun h => absurd h (by decide)) (fun _ => ?_)
  refine lv_aload_n hx hb dSi_51 rfl (lv_at hl 1 rfl) ?_
  refine ct_get X hP (i := 32) (cc := 2) (k := 6) 0 (by decide +kernel) (by decide) rfl rfl dSi_52 ?_
  refine lv_iload_n hx hb dSi_55 rfl (lv_at hl 0 rfl) ?_
  refine ct_new X hP hD hS hA 1 (by decide) (fs := [.int 0, .int 0, .int 0, .int 0, .int 0]) (hr_tt 70 (by decide +kernel) rfl) (hr_tt 72 (by decide +kernel) rfl) (hr_tt 43 (by decide +kernel) rfl) (by decide +kernel) (by decide) (by decide) dSi_56 (fun q56_4 H hP hD hS => ?_)
  have hP : va_P D hr_cl [(h0, .inr (2, [.int 0, .int 0, .int 5, .int 0, .int 0, .int 0, .ref q37])), (q37, .inl (ci 5, 8, .inr (.inr (.inr (.inr (va_up (va_up (fun _ => none) (0 : Int32).toNatClampNeg (some q56_0)) (1 : Int32).toNatClampNeg (some q56_2))))))), (q56_0, .inr (1, [.int 0, .int 0, .int 0, .int 0, .int 0])), (q56_2, .inr (1, [.int 0, .int 0, .int 0, .int 0, .int 0])), (q56_4, .inr (1, [.int 0, .int 0, .int 0, .int 0, .int 0]))] H := hP
  have hD : va_D A [(h0, .inr (2, [.int 0, .int 0, .int 5, .int 0, .int 0, .int 0, .ref q37])), (q37, .inl (ci 5, 8, .inr (.inr (.inr (.inr (va_up (va_up (fun _ => none) (0 : Int32).toNatClampNeg (some q56_0)) (1 : Int32).toNatClampNeg (some q56_2))))))), (q56_0, .inr (1, [.int 0, .int 0, .int 0, .int 0, .int 0])), (q56_2, .inr (1, [.int 0, .int 0, .int 0, .int 0, .int 0])), (q56_4, .inr (1, [.int 0, .int 0, .int 0, .int 0, .int 0]))] := hD
  refine W.widen (k := 4) (n := 23) (by decide) (by decide) ?_
  refine lv_dup hx hb dSi_59 rfl ?_
  refine ct_callN X (n := 2) (ws := [(h0, .inr (2, [.int 0, .int 0, .int 5, .int 0, .int 0, .int 0, .ref q37])), (q37, .inl (ci 5, 8, .inr (.inr (.inr (.inr (va_up (va_up (fun _ => none) (0 : Int32).toNatClampNeg (some q56_0)) (1 : Int32).toNatClampNeg (some q56_2))))))), (q56_0, .inr (1, [.int 0, .int 0, .int 0, .int 0, .int 0])), (q56_2, .inr (1, [.int 0, .int 0, .int 0, .int 0, .int 0]))]) hml hl.1 hN (ct_Rock l D ci) (by decide) rfl rfl (by decide +kernel) hN.2.2.1 (hr_tt 43 (by decide +kernel) rfl) (hr_tt 74 (by decide +kernel) rfl) ⟨by decide, by decide⟩ ⟨by decide, by decide⟩ (Nat.le_of_ble_eq_true rfl) hP hD hS hA dSi_60 (fun u60_5 H locs hP hD hS => ?_)
  have hP : va_P D hr_cl [(h0, .inr (2, [.int 0, .int 0, .int 5, .int 0, .int 0, .int 0, .ref q37])), (q37, .inl (ci 5, 8, .inr (.inr (.inr (.inr (va_up (va_up (fun _ => none) (0 : Int32).toNatClampNeg (some q56_0)) (1 : Int32).toNatClampNeg (some q56_2))))))), (q56_0, .inr (1, [.int 0, .int 0, .int 0, .int 0, .int 0])), (q56_2, .inr (1, [.int 0, .int 0, .int 0, .int 0, .int 0])), (q56_4, .inr (1, [.int 0, .int 0, .int 0, .int 0, .int 0]))] H := hP
  have hD : va_D A [(h0, .inr (2, [.int 0, .int 0, .int 5, .int 0, .int 0, .int 0, .ref q37])), (q37, .inl (ci 5, 8, .inr (.inr (.inr (.inr (va_up (va_up (fun _ => none) (0 : Int32).toNatClampNeg (some q56_0)) (1 : Int32).toNatClampNeg (some q56_2))))))), (q56_0, .inr (1, [.int 0, .int 0, .int 0, .int 0, .int 0])), (q56_2, .inr (1, [.int 0, .int 0, .int 0, .int 0, .int 0])), (q56_4, .inr (1, [.int 0, .int 0, .int 0, .int 0, .int 0]))] := hD
  refine W.widen (k := 4) (n := 23) (by decide) (by decide) ?_
  refine va_astq hx hb hK hP hD hS 1 4 4 1 (r := (RX1, TX1, 5)) rfl rfl rfl rfl (show ¬ ((2 : Int32) < 0 ∨ 8 ≤ (2 : Int32).toNatClampNeg) by decide) dSi_63 (fun H locs hP hD hS => ?_)
  have hP : va_P D hr_cl [(h0, .inr (2, [.int 0, .int 0, .int 5, .int 0, .int 0, .int 0, .ref q37])), (q37, .inl (ci 5, 8, .inr (.inr (.inr (.inr (va_up (va_up (va_up (fun _ => none) (0 : Int32).toNatClampNeg (some q56_0)) (1 : Int32).toNatClampNeg (some q56_2)) (2 : Int32).toNatClampNeg (some q56_4))))))), (q56_0, .inr (1, [.int 0, .int 0, .int 0, .int 0, .int 0])), (q56_2, .inr (1, [.int 0, .int 0, .int 0, .int 0, .int 0])), (q56_4, .inr (1, [.int 0, .int 0, .int 0, .int 0, .int 0]))] H := hP
  have hD : va_D A [(h0, .inr (2, [.int 0, .int 0, .int 5, .int 0, .int 0, .int 0, .ref q37])), (q37, .inl (ci 5, 8, .inr (.inr (.inr (.inr (va_up (va_up (va_up (fun _ => none) (0 : Int32).toNatClampNeg (some q56_0)) (1 : Int32).toNatClampNeg (some q56_2)) (2 : Int32).toNatClampNeg (some q56_4))))))), (q56_0, .inr (1, [.int 0, .int 0, .int 0, .int 0, .int 0])), (q56_2, .inr (1, [.int 0, .int 0, .int 0, .int 0, .int 0])), (q56_4, .inr (1, [.int 0, .int 0, .int 0, .int 0, .int 0]))] := hD
  refine lv_iinc (v := 3) (k := 0) hx hb dSi_64 hl rfl (by decide) (by decide) rfl (fun ls hl => ?_)
  have hl : lv_has ls 2 [(1, .int 3), (0, .ref h0)] := hl
  refine lv_goto (tgt := 45) hx hb dSi_67 (by decide) ?_
  refine lv_iload_n hx hb dSi_45 rfl (lv_at hl 0 rfl) ?_
  refine lv_bipush (v := 8) hx hb dSi_46 (by decide) ?_
  refine lv_icmp_ge (tgt := 70) hx hb dSi_48 (by decide) (fun h => absurd h (by decide)) (fun _ => ?_)
  refine lv_aload_n hx hb dSi_51 rfl (lv_at hl 1 rfl) ?_
  refine ct_get X hP (i := 32) (cc := 2) (k := 6) 0 (by decide +kernel) (by decide) rfl rfl dSi_52 ?_
  refine lv_iload_n hx hb dSi_55 rfl (lv_at hl 0 rfl) ?_
  refine ct_new X hP hD hS hA 1 (by decide) (fs := [.int 0, .int 0, .int 0, .int 0, .int 0]) (hr_tt 70 (by decide +kernel) rfl) (hr_tt 72 (by decide +kernel) rfl) (hr_tt 43 (by decide +kernel) rfl) (by decide +kernel) (by decide) (by decide) dSi_56 (fun q56_6 H hP hD hS => ?_)
  have hP : va_P D hr_cl [(h0, .inr (2, [.int 0, .int 0, .int 5, .int 0, .int 0, .int 0, .ref q37])), (q37, .inl (ci 5, 8, .inr (.inr (.inr (.inr (va_up (va_up (va_up (fun _ => none) (0 : Int32).toNatClampNeg (some q56_0)) (1 : Int32).toNatClampNeg (some q56_2)) (2 : Int32).toNatClampNeg (some q56_4))))))), (q56_0, .inr (1, [.int 0, .int 0, .int 0, .int 0, .int 0])), (q56_2, .inr (1, [.int 0, .int 0, .int 0, .int 0, .int 0])), (q56_4, .inr (1, [.int 0, .int 0, .int 0, .int 0, .int 0])), (q56_6, .inr (1, [.int 0, .int 0, .int 0, .int 0, .int 0]))] H := hP
  have hD : va_D A [(h0, .inr (2, [.int 0, .int 0, .int 5, .int 0, .int 0, .int 0, .ref q37])), (q37, .inl (ci 5, 8, .inr (.inr (.inr (.inr (va_up (va_up (va_up (fun _ => none) (0 : Int32).toNatClampNeg (some q56_0)) (1 : Int32).toNatClampNeg (some q56_2)) (2 : Int32).toNatClampNeg (some q56_4))))))), (q56_0, .inr (1, [.int 0, .int 0, .int 0, .int 0, .int 0])), (q56_2, .inr (1, [.int 0, .int 0, .int 0, .int 0, .int 0])), (q56_4, .inr (1, [.int 0, .int 0, .int 0, .int 0, .int 0])), (q56_6, .inr (1, [.int 0, .int 0, .int 0, .int 0, .int 0]))] := hD
  refine W.widen (k := 5) (n := 28) (by decide) (by decide) ?_
  refine lv_dup hx hb dSi_59 rfl ?_
  refine ct_callN X (n := 2) (ws := [(h0, .inr (2, [.int 0, .int 0, .int 5, .int 0, .int 0, .int 0, .ref q37])), (q37, .inl (ci 5, 8, .inr (.inr (.inr (.inr (va_up (va_up (va_up (fun _ => none) (0 : Int32).toNatClampNeg (some q56_0)) (1 : Int32).toNatClampNeg (some q56_2)) (2 : Int32).toNatClampNeg (some q56_4))))))), (q56_0, .inr (1, [.int 0, .int 0, .int 0, .int 0, .int 0])), (q56_2, .inr (1, [.int 0, .int 0, .int 0, .int 0, .int 0])), (q56_4, .inr (1, [.int 0, .int 0, .int 0, .int 0, .int 0]))]) hml hl.1 hN (ct_Rock l D ci) (by decide) rfl rfl (by decide +kernel) hN.2.2.1 (hr_tt 43 (by decide +kernel) rfl) (hr_tt 74 (by decide +kernel) rfl) ⟨by decide, by decide⟩ ⟨by decide, by decide⟩ (Nat.le_of_ble_eq_true rfl) hP hD hS hA dSi_60 (fun u60_7 H locs hP hD hS => ?_)
  have hP : va_P D hr_cl [(h0, .inr (2, [.int 0, .int 0, .int 5, .int 0, .int 0, .int 0, .ref q37])), (q37, .inl (ci 5, 8, .inr (.inr (.inr (.inr (va_up (va_up (va_up (fun _ => none) (0 : Int32).toNatClampNeg (some q56_0)) (1 : Int32).toNatClampNeg (some q56_2)) (2 : Int32).toNatClampNeg (some q56_4))))))), (q56_0, .inr (1, [.int 0, .int 0, .int 0, .int 0, .int 0])), (q56_2, .inr (1, [.int 0, .int 0, .int 0, .int 0, .int 0])), (q56_4, .inr (1, [.int 0, .int 0, .int 0, .int 0, .int 0])), (q56_6, .inr (1, [.int 0, .int 0, .int 0, .int 0, .int 0]))] H := hP
  have hD : va_D A [(h0, .inr (2, [.int 0, .int 0, .int 5, .int 0, .int 0, .int 0, .ref q37])), (q37, .inl (ci 5, 8, .inr (.inr (.inr (.inr (va_up (va_up (va_up (fun _ => none) (0 : Int32).toNatClampNeg (some q56_0)) (1 : Int32).toNatClampNeg (some q56_2)) (2 : Int32).toNatClampNeg (some q56_4))))))), (q56_0, .inr (1, [.int 0, .int 0, .int 0, .int 0, .int 0])), (q56_2, .inr (1, [.int 0, .int 0, .int 0, .int 0, .int 0])), (q56_4, .inr (1, [.int 0, .int 0, .int 0, .int 0, .int 0])), (q56_6, .inr (1, [.int 0, .int 0, .int 0, .int 0, .int 0]))] := hD
  refine W.widen (k := 5) (n := 28) (by decide) (by decide) ?_
  refine va_astq hx hb hK hP hD hS 1 4 5 1 (r := (RX1, TX1, 5)) rfl rfl rfl rfl (show ¬ ((3 : Int32) < 0 ∨ 8 ≤ (3 : Int32).toNatClampNeg) by decide) dSi_63 (fun H locs hP hD hS => ?_)
  have hP : va_P D hr_cl [(h0, .inr (2, [.int 0, .int 0, .int 5, .int 0, .int 0, .int 0, .ref q37])), (q37, .inl (ci 5, 8, .inr (.inr (.inr (.inr (va_up (va_up (va_up (va_up (fun _ => none) (0 : Int32).toNatClampNeg (some q56_0)) (1 : Int32).toNatClampNeg (some q56_2)) (2 : Int32).toNatClampNeg (some q56_4)) (3 : Int32).toNatClampNeg (some q56_6))))))), (q56_0, .inr (1, [.int 0, .int 0, .int 0, .int 0, .int 0])), (q56_2, .inr (1, [.int 0, .int 0, .int 0, .int 0, .int 0])), (q56_4, .inr (1, [.int 0, .int 0, .int 0, .int 0, .int 0])), (q56_6, .inr (1, [.int 0, .int 0, .int 0, .int 0, .int 0]))] H := hP
  have hD : va_D A [(h0, .inr (2, [.int 0, .int 0, .int 5, .int 0, .int 0, .int 0, .ref q37])), (q37, .inl (ci 5, 8, .inr (.inr (.inr (.inr (va_up (va_up (va_up (va_up (fun _ => none) (0 : Int32).toNatClampNeg (some q56_0)) (1 : Int32).toNatClampNeg (some q56_2)) (2 : Int32).toNatClampNeg (some q56_4)) (3 : Int32).toNatClampNeg (some q56_6))))))), (q56_0, .inr (1, [.int 0, .int 0, .int 0, .int 0, .int 0])), (q56_2, .inr (1, [.int 0, .int 0, .int 0, .int 0, .int 0])), (q56_4, .inr (1, [.int 0, .int 0, .int 0, .int 0, .int 0])), (q56_6, .inr (1, [.int 0, .int 0, .int 0, .int 0, .int 0]))] := hD
  refine lv_iinc (v := 4) (k := 0) hx hb dSi_64 hl rfl (by decide) (by decide) rfl (fun ls hl => ?_)
  have hl : lv_has ls 2 [(1, .int 4), (0, .ref h0)] := hl
  refine lv_goto (tgt := 45) hx hb dSi_67 (by decide) ?_
  refine lv_iload_n hx hb dSi_45 rfl (lv_at hl 0 rfl) ?_
  refine lv_bipush (v := 8) hx hb dSi_46 (by decide) ?_
  refine lv_icmp_ge (tgt := 70) hx hb dSi_48 (by decide) (fun h => absurd h (by decide)) (fun _ => ?_)
  refine lv_aload_n hx hb dSi_51 rfl (lv_at hl 1 rfl) ?_
  refine ct_get X hP (i := 32) (cc := 2) (k := 6) 0 (by decide +kernel) (by decide) rfl rfl dSi_52 ?_
  refine lv_iload_n hx hb dSi_55 rfl (lv_at hl 0 rfl) ?_
  refine ct_new X hP hD hS hA 1 (by decide) (fs := [.int 0, .int 0, .int 0, .int 0, .int 0]) (hr_tt 70 (by decide +kernel) rfl) (hr_tt 72 (by decide +kernel) rfl) (hr_tt 43 (by decide +kernel) rfl) (by decide +kernel) (by decide) (by decide) dSi_56 (fun q56_8 H hP hD hS => ?_)
  have hP : va_P D hr_cl [(h0, .inr (2, [.int 0, .int 0, .int 5, .int 0, .int 0, .int 0, .ref q37])), (q37, .inl (ci 5, 8, .inr (.inr (.inr (.inr (va_up (va_up (va_up (va_up (fun _ => none) (0 : Int32).toNatClampNeg (some q56_0)) (1 : Int32).toNatClampNeg (some q56_2)) (2 : Int32).toNatClampNeg (some q56_4)) (3 : Int32).toNatClampNeg (some q56_6))))))), (q56_0, .inr (1, [.int 0, .int 0, .int 0, .int 0, .int 0])), (q56_2, .inr (1, [.int 0, .int 0, .int 0, .int 0, .int 0])), (q56_4, .inr (1, [.int 0, .int 0, .int 0, .int 0, .int 0])), (q56_6, .inr (1, [.int 0, .int 0, .int 0, .int 0, .int 0])), (q56_8, .inr (1, [.int 0, .int 0, .int 0, .int 0, .int 0]))] H := hP
  have hD : va_D A [(h0, .inr (2, [.int 0, .int 0, .int 5, .int 0, .int 0, .int 0, .ref q37])), (q37, .inl (ci 5, 8, .inr (.inr (.inr (.inr (va_up (va_up (va_up (va_up (fun _ => none) (0 : Int32).toNatClampNeg (some q56_0)) (1 : Int32).toNatClampNeg (some q56_2)) (2 : Int32).toNatClampNeg (some q56_4)) (3 : Int32).toNatClampNeg (some q56_6))))))), (q56_0, .inr (1, [.int 0, .int 0, .int 0, .int 0, .int 0])), (q56_2, .inr (1, [.int 0, .int 0, .int 0, .int 0, .int 0])), (q56_4, .inr (1, [.int 0, .int 0, .int 0, .int 0, .int 0])), (q56_6, .inr (1, [.int 0, .int 0, .int 0, .int 0, .int 0])), (q56_8, .inr (1, [.int 0, .int 0, .int 0, .int 0, .int 0]))] := hD
  refine W.widen (k := 6) (n := 33) (by decide) (by decide) ?_
  refine lv_dup hx hb dSi_59 rfl ?_
  refine ct_callN X (n := 2) (ws := [(h0, .inr (2, [.int 0, .int 0, .int 5, .int 0, .int 0, .int 0, .ref q37])), (q37, .inl (ci 5, 8, .inr (.inr (.inr (.inr (va_up (va_up (va_up (va_up (fun _ => none) (0 : Int32).toNatClampNeg (some q56_0)) (1 : Int32).toNatClampNeg (some q56_2)) (2 : Int32).toNatClampNeg (some q56_4)) (3 : Int32).toNatClampNeg (some q56_6))))))), (q56_0, .inr (1, [.int 0, .int 0, .int 0, .int 0, .int 0])), (q56_2, .inr (1, [.int 0, .int 0, .int 0, .int 0, .int 0])), (q56_4, .inr (1, [.int 0, .int 0, .int 0, .int 0, .int 0])), (q56_6, .inr (1, [.int 0, .int 0, .int 0, .int 0, .int 0]))]) hml hl.1 hN (ct_Rock l D ci) (by decide) rfl rfl (by decide +kernel) hN.2.2.1 (hr_tt 43 (by decide +kernel) rfl) (hr_tt 74 (by decide +kernel) rfl) ⟨by decide, by decide⟩ ⟨by decide, by decide⟩ (Nat.le_of_ble_eq_true rfl) hP hD hS hA dSi_60 (fun u60_9 H locs hP hD hS => ?_)
  have hP : va_P D hr_cl [(h0, .inr (2, [.int 0, .int 0, .int 5, .int 0, .int 0, .int 0, .ref q37])), (q37, .inl (ci 5, 8, .inr (.inr (.inr (.inr (va_up (va_up (va_up (va_up (fun _ => none) (0 : Int32).toNatClampNeg (some q56_0)) (1 : Int32).toNatClampNeg (some q56_2)) (2 : Int32).toNatClampNeg (some q56_4)) (3 : Int32).toNatClampNeg (some q56_6))))))), (q56_0, .inr (1, [.int 0, .int 0, .int 0, .int 0, .int 0])), (q56_2, .inr (1, [.int 0, .int 0, .int 0, .int 0, .int 0])), (q56_4, .inr (1, [.int 0, .int 0, .int 0, .int 0, .int 0])), (q56_6, .inr (1, [.int 0, .int 0, .int 0, .int 0, .int 0])), (q56_8, .inr (1, [.int 0, .int 0, .int 0, .int 0, .int 0]))] H := hP
  have hD : va_D A [(h0, .inr (2, [.int 0, .int 0, .int 5, .int 0, .int 0, .int 0, .ref q37])), (q37, .inl (ci 5, 8, .inr (.inr (.inr (.inr (va_up (va_up (va_up (va_up (fun _ => none) (0 : Int32).toNatClampNeg (some q56_0)) (1 : Int32).toNatClampNeg (some q56_2)) (2 : Int32).toNatClampNeg (some q56_4)) (3 : Int32).toNatClampNeg (some q56_6))))))), (q56_0, .inr (1, [.int 0, .int 0, .int 0, .int 0, .int 0])), (q56_2, .inr (1, [.int 0, .int 0, .int 0, .int 0, .int 0])), (q56_4, .inr (1, [.int 0, .int 0, .int 0, .int 0, .int 0])), (q56_6, .inr (1, [.int 0, .int 0, .int 0, .int 0, .int 0])), (q56_8, .inr (1, [.int 0, .int 0, .int 0, .int 0, .int 0]))] := hD
  refine W.widen (k := 6) (n := 33) (by decide) (by decide) ?_
  refine va_astq hx hb hK hP hD hS 1 4 6 1 (r := (RX1, TX1, 5)) rfl rfl rfl rfl (show ¬ ((4 : Int32) < 0 ∨ 8 ≤ (4 : Int32).toNatClampNeg) by decide) dSi_63 (fun H locs hP hD hS => ?_)
  have hP : va_P D hr_cl [(h0, .inr (2, [.int 0, .int 0, .int 5, .int 0, .int 0, .int 0, .ref q37])), (q37, .inl (ci 5, 8, .inr (.inr (.inr (.inr (va_up (va_up (va_up (va_up (va_up (fun _ => none) (0 : Int32).toNatClampNeg (some q56_0)) (1 : Int32).toNatClampNeg (some q56_2)) (2 : Int32).toNatClampNeg (some q56_4)) (3 : Int32).toNatClampNeg (some q56_6)) (4 : Int32).toNatClampNeg (some q56_8))))))), (q56_0, .inr (1, [.int 0, .int 0, .int 0, .int 0, .int 0])), (q56_2, .inr (1, [.int 0, .int 0, .int 0, .int 0, .int 0])), (q56_4, .inr (1, [.int 0, .int 0, .int 0, .int 0, .int 0])), (q56_6, .inr (1, [.int 0, .int 0, .int 0, .int 0, .int 0])), (q56_8, .inr (1, [.int 0, .int 0, .int 0, .int 0, .int 0]))] H := hP
  have hD : va_D A [(h0, .inr (2, [.int 0, .int 0, .int 5, .int 0, .int 0, .int 0, .ref q37])), (q37, .inl (ci 5, 8, .inr (.inr (.inr (.inr (va_up (va_up (va_up (va_up (va_up (fun _ => none) (0 : Int32).toNatClampNeg (some q56_0)) (1 : Int32).toNatClampNeg (some q56_2)) (2 : Int32).toNatClampNeg (some q56_4)) (3 : Int32).toNatClampNeg (some q56_6)) (4 : Int32).toNatClampNeg (some q56_8))))))), (q56_0, .inr (1, [.int 0, .int 0, .int 0, .int 0, .int 0])), (q56_2, .inr (1, [.int 0, .int 0, .int 0, .int 0, .int 0])), (q56_4, .inr (1, [.int 0, .int 0, .int 0, .int 0, .int 0])), (q56_6, .inr (1, [.int 0, .int 0, .int 0, .int 0, .int 0])), (q56_8, .inr (1, [.int 0, .int 0, .int 0, .int 0, .int 0]))] := hD
  refine lv_iinc (v := 5) (k := 0) hx hb dSi_64 hl rfl (by decide) (by decide) rfl (fun ls hl => ?_)
  have hl : lv_has ls 2 [(1, .int 5), (0, .ref h0)] := hl
  refine lv_goto (tgt := 45) hx hb dSi_67 (by decide) ?_
  refine lv_iload_n hx hb dSi_45 rfl (lv_at hl 0 rfl) ?_
  refine lv_bipush (v := 8) hx hb dSi_46 (by decide) ?_
  refine lv_icmp_ge (tgt := 70) hx hb dSi_48 (by decide) (fun h => absurd h (by decide)) (fun _ => ?_)
  refine lv_aload_n hx hb dSi_51 rfl (lv_at hl 1 rfl) ?_
  refine ct_get X hP (i := 32) (cc := 2) (k := 6) 0 (by decide +kernel) (by decide) rfl rfl dSi_52 ?_
  refine lv_iload_n hx hb dSi_55 rfl (lv_at hl 0 rfl) ?_
  refine ct_new X hP hD hS hA 1 (by decide) (fs := [.int 0, .int 0, .int 0, .int 0, .int 0]) (hr_tt 70 (by decide +kernel) rfl) (hr_tt 72 (by decide +kernel) rfl) (hr_tt 43 (by decide +kernel) rfl) (by decide +kernel) (by decide) (by decide) dSi_56 (fun q56_10 H hP hD hS => ?_)
  have hP : va_P D hr_cl [(h0, .inr (2, [.int 0, .int 0, .int 5, .int 0, .int 0, .int 0, .ref q37])), (q37, .inl (ci 5, 8, .inr (.inr (.inr (.inr (va_up (va_up (va_up (va_up (va_up (fun _ => none) (0 : Int32).toNatClampNeg (some q56_0)) (1 : Int32).toNatClampNeg (some q56_2)) (2 : Int32).toNatClampNeg (some q56_4)) (3 : Int32).toNatClampNeg (some q56_6)) (4 : Int32).toNatClampNeg (some q56_8))))))), (q56_0, .inr (1, [.int 0, .int 0, .int 0, .int 0, .int 0])), (q56_2, .inr (1, [.int 0, .int 0, .int 0, .int 0, .int 0])), (q56_4, .inr (1, [.int 0, .int 0, .int 0, .int 0, .int 0])), (q56_6, .inr (1, [.int 0, .int 0, .int 0, .int 0, .int 0])), (q56_8, .inr (1, [.int 0, .int 0, .int 0, .int 0, .int 0])), (q56_10, .inr (1, [.int 0, .int 0, .int 0, .int 0, .int 0]))] H := hP
  have hD : va_D A [(h0, .inr (2, [.int 0, .int 0, .int 5, .int 0, .int 0, .int 0, .ref q37])), (q37, .inl (ci 5, 8, .inr (.inr (.inr (.inr (va_up (va_up (va_up (va_up (va_up (fun _ => none) (0 : Int32).toNatClampNeg (some q56_0)) (1 : Int32).toNatClampNeg (some q56_2)) (2 : Int32).toNatClampNeg (some q56_4)) (3 : Int32).toNatClampNeg (some q56_6)) (4 : Int32).toNatClampNeg (some q56_8))))))), (q56_0, .inr (1, [.int 0, .int 0, .int 0, .int 0, .int 0])), (q56_2, .inr (1, [.int 0, .int 0, .int 0, .int 0, .int 0])), (q56_4, .inr (1, [.int 0, .int 0, .int 0, .int 0, .int 0])), (q56_6, .inr (1, [.int 0, .int 0, .int 0, .int 0, .int 0])), (q56_8, .inr (1, [.int 0, .int 0, .int 0, .int 0, .int 0])), (q56_10, .inr (1, [.int 0, .int 0, .int 0, .int 0, .int 0]))] := hD
  refine W.widen (k := 7) (n := 38) (by decide) (by decide) ?_
  refine lv_dup hx hb dSi_59 rfl ?_
  refine ct_callN X (n := 2) (ws := [(h0, .inr (2, [.int 0, .int 0, .int 5, .int 0, .int 0, .int 0, .ref q37])), (q37, .inl (ci 5, 8, .inr (.inr (.inr (.inr (va_up (va_up (va_up (va_up (va_up (fun _ => none) (0 : Int32).toNatClampNeg (some q56_0)) (1 : Int32).toNatClampNeg (some q56_2)) (2 : Int32).toNatClampNeg (some q56_4)) (3 : Int32).toNatClampNeg (some q56_6)) (4 : Int32).toNatClampNeg (some q56_8))))))), (q56_0, .inr (1, [.int 0, .int 0, .int 0, .int 0, .int 0])), (q56_2, .inr (1, [.int 0, .int 0, .int 0, .int 0, .int 0])), (q56_4, .inr (1, [.int 0, .int 0, .int 0, .int 0, .int 0])), (q56_6, .inr (1, [.int 0, .int 0, .int 0, .int 0, .int 0])), (q56_8, .inr (1, [.int 0, .int 0, .int 0, .int 0, .int 0]))]) hml hl.1 hN (ct_Rock l D ci) (by decide) rfl rfl (by decide +kernel) hN.2.2.1 (hr_tt 43 (by decide +kernel) rfl) (hr_tt 74 (by decide +kernel) rfl) ⟨by decide, by decide⟩ ⟨by decide, by decide⟩ (Nat.le_of_ble_eq_true rfl) hP hD hS hA dSi_60 (fun u60_11 H locs hP hD hS => ?_)
  have hP : va_P D hr_cl [(h0, .inr (2, [.int 0, .int 0, .int 5, .int 0, .int 0, .int 0, .ref q37])), (q37, .inl (ci 5, 8, .inr (.inr (.inr (.inr (va_up (va_up (va_up (va_up (va_up (fun _ => none) (0 : Int32).toNatClampNeg (some q56_0)) (1 : Int32).toNatClampNeg (some q56_2)) (2 : Int32).toNatClampNeg (some q56_4)) (3 : Int32).toNatClampNeg (some q56_6)) (4 : Int32).toNatClampNeg (some q56_8))))))), (q56_0, .inr (1, [.int 0, .int 0, .int 0, .int 0, .int 0])), (q56_2, .inr (1, [.int 0, .int 0, .int 0, .int 0, .int 0])), (q56_4, .inr (1, [.int 0, .int 0, .int 0, .int 0, .int 0])), (q56_6, .inr (1, [.int 0, .int 0, .int 0, .int 0, .int 0])), (q56_8, .inr (1, [.int 0, .int 0, .int 0, .int 0, .int 0])), (q56_10, .inr (1, [.int 0, .int 0, .int 0, .int 0, .int 0]))] H := hP
  have hD : va_D A [(h0, .inr (2, [.int 0, .int 0, .int 5, .int 0, .int 0, .int 0, .ref q37])), (q37, .inl (ci 5, 8, .inr (.inr (.inr (.inr (va_up (va_up (va_up (va_up (va_up (fun _ => none) (0 : Int32).toNatClampNeg (some q56_0)) (1 : Int32).toNatClampNeg (some q56_2)) (2 : Int32).toNatClampNeg (some q56_4)) (3 : Int32).toNatClampNeg (some q56_6)) (4 : Int32).toNatClampNeg (some q56_8))))))), (q56_0, .inr (1, [.int 0, .int 0, .int 0, .int 0, .int 0])), (q56_2, .inr (1, [.int 0, .int 0, .int 0, .int 0, .int 0])), (q56_4, .inr (1, [.int 0, .int 0, .int 0, .int 0, .int 0])), (q56_6, .inr (1, [.int 0, .int 0, .int 0, .int 0, .int 0])), (q56_8, .inr (1, [.int 0, .int 0, .int 0, .int 0, .int 0])), (q56_10, .inr (1, [.int 0, .int 0, .int 0, .int 0, .int 0]))] := hD
  refine W.widen (k := 7) (n := 38) (by decide) (by decide) ?_
  refine va_astq hx hb hK hP hD hS 1 4 7 1 (r := (RX1, TX1, 5)) rfl rfl rfl rfl (show ¬ ((5 : Int32) < 0 ∨ 8 ≤ (5 : Int32).toNatClampNeg) by decide) dSi_63 (fun H locs hP hD hS => ?_)
  have hP : va_P D hr_cl [(h0, .inr (2, [.int 0, .int 0, .int 5, .int 0, .int 0, .int 0, .ref q37])), (q37, .inl (ci 5, 8, .inr (.inr (.inr (.inr (va_up (va_up (va_up (va_up (va_up (va_up (fun _ => none) (0 : Int32).toNatClampNeg (some q56_0)) (1 : Int32).toNatClampNeg (some q56_2)) (2 : Int32).toNatClampNeg (some q56_4)) (3 : Int32).toNatClampNeg (some q56_6)) (4 : Int32).toNatClampNeg (some q56_8)) (5 : Int32).toNatClampNeg (some q56_10))))))), (q56_0, .inr (1, [.int 0, .int 0, .int 0, .int 0, .int 0])), (q56_2, .inr (1, [.int 0, .int 0, .int 0, .int 0, .int 0])), (q56_4, .inr (1, [.int 0, .int 0, .int 0, .int 0, .int 0])), (q56_6, .inr (1, [.int 0, .int 0, .int 0, .int 0, .int 0])), (q56_8, .inr (1, [.int 0, .int 0, .int 0, .int 0, .int 0])), (q56_10, .inr (1, [.int 0, .int 0, .int 0, .int 0, .int 0]))] H := hP
  have hD : va_D A [(h0, .inr (2, [.int 0, .int 0, .int 5, .int 0, .int 0, .int 0, .ref q37])), (q37, .inl (ci 5, 8, .inr (.inr (.inr (.inr (va_up (va_up (va_up (va_up (va_up (va_up (fun _ => none) (0 : Int32).toNatClampNeg (some q56_0)) (1 : Int32).toNatClampNeg (some q56_2)) (2 : Int32).toNatClampNeg (some q56_4)) (3 : Int32).toNatClampNeg (some q56_6)) (4 : Int32).toNatClampNeg (some q56_8)) (5 : Int32).toNatClampNeg (some q56_10))))))), (q56_0, .inr (1, [.int 0, .int 0, .int 0, .int 0, .int 0])), (q56_2, .inr (1, [.int 0, .int 0, .int 0, .int 0, .int 0])), (q56_4, .inr (1, [.int 0, .int 0, .int 0, .int 0, .int 0])), (q56_6, .inr (1, [.int 0, .int 0, .int 0, .int 0, .int 0])), (q56_8, .inr (1, [.int 0, .int 0, .int 0, .int 0, .int 0])), (q56_10, .inr (1, [.int 0, .int 0, .int 0, .int 0, .int 0]))] := hD
  refine lv_iinc (v := 6) (k := 0) hx hb dSi_64 hl rfl (by decide) (by decide) rfl (fun ls hl => ?_)
  have hl : lv_has ls 2 [(1, .int 6), (0, .ref h0)] := hl
  refine lv_goto (tgt := 45) hx hb dSi_67 (by decide) ?_
  refine lv_iload_n hx hb dSi_45 rfl (lv_at hl 0 rfl) ?_
  refine lv_bipush (v := 8) hx hb dSi_46 (by decide) ?_
  refine lv_icmp_ge (tgt := 70) hx hb dSi_48 (by decide) (fun h => absurd h (by decide)) (fun _ => ?_)
  refine lv_aload_n hx hb dSi_51 rfl (lv_at hl 1 rfl) ?_
  refine ct_get X hP (i := 32) (cc := 2) (k := 6) 0 (by decide +kernel) (by decide) rfl rfl dSi_52 ?_
  refine lv_iload_n hx hb dSi_55 rfl (lv_at hl 0 rfl) ?_
  refine ct_new X hP hD hS hA 1 (by decide) (fs := [.int 0, .int 0, .int 0, .int 0, .int 0]) (hr_tt 70 (by decide +kernel) rfl) (hr_tt 72 (by decide +kernel) rfl) (hr_tt 43 (by decide +kernel) rfl) (by decide +kernel) (by decide) (by decide) dSi_56 (fun q56_12 H hP hD hS => ?_)
  have hP : va_P D hr_cl [(h0, .inr (2, [.int 0, .int 0, .int 5, .int 0, .int 0, .int 0, .ref q37])), (q37, .inl (ci 5, 8, .inr (.inr (.inr (.inr (va_up (va_up (va_up (va_up (va_up (va_up (fun _ => none) (0 : Int32).toNatClampNeg (some q56_0)) (1 : Int32).toNatClampNeg (some q56_2)) (2 : Int32).toNatClampNeg (some q56_4)) (3 : Int32).toNatClampNeg (some q56_6)) (4 : Int32).toNatClampNeg (some q56_8)) (5 : Int32).toNatClampNeg (some q56_10))))))), (q56_0, .inr (1, [.int 0, .int 0, .int 0, .int 0, .int 0])), (q56_2, .inr (1, [.int 0, .int 0, .int 0, .int 0, .int 0])), (q56_4, .inr (1, [.int 0, .int 0, .int 0, .int 0, .int 0])), (q56_6, .inr (1, [.int 0, .int 0, .int 0, .int 0, .int 0])), (q56_8, .inr (1, [.int 0, .int 0, .int 0, .int 0, .int 0])), (q56_10, .inr (1, [.int 0, .int 0, .int 0, .int 0, .int 0])), (q56_12, .inr (1, [.int 0, .int 0, .int 0, .int 0, .int 0]))] H := hP
  have hD : va_D A [(h0, .inr (2, [.int 0, .int 0, .int 5, .int 0, .int 0, .int 0, .ref q37])), (q37, .inl (ci 5, 8, .inr (.inr (.inr (.inr (va_up (va_up (va_up (va_up (va_up (va_up (fun _ => none) (0 : Int32).toNatClampNeg (some q56_0)) (1 : Int32).toNatClampNeg (some q56_2)) (2 : Int32).toNatClampNeg (some q56_4)) (3 : Int32).toNatClampNeg (some q56_6)) (4 : Int32).toNatClampNeg (some q56_8)) (5 : Int32).toNatClampNeg (some q56_10))))))), (q56_0, .inr (1, [.int 0, .int 0, .int 0, .int 0, .int 0])), (q56_2, .inr (1, [.int 0, .int 0, .int 0, .int 0, .int 0])), (q56_4, .inr (1, [.int 0, .int 0, .int 0, .int 0, .int 0])), (q56_6, .inr (1, [.int 0, .int 0, .int 0, .int 0, .int 0])), (q56_8, .inr (1, [.int 0, .int 0, .int 0, .int 0, .int 0])), (q56_10, .inr (1, [.int 0, .int 0, .int 0, .int 0, .int 0])), (q56_12, .inr (1, [.int 0, .int 0, .int 0, .int 0, .int 0]))] := hD
  refine W.widen (k := 8) (n := 43) (by decide) (by decide) ?_
  refine lv_dup hx hb dSi_59 rfl ?_
  refine ct_callN X (n := 2) (ws := [(h0, .inr (2, [.int 0, .int 0, .int 5, .int 0, .int 0, .int 0, .ref q37])), (q37, .inl (ci 5, 8, .inr (.inr (.inr (.inr (va_up (va_up (va_up (va_up (va_up (va_up (fun _ => none) (0 : Int32).toNatClampNeg (some q56_0)) (1 : Int32).toNatClampNeg (some q56_2)) (2 : Int32).toNatClampNeg (some q56_4)) (3 : Int32).toNatClampNeg (some q56_6)) (4 : Int32).toNatClampNeg (some q56_8)) (5 : Int32).toNatClampNeg (some q56_10))))))), (q56_0, .inr (1, [.int 0, .int 0, .int 0, .int 0, .int 0])), (q56_2, .inr (1, [.int 0, .int 0, .int 0, .int 0, .int 0])), (q56_4, .inr (1, [.int 0, .int 0, .int 0, .int 0, .int 0])), (q56_6, .inr (1, [.int 0, .int 0, .int 0, .int 0, .int 0])), (q56_8, .inr (1, [.int 0, .int 0, .int 0, .int 0, .int 0])), (q56_10, .inr (1, [.int 0, .int 0, .int 0, .int 0, .int 0]))]) hml hl.1 hN (ct_Rock l D ci) (by decide) rfl rfl (by decide +kernel) hN.2.2.1 (hr_tt 43 (by decide +kernel) rfl) (hr_tt 74 (by decide +kernel) rfl) ⟨by decide, by decide⟩ ⟨by decide, by decide⟩ (Nat.le_of_ble_eq_true rfl) hP hD hS hA dSi_60 (fun u60_13 H locs hP hD hS => ?_)
  have hP : va_P D hr_cl [(h0, .inr (2, [.int 0, .int 0, .int 5, .int 0, .int 0, .int 0, .ref q37])), (q37, .inl (ci 5, 8, .inr (.inr (.inr (.inr (va_up (va_up (va_up (va_up (va_up (va_up (fun _ => none) (0 : Int32).toNatClampNeg (some q56_0)) (1 : Int32).toNatClampNeg (some q56_2)) (2 : Int32).toNatClampNeg (some q56_4)) (3 : Int32).toNatClampNeg (some q56_6)) (4 : Int32).toNatClampNeg (some q56_8)) (5 : Int32).toNatClampNeg (some q56_10))))))), (q56_0, .inr (1, [.int 0, .int 0, .int 0, .int 0, .int 0])), (q56_2, .inr (1, [.int 0, .int 0, .int 0, .int 0, .int 0])), (q56_4, .inr (1, [.int 0, .int 0, .int 0, .int 0, .int 0])), (q56_6, .inr (1, [.int 0, .int 0, .int 0, .int 0, .int 0])), (q56_8, .inr (1, [.int 0, .int 0, .int 0, .int 0, .int 0])), (q56_10, .inr (1, [.int 0, .int 0, .int 0, .int 0, .int 0])), (q56_12, .inr (1, [.int 0, .int 0, .int 0, .int 0, .int 0]))] H := hP
  have hD : va_D A [(h0, .inr (2, [.int 0, .int 0, .int 5, .int 0, .int 0, .int 0, .ref q37])), (q37, .inl (ci 5, 8, .inr (.inr (.inr (.inr (va_up (va_up (va_up (va_up (va_up (va_up (fun _ => none) (0 : Int32).toNatClampNeg (some q56_0)) (1 : Int32).toNatClampNeg (some q56_2)) (2 : Int32).toNatClampNeg (some q56_4)) (3 : Int32).toNatClampNeg (some q56_6)) (4 : Int32).toNatClampNeg (some q56_8)) (5 : Int32).toNatClampNeg (some q56_10))))))), (q56_0, .inr (1, [.int 0, .int 0, .int 0, .int 0, .int 0])), (q56_2, .inr (1, [.int 0, .int 0, .int 0, .int 0, .int 0])), (q56_4, .inr (1, [.int 0, .int 0, .int 0, .int 0, .int 0])), (q56_6, .inr (1, [.int 0, .int 0, .int 0, .int 0, .int 0])), (q56_8, .inr (1, [.int 0, .int 0, .int 0, .int 0, .int 0])), (q56_10, .inr (1, [.int 0, .int 0, .int 0, .int 0, .int 0])), (q56_12, .inr (1, [.int 0, .int 0, .int 0, .int 0, .int 0]))] := hD
  refine W.widen (k := 8) (n := 43) (by decide) (by decide) ?_
  refine va_astq hx hb hK hP hD hS 1 4 8 1 (r := (RX1, TX1, 5)) rfl rfl rfl rfl (show ¬ ((6 : Int32) < 0 ∨ 8 ≤ (6 : Int32).toNatClampNeg) by decide) dSi_63 (fun H locs hP hD hS => ?_)
  have hP : va_P D hr_cl [(h0, .inr (2, [.int 0, .int 0, .int 5, .int 0, .int 0, .int 0, .ref q37])), (q37, .inl (ci 5, 8, .inr (.inr (.inr (.inr (va_up (va_up (va_up (va_up (va_up (va_up (va_up (fun _ => none) (0 : Int32).toNatClampNeg (some q56_0)) (1 : Int32).toNatClampNeg (some q56_2)) (2 : Int32).toNatClampNeg (some q56_4)) (3 : Int32).toNatClampNeg (some q56_6)) (4 : Int32).toNatClampNeg (some q56_8)) (5 : Int32).toNatClampNeg (some q56_10)) (6 : Int32).toNatClampNeg (some q56_12))))))), (q56_0, .inr (1, [.int 0, .int 0, .int 0, .int 0, .int 0])), (q56_2, .inr (1, [.int 0, .int 0, .int 0, .int 0, .int 0])), (q56_4, .inr (1, [.int 0, .int 0, .int 0, .int 0, .int 0])), (q56_6, .inr (1, [.int 0, .int 0, .int 0, .int 0, .int 0])), (q56_8, .inr (1, [.int 0, .int 0, .int 0, .int 0, .int 0])), (q56_10, .inr (1, [.int 0, .int 0, .int 0, .int 0, .int 0])), (q56_12, .inr (1, [.int 0, .int 0, .int 0, .int 0, .int 0]))] H := hP
  have hD : va_D A [(h0, .inr (2, [.int 0, .int 0, .int 5, .int 0, .int 0, .int 0, .ref q37])), (q37, .inl (ci 5, 8, .inr (.inr (.inr (.inr (va_up (va_up (va_up (va_up (va_up (va_up (va_up (fun _ => none) (0 : Int32).toNatClampNeg (some q56_0)) (1 : Int32).toNatClampNeg (some q56_2)) (2 : Int32).toNatClampNeg (some q56_4)) (3 : Int32).toNatClampNeg (some q56_6)) (4 : Int32).toNatClampNeg (some q56_8)) (5 : Int32).toNatClampNeg (some q56_10)) (6 : Int32).toNatClampNeg (some q56_12))))))), (q56_0, .inr (1, [.int 0, .int 0, .int 0, .int 0, .int 0])), (q56_2, .inr (1, [.int 0, .int 0, .int 0, .int 0, .int 0])), (q56_4, .inr (1, [.int 0, .int 0, .int 0, .int 0, .int 0])), (q56_6, .inr (1, [.int 0, .int 0, .int 0, .int 0, .int 0])), (q56_8, .inr (1, [.int 0, .int 0, .int 0, .int 0, .int 0])), (q56_10, .inr (1, [.int 0, .int 0, .int 0, .int 0, .int 0])), (q56_12, .inr (1, [.int 0, .int 0, .int 0, .int 0, .int 0]))] := hD
  refine lv_iinc (v := 7) (k := 0) hx hb dSi_64 hl rfl (by decide) (by decide) rfl (fun ls hl => ?_)
  have hl : lv_has ls 2 [(1, .int 7), (0, .ref h0)] := hl
  refine lv_goto (tgt := 45) hx hb dSi_67 (by decide) ?_
  refine lv_iload_n hx hb dSi_45 rfl (lv_at hl 0 rfl) ?_
  refine lv_bipush (v := 8) hx hb dSi_46 (by decide) ?_
  refine lv_icmp_ge (tgt := 70) hx hb dSi_48 (by decide) (fun h => absurd h (by decide)) (fun _ => ?_)
  refine lv_aload_n hx hb dSi_51 rfl (lv_at hl 1 rfl) ?_
  refine ct_get X hP (i := 32) (cc := 2) (k := 6) 0 (by decide +kernel) (by decide) rfl rfl dSi_52 ?_
  refine lv_iload_n hx hb dSi_55 rfl (lv_at hl 0 rfl) ?_
  refine ct_new X hP hD hS hA 1 (by decide) (fs := [.int 0, .int 0, .int 0, .int 0, .int 0]) (hr_tt 70 (by decide +kernel) rfl) (hr_tt 72 (by decide +kernel) rfl) (hr_tt 43 (by decide +kernel) rfl) (by decide +kernel) (by decide) (by decide) dSi_56 (fun q56_14 H hP hD hS => ?_)
  have hP : va_P D hr_cl [(h0, .inr (2, [.int 0, .int 0, .int 5, .int 0, .int 0, .int 0, .ref q37])), (q37, .inl (ci 5, 8, .inr (.inr (.inr (.inr (va_up (va_up (va_up (va_up (va_up (va_up (va_up (fun _ => none) (0 : Int32).toNatClampNeg (some q56_0)) (1 : Int32).toNatClampNeg (some q56_2)) (2 : Int32).toNatClampNeg (some q56_4)) (3 : Int32).toNatClampNeg (some q56_6)) (4 : Int32).toNatClampNeg (some q56_8)) (5 : Int32).toNatClampNeg (some q56_10)) (6 : Int32).toNatClampNeg (some q56_12))))))), (q56_0, .inr (1, [.int 0, .int 0, .int 0, .int 0, .int 0])), (q56_2, .inr (1, [.int 0, .int 0, .int 0, .int 0, .int 0])), (q56_4, .inr (1, [.int 0, .int 0, .int 0, .int 0, .int 0])), (q56_6, .inr (1, [.int 0, .int 0, .int 0, .int 0, .int 0])), (q56_8, .inr (1, [.int 0, .int 0, .int 0, .int 0, .int 0])), (q56_10, .inr (1, [.int 0, .int 0, .int 0, .int 0, .int 0])), (q56_12, .inr (1, [.int 0, .int 0, .int 0, .int 0, .int 0])), (q56_14, .inr (1, [.int 0, .int 0, .int 0, .int 0, .int 0]))] H := hP
  have hD : va_D A [(h0, .inr (2, [.int 0, .int 0, .int 5, .int 0, .int 0, .int 0, .ref q37])), (q37, .inl (ci 5, 8, .inr (.inr (.inr (.inr (va_up (va_up (va_up (va_up (va_up (va_up (va_up (fun _ => none) (0 : Int32).toNatClampNeg (some q56_0)) (1 : Int32).toNatClampNeg (some q56_2)) (2 : Int32).toNatClampNeg (some q56_4)) (3 : Int32).toNatClampNeg (some q56_6)) (4 : Int32).toNatClampNeg (some q56_8)) (5 : Int32).toNatClampNeg (some q56_10)) (6 : Int32).toNatClampNeg (some q56_12))))))), (q56_0, .inr (1, [.int 0, .int 0, .int 0, .int 0, .int 0])), (q56_2, .inr (1, [.int 0, .int 0, .int 0, .int 0, .int 0])), (q56_4, .inr (1, [.int 0, .int 0, .int 0, .int 0, .int 0])), (q56_6, .inr (1, [.int 0, .int 0, .int 0, .int 0, .int 0])), (q56_8, .inr (1, [.int 0, .int 0, .int 0, .int 0, .int 0])), (q56_10, .inr (1, [.int 0, .int 0, .int 0, .int 0, .int 0])), (q56_12, .inr (1, [.int 0, .int 0, .int 0, .int 0, .int 0])), (q56_14, .inr (1, [.int 0, .int 0, .int 0, .int 0, .int 0]))] := hD
  refine W.widen (k := 9) (n := 48) (by decide) (by decide) ?_
  refine lv_dup hx hb dSi_59 rfl ?_
  refine ct_callN X (n := 2) (ws := [(h0, .inr (2, [.int 0, .int 0, .int 5, .int 0, .int 0, .int 0, .ref q37])), (q37, .inl (ci 5, 8, .inr (.inr (.inr (.inr (va_up (va_up (va_up (va_up (va_up (va_up (va_up (fun _ => none) (0 : Int32).toNatClampNeg (some q56_0)) (1 : Int32).toNatClampNeg (some q56_2)) (2 : Int32).toNatClampNeg (some q56_4)) (3 : Int32).toNatClampNeg (some q56_6)) (4 : Int32).toNatClampNeg (some q56_8)) (5 : Int32).toNatClampNeg (some q56_10)) (6 : Int32).toNatClampNeg (some q56_12))))))), (q56_0, .inr (1, [.int 0, .int 0, .int 0, .int 0, .int 0])), (q56_2, .inr (1, [.int 0, .int 0, .int 0, .int 0, .int 0])), (q56_4, .inr (1, [.int 0, .int 0, .int 0, .int 0, .int 0])), (q56_6, .inr (1, [.int 0, .int 0, .int 0, .int 0, .int 0])), (q56_8, .inr (1, [.int 0, .int 0, .int 0, .int 0, .int 0])), (q56_10, .inr (1, [.int 0, .int 0, .int 0, .int 0, .int 0])), (q56_12, .inr (1, [.int 0, .int 0, .int 0, .int 0, .int 0]))]) hml hl.1 hN (ct_Rock l D ci) (by decide) rfl rfl (by decide +kernel) hN.2.2.1 (hr_tt 43 (by decide +kernel) rfl) (hr_tt 74 (by decide +kernel) rfl) ⟨by decide, by decide⟩ ⟨by decide, by decide⟩ (Nat.le_of_ble_eq_true rfl) hP hD hS hA dSi_60 (fun u60_15 H locs hP hD hS => ?_)
  have hP : va_P D hr_cl [(h0, .inr (2, [.int 0, .int 0, .int 5, .int 0, .int 0, .int 0, .ref q37])), (q37, .inl (ci 5, 8, .inr (.inr (.inr (.inr (va_up (va_up (va_up (va_up (va_up (va_up (va_up (fun _ => none) (0 : Int32).toNatClampNeg (some q56_0)) (1 : Int32).toNatClampNeg (some q56_2)) (2 : Int32).toNatClampNeg (some q56_4)) (3 : Int32).toNatClampNeg (some q56_6)) (4 : Int32).toNatClampNeg (some q56_8)) (5 : Int32).toNatClampNeg (some q56_10)) (6 : Int32).toNatClampNeg (some q56_12))))))), (q56_0, .inr (1, [.int 0, .int 0, .int 0, .int 0, .int 0])), (q56_2, .inr (1, [.int 0, .int 0, .int 0, .int 0, .int 0])), (q56_4, .inr (1, [.int 0, .int 0, .int 0, .int 0, .int 0])), (q56_6, .inr (1, [.int 0, .int 0, .int 0, .int 0, .int 0])), (q56_8, .inr (1, [.int 0, .int 0, .int 0, .int 0, .int 0])), (q56_10, .inr (1, [.int 0, .int 0, .int 0, .int 0, .int 0])), (q56_12, .inr (1, [.int 0, .int 0, .int 0, .int 0, .int 0])), (q56_14, .inr (1, [.int 0, .int 0, .int 0, .int 0, .int 0]))] H := hP
  have hD : va_D A [(h0, .inr (2, [.int 0, .int 0, .int 5, .int 0, .int 0, .int 0, .ref q37])), (q37, .inl (ci 5, 8, .inr (.inr (.inr (.inr (va_up (va_up (va_up (va_up (va_up (va_up (va_up (fun _ => none) (0 : Int32).toNatClampNeg (some q56_0)) (1 : Int32).toNatClampNeg (some q56_2)) (2 : Int32).toNatClampNeg (some q56_4)) (3 : Int32).toNatClampNeg (some q56_6)) (4 : Int32).toNatClampNeg (some q56_8)) (5 : Int32).toNatClampNeg (some q56_10)) (6 : Int32).toNatClampNeg (some q56_12))))))), (q56_0, .inr (1, [.int 0, .int 0, .int 0, .int 0, .int 0])), (q56_2, .inr (1, [.int 0, .int 0, .int 0, .int 0, .int 0])), (q56_4, .inr (1, [.int 0, .int 0, .int 0, .int 0, .int 0])), (q56_6, .inr (1, [.int 0, .int 0, .int 0, .int 0, .int 0])), (q56_8, .inr (1, [.int 0, .int 0, .int 0, .int 0, .int 0])), (q56_10, .inr (1, [.int 0, .int 0, .int 0, .int 0, .int 0])), (q56_12, .inr (1, [.int 0, .int 0, .int 0, .int 0, .int 0])), (q56_14, .inr (1, [.int 0, .int 0, .int 0, .int 0, .int 0]))] := hD
  refine W.widen (k := 9) (n := 48) (by decide) (by decide) ?_
  refine va_astq hx hb hK hP hD hS 1 4 9 1 (r := (RX1, TX1, 5)) rfl rfl rfl rfl (show ¬ ((7 : Int32) < 0 ∨ 8 ≤ (7 : Int32).toNatClampNeg) by decide) dSi_63 (fun H locs hP hD hS => ?_)
  have hP : va_P D hr_cl [(h0, .inr (2, [.int 0, .int 0, .int 5, .int 0, .int 0, .int 0, .ref q37])), (q37, .inl (ci 5, 8, .inr (.inr (.inr (.inr (va_up (va_up (va_up (va_up (va_up (va_up (va_up (va_up (fun _ => none) (0 : Int32).toNatClampNeg (some q56_0)) (1 : Int32).toNatClampNeg (some q56_2)) (2 : Int32).toNatClampNeg (some q56_4)) (3 : Int32).toNatClampNeg (some q56_6)) (4 : Int32).toNatClampNeg (some q56_8)) (5 : Int32).toNatClampNeg (some q56_10)) (6 : Int32).toNatClampNeg (some q56_12)) (7 : Int32).toNatClampNeg (some q56_14))))))), (q56_0, .inr (1, [.int 0, .int 0, .int 0, .int 0, .int 0])), (q56_2, .inr (1, [.int 0, .int 0, .int 0, .int 0, .int 0])), (q56_4, .inr (1, [.int 0, .int 0, .int 0, .int 0, .int 0])), (q56_6, .inr (1, [.int 0, .int 0, .int 0, .int 0, .int 0])), (q56_8, .inr (1, [.int 0, .int 0, .int 0, .int 0, .int 0])), (q56_10, .inr (1, [.int 0, .int 0, .int 0, .int 0, .int 0])), (q56_12, .inr (1, [.int 0, .int 0, .int 0, .int 0, .int 0])), (q56_14, .inr (1, [.int 0, .int 0, .int 0, .int 0, .int 0]))] H := hP
  have hD : va_D A [(h0, .inr (2, [.int 0, .int 0, .int 5, .int 0, .int 0, .int 0, .ref q37])), (q37, .inl (ci 5, 8, .inr (.inr (.inr (.inr (va_up (va_up (va_up (va_up (va_up (va_up (va_up (va_up (fun _ => none) (0 : Int32).toNatClampNeg (some q56_0)) (1 : Int32).toNatClampNeg (some q56_2)) (2 : Int32).toNatClampNeg (some q56_4)) (3 : Int32).toNatClampNeg (some q56_6)) (4 : Int32).toNatClampNeg (some q56_8)) (5 : Int32).toNatClampNeg (some q56_10)) (6 : Int32).toNatClampNeg (some q56_12)) (7 : Int32).toNatClampNeg (some q56_14))))))), (q56_0, .inr (1, [.int 0, .int 0, .int 0, .int 0, .int 0])), (q56_2, .inr (1, [.int 0, .int 0, .int 0, .int 0, .int 0])), (q56_4, .inr (1, [.int 0, .int 0, .int 0, .int 0, .int 0])), (q56_6, .inr (1, [.int 0, .int 0, .int 0, .int 0, .int 0])), (q56_8, .inr (1, [.int 0, .int 0, .int 0, .int 0, .int 0])), (q56_10, .inr (1, [.int 0, .int 0, .int 0, .int 0, .int 0])), (q56_12, .inr (1, [.int 0, .int 0, .int 0, .int 0, .int 0])), (q56_14, .inr (1, [.int 0, .int 0, .int 0, .int 0, .int 0]))] := hD
  refine lv_iinc (v := 8) (k := 0) hx hb dSi_64 hl rfl (by decide) (by decide) rfl (fun ls hl => ?_)
  have hl : lv_has ls 2 [(1, .int 8), (0, .ref h0)] := hl
  refine lv_goto (tgt := 45) hx hb dSi_67 (by decide) ?_
  refine lv_iload_n hx hb dSi_45 rfl (lv_at hl 0 rfl) ?_
  refine lv_bipush (v := 8) hx hb dSi_46 (by decide) ?_
  refine lv_icmp_ge (tgt := 70) hx hb dSi_48 (by decide) (fun _ => ?_) (fun h => absurd (show (8 : Int32) ≤ 8 by decide) h)
  refine W.widen (k := 9) (n := 48) (by decide) (by decide) ?_
  have hP := hP.q (k := 1) (g := fun j => some ((fun k => ([q37, q56_0, q56_2, q56_4, q56_6, q56_8, q56_10, q56_12, q56_14] : List Nat).getD k 0) (1 + j))) rfl (fun j hj => by rcases (show j = 0 ∨ j = 1 ∨ j = 2 ∨ j = 3 ∨ j = 4 ∨ j = 5 ∨ j = 6 ∨ j = 7 by omega) with rfl | rfl | rfl | rfl | rfl | rfl | rfl | rfl <;> simp [va_up, cn_0, cn_1, cn_2, cn_3, cn_4, cn_5, cn_6, cn_7])
  have hD := hD.set (p := 1) (e := .inl (ci 5, 8, .inr (.inr (.inr (.inr (fun j => some ((fun k => ([q37, q56_0, q56_2, q56_4, q56_6, q56_8, q56_10, q56_12, q56_14] : List Nat).getD k 0) (1 + j)))))))) rfl
  exact ret H locs 70 ls (fun k => ([q37, q56_0, q56_2, q56_4, q56_6, q56_8, q56_10, q56_12, q56_14] : List Nat).getD k 0) hP hD hS dSi_70
