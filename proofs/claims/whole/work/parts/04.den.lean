/-! ===== one equation an instruction ===== -/
def zb (b : Bool) : Int32 := if b = true then 1 else 0
theorem zb_t : zb true = 1 := rfl
theorem zb_f : zb false = 0 := rfl
theorem zb_eq0 (b : Bool) : (zb b = 0) = (b = false) := by cases b <;> simp [zb]
theorem zb_eq1 (b : Bool) : (zb b = 1) = (b = true) := by cases b <;> simp [zb]
theorem zb_nar (b : Bool) : narrow .boolean (.int (zb b)) = .int (zb b) := by cases b <;> decide +kernel
theorem zb_n0 : narrow .boolean (.int 0) = .int 0 := by decide +kernel
theorem zb_n1 : narrow .boolean (.int 1) = .int 1 := by decide +kernel
theorem zb_ite (c : Prop) [Decidable c] : (if c then (1 : Int32) else 0) = zb (decide c) := by by_cases h : c <;> simp [zb, h]
theorem is2_n : hr_is2 (some none) = false := rfl
theorem is2_i (x : Int32) : hr_is2 (some (some (.int x))) = false := rfl
theorem is2_r (x : Nat) : hr_is2 (some (some (.ref x))) = false := rfl
theorem is2_0 : hr_is2 (some (some .null)) = false := rfl
section
variable {y pc : Nat} {ls l : hr_L} {st r : List Value} {h : hr_H} {I : Nat → Nat → Int32} {J : Nat → Nat → Int64}
theorem den_iconst {n : Int} (v : Int32) (hd : decode (hr_cd y) pc = .ok (.iconst n, 1)) (hv : Int32.ofInt n = v) : den y (pc, ls, st, h) = den y (pc + 1, ls, .int v :: st, h) := by subst hv; exact den_step hd (Or.inr rfl) rfl
theorem den_bipush {n : Int} (v : Int32) (hd : decode (hr_cd y) pc = .ok (.bipush n, 2)) (hv : (Int8.ofInt n).toInt32 = v) : den y (pc, ls, st, h) = den y (pc + 2, ls, .int v :: st, h) := by subst hv; exact den_step hd (Or.inr rfl) rfl
theorem den_sipush {n : Int} (v : Int32) (hd : decode (hr_cd y) pc = .ok (.sipush n, 3)) (hv : (Int16.ofInt n).toInt32 = v) : den y (pc, ls, st, h) = den y (pc + 3, ls, .int v :: st, h) := by subst hv; exact den_step hd (Or.inr rfl) rfl
theorem den_lconst {n : Fin 2} (v : Int64) (hd : decode (hr_cd y) pc = .ok (.lconst n, 1)) (hv : Int64.ofNat (n : Nat) = v) : den y (pc, ls, st, h) = den y (pc + 1, ls, .long v :: st, h) := by subst hv; exact den_step hd (Or.inr rfl) rfl
theorem den_null (hd : decode (hr_cd y) pc = .ok (.aconst_null, 1)) : den y (pc, ls, st, h) = den y (pc + 1, ls, .null :: st, h) := den_step hd (Or.inr rfl) rfl
theorem den_iload_n {i : Fin 4} {x : Int32} (hd : decode (hr_cd y) pc = .ok (.iload_n i, 1)) (hx : ls[(i : Nat)]? = some (some (.int x))) : den y (pc, ls, st, h) = den y (pc + 1, ls, .int x :: st, h) := den_step hd (Or.inr rfl) (by simp only [hr_x, hr_ldi, hx]; rfl)
theorem den_iload {i : Nat} {x : Int32} (hd : decode (hr_cd y) pc = .ok (.iload i, 2)) (hx : ls[i]? = some (some (.int x))) : den y (pc, ls, st, h) = den y (pc + 2, ls, .int x :: st, h) := den_step hd (Or.inr rfl) (by simp only [hr_x, hr_ldi, hx]; rfl)
theorem den_lload_n {i : Fin 4} {x : Int64} (hd : decode (hr_cd y) pc = .ok (.lload_n i, 1)) (hx : ls[(i : Nat)]? = some (some (.long x))) : den y (pc, ls, st, h) = den y (pc + 1, ls, .long x :: st, h) := den_step hd (Or.inr rfl) (by simp only [hr_x, hr_ldl, hx]; rfl)
theorem den_lload {i : Nat} {x : Int64} (hd : decode (hr_cd y) pc = .ok (.lload i, 2)) (hx : ls[i]? = some (some (.long x))) : den y (pc, ls, st, h) = den y (pc + 2, ls, .long x :: st, h) := den_step hd (Or.inr rfl) (by simp only [hr_x, hr_ldl, hx]; rfl)
theorem den_aload_n {i : Fin 4} {x : Nat} (hd : decode (hr_cd y) pc = .ok (.aload_n i, 1)) (hx : ls[(i : Nat)]? = some (some (.ref x))) : den y (pc, ls, st, h) = den y (pc + 1, ls, .ref x :: st, h) := den_step hd (Or.inr rfl) (by simp only [hr_x, hr_lda, hx]; rfl)
theorem den_aload {i : Nat} {x : Nat} (hd : decode (hr_cd y) pc = .ok (.aload i, 2)) (hx : ls[i]? = some (some (.ref x))) : den y (pc, ls, st, h) = den y (pc + 2, ls, .ref x :: st, h) := den_step hd (Or.inr rfl) (by simp only [hr_x, hr_lda, hx]; rfl)
theorem den_istore_n {i : Fin 4} {x : Int32} (hd : decode (hr_cd y) pc = .ok (.istore_n i, 1)) (hi : (i : Nat) < ls.length ∧ ((i : Nat) = 0 ∨ hr_is2 ls[(i : Nat) - 1]? = false)) (e : ls.set i (some (.int x)) = l) : den y (pc, ls, .int x :: st, h) = den y (pc + 1, l, st, h) := den_step hd (Or.inr rfl) (by simp only [hr_x, hr_sti, hr_sto, if_pos hi, e]; rfl)
theorem den_istore {i : Nat} {x : Int32} (hd : decode (hr_cd y) pc = .ok (.istore i, 2)) (hi : i < ls.length ∧ (i = 0 ∨ hr_is2 ls[i - 1]? = false)) (e : ls.set i (some (.int x)) = l) : den y (pc, ls, .int x :: st, h) = den y (pc + 2, l, st, h) := den_step hd (Or.inr rfl) (by simp only [hr_x, hr_sti, hr_sto, if_pos hi, e]; rfl)
theorem den_lstore {i : Nat} {x : Int64} (hd : decode (hr_cd y) pc = .ok (.lstore i, 2)) (hi : i + 1 < ls.length ∧ (i = 0 ∨ hr_is2 ls[i - 1]? = false)) (e : (ls.set i (some (.long x))).set (i + 1) none = l) : den y (pc, ls, .long x :: st, h) = den y (pc + 2, l, st, h) := den_step hd (Or.inr rfl) (by simp only [hr_x, hr_stl, hr_sto2, if_pos hi, e]; rfl)
theorem den_astore_n {i : Fin 4} {x : Nat} (hd : decode (hr_cd y) pc = .ok (.astore_n i, 1)) (hi : (i : Nat) < ls.length ∧ ((i : Nat) = 0 ∨ hr_is2 ls[(i : Nat) - 1]? = false)) (e : ls.set i (some (.ref x)) = l) : den y (pc, ls, .ref x :: st, h) = den y (pc + 1, l, st, h) := den_step hd (Or.inr rfl) (by simp only [hr_x, hr_sta, hr_sto, if_pos hi, e]; rfl)
theorem den_astore {i : Nat} {x : Nat} (hd : decode (hr_cd y) pc = .ok (.astore i, 2)) (hi : i < ls.length ∧ (i = 0 ∨ hr_is2 ls[i - 1]? = false)) (e : ls.set i (some (.ref x)) = l) : den y (pc, ls, .ref x :: st, h) = den y (pc + 2, l, st, h) := den_step hd (Or.inr rfl) (by simp only [hr_x, hr_sta, hr_sto, if_pos hi, e]; rfl)
theorem den_iinc {i : Nat} {n : Int} {x : Int32} (v : Int32) (hd : decode (hr_cd y) pc = .ok (.iinc i n, 3)) (hx : ls[i]? = some (some (.int x))) (hi : i < ls.length ∧ (i = 0 ∨ hr_is2 ls[i - 1]? = false)) (hv : Int32.ofInt n = v) (e : ls.set i (some (.int (x + v))) = l) : den y (pc, ls, st, h) = den y (pc + 3, l, st, h) := den_step hd (Or.inr rfl) (by subst hv; simp only [hr_x, hx, hr_sto, if_pos hi, e]; rfl)
theorem den_iadd {a b : Int32} (hd : decode (hr_cd y) pc = .ok (.iadd, 1)) : den y (pc, ls, .int b :: .int a :: st, h) = den y (pc + 1, ls, .int (a + b) :: st, h) := den_step hd (Or.inr rfl) rfl
theorem den_isub {a b : Int32} (hd : decode (hr_cd y) pc = .ok (.isub, 1)) : den y (pc, ls, .int b :: .int a :: st, h) = den y (pc + 1, ls, .int (a - b) :: st, h) := den_step hd (Or.inr rfl) rfl
theorem den_imul {a b : Int32} (hd : decode (hr_cd y) pc = .ok (.imul, 1)) : den y (pc, ls, .int b :: .int a :: st, h) = den y (pc + 1, ls, .int (a * b) :: st, h) := den_step hd (Or.inr rfl) rfl
theorem den_iand {a b : Int32} (hd : decode (hr_cd y) pc = .ok (.iand, 1)) : den y (pc, ls, .int b :: .int a :: st, h) = den y (pc + 1, ls, .int (a &&& b) :: st, h) := den_step hd (Or.inr rfl) rfl
theorem den_ior {a b : Int32} (hd : decode (hr_cd y) pc = .ok (.ior, 1)) : den y (pc, ls, .int b :: .int a :: st, h) = den y (pc + 1, ls, .int (a ||| b) :: st, h) := den_step hd (Or.inr rfl) rfl
theorem den_ishl {a b : Int32} (hd : decode (hr_cd y) pc = .ok (.ishl, 1)) : den y (pc, ls, .int b :: .int a :: st, h) = den y (pc + 1, ls, .int (a <<< (b &&& 31)) :: st, h) := den_step hd (Or.inr rfl) rfl
theorem den_ishr {a b : Int32} (hd : decode (hr_cd y) pc = .ok (.ishr, 1)) : den y (pc, ls, .int b :: .int a :: st, h) = den y (pc + 1, ls, .int (a >>> (b &&& 31)) :: st, h) := den_step hd (Or.inr rfl) rfl
theorem den_iushr {a b : Int32} (hd : decode (hr_cd y) pc = .ok (.iushr, 1)) : den y (pc, ls, .int b :: .int a :: st, h) = den y (pc + 1, ls, .int (a.toUInt32 >>> (b.toUInt32 &&& Int32.toUInt32 31)).toInt32 :: st, h) := den_step hd (Or.inr rfl) rfl
theorem den_idiv {a b : Int32} (hd : decode (hr_cd y) pc = .ok (.idiv, 1)) (hb : ¬ b = 0) : den y (pc, ls, .int b :: .int a :: st, h) = den y (pc + 1, ls, .int (a / b) :: st, h) := den_step hd (Or.inr rfl) (by simp only [hr_x, hr_dv, if_neg hb]; rfl)
theorem den_irem {a b : Int32} (hd : decode (hr_cd y) pc = .ok (.irem, 1)) (hb : ¬ b = 0) : den y (pc, ls, .int b :: .int a :: st, h) = den y (pc + 1, ls, .int (a - a / b * b) :: st, h) := den_step hd (Or.inr rfl) (by simp only [hr_x, hr_dv, if_neg hb]; rfl)
theorem den_ladd {a b : Int64} (hd : decode (hr_cd y) pc = .ok (.ladd, 1)) : den y (pc, ls, .long b :: .long a :: st, h) = den y (pc + 1, ls, .long (a + b) :: st, h) := den_step hd (Or.inr rfl) rfl
theorem den_lsub {a b : Int64} (hd : decode (hr_cd y) pc = .ok (.lsub, 1)) : den y (pc, ls, .long b :: .long a :: st, h) = den y (pc + 1, ls, .long (a - b) :: st, h) := den_step hd (Or.inr rfl) rfl
theorem den_lmul {a b : Int64} (hd : decode (hr_cd y) pc = .ok (.lmul, 1)) : den y (pc, ls, .long b :: .long a :: st, h) = den y (pc + 1, ls, .long (a * b) :: st, h) := den_step hd (Or.inr rfl) rfl
theorem den_land {a b : Int64} (hd : decode (hr_cd y) pc = .ok (.land, 1)) : den y (pc, ls, .long b :: .long a :: st, h) = den y (pc + 1, ls, .long (a &&& b) :: st, h) := den_step hd (Or.inr rfl) rfl
theorem den_lor {a b : Int64} (hd : decode (hr_cd y) pc = .ok (.lor, 1)) : den y (pc, ls, .long b :: .long a :: st, h) = den y (pc + 1, ls, .long (a ||| b) :: st, h) := den_step hd (Or.inr rfl) rfl
theorem den_lshl {a : Int64} {b : Int32} (hd : decode (hr_cd y) pc = .ok (.lshl, 1)) : den y (pc, ls, .int b :: .long a :: st, h) = den y (pc + 1, ls, .long (a <<< (b.toInt64 &&& 63)) :: st, h) := den_step hd (Or.inr rfl) rfl
theorem den_lcmp {a b : Int64} (hd : decode (hr_cd y) pc = .ok (.lcmp, 1)) : den y (pc, ls, .long b :: .long a :: st, h) = den y (pc + 1, ls, .int (lg_cmp a b) :: st, h) := den_step hd (Or.inr rfl) rfl
theorem den_l2i {a : Int64} (hd : decode (hr_cd y) pc = .ok (.l2i, 1)) : den y (pc, ls, .long a :: st, h) = den y (pc + 1, ls, .int a.toInt32 :: st, h) := den_step hd (Or.inr rfl) rfl
theorem den_ineg {a : Int32} (hd : decode (hr_cd y) pc = .ok (.ineg, 1)) : den y (pc, ls, .int a :: st, h) = den y (pc + 1, ls, .int (-a) :: st, h) := den_step hd (Or.inr rfl) rfl
theorem den_i2l {a : Int32} (hd : decode (hr_cd y) pc = .ok (.i2l, 1)) : den y (pc, ls, .int a :: st, h) = den y (pc + 1, ls, .long a.toInt64 :: st, h) := den_step hd (Or.inr rfl) rfl
theorem den_i2b {a : Int32} (hd : decode (hr_cd y) pc = .ok (.i2b, 1)) : den y (pc, ls, .int a :: st, h) = den y (pc + 1, ls, .int a.toInt8.toInt32 :: st, h) := den_step hd (Or.inr rfl) rfl
theorem den_i2s {a : Int32} (hd : decode (hr_cd y) pc = .ok (.i2s, 1)) : den y (pc, ls, .int a :: st, h) = den y (pc + 1, ls, .int a.toInt16.toInt32 :: st, h) := den_step hd (Or.inr rfl) rfl
theorem den_i2c {a : Int32} (hd : decode (hr_cd y) pc = .ok (.i2c, 1)) : den y (pc, ls, .int a :: st, h) = den y (pc + 1, ls, .int (a.toUInt32 % 65536).toInt32 :: st, h) := den_step hd (Or.inr rfl) rfl
theorem den_dupi {a : Int32} (hd : decode (hr_cd y) pc = .ok (.dup, 1)) : den y (pc, ls, .int a :: st, h) = den y (pc + 1, ls, .int a :: .int a :: st, h) := den_step hd (Or.inr rfl) rfl
theorem den_dupr {a : Nat} (hd : decode (hr_cd y) pc = .ok (.dup, 1)) : den y (pc, ls, .ref a :: st, h) = den y (pc + 1, ls, .ref a :: .ref a :: st, h) := den_step hd (Or.inr rfl) rfl
theorem den_dup2 {i : Int32} {a : Nat} (hd : decode (hr_cd y) pc = .ok (.dup2, 1)) : den y (pc, ls, .int i :: .ref a :: st, h) = den y (pc + 1, ls, .int i :: .ref a :: .int i :: .ref a :: st, h) := den_step hd (Or.inr rfl) rfl
theorem den_popi {a : Int32} (hd : decode (hr_cd y) pc = .ok (.pop, 1)) : den y (pc, ls, .int a :: st, h) = den y (pc + 1, ls, st, h) := den_step hd (Or.inr rfl) rfl
theorem den_goto {off : Int} (t : Nat) (hd : decode (hr_cd y) pc = .ok (.goto off, 3)) (ht : (pc : Int) + off = (t : Int)) : den y (pc, ls, st, h) = den y (t, ls, st, h) := den_step hd (Or.inr rfl) (by simp only [hr_x, hr_jp, ht, Int.toNat_natCast, Int.natCast_nonneg, if_true]; rfl)
theorem den_if {c : ClassFile.Cond} {off : Int} {a : Int32} (t : Nat) (hd : decode (hr_cd y) pc = .ok (.ifCond c off, 3)) (ht : (pc : Int) + off = (t : Int)) : den y (pc, ls, .int a :: st, h) = if hr_cm c a 0 = true then den y (t, ls, st, h) else den y (pc + 3, ls, st, h) := by
  by_cases e : hr_cm c a 0 = true
  · rw [if_pos e]
    exact den_step hd (Or.inr rfl) (by simp only [hr_x, if_pos e, hr_jp, ht, Int.toNat_natCast, Int.natCast_nonneg, if_true]; rfl)
  · rw [if_neg e]
    exact den_step hd (Or.inr rfl) (by simp only [hr_x, if_neg e]; rfl)
theorem den_icmp {c : ClassFile.Cond} {off : Int} {a b : Int32} (t : Nat) (hd : decode (hr_cd y) pc = .ok (.if_icmp c off, 3)) (ht : (pc : Int) + off = (t : Int)) : den y (pc, ls, .int b :: .int a :: st, h) = if hr_cm c a b = true then den y (t, ls, st, h) else den y (pc + 3, ls, st, h) := by
  by_cases e : hr_cm c a b = true
  · rw [if_pos e]
    exact den_step hd (Or.inr rfl) (by simp only [hr_x, if_pos e, hr_jp, ht, Int.toNat_natCast, Int.natCast_nonneg, if_true]; rfl)
  · rw [if_neg e]
    exact den_step hd (Or.inr rfl) (by simp only [hr_x, if_neg e]; rfl)
theorem hc_eq (a b : Int32) : (hr_cm .eq a b = true) = (a = b) := by simp [hr_cm]
theorem hc_ne (a b : Int32) : (hr_cm .ne a b = true) = ¬ (a = b) := by simp [hr_cm]
theorem hc_lt (a b : Int32) : (hr_cm .lt a b = true) = (a < b) := by simp [hr_cm]
theorem hc_ge (a b : Int32) : (hr_cm .ge a b = true) = (b ≤ a) := by simp [hr_cm]
theorem hc_gt (a b : Int32) : (hr_cm .gt a b = true) = (b < a) := by simp [hr_cm]
theorem hc_le (a b : Int32) : (hr_cm .le a b = true) = (a ≤ b) := by simp [hr_cm]
theorem den_ifnnr {off : Int} {a : Nat} (t : Nat) (hd : decode (hr_cd y) pc = .ok (.ifnonnull off, 3)) (ha : ¬ a = 69) (ht : (pc : Int) + off = (t : Int)) : den y (pc, ls, .ref a :: st, h) = den y (t, ls, st, h) := den_step hd (Or.inr rfl) (by simp only [hr_x, if_neg ha, hr_jp, ht, Int.toNat_natCast, Int.natCast_nonneg, if_true]; rfl)
theorem den_ifnn0 {off : Int} (hd : decode (hr_cd y) pc = .ok (.ifnonnull off, 3)) : den y (pc, ls, .null :: st, h) = den y (pc + 3, ls, st, h) := den_step hd (Or.inr rfl) rfl
theorem den_tsO {d lo hi : Int} {offs : Array Int} {len : Nat} {x : Int32} (t : Nat) (hd : decode (hr_cd y) pc = .ok (.tableswitch d lo hi offs, len)) (hx : x.toInt < lo ∨ hi < x.toInt) (ht : (pc : Int) + d = (t : Int)) : den y (pc, ls, .int x :: st, h) = den y (t, ls, st, h) := den_step hd (Or.inl rfl) (by simp only [hr_x, if_pos hx, hr_jp, ht, Int.toNat_natCast, Int.natCast_nonneg, if_true]; rfl)
theorem den_tsI {d lo hi off : Int} {offs : Array Int} {len : Nat} {x : Int32} (t : Nat) (hd : decode (hr_cd y) pc = .ok (.tableswitch d lo hi offs, len)) (hx : ¬ (x.toInt < lo ∨ hi < x.toInt)) (ho : offs[(x.toInt - lo).toNat]? = some off) (ht : (pc : Int) + off = (t : Int)) : den y (pc, ls, .int x :: st, h) = den y (t, ls, st, h) := den_step hd (Or.inl rfl) (by simp only [hr_x, if_neg hx, ho, hr_jp, ht, Int.toNat_natCast, Int.natCast_nonneg, if_true]; rfl)
theorem den_lkp {d off : Int} {ps : Array (Int × Int)} {len : Nat} {x : Int32} (t : Nat) (hd : decode (hr_cd y) pc = .ok (.lookupswitch d ps, len)) (hp : (ps.toList.zip (ps.toList.drop 1)).all (fun (a, next) => a.1 < next.1) = true) (ho : Op.lookupswitch.offset ps.toList d x.toInt = off) (ht : (pc : Int) + off = (t : Int)) : den y (pc, ls, .int x :: st, h) = den y (t, ls, st, h) := den_step hd (Or.inl rfl) (by simp only [hr_x, hp, ho, hr_jp, ht, Int.toNat_natCast, Int.natCast_nonneg, if_true]; rfl)
theorem den_ldc {i : Nat} (v : Int32) (hd : decode (hr_cd y) pc = .ok (.ldc i, 2)) (hv : hr_ci (hr_ow y) i = some v) : den y (pc, ls, st, h) = den y (pc + 2, ls, .int v :: st, h) := den_step hd (Or.inr rfl) (by simp only [hr_x, hv]; rfl)
theorem den_ldcs {i : Nat} (v : Nat) (hd : decode (hr_cd y) pc = .ok (.ldc i, 2)) (hn : hr_ci (hr_ow y) i = none) (hv : (hr_cs (hr_ow y) i).map (fun k => 70 + k) = some v) : den y (pc, ls, st, h) = den y (pc + 2, ls, .ref v :: st, h) := by
  cases e : hr_cs (hr_ow y) i with
  | none => rw [e] at hv; cases hv
  | some k =>
    rw [e] at hv
    cases hv
    exact den_step hd (Or.inr rfl) (by simp only [hr_x, hn, e]; rfl)
theorem den_ldcw {i : Nat} (v : Int32) (hd : decode (hr_cd y) pc = .ok (.ldc_w i, 3)) (hv : hr_ci (hr_ow y) i = some v) : den y (pc, ls, st, h) = den y (pc + 3, ls, .int v :: st, h) := den_step hd (Or.inr rfl) (by simp only [hr_x, hv]; rfl)
theorem den_ldc2 {i : Nat} (v : Int64) (hd : decode (hr_cd y) pc = .ok (.ldc2_w i, 3)) (hv : hr_cj (hr_ow y) i = some v) : den y (pc, ls, st, h) = den y (pc + 3, ls, .long v :: st, h) := den_step hd (Or.inr rfl) (by simp only [hr_x, hv]; rfl)
theorem den_gets {i : Nat} (v : Value) (hd : decode (hr_cd y) pc = .ok (.getstatic i, 3)) (hv : hr_gs (hr_ow y) i = some v) : den y (pc, ls, st, h) = den y (pc + 3, ls, v :: st, h) := den_step hd (Or.inr rfl) (by simp only [hr_x, hv]; rfl)
theorem den_getf {i a : Nat} (c k : Nat) (v : Value) (hd : decode (hr_cd y) pc = .ok (.getfield i, 3)) (hf : hr_fl (hr_ow y) i = some (c, k)) (ha : hr_oc a = c) (hv : hr_gf h a c k = v) : den y (pc, ls, .ref a :: st, h) = den y (pc + 3, ls, v :: st, h) := den_step hd (Or.inr rfl) (by simp only [hr_x, hf, if_pos ha, hv]; rfl)
theorem den_puti {i a : Nat} {x : Int32} (c k : Nat) (hd : decode (hr_cd y) pc = .ok (.putfield i, 3)) (hf : hr_fl (hr_ow y) i = some (c, k)) (ht : hr_ft c k = 0) (ha : hr_oc a = c) : den y (pc, ls, .int x :: .ref a :: st, (I, J)) = den y (pc + 3, ls, st, (up2 I a k x, J)) := den_step hd (Or.inr rfl) (by simp only [hr_x, hf, if_pos (⟨ha, Or.inl ht⟩ : hr_oc a = c ∧ (hr_ft c k = 0 ∨ (hr_ft c k = 3 ∧ (x = 0 ∨ x = 1))))]; rfl)
theorem den_putz {i a : Nat} {x : Int32} (c k : Nat) (hd : decode (hr_cd y) pc = .ok (.putfield i, 3)) (hf : hr_fl (hr_ow y) i = some (c, k)) (ht : hr_ft c k = 3) (ha : hr_oc a = c) (hx : x = 0 ∨ x = 1) : den y (pc, ls, .int x :: .ref a :: st, (I, J)) = den y (pc + 3, ls, st, (up2 I a k x, J)) := den_step hd (Or.inr rfl) (by simp only [hr_x, hf, if_pos (⟨ha, Or.inr ⟨ht, hx⟩⟩ : hr_oc a = c ∧ (hr_ft c k = 0 ∨ (hr_ft c k = 3 ∧ (x = 0 ∨ x = 1))))]; rfl)
theorem den_putl {i a : Nat} {x : Int64} (c k : Nat) (hd : decode (hr_cd y) pc = .ok (.putfield i, 3)) (hf : hr_fl (hr_ow y) i = some (c, k)) (ht : hr_ft c k = 1) (ha : hr_oc a = c) : den y (pc, ls, .long x :: .ref a :: st, (I, J)) = den y (pc + 3, ls, st, (I, up2 J a k x)) := den_step hd (Or.inr rfl) (by simp only [hr_x, hf, if_pos (⟨ha, ht⟩ : hr_oc a = c ∧ hr_ft c k = 1)]; rfl)
theorem den_iald {i : Int32} {a : Nat} (hd : decode (hr_cd y) pc = .ok (.iaload, 1)) (ha : hr_ak a = 1) (hi : hr_in i (hr_al h a) = true) : den y (pc, ls, .int i :: .ref a :: st, h) = den y (pc + 1, ls, .int (hr_ai h a i.toNatClampNeg) :: st, h) := den_step hd (Or.inr rfl) (by simp only [hr_x, hr_ld, if_pos (⟨ha, hi⟩ : hr_ak a = 1 ∧ hr_in i (hr_al h a) = true)]; rfl)
theorem den_bald {i : Int32} {a : Nat} (hd : decode (hr_cd y) pc = .ok (.baload, 1)) (ha : hr_ak a = 3) (hi : hr_in i (hr_al h a) = true) : den y (pc, ls, .int i :: .ref a :: st, h) = den y (pc + 1, ls, .int (hr_ai h a i.toNatClampNeg) :: st, h) := den_step hd (Or.inr rfl) (by simp only [hr_x, hr_ld, if_pos (⟨ha, hi⟩ : hr_ak a = 3 ∧ hr_in i (hr_al h a) = true)]; rfl)
theorem den_cald {i : Int32} {a : Nat} (hd : decode (hr_cd y) pc = .ok (.caload, 1)) (ha : hr_ak a = 4) (hi : hr_in i (hr_al h a) = true) : den y (pc, ls, .int i :: .ref a :: st, h) = den y (pc + 1, ls, .int (hr_ai h a i.toNatClampNeg) :: st, h) := den_step hd (Or.inr rfl) (by simp only [hr_x, hr_ld, if_pos (⟨ha, hi⟩ : hr_ak a = 4 ∧ hr_in i (hr_al h a) = true)]; rfl)
theorem den_lald {i : Int32} {a : Nat} (hd : decode (hr_cd y) pc = .ok (.laload, 1)) (ha : hr_ak a = 2) (hi : hr_in i (hr_al (I, J) a) = true) : den y (pc, ls, .int i :: .ref a :: st, (I, J)) = den y (pc + 1, ls, .long (J a i.toNatClampNeg) :: st, (I, J)) := den_step hd (Or.inr rfl) (by simp only [hr_x, if_pos (⟨ha, hi⟩ : hr_ak a = 2 ∧ hr_in i (hr_al (I, J) a) = true)]; rfl)
theorem den_aald {i : Int32} {a : Nat} (hd : decode (hr_cd y) pc = .ok (.aaload, 1)) (ha : hr_ak a = 5 ∨ hr_ak a = 6) (hi : hr_in i (hr_al h a) = true) : den y (pc, ls, .int i :: .ref a :: st, h) = den y (pc + 1, ls, .ref (hr_ra a i.toNatClampNeg) :: st, h) := den_step hd (Or.inr rfl) (by simp only [hr_x, if_pos (⟨ha, hi⟩ : (hr_ak a = 5 ∨ hr_ak a = 6) ∧ hr_in i (hr_al h a) = true)]; rfl)
theorem den_iast {i x : Int32} {a : Nat} (hd : decode (hr_cd y) pc = .ok (.iastore, 1)) (ha : hr_ak a = 1) (hl : a < 57) (hi : hr_in i (hr_al (I, J) a) = true) : den y (pc, ls, .int x :: .int i :: .ref a :: st, (I, J)) = den y (pc + 1, ls, st, (up2 I a i.toNatClampNeg x, J)) := den_step hd (Or.inr rfl) (by simp only [hr_x, if_pos (⟨ha, hl, hi⟩ : hr_ak a = 1 ∧ a < 57 ∧ hr_in i (hr_al (I, J) a) = true)]; rfl)
theorem den_bast {i x : Int32} {a : Nat} (hd : decode (hr_cd y) pc = .ok (.bastore, 1)) (ha : hr_ak a = 3) (hl : a < 57) (hi : hr_in i (hr_al (I, J) a) = true) : den y (pc, ls, .int x :: .int i :: .ref a :: st, (I, J)) = den y (pc + 1, ls, st, (up2 I a i.toNatClampNeg x.toInt8.toInt32, J)) := den_step hd (Or.inr rfl) (by simp only [hr_x, if_pos (⟨ha, hl, hi⟩ : hr_ak a = 3 ∧ a < 57 ∧ hr_in i (hr_al (I, J) a) = true)]; rfl)
theorem den_last {i : Int32} {x : Int64} {a : Nat} (hd : decode (hr_cd y) pc = .ok (.lastore, 1)) (ha : hr_ak a = 2) (hi : hr_in i (hr_al (I, J) a) = true) : den y (pc, ls, .long x :: .int i :: .ref a :: st, (I, J)) = den y (pc + 1, ls, st, (I, up2 J a i.toNatClampNeg x)) := den_step hd (Or.inr rfl) (by simp only [hr_x, if_pos (⟨ha, hi⟩ : hr_ak a = 2 ∧ hr_in i (hr_al (I, J) a) = true)]; rfl)
theorem den_alen {a : Nat} (hd : decode (hr_cd y) pc = .ok (.arraylength, 1)) (ha : 0 < hr_ak a) : den y (pc, ls, .ref a :: st, h) = den y (pc + 1, ls, .int (Int32.ofNat (hr_al h a)) :: st, h) := den_step hd (Or.inr rfl) (by simp only [hr_x, if_pos ha]; rfl)
theorem den_iret {v : Int32} (hd : decode (hr_cd y) pc = .ok (.ireturn, 1)) (hr : hr_rt y = some .int) : den y (pc, ls, [.int v], h) = some (some (.int v), h) := den_ret hd (Or.inr rfl) (by simp only [hr_x, hr_ret, hr, Option.getD_some, Option.isSome_some, vp_nar_int, and_self, if_true])
theorem den_zret {v : Int32} (hd : decode (hr_cd y) pc = .ok (.ireturn, 1)) (hr : hr_rt y = some .boolean) (hv : narrow .boolean (.int v) = .int v) : den y (pc, ls, [.int v], h) = some (some (.int v), h) := den_ret hd (Or.inr rfl) (by simp only [hr_x, hr_ret, hr, Option.getD_some, Option.isSome_some, hv, and_self, if_true])
theorem den_nret {v : Int32} (t : FieldType) (hd : decode (hr_cd y) pc = .ok (.ireturn, 1)) (hr : hr_rt y = some t) (hv : narrow t (.int v) = .int v) : den y (pc, ls, [.int v], h) = some (some (.int v), h) := den_ret hd (Or.inr rfl) (by simp only [hr_x, hr_ret, hr, Option.getD_some, Option.isSome_some, hv, and_self, if_true])
theorem den_lret {v : Int64} (hd : decode (hr_cd y) pc = .ok (.lreturn, 1)) (hr : hr_rt y = some .long) : den y (pc, ls, [.long v], h) = some (some (.long v), h) := den_ret hd (Or.inr rfl) (by simp only [hr_x, hr, if_true])
theorem den_aret {v : Nat} (t : String) (hd : decode (hr_cd y) pc = .ok (.areturn, 1)) (hr : hr_rt y = some (.object t)) : den y (pc, ls, [.ref v], h) = some (some (.ref v), h) := den_ret hd (Or.inr rfl) (by simp only [hr_x, hr, if_true])
theorem den_aret0 (t : String) (hd : decode (hr_cd y) pc = .ok (.areturn, 1)) (hr : hr_rt y = some (.object t)) : den y (pc, ls, [.null], h) = some (some .null, h) := den_ret hd (Or.inr rfl) (by simp only [hr_x, hr, if_true])
theorem den_vret (hd : decode (hr_cd y) pc = .ok (.return_, 1)) (hr : hr_rt y = none) : den y (pc, ls, [], h) = some (none, h) := den_ret hd (Or.inr rfl) (by simp only [hr_x, hr, if_true])
/-- a call: the words of it are looked up in the tables -/
theorem den_inv {i b p0 : Nat} (z n c : Nat) (as : List Value) (en : hr_L) (hd : decode (hr_cd y) pc = .ok (.invokevirtual i, 3)) (hm : hr_ml (hr_ow y) i = some (z, 0, p0)) (hn : hr_na z = n ∧ hr_cc z = c ∧ hr_rf z + 1 ≤ hr_rf y ∧ 8 + (hr_mx z + 11) + hr_rl z ≤ hr_rl y) (hs : st.drop n = .ref b :: r ∧ (st.take n).reverse = as) (hb : hr_oc b = c) (hr : hr_cat r ≤ 8) (ho : hr_ok (hr_mx z) (.ref b :: as) = true) (he : hr_en (hr_mx z) (.ref b :: as) = en) :
    den y (pc, ls, st, h) = hr_k y (pc + 3) ls r (den z (0, en, [], h)) := by
  obtain ⟨h1, h2, h3, h4⟩ := hn
  subst h1; subst h2; subst he
  refine den_call hd (Or.inr rfl) ?_ ho
  simp only [hr_x, hr_inv, hm, hs.1, hs.2, if_pos hb, hr_call, if_pos (⟨h3, h4, hr⟩ : hr_rf z + 1 ≤ hr_rf y ∧ 8 + (hr_mx z + 11) + hr_rl z ≤ hr_rl y ∧ hr_cat r ≤ 8)]
theorem den_ins {i k p0 : Nat} (z n : Nat) (as : List Value) (en : hr_L) (hd : decode (hr_cd y) pc = .ok (.invokestatic i, 3)) (hm : hr_ml (hr_ow y) i = some (z, k + 1, p0)) (hno : ¬ (hr_ow y = 5 ∧ i = 231) ∧ ¬ z = nJM_abs ∧ ¬ z = nJM_max) (hn : hr_na z = n ∧ hr_rf z + 1 ≤ hr_rf y ∧ 8 + (hr_mx z + 11) + hr_rl z ≤ hr_rl y) (hs : n ≤ st.length ∧ st.drop n = r ∧ (st.take n).reverse = as) (hr : hr_cat r ≤ 8) (ho : hr_ok (hr_mx z) as = true) (he : hr_en (hr_mx z) as = en) :
    den y (pc, ls, st, h) = hr_k y (pc + 3) ls r (den z (0, en, [], h)) := by
  obtain ⟨h1, h3, h4⟩ := hn
  subst h1; subst he
  refine den_call hd (Or.inr rfl) ?_ ho
  simp only [hr_x, hr_ins, if_neg hno.1, hm, if_neg hno.2.1, if_neg hno.2.2, if_pos hs.1, hs.2.1, hs.2.2, hr_call, if_pos (⟨h3, h4, hr⟩ : hr_rf z + 1 ≤ hr_rf y ∧ 8 + (hr_mx z + 11) + hr_rl z ≤ hr_rl y ∧ hr_cat r ≤ 8)]
theorem den_mabs {i k p0 : Nat} {x : Int32} (hd : decode (hr_cd y) pc = .ok (.invokestatic i, 3)) (hm : hr_ml (hr_ow y) i = some (nJM_abs, k + 1, p0)) (hno : ¬ (hr_ow y = 5 ∧ i = 231)) (hr : 1 ≤ hr_rf y ∧ hr_cat r + 13 ≤ hr_rl y) : den y (pc, ls, .int x :: r, h) = den y (pc + 3, ls, .int (if 0 ≤ x then x else 0 - x) :: r, h) := den_step hd (Or.inr rfl) (by simp only [hr_x, hr_ins, if_neg hno, hm, if_true, if_pos hr]; rfl)
theorem den_mmax {i k p0 : Nat} {a b : Int32} (hd : decode (hr_cd y) pc = .ok (.invokestatic i, 3)) (hm : hr_ml (hr_ow y) i = some (nJM_max, k + 1, p0)) (hno : ¬ (hr_ow y = 5 ∧ i = 231)) (hr : 1 ≤ hr_rf y ∧ hr_cat r + 13 ≤ hr_rl y) : den y (pc, ls, .int b :: .int a :: r, h) = den y (pc + 3, ls, .int (if a < b then b else a) :: r, h) := den_step hd (Or.inr rfl) (by simp only [hr_x, hr_ins, if_neg hno, hm, show ¬ nJM_max = nJM_abs from by decide, if_false, if_true, if_pos hr]; rfl)
theorem den_acpy {sp dp n : Int32} {a b : Nat} (hd : decode (hr_cd y) pc = .ok (.invokestatic 231, 3)) (ho : hr_ow y = 5) (hc : hr_ak a = 2 ∧ hr_ak b = 2 ∧ ¬ n < 0 ∧ ¬ sp < 0 ∧ ¬ dp < 0 ∧ sp.toNatClampNeg + n.toNatClampNeg ≤ hr_al (I, J) a ∧ dp.toNatClampNeg + n.toNatClampNeg ≤ hr_al (I, J) b ∧ 1 ≤ hr_rf y ∧ hr_cat r + 18 ≤ hr_rl y) :
    den y (pc, ls, .int n :: .int dp :: .ref b :: .int sp :: .ref a :: r, (I, J)) = den y (pc + 3, ls, r, (I, hr_cpy J a sp.toNatClampNeg b dp.toNatClampNeg n.toNatClampNeg)) := den_step hd (Or.inr rfl) (by simp only [hr_x, hr_ins, ho, and_true, if_true, if_pos hc]; rfl)
end
