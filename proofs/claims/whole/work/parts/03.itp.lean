/-! ===== the abstract machine: one room of numbers (I: ints, J: longs), what refers to what is fixed ===== -/
abbrev hr_H : Type := (Nat → Nat → Int32) × (Nat → Nat → Int64)
abbrev hr_L : Type := List (Option Value)
abbrev hr_S : Type := Nat × hr_L × List Value × hr_H
abbrev hr_N : Type := hr_S ⊕ (Option Value ⊕ (Nat × List Value × Nat × List Value))
def up2 {α : Type} (f : Nat → Nat → α) (a k : Nat) (x : α) : Nat → Nat → α := fun b j => if b = a ∧ j = k then x else f b j
/-- the class of an object; 99: it is none (an array) -/
def hr_ocl : List Nat := [5, 2, 99, 1, 1, 1, 1, 1, 1, 1, 1, 2, 99, 1, 1, 1, 1, 1, 1, 1, 1, 2, 99, 1, 1, 1, 1, 1, 1, 1, 1, 0, 4, 99, 99, 3, 99, 3, 99, 3, 99, 3, 99, 99, 6]
def hr_oc (a : Nat) : Nat := if 70 ≤ a ∧ a < 83 then 7 else hr_ocl.getD a 99
/-- of what an array is: 1 int, 2 long, 3 byte, 4 char, 5 rocks, 6 sheets; 0: it is none -/
def hr_akl : List Nat := [0, 0, 5, 0, 0, 0, 0, 0, 0, 0, 0, 0, 5, 0, 0, 0, 0, 0, 0, 0, 0, 0, 5, 0, 0, 0, 0, 0, 0, 0, 0, 0, 0, 3, 6, 0, 2, 0, 2, 0, 2, 0, 2, 1, 0, 1, 1, 1, 1, 1, 4, 4, 4, 1, 1, 2, 2, 1, 0, 0, 1, 1, 1]
def hr_ak (a : Nat) : Nat := if 90 ≤ a ∧ a < 103 then 3 else hr_akl.getD a 0
def hr_all : List Nat := [0, 0, 8, 0, 0, 0, 0, 0, 0, 0, 0, 0, 8, 0, 0, 0, 0, 0, 0, 0, 0, 0, 8, 0, 0, 0, 0, 0, 0, 0, 0, 0, 0, 120, 4, 0, 40, 0, 40, 0, 40, 0, 40, 7, 0, 46, 46, 46, 7, 120, 48, 32, 24, 4, 4, 160, 40, 0, 0, 0, 3, 5, 6]
/-- an array's length (the script's, 57, stands among the longs) -/
def hr_al (h : hr_H) (a : Nat) : Nat := if a = 57 then (h.2 57 0).toNatClampNeg else if 90 ≤ a ∧ a < 103 then hr_sl.getD (a - 90) 0 else hr_all.getD a 0
def hr_st0 : List Int32 := [63, 9, 1]
def hr_st1 : List Int32 := [-1, 63, 99, 9, 1]
def hr_st2 : List Int32 := [-1, 0, 0, 0, 1, 2]
/-- what an array of ints, bytes or signs holds at a place -/
def hr_ai (h : hr_H) (a j : Nat) : Int32 :=
  if a < 60 then h.1 a j else if a = 60 then hr_st0.getD j 0 else if a = 61 then hr_st1.getD j 0 else if a = 62 then hr_st2.getD j 0 else (hr_sb.getD (a - 90) []).getD j 0
/-- a field's kind: 0 int, 1 long, 2 reference, 3 boolean -/
def hr_ftl : List (List Nat) := [[0, 0], [0, 0, 0, 0, 0], [0, 0, 0, 0, 0, 0, 2], [0, 0, 2], [2, 0, 0, 0, 0, 0], [2, 2, 2, 3, 2, 2, 2, 2], [2, 2, 2, 3, 2, 2, 0, 0, 0, 0, 1, 2, 2, 2, 2, 2, 2, 2], [2, 4]]
def hr_ft (c k : Nat) : Nat := (hr_ftl.getD c []).getD k 9
def hr_rol : List (Nat × Nat × Nat) := [(0, 0, 1), (0, 1, 11), (0, 2, 21), (0, 4, 31), (0, 5, 32), (0, 6, 34), (0, 7, 43), (1, 6, 2), (11, 6, 12), (21, 6, 22), (32, 0, 33), (35, 2, 36), (37, 2, 38), (39, 2, 40), (41, 2, 42), (44, 0, 45), (44, 1, 46), (44, 2, 47), (44, 4, 48), (44, 5, 49), (44, 11, 50), (44, 12, 51), (44, 13, 52), (44, 14, 53), (44, 15, 54), (44, 16, 55), (44, 17, 56)]
/-- what a reference field refers to -/
def hr_ro (a k : Nat) : Nat := if 70 ≤ a then a + 20 else ((hr_rol.find? (fun e => e.1 == a && e.2.1 == k)).map (fun e => e.2.2)).getD 0
/-- what an array of references holds -/
def hr_ra (a j : Nat) : Nat := if a = 34 then 35 + 2 * j else a + 1 + j
def hr_gf (h : hr_H) (a c k : Nat) : Value := if hr_ft c k = 1 then .long (h.2 a k) else if hr_ft c k = 2 then .ref (hr_ro a k) else if hr_ft c k = 4 then .int 0 else .int (h.1 a k)
/-- fields by own class and place in the pool; those of java/lang/String too (class 7) -/
def hr_fl (o i : Nat) : Option (Nat × Nat) := if o = 10 then (if i = 9 then some (7, 0) else if i = 15 then some (7, 1) else none) else (hr_lf.find? (fun e => e.1 == o && e.2.1 == i)).map (fun e => (e.2.2.1, e.2.2.2.1))
def hr_ml (o i : Nat) : Option (Nat × Nat × Nat) := (hr_lm.find? (fun e => e.1 == o && e.2.1 == i)).map (fun e => (e.2.2.1, e.2.2.2.1, e.2.2.2.2.1))
def hr_gs (o i : Nat) : Option Value := if o = 5 ∧ i = 51 then some (.ref 60) else if o = 5 ∧ i = 137 then some (.ref 61) else if o = 1 ∧ i = 27 then some (.ref 62) else if o = 10 ∧ i = 38 then some (.int 1) else if o = 10 ∧ i = 1053 then some (.ref 69) else none
def hr_ci (o i : Nat) : Option Int32 := (hr_lc.find? (fun e => e.1 == o && e.2.1 == i)).map (fun e => e.2.2.1)
def hr_cj (o i : Nat) : Option Int64 := (hr_ll.find? (fun e => e.1 == o && e.2.1 == i)).map (fun e => e.2.2.1)
def hr_cs (o i : Nat) : Option Nat := if o = 4 then hr_ls.findIdx? (fun e => e.1 == i) else none
def hr_cc (z : Nat) : Nat := if hr_ow z = 10 then 7 else hr_ow z
def hr_in (i : Int32) (n : Nat) : Bool := decide (¬ i < 0) && decide (i.toNatClampNeg < n)
def hr_go (pc : Nat) (ls : hr_L) (st : List Value) (h : hr_H) : Option hr_N := some (.inl (pc, ls, st, h))
def hr_jp (pc : Nat) (off : Int) (ls : hr_L) (st : List Value) (h : hr_H) : Option hr_N := if 0 ≤ (pc : Int) + off then hr_go ((pc : Int) + off).toNat ls st h else none
def hr_cm (c : ClassFile.Cond) (a b : Int32) : Bool := match c with
  | .eq => decide (a = b)
  | .ne => !decide (a = b)
  | .lt => decide (a < b)
  | .ge => decide (b ≤ a)
  | .gt => decide (b < a)
  | .le => decide (a ≤ b)
def hr_is2 : Option (Option Value) → Bool
  | some (some (.long _)) => true
  | some (some (.double _)) => true
  | _ => false
/-- storing into a local of one slot; the slot ahead must hold no long -/
def hr_sto (pc : Nat) (ls : hr_L) (i : Nat) (v : Value) (st : List Value) (h : hr_H) : Option hr_N :=
  if i < ls.length ∧ ((i = 0 ∨ hr_is2 ls[i - 1]? = false)) then hr_go pc (ls.set i (some v)) st h else none
def hr_sto2 (pc : Nat) (ls : hr_L) (i : Nat) (v : Value) (st : List Value) (h : hr_H) : Option hr_N :=
  if i + 1 < ls.length ∧ ((i = 0 ∨ hr_is2 ls[i - 1]? = false)) then hr_go pc ((ls.set i (some v)).set (i + 1) none) st h else none
def hr_ldi (pc : Nat) (ls : hr_L) (i : Nat) (st : List Value) (h : hr_H) : Option hr_N := match ls[i]? with
  | some (some (.int x)) => hr_go pc ls (.int x :: st) h
  | _ => none
def hr_ldl (pc : Nat) (ls : hr_L) (i : Nat) (st : List Value) (h : hr_H) : Option hr_N := match ls[i]? with
  | some (some (.long x)) => hr_go pc ls (.long x :: st) h
  | _ => none
def hr_lda (pc : Nat) (ls : hr_L) (i : Nat) (st : List Value) (h : hr_H) : Option hr_N := match ls[i]? with
  | some (some (.ref x)) => hr_go pc ls (.ref x :: st) h
  | some (some .null) => hr_go pc ls (.null :: st) h
  | _ => none
def hr_sti (pc : Nat) (ls : hr_L) (i : Nat) (st : List Value) (h : hr_H) : Option hr_N := match st with
  | .int x :: r => hr_sto pc ls i (.int x) r h
  | _ => none
def hr_stl (pc : Nat) (ls : hr_L) (i : Nat) (st : List Value) (h : hr_H) : Option hr_N := match st with
  | .long x :: r => hr_sto2 pc ls i (.long x) r h
  | _ => none
def hr_sta (pc : Nat) (ls : hr_L) (i : Nat) (st : List Value) (h : hr_H) : Option hr_N := match st with
  | .ref x :: r => hr_sto pc ls i (.ref x) r h
  | .null :: r => hr_sto pc ls i .null r h
  | _ => none
def hr_bi (f : Int32 → Int32 → Int32) (pc : Nat) (ls : hr_L) (st : List Value) (h : hr_H) : Option hr_N := match st with
  | .int b :: .int a :: r => hr_go (pc + 1) ls (.int (f a b) :: r) h
  | _ => none
def hr_dv (f : Int32 → Int32 → Int32) (pc : Nat) (ls : hr_L) (st : List Value) (h : hr_H) : Option hr_N := match st with
  | .int b :: .int a :: r => if b = 0 then none else hr_go (pc + 1) ls (.int (f a b) :: r) h
  | _ => none
def hr_bl (f : Int64 → Int64 → Int64) (pc : Nat) (ls : hr_L) (st : List Value) (h : hr_H) : Option hr_N := match st with
  | .long b :: .long a :: r => hr_go (pc + 1) ls (.long (f a b) :: r) h
  | _ => none
def hr_un (f : Int32 → Value) (pc : Nat) (ls : hr_L) (st : List Value) (h : hr_H) : Option hr_N := match st with
  | .int a :: r => hr_go (pc + 1) ls (f a :: r) h
  | _ => none
/-- a load from an array of ints, bytes, signs -/
def hr_ld (t : Nat) (pc : Nat) (ls : hr_L) (st : List Value) (h : hr_H) : Option hr_N := match st with
  | .int i :: .ref a :: r => if hr_ak a = t ∧ hr_in i (hr_al h a) = true then hr_go (pc + 1) ls (.int (hr_ai h a i.toNatClampNeg) :: r) h else none
  | _ => none
def hr_nf : Option Value → Value → List Value := fun v r => v.toList ++ [r]
def hr_cat (r : List Value) : Nat := (r.map fun v => v.category).sum
/-- System.arraycopy of longs -/
def hr_cpy (J : Nat → Nat → Int64) (a sp b dp n : Nat) : Nat → Nat → Int64 := fun q j => if q = b then va_cpy (J a) (J b) sp dp n j else J q j
def hr_call (y z pc : Nat) (st : List Value) (args rest : List Value) : Option hr_N :=
  if hr_rf z + 1 ≤ hr_rf y ∧ 8 + (hr_mx z + 11) + hr_rl z ≤ hr_rl y ∧ hr_cat rest ≤ 8 then some (.inr (.inr (z, args, pc + 3, rest))) else none
def hr_inv (y : Nat) (i pc : Nat) (ls : hr_L) (st : List Value) (h : hr_H) : Option hr_N :=
  match hr_ml (hr_ow y) i with
  | some (z, 0, _) => match st.drop (hr_na z) with
    | .ref b :: r => if hr_oc b = hr_cc z then hr_call y z pc st (.ref b :: (st.take (hr_na z)).reverse) r else none
    | _ => none
  | _ => none
def hr_ins (y : Nat) (i pc : Nat) (ls : hr_L) (st : List Value) (h : hr_H) : Option hr_N :=
  if hr_ow y = 5 ∧ i = 231 then
    match st with
    | .int n :: .int dp :: .ref b :: .int sp :: .ref a :: r =>
      if hr_ak a = 2 ∧ hr_ak b = 2 ∧ ¬ n < 0 ∧ ¬ sp < 0 ∧ ¬ dp < 0 ∧ sp.toNatClampNeg + n.toNatClampNeg ≤ hr_al h a ∧ dp.toNatClampNeg + n.toNatClampNeg ≤ hr_al h b ∧ 1 ≤ hr_rf y ∧ hr_cat r + 18 ≤ hr_rl y
      then hr_go (pc + 3) ls r (h.1, hr_cpy h.2 a sp.toNatClampNeg b dp.toNatClampNeg n.toNatClampNeg) else none
    | _ => none
  else match hr_ml (hr_ow y) i with
  | some (z, _ + 1, _) => if z = nJM_abs then
        match st with
        | .int x :: r => if 1 ≤ hr_rf y ∧ hr_cat r + 13 ≤ hr_rl y then hr_go (pc + 3) ls (.int (if 0 ≤ x then x else 0 - x) :: r) h else none
        | _ => none
      else if z = nJM_max then
        match st with
        | .int b :: .int a :: r => if 1 ≤ hr_rf y ∧ hr_cat r + 13 ≤ hr_rl y then hr_go (pc + 3) ls (.int (if a < b then b else a) :: r) h else none
        | _ => none
      else if hr_na z ≤ st.length then hr_call y z pc st (st.take (hr_na z)).reverse (st.drop (hr_na z)) else none
  | _ => none
def hr_ret (y : Nat) (st : List Value) : Option hr_N := match st with
  | [.int v] => if narrow ((hr_rt y).getD .int) (.int v) = .int v ∧ (hr_rt y).isSome = true then some (.inr (.inl (some (.int v)))) else none
  | _ => none
/-- one instruction -/
def hr_x (y : Nat) (op : Instr) (pc : Nat) (ls : hr_L) (st : List Value) (h : hr_H) : Option hr_N :=
  match op with
  | .iconst n => hr_go (pc + 1) ls (.int (Int32.ofInt n) :: st) h
  | .bipush n => hr_go (pc + 2) ls (.int (Int8.ofInt n).toInt32 :: st) h
  | .sipush n => hr_go (pc + 3) ls (.int (Int16.ofInt n).toInt32 :: st) h
  | .lconst n => hr_go (pc + 1) ls (.long (Int64.ofNat (n : Nat)) :: st) h
  | .aconst_null => hr_go (pc + 1) ls (.null :: st) h
  | .iload_n i => hr_ldi (pc + 1) ls i st h
  | .iload i => hr_ldi (pc + 2) ls i st h
  | .lload_n i => hr_ldl (pc + 1) ls i st h
  | .lload i => hr_ldl (pc + 2) ls i st h
  | .aload_n i => hr_lda (pc + 1) ls i st h
  | .aload i => hr_lda (pc + 2) ls i st h
  | .istore_n i => hr_sti (pc + 1) ls i st h
  | .istore i => hr_sti (pc + 2) ls i st h
  | .lstore i => hr_stl (pc + 2) ls i st h
  | .astore_n i => hr_sta (pc + 1) ls i st h
  | .astore i => hr_sta (pc + 2) ls i st h
  | .iinc i n => match ls[i]? with
    | some (some (.int x)) => hr_sto (pc + 3) ls i (.int (x + Int32.ofInt n)) st h
    | _ => none
  | .iadd => hr_bi (· + ·) pc ls st h
  | .isub => hr_bi (· - ·) pc ls st h
  | .imul => hr_bi (· * ·) pc ls st h
  | .iand => hr_bi (· &&& ·) pc ls st h
  | .ior => hr_bi (· ||| ·) pc ls st h
  | .ishl => hr_bi (fun x y => x <<< (y &&& 31)) pc ls st h
  | .ishr => hr_bi (fun x y => x >>> (y &&& 31)) pc ls st h
  | .iushr => hr_bi (fun x y => (x.toUInt32 >>> (y.toUInt32 &&& Int32.toUInt32 31)).toInt32) pc ls st h
  | .idiv => hr_dv (· / ·) pc ls st h
  | .irem => hr_dv (fun x y => x - x / y * y) pc ls st h
  | .ladd => hr_bl (· + ·) pc ls st h
  | .lsub => hr_bl (· - ·) pc ls st h
  | .lmul => hr_bl (· * ·) pc ls st h
  | .land => hr_bl (· &&& ·) pc ls st h
  | .lor => hr_bl (· ||| ·) pc ls st h
  | .lshl => match st with
    | .int b :: .long a :: r => hr_go (pc + 1) ls (.long (a <<< (b.toInt64 &&& 63)) :: r) h
    | _ => none
  | .lcmp => match st with
    | .long b :: .long a :: r => hr_go (pc + 1) ls (.int (lg_cmp a b) :: r) h
    | _ => none
  | .l2i => match st with
    | .long a :: r => hr_go (pc + 1) ls (.int a.toInt32 :: r) h
    | _ => none
  | .ineg => hr_un (fun x => .int (-x)) pc ls st h
  | .i2l => hr_un (fun x => .long x.toInt64) pc ls st h
  | .i2b => hr_un (fun x => .int x.toInt8.toInt32) pc ls st h
  | .i2s => hr_un (fun x => .int x.toInt16.toInt32) pc ls st h
  | .i2c => hr_un (fun x => .int (x.toUInt32 % 65536).toInt32) pc ls st h
  | .dup => match st with
    | v :: r => if v.category = 1 then hr_go (pc + 1) ls (v :: v :: r) h else none
    | _ => none
  | .dup2 => match st with
    | v :: w :: r => if v.category = 1 ∧ w.category = 1 then hr_go (pc + 1) ls (v :: w :: v :: w :: r) h else none
    | _ => none
  | .pop => match st with
    | v :: r => if v.category = 1 then hr_go (pc + 1) ls r h else none
    | _ => none
  | .goto off => hr_jp pc off ls st h
  | .ifCond c off => match st with
    | .int a :: r => if hr_cm c a 0 = true then hr_jp pc off ls r h else hr_go (pc + 3) ls r h
    | _ => none
  | .if_icmp c off => match st with
    | .int b :: .int a :: r => if hr_cm c a b = true then hr_jp pc off ls r h else hr_go (pc + 3) ls r h
    | _ => none
  | .ifnonnull off => match st with
    | .ref a :: r => if a = 69 then none else hr_jp pc off ls r h
    | .null :: r => hr_go (pc + 3) ls r h
    | _ => none
  | .tableswitch d lo hi offs => match st with
    | .int x :: r => if x.toInt < lo ∨ hi < x.toInt then hr_jp pc d ls r h else match offs[(x.toInt - lo).toNat]? with
      | some off => hr_jp pc off ls r h
      | none => none
    | _ => none
  | .lookupswitch d ps => match st with
    | .int x :: r => if (ps.toList.zip (ps.toList.drop 1)).all (fun (a, next) => a.1 < next.1) = true then hr_jp pc (Op.lookupswitch.offset ps.toList d x.toInt) ls r h else none
    | _ => none
  | .ldc i => match hr_ci (hr_ow y) i with
    | some v => hr_go (pc + 2) ls (.int v :: st) h
    | none => match hr_cs (hr_ow y) i with
      | some k => hr_go (pc + 2) ls (.ref (70 + k) :: st) h
      | none => none
  | .ldc_w i => match hr_ci (hr_ow y) i with
    | some v => hr_go (pc + 3) ls (.int v :: st) h
    | none => none
  | .ldc2_w i => match hr_cj (hr_ow y) i with
    | some v => hr_go (pc + 3) ls (.long v :: st) h
    | none => none
  | .getstatic i => match hr_gs (hr_ow y) i with
    | some v => hr_go (pc + 3) ls (v :: st) h
    | none => none
  | .getfield i => match st with
    | .ref a :: r => match hr_fl (hr_ow y) i with
      | some (c, k) => if hr_oc a = c then hr_go (pc + 3) ls (hr_gf h a c k :: r) h else none
      | none => none
    | _ => none
  | .putfield i => match st with
    | .int x :: .ref a :: r => match hr_fl (hr_ow y) i with
      | some (c, k) => if hr_oc a = c ∧ (hr_ft c k = 0 ∨ (hr_ft c k = 3 ∧ (x = 0 ∨ x = 1))) then hr_go (pc + 3) ls r (up2 h.1 a k x, h.2) else none
      | none => none
    | .long x :: .ref a :: r => match hr_fl (hr_ow y) i with
      | some (c, k) => if hr_oc a = c ∧ hr_ft c k = 1 then hr_go (pc + 3) ls r (h.1, up2 h.2 a k x) else none
      | none => none
    | _ => none
  | .iaload => hr_ld 1 pc ls st h
  | .baload => hr_ld 3 pc ls st h
  | .caload => hr_ld 4 pc ls st h
  | .laload => match st with
    | .int i :: .ref a :: r => if hr_ak a = 2 ∧ hr_in i (hr_al h a) = true then hr_go (pc + 1) ls (.long (h.2 a i.toNatClampNeg) :: r) h else none
    | _ => none
  | .aaload => match st with
    | .int i :: .ref a :: r => if (hr_ak a = 5 ∨ hr_ak a = 6) ∧ hr_in i (hr_al h a) = true then hr_go (pc + 1) ls (.ref (hr_ra a i.toNatClampNeg) :: r) h else none
    | _ => none
  | .iastore => match st with
    | .int x :: .int i :: .ref a :: r => if hr_ak a = 1 ∧ a < 57 ∧ hr_in i (hr_al h a) = true then hr_go (pc + 1) ls r (up2 h.1 a i.toNatClampNeg x, h.2) else none
    | _ => none
  | .bastore => match st with
    | .int x :: .int i :: .ref a :: r => if hr_ak a = 3 ∧ a < 57 ∧ hr_in i (hr_al h a) = true then hr_go (pc + 1) ls r (up2 h.1 a i.toNatClampNeg x.toInt8.toInt32, h.2) else none
    | _ => none
  | .lastore => match st with
    | .long x :: .int i :: .ref a :: r => if hr_ak a = 2 ∧ hr_in i (hr_al h a) = true then hr_go (pc + 1) ls r (h.1, up2 h.2 a i.toNatClampNeg x) else none
    | _ => none
  | .arraylength => match st with
    | .ref a :: r => if 0 < hr_ak a then hr_go (pc + 1) ls (.int (Int32.ofNat (hr_al h a)) :: r) h else none
    | _ => none
  | .invokevirtual i => hr_inv y i pc ls st h
  | .invokestatic i => hr_ins y i pc ls st h
  | .ireturn => hr_ret y st
  | .lreturn => match st with
    | [.long v] => if hr_rt y = some .long then some (.inr (.inl (some (.long v)))) else none
    | _ => none
  | .areturn => match st with
    | [.ref v] => if (match hr_rt y with | some (.object _) => true | _ => false) = true then some (.inr (.inl (some (.ref v)))) else none
    | [.null] => if (match hr_rt y with | some (.object _) => true | _ => false) = true then some (.inr (.inl (some .null))) else none
    | _ => none
  | .return_ => match st with
    | [] => if hr_rt y = none then some (.inr (.inl none)) else none
    | _ => none
  | _ => none
/-- how long an instruction is (0: any length) -/
def hr_ln (op : Instr) : Nat := match op with
  | .bipush _ => 2
  | .sipush _ => 3
  | .iload _ => 2
  | .lload _ => 2
  | .aload _ => 2
  | .istore _ => 2
  | .lstore _ => 2
  | .astore _ => 2
  | .iinc _ _ => 3
  | .goto _ => 3
  | .ifCond _ _ => 3
  | .if_icmp _ _ => 3
  | .ifnonnull _ => 3
  | .tableswitch _ _ _ _ => 0
  | .lookupswitch _ _ => 0
  | .ldc _ => 2
  | .ldc_w _ => 3
  | .ldc2_w _ => 3
  | .getstatic _ => 3
  | .getfield _ => 3
  | .putfield _ => 3
  | .invokevirtual _ => 3
  | .invokestatic _ => 3
  | _ => 1
/-- a method's locals at its start -/
def hr_en (n : Nat) (args : List Value) : hr_L :=
  let a := args.flatMap (fun v => if v.category = 2 then [some v, none] else [some v])
  a ++ List.replicate (n - a.length) none
def hr_ok (n : Nat) (args : List Value) : Bool := decide ((args.flatMap (fun v => if v.category = 2 then [some v, (none : Option Value)] else [some v])).length ≤ n)
def hr_run : Nat → Nat → hr_S → Option (Option Value × hr_H)
  | 0, _, _ => none
  | n + 1, y, s => match decode (hr_cd y) s.1 with
    | .ok (op, len) => if hr_ln op = 0 ∨ len = hr_ln op then
        match hr_x y op s.1 s.2.1 s.2.2.1 s.2.2.2 with
        | some (.inl s') => hr_run n y s'
        | some (.inr (.inl v)) => some (v, s.2.2.2)
        | some (.inr (.inr (z, args, pc', rest))) => if hr_ok (hr_mx z) args = true then
            match hr_run n z (0, hr_en (hr_mx z) args, [], s.2.2.2) with
            | some (v, h') => hr_run n y (pc', s.2.1, v.toList ++ rest, h')
            | none => none
          else none
        | none => none
      else none
    | .error _ => none
theorem hr_run_mono : ∀ (n : Nat) (y : Nat) (s : hr_S) (r : Option Value × hr_H), hr_run n y s = some r → hr_run (n + 1) y s = some r := by
  intro n
  induction n with
  | zero => intro y s r h; cases h
  | succ n ih =>
    intro y s r h
    rw [hr_run] at h ⊢
    cases hd : decode (hr_cd y) s.1 with
    | error e => simp only [hd] at h; cases h
    | ok q =>
      obtain ⟨op, len⟩ := q
      simp only [hd] at h ⊢
      by_cases hl : hr_ln op = 0 ∨ len = hr_ln op
      · simp only [hl, if_true] at h ⊢
        cases hx : hr_x y op s.1 s.2.1 s.2.2.1 s.2.2.2 with
        | none => simp only [hx] at h; cases h
        | some q =>
          rcases q with s' | v | ⟨z, args, pc', rest⟩
          · simp only [hx] at h ⊢; exact ih _ _ _ h
          · simp only [hx] at h ⊢; exact h
          · simp only [hx] at h ⊢
            by_cases hk : hr_ok (hr_mx z) args = true
            · simp only [hk, if_true] at h ⊢
              cases hc : hr_run n z (0, hr_en (hr_mx z) args, [], s.2.2.2) with
              | none => simp only [hc] at h; cases h
              | some q =>
                obtain ⟨v, h'⟩ := q
                simp only [hc] at h
                simp only [ih _ _ _ hc]
                exact ih _ _ _ h
            · simp only [hk] at h; cases h
      · simp only [hl, if_false] at h; cases h
theorem hr_run_le {n k : Nat} {y : Nat} {s : hr_S} {r : Option Value × hr_H} (h : hr_run n y s = some r) (hk : n ≤ k) : hr_run k y s = some r := by
  induction k with
  | zero => have : n = 0 := by omega
            subst this; exact h
  | succ k ih =>
    by_cases e : n = k + 1
    · subst e; exact h
    · exact hr_run_mono _ _ _ _ (ih (by omega))
theorem hr_run_det {n k : Nat} {y : Nat} {s : hr_S} {r q : Option Value × hr_H} (h : hr_run n y s = some r) (g : hr_run k y s = some q) : r = q := by
  have h1 := hr_run_le h (Nat.le_max_left n k)
  have h2 := hr_run_le g (Nat.le_max_right n k)
  rw [h1] at h2
  exact Option.some.inj h2
/-- what a run comes to; none: it comes to nothing -/
noncomputable def den (y : Nat) (s : hr_S) : Option (Option Value × hr_H) := by
  classical
  exact if h : ∃ r n, hr_run n y s = some r then some h.choose else none
theorem den_of {y : Nat} {s : hr_S} {n : Nat} {r : Option Value × hr_H} (h : hr_run n y s = some r) : den y s = some r := by
  have e : ∃ r n, hr_run n y s = some r := ⟨r, n, h⟩
  unfold den
  rw [dif_pos e]
  obtain ⟨k, hk⟩ := e.choose_spec
  exact congrArg some (hr_run_det hk h)
theorem den_run {y : Nat} {s : hr_S} {r : Option Value × hr_H} (h : den y s = some r) : ∃ n, hr_run n y s = some r := by
  unfold den at h
  split at h
  next e =>
    obtain ⟨k, hk⟩ := e.choose_spec
    cases h
    exact ⟨k, hk⟩
  next => cases h
theorem den_congr {y : Nat} {s t : hr_S} (h1 : ∀ n r, hr_run n y s = some r → ∃ k, hr_run k y t = some r) (h2 : ∀ n r, hr_run n y t = some r → ∃ k, hr_run k y s = some r) : den y s = den y t := by
  cases ht : den y t with
  | some r =>
    obtain ⟨n, hn⟩ := den_run ht
    obtain ⟨k, hk⟩ := h2 n r hn
    exact den_of hk
  | none =>
    cases hs : den y s with
    | none => rfl
    | some r =>
      obtain ⟨n, hn⟩ := den_run hs
      obtain ⟨k, hk⟩ := h1 n r hn
      rw [den_of hk] at ht
      cases ht
theorem den_step {y pc len : Nat} {op : Instr} {ls : hr_L} {st : List Value} {h : hr_H} {s' : hr_S} (hd : decode (hr_cd y) pc = .ok (op, len)) (hl : hr_ln op = 0 ∨ len = hr_ln op) (hx : hr_x y op pc ls st h = some (.inl s')) : den y (pc, ls, st, h) = den y s' := by
  have key : ∀ n, hr_run (n + 1) y (pc, ls, st, h) = hr_run n y s' := by
    intro n
    rw [hr_run]
    simp only [hd, hl, if_true, hx]
  refine den_congr (fun n r hr => ?_) (fun n r hr => ⟨n + 1, by rw [key]; exact hr⟩)
  cases n with
  | zero => cases hr
  | succ n => rw [key] at hr; exact ⟨n, hr⟩
theorem den_ret {y pc len : Nat} {op : Instr} {ls : hr_L} {st : List Value} {h : hr_H} {v : Option Value} (hd : decode (hr_cd y) pc = .ok (op, len)) (hl : hr_ln op = 0 ∨ len = hr_ln op) (hx : hr_x y op pc ls st h = some (.inr (.inl v))) : den y (pc, ls, st, h) = some (v, h) := by
  refine den_of (n := 1) ?_
  rw [hr_run]
  simp only [hd, hl, if_true, hx]
/-- what goes on behind a call -/
noncomputable def hr_k (y pc : Nat) (ls : hr_L) (rest : List Value) (o : Option (Option Value × hr_H)) : Option (Option Value × hr_H) := match o with
  | some (v, h') => den y (pc, ls, v.toList ++ rest, h')
  | none => none
theorem hr_k_some {y pc : Nat} {ls : hr_L} {rest : List Value} {v : Option Value} {h' : hr_H} : hr_k y pc ls rest (some (v, h')) = den y (pc, ls, v.toList ++ rest, h') := rfl
theorem den_call {y pc len z pc' : Nat} {op : Instr} {ls : hr_L} {st args rest : List Value} {h : hr_H} (hd : decode (hr_cd y) pc = .ok (op, len)) (hl : hr_ln op = 0 ∨ len = hr_ln op) (hx : hr_x y op pc ls st h = some (.inr (.inr (z, args, pc', rest)))) (hk : hr_ok (hr_mx z) args = true) :
    den y (pc, ls, st, h) = hr_k y pc' ls rest (den z (0, hr_en (hr_mx z) args, [], h)) := by
  have key : ∀ n, hr_run (n + 1) y (pc, ls, st, h) = match hr_run n z (0, hr_en (hr_mx z) args, [], h) with
      | some (v, h') => hr_run n y (pc', ls, v.toList ++ rest, h')
      | none => none := by
    intro n
    rw [hr_run]
    simp only [hd, hl, if_true, hx, hk]
  cases hz : den z (0, hr_en (hr_mx z) args, [], h) with
  | none =>
    cases hs : den y (pc, ls, st, h) with
    | none => rfl
    | some r =>
      obtain ⟨n, hn⟩ := den_run hs
      cases n with
      | zero => cases hn
      | succ n =>
        rw [key] at hn
        split at hn
        next v h' hc => rw [den_of hc] at hz; cases hz
        next => cases hn
  | some q =>
    obtain ⟨v, h'⟩ := q
    obtain ⟨n0, hn0⟩ := den_run hz
    rw [hr_k_some]
    cases ht : den y (pc', ls, v.toList ++ rest, h') with
    | some r =>
      obtain ⟨n, hn⟩ := den_run ht
      refine den_of (n := max n0 n + 1) ?_
      rw [key, hr_run_le hn0 (Nat.le_max_left _ _)]
      exact hr_run_le hn (Nat.le_max_right _ _)
    | none =>
      cases hs : den y (pc, ls, st, h) with
      | none => rfl
      | some r =>
        obtain ⟨n, hn⟩ := den_run hs
        cases n with
        | zero => cases hn
        | succ n =>
          rw [key] at hn
          split at hn
          next v2 h2 hc =>
            have e := hr_run_det hc hn0
            cases e
            rw [den_of hn] at ht
            cases ht
          next => cases hn
