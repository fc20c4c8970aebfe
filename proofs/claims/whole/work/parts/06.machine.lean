/-! THE SMALL MACHINE. Cells are numbered 0, 1, 2 .. in the order in which they are made; what they hold is three tables of numbers, longs and references.
    A constant row (the script, static rows, texts) has a number from am_K0 on. am_ex runs a method; am_Sim (part 06) says that the machine of the Statement does the same. -/
abbrev am_K0 : Nat := 1000000
/-- how many cells, how many slots; each cell's kind and length; numbers, longs, references by cell and place -/
abbrev am_H : Type := Nat × Nat × (Nat → Nat × Nat) × (Nat → Nat → Int32) × (Nat → Nat → Int64) × (Nat → Nat → Option Nat)
abbrev am_X : Type := Nat → Nat × (Nat → Int32)
abbrev am_L : Type := List (Option Value)
def am_uI (I : Nat → Nat → Int32) (a k : Nat) (v : Int32) : Nat → Nat → Int32 := fun b => if b = a then upd (I a) k v else I b
def am_uJ (J : Nat → Nat → Int64) (a k : Nat) (v : Int64) : Nat → Nat → Int64 := fun b => if b = a then vp_updL (J a) k v else J b
def am_uF (F : Nat → Nat → Option Nat) (a k : Nat) (v : Option Nat) : Nat → Nat → Option Nat := fun b => if b = a then va_up (F a) k v else F b
/-- a whole row anew -/
def am_ro {α : Type} (T : Nat → α) (a : Nat) (f : α) : Nat → α := fun b => if b = a then f else T b
/-- a new cell -/
def am_nw (h : am_H) (kd len : Nat) (f : Nat → Int32) : am_H := (h.1 + 1, h.2.1 + len, am_ro h.2.2.1 h.1 (kd, len), am_ro h.2.2.2.1 h.1 f, am_ro h.2.2.2.2.1 h.1 (fun _ => 0), am_ro h.2.2.2.2.2 h.1 (fun _ => none))
def am_kill (L : am_L) (i : Nat) : am_L := match i with
  | 0 => L
  | j + 1 => match L[j]? with
    | some (some v) => if v.category = 2 then L.set j none else L
    | _ => L
def am_s1 (L : am_L) (i : Nat) (v : Value) : am_L := (am_kill L i).set i (some v)
def am_s2 (L : am_L) (i : Nat) (v : Value) : am_L := ((am_kill L i).set i (some v)).set (i + 1) none
def am_ar : List Value → am_L
  | [] => []
  | v :: r => if v.category = 2 then some v :: none :: am_ar r else some v :: am_ar r
def am_en (n : Nat) (vs : List Value) : am_L := am_ar vs ++ List.replicate (n - (am_ar vs).length) none
def am_tg (pc : Nat) (off : Int) : Option Nat := match (pc : Int) + off with
  | .ofNat t => some t
  | .negSucc _ => none
theorem am_tg_ok {pc : Nat} {off : Int} {t : Nat} (h : am_tg pc off = some t) : (pc : Int) + off = (t : Int) := by
  unfold am_tg at h
  split at h
  · rename_i x e
    cases h
    exact e
  · cases h
def am_br (c : Bool) (pc : Nat) (off : Int) (L : am_L) (st : List Value) : Option (Nat × am_L × List Value) := match am_tg pc off with
  | some t => if c then some (t, L, st) else some (pc + 3, L, st)
  | none => none
def am_sz (st : List Value) : Nat := (st.map fun v => v.category).sum
/-- what touches no cell -/
def am_opP (i : Instr) (len pc : Nat) (L : am_L) (st : List Value) : Option (Nat × am_L × List Value) := match i with
  | .iconst n => match len with
    | 1 => some (pc + 1, L, .int (Int32.ofInt n) :: st)
    | _ => none
  | .bipush n => match len with
    | 2 => some (pc + 2, L, .int (Int8.ofInt n).toInt32 :: st)
    | _ => none
  | .sipush n => match len with
    | 3 => some (pc + 3, L, .int (Int16.ofInt n).toInt32 :: st)
    | _ => none
  | .lconst n => match len with
    | 1 => some (pc + 1, L, .long (Int64.ofNat (n : Nat)) :: st)
    | _ => none
  | .aconst_null => match len with
    | 1 => some (pc + 1, L, .null :: st)
    | _ => none
  | .iload k => match len, L[k]? with
    | 2, some (some (.int x)) => some (pc + 2, L, .int x :: st)
    | _, _ => none
  | .iload_n k => match len, L[(k : Nat)]? with
    | 1, some (some (.int x)) => some (pc + 1, L, .int x :: st)
    | _, _ => none
  | .lload k => match len, L[k]? with
    | 2, some (some (.long x)) => some (pc + 2, L, .long x :: st)
    | _, _ => none
  | .lload_n k => match len, L[(k : Nat)]? with
    | 1, some (some (.long x)) => some (pc + 1, L, .long x :: st)
    | _, _ => none
  | .aload k => match len, L[k]? with
    | 2, some (some (.ref x)) => some (pc + 2, L, .ref x :: st)
    | 2, some (some .null) => some (pc + 2, L, .null :: st)
    | _, _ => none
  | .aload_n k => match len, L[(k : Nat)]? with
    | 1, some (some (.ref x)) => some (pc + 1, L, .ref x :: st)
    | 1, some (some .null) => some (pc + 1, L, .null :: st)
    | _, _ => none
  | .istore k => match len, st with
    | 2, .int x :: r => if k < L.length then some (pc + 2, am_s1 L k (.int x), r) else none
    | _, _ => none
  | .istore_n k => match len, st with
    | 1, .int x :: r => if (k : Nat) < L.length then some (pc + 1, am_s1 L k (.int x), r) else none
    | _, _ => none
  | .lstore k => match len, st with
    | 2, .long x :: r => if k + 1 < L.length then some (pc + 2, am_s2 L k (.long x), r) else none
    | _, _ => none
  | .lstore_n k => match len, st with
    | 1, .long x :: r => if (k : Nat) + 1 < L.length then some (pc + 1, am_s2 L k (.long x), r) else none
    | _, _ => none
  | .astore k => match len, st with
    | 2, .ref x :: r => if k < L.length then some (pc + 2, am_s1 L k (.ref x), r) else none
    | 2, .null :: r => if k < L.length then some (pc + 2, am_s1 L k .null, r) else none
    | _, _ => none
  | .astore_n k => match len, st with
    | 1, .ref x :: r => if (k : Nat) < L.length then some (pc + 1, am_s1 L k (.ref x), r) else none
    | 1, .null :: r => if (k : Nat) < L.length then some (pc + 1, am_s1 L k .null, r) else none
    | _, _ => none
  | .iinc k n => match len, L[k]? with
    | 3, some (some (.int x)) => some (pc + 3, am_s1 L k (.int (x + Int32.ofInt n)), st)
    | _, _ => none
  | .iadd => match len, st with
    | 1, .int y :: .int x :: r => some (pc + 1, L, .int (x + y) :: r)
    | _, _ => none
  | .isub => match len, st with
    | 1, .int y :: .int x :: r => some (pc + 1, L, .int (x - y) :: r)
    | _, _ => none
  | .imul => match len, st with
    | 1, .int y :: .int x :: r => some (pc + 1, L, .int (x * y) :: r)
    | _, _ => none
  | .iand => match len, st with
    | 1, .int y :: .int x :: r => some (pc + 1, L, .int (x &&& y) :: r)
    | _, _ => none
  | .ior => match len, st with
    | 1, .int y :: .int x :: r => some (pc + 1, L, .int (x ||| y) :: r)
    | _, _ => none
  | .ixor => match len, st with
    | 1, .int y :: .int x :: r => some (pc + 1, L, .int (x ^^^ y) :: r)
    | _, _ => none
  | .ishl => match len, st with
    | 1, .int y :: .int x :: r => some (pc + 1, L, .int (x <<< (y &&& 31)) :: r)
    | _, _ => none
  | .ishr => match len, st with
    | 1, .int y :: .int x :: r => some (pc + 1, L, .int (x >>> (y &&& 31)) :: r)
    | _, _ => none
  | .iushr => match len, st with
    | 1, .int y :: .int x :: r => some (pc + 1, L, .int (x.toUInt32 >>> (y.toUInt32 &&& Int32.toUInt32 31)).toInt32 :: r)
    | _, _ => none
  | .idiv => match len, st with
    | 1, .int y :: .int x :: r => if y = 0 then none else some (pc + 1, L, .int (x / y) :: r)
    | _, _ => none
  | .irem => match len, st with
    | 1, .int y :: .int x :: r => if y = 0 then none else some (pc + 1, L, .int (x - x / y * y) :: r)
    | _, _ => none
  | .ineg => match len, st with
    | 1, .int x :: r => some (pc + 1, L, .int (-x) :: r)
    | _, _ => none
  | .ladd => match len, st with
    | 1, .long y :: .long x :: r => some (pc + 1, L, .long (x + y) :: r)
    | _, _ => none
  | .lsub => match len, st with
    | 1, .long y :: .long x :: r => some (pc + 1, L, .long (x - y) :: r)
    | _, _ => none
  | .lmul => match len, st with
    | 1, .long y :: .long x :: r => some (pc + 1, L, .long (x * y) :: r)
    | _, _ => none
  | .land => match len, st with
    | 1, .long y :: .long x :: r => some (pc + 1, L, .long (x &&& y) :: r)
    | _, _ => none
  | .ldiv => match len, st with
    | 1, .long y :: .long x :: r => if y = 0 then none else some (pc + 1, L, .long (x / y) :: r)
    | _, _ => none
  | .lrem => match len, st with
    | 1, .long y :: .long x :: r => if y = 0 then none else some (pc + 1, L, .long (x - x / y * y) :: r)
    | _, _ => none
  | .lneg => match len, st with
    | 1, .long x :: r => some (pc + 1, L, .long (-x) :: r)
    | _, _ => none
  | .lshr => match len, st with
    | 1, .int y :: .long x :: r => some (pc + 1, L, .long (x >>> (y.toInt64 &&& 63)) :: r)
    | _, _ => none
  | .lcmp => match len, st with
    | 1, .long y :: .long x :: r => some (pc + 1, L, .int (lg_cmp x y) :: r)
    | _, _ => none
  | .i2l => match len, st with
    | 1, .int x :: r => some (pc + 1, L, .long x.toInt64 :: r)
    | _, _ => none
  | .l2i => match len, st with
    | 1, .long x :: r => some (pc + 1, L, .int x.toInt32 :: r)
    | _, _ => none
  | .i2b => match len, st with
    | 1, .int x :: r => some (pc + 1, L, .int x.toInt8.toInt32 :: r)
    | _, _ => none
  | .dup => match len, st with
    | 1, v :: r => if v.category = 1 then some (pc + 1, L, v :: v :: r) else none
    | _, _ => none
  | .pop => match len, st with
    | 1, v :: r => if v.category = 1 then some (pc + 1, L, r) else none
    | _, _ => none
  | .dup2 => match len, st with
    | 1, v :: w :: r => if v.category = 1 ∧ w.category = 1 then some (pc + 1, L, v :: w :: v :: w :: r) else none
    | _, _ => none
  | .goto off => match len, am_tg pc off with
    | 3, some t => some (t, L, st)
    | _, _ => none
  | .ifCond c off => match len, st with
    | 3, .int x :: r => match c with
      | .eq => am_br (decide (x = 0)) pc off L r
      | .ne => am_br (decide (¬ x = 0)) pc off L r
      | .lt => am_br (decide (x < 0)) pc off L r
      | .ge => am_br (decide (0 ≤ x)) pc off L r
      | .gt => am_br (decide (0 < x)) pc off L r
      | .le => am_br (decide (x ≤ 0)) pc off L r
    | _, _ => none
  | .if_icmp c off => match len, st with
    | 3, .int y :: .int x :: r => match c with
      | .eq => am_br (decide (x = y)) pc off L r
      | .ne => am_br (decide (¬ x = y)) pc off L r
      | .lt => am_br (decide (x < y)) pc off L r
      | .ge => am_br (decide (y ≤ x)) pc off L r
      | .gt => am_br (decide (y < x)) pc off L r
      | .le => am_br (decide (x ≤ y)) pc off L r
    | _, _ => none
  | .ifnull off => match len, st with
    | 3, .ref _ :: r => some (pc + 3, L, r)
    | 3, .null :: r => match am_tg pc off with
      | some t => some (t, L, r)
      | none => none
    | _, _ => none
  | .ifnonnull off => match len, st with
    | 3, .null :: r => some (pc + 3, L, r)
    | 3, .ref _ :: r => match am_tg pc off with
      | some t => some (t, L, r)
      | none => none
    | _, _ => none
  | .tableswitch dflt lo hi offs => match st with
    | .int x :: r => if x.toInt < lo ∨ hi < x.toInt then (match am_tg pc dflt with
        | some t => some (t, L, r)
        | none => none) else (match offs[(x.toInt - lo).toNat]? with
        | some off => (match am_tg pc off with
          | some t => some (t, L, r)
          | none => none)
        | none => none)
    | _ => none
  | _ => none
/-- what a field holds -/
def am_rd (h : am_H) (c a k : Nat) : Value := match am_ft c k with
  | 1 => .long (h.2.2.2.2.1 a k)
  | 2 => va_rf (h.2.2.2.2.2 a k)
  | _ => .int (h.2.2.2.1 a k)
/-- a field is written -/
def am_wr (h : am_H) (c a k : Nat) (v : Value) : Option am_H := match am_ft c k, v with
  | 0, .int x => some (h.1, h.2.1, h.2.2.1, am_uI h.2.2.2.1 a k x, h.2.2.2.2)
  | 1, .long x => some (h.1, h.2.1, h.2.2.1, h.2.2.2.1, am_uJ h.2.2.2.2.1 a k x, h.2.2.2.2.2)
  | 2, .ref b => some (h.1, h.2.1, h.2.2.1, h.2.2.2.1, h.2.2.2.2.1, am_uF h.2.2.2.2.2 a k (some b))
  | 2, .null => some (h.1, h.2.1, h.2.2.1, h.2.2.2.1, h.2.2.2.2.1, am_uF h.2.2.2.2.2 a k none)
  | 3, .int x => if x = 0 ∨ x = 1 then some (h.1, h.2.1, h.2.2.1, am_uI h.2.2.2.1 a k x, h.2.2.2.2) else none
  | _, _ => none
def am_in0 (i : Int32) (n : Nat) : Prop := ¬ (i < 0 ∨ n ≤ i.toNatClampNeg)
def am_tx (j : Nat) : List Nat := (am_stx.getD j "").toList.map Char.toNat
def am_ak (t : ArrayType) : Option Nat := match t with
  | .int => some 20
  | .byte => some 21
  | .boolean => some 22
  | .long => some 23
  | _ => none
/-- what touches cells, and calls of the library -/
def am_opH (X : am_X) (o : Nat) (ini : Bool) (i : Instr) (len pc : Nat) (st : List Value) (h : am_H) : Option (Nat × List Value × am_H) := match i with
  | .getfield idx => match len, st, am_flt.lookup (o, idx) with
    | 3, .ref a :: r, some (c, k) => if a < h.1 ∧ (h.2.2.1 a).1 = c then some (pc + 3, am_rd h c a k :: r, h) else none
    | _, _, _ => none
  | .putfield idx => match len, st, am_flt.lookup (o, idx) with
    | 3, v :: .ref a :: r, some (c, k) => if a < h.1 ∧ (h.2.2.1 a).1 = c ∧ ((am_T c k).2.2.2 = false ∨ (ini = true ∧ o = c)) then (match am_wr h c a k v with
        | some h' => some (pc + 3, r, h')
        | none => none) else none
    | _, _, _ => none
  | .iaload => match len, st with
    | 1, .int i :: .ref a :: r => if a < h.1 ∧ (h.2.2.1 a).1 = 20 ∧ ¬ (i < 0 ∨ (h.2.2.1 a).2 ≤ i.toNatClampNeg) then some (pc + 1, .int (h.2.2.2.1 a i.toNatClampNeg) :: r, h)
        else if am_K0 ≤ a ∧ a < am_K0 + 5 ∧ ¬ (i < 0 ∨ (X (a - am_K0)).1 ≤ i.toNatClampNeg) then some (pc + 1, .int ((X (a - am_K0)).2 i.toNatClampNeg) :: r, h) else none
    | _, _ => none
  | .baload => match len, st with
    | 1, .int i :: .ref a :: r => if a < h.1 ∧ ((h.2.2.1 a).1 = 21 ∨ (h.2.2.1 a).1 = 22) ∧ ¬ (i < 0 ∨ (h.2.2.1 a).2 ≤ i.toNatClampNeg) then some (pc + 1, .int (h.2.2.2.1 a i.toNatClampNeg) :: r, h) else none
    | _, _ => none
  | .laload => match len, st with
    | 1, .int i :: .ref a :: r => if a < h.1 ∧ (h.2.2.1 a).1 = 23 ∧ ¬ (i < 0 ∨ (h.2.2.1 a).2 ≤ i.toNatClampNeg) then some (pc + 1, .long (h.2.2.2.2.1 a i.toNatClampNeg) :: r, h) else none
    | _, _ => none
  | .aaload => match len, st with
    | 1, .int i :: .ref a :: r => if a < h.1 ∧ ((h.2.2.1 a).1 = 24 ∨ (h.2.2.1 a).1 = 25) ∧ ¬ (i < 0 ∨ (h.2.2.1 a).2 ≤ i.toNatClampNeg) then some (pc + 1, va_rf (h.2.2.2.2.2 a i.toNatClampNeg) :: r, h) else none
    | _, _ => none
  | .iastore => match len, st with
    | 1, .int x :: .int i :: .ref a :: r => if a < h.1 ∧ (h.2.2.1 a).1 = 20 ∧ ¬ (i < 0 ∨ (h.2.2.1 a).2 ≤ i.toNatClampNeg) then some (pc + 1, r, h.1, h.2.1, h.2.2.1, am_uI h.2.2.2.1 a i.toNatClampNeg x, h.2.2.2.2) else none
    | _, _ => none
  | .bastore => match len, st with
    | 1, .int x :: .int i :: .ref a :: r => if a < h.1 ∧ (h.2.2.1 a).1 = 21 ∧ ¬ (i < 0 ∨ (h.2.2.1 a).2 ≤ i.toNatClampNeg) then some (pc + 1, r, h.1, h.2.1, h.2.2.1, am_uI h.2.2.2.1 a i.toNatClampNeg x.toInt8.toInt32, h.2.2.2.2)
        else if a < h.1 ∧ (h.2.2.1 a).1 = 22 ∧ ¬ (i < 0 ∨ (h.2.2.1 a).2 ≤ i.toNatClampNeg) then some (pc + 1, r, h.1, h.2.1, h.2.2.1, am_uI h.2.2.2.1 a i.toNatClampNeg (x &&& 1), h.2.2.2.2) else none
    | _, _ => none
  | .lastore => match len, st with
    | 1, .long x :: .int i :: .ref a :: r => if a < h.1 ∧ (h.2.2.1 a).1 = 23 ∧ ¬ (i < 0 ∨ (h.2.2.1 a).2 ≤ i.toNatClampNeg) then some (pc + 1, r, h.1, h.2.1, h.2.2.1, h.2.2.2.1, am_uJ h.2.2.2.2.1 a i.toNatClampNeg x, h.2.2.2.2.2) else none
    | _, _ => none
  | .aastore => match len, st with
    | 1, .ref b :: .int i :: .ref a :: r => if a < h.1 ∧ b < h.1 ∧ (((h.2.2.1 a).1 = 24 ∧ (h.2.2.1 b).1 = 5) ∨ ((h.2.2.1 a).1 = 25 ∧ (h.2.2.1 b).1 = 1)) ∧ ¬ (i < 0 ∨ (h.2.2.1 a).2 ≤ i.toNatClampNeg) then some (pc + 1, r, h.1, h.2.1, h.2.2.1, h.2.2.2.1, h.2.2.2.2.1, am_uF h.2.2.2.2.2 a i.toNatClampNeg (some b)) else none
    | 1, .null :: .int i :: .ref a :: r => if a < h.1 ∧ ((h.2.2.1 a).1 = 24 ∨ (h.2.2.1 a).1 = 25) ∧ ¬ (i < 0 ∨ (h.2.2.1 a).2 ≤ i.toNatClampNeg) then some (pc + 1, r, h.1, h.2.1, h.2.2.1, h.2.2.2.1, h.2.2.2.2.1, am_uF h.2.2.2.2.2 a i.toNatClampNeg none) else none
    | _, _ => none
  | .arraylength => match len, st with
    | 1, .ref a :: r => if a < h.1 ∧ 20 ≤ (h.2.2.1 a).1 ∧ (h.2.2.1 a).1 ≤ 25 then some (pc + 1, .int (Int32.ofNat (h.2.2.1 a).2) :: r, h)
        else if am_K0 ≤ a ∧ a < am_K0 + 5 then some (pc + 1, .int (Int32.ofNat (X (a - am_K0)).1) :: r, h) else none
    | _, _ => none
  | .new idx => match len, am_clt.lookup (o, idx) with
    | 3, some c => if h.1 < 600000 then some (pc + 3, .ref h.1 :: st, am_nw h c (am_nf c) (fun _ => 0)) else none
    | _, _ => none
  | .newarray at' => match len, st, am_ak at' with
    | 2, .int x :: r, some kd => if h.1 < 600000 ∧ ¬ x < 0 ∧ x.toNatClampNeg ≤ 1000000 then some (pc + 2, .ref h.1 :: r, am_nw h kd x.toNatClampNeg (fun _ => 0)) else none
    | _, _, _ => none
  | .anewarray idx => match len, st, am_clt.lookup (o, idx) with
    | 3, .int x :: r, some 5 => if h.1 < 600000 ∧ ¬ x < 0 ∧ x.toNatClampNeg ≤ 1000000 then some (pc + 3, .ref h.1 :: r, am_nw h 24 x.toNatClampNeg (fun _ => 0)) else none
    | 3, .int x :: r, some 1 => if h.1 < 600000 ∧ ¬ x < 0 ∧ x.toNatClampNeg ≤ 1000000 then some (pc + 3, .ref h.1 :: r, am_nw h 25 x.toNatClampNeg (fun _ => 0)) else none
    | _, _, _ => none
  | .getstatic idx => match len, am_sat.lookup (o, idx) with
    | 3, some j => some (pc + 3, .ref (am_K0 + j) :: st, h)
    | _, _ => none
  | .ldc idx => match len, am_cot.lookup (o, idx) with
    | 2, some v => some (pc + 2, .int v :: st, h)
    | 2, none => match am_stt.lookup (o, idx) with
      | some j => some (pc + 2, .ref (am_K0 + 10 + j) :: st, h)
      | none => none
    | _, _ => none
  | .ldc_w idx => match len, am_cot.lookup (o, idx) with
    | 3, some v => some (pc + 3, .int v :: st, h)
    | _, _ => none
  | .ldc2_w idx => match len, am_cjt.lookup (o, idx) with
    | 3, some v => some (pc + 3, .long v :: st, h)
    | _, _ => none
  | .invokespecial idx => match len, st, am_mlt.lookup (o, idx) with
    | 3, .ref _ :: r, some (_, 6) => if am_sz r ≤ 8 then some (pc + 3, r, h) else none
    | _, _, _ => none
  | .invokestatic idx => match len, st, am_mlt.lookup (o, idx) with
    | 3, .int n :: .int dp :: .ref b :: .int sp :: .ref a :: r, some (_, 7) => if am_sz r ≤ 8 ∧ a < h.1 ∧ (h.2.2.1 a).1 = 20 ∧ b < h.1 ∧ (h.2.2.1 b).1 = 20 ∧ ¬ sp < 0 ∧ ¬ dp < 0 ∧ ¬ n < 0 ∧ sp.toNatClampNeg + n.toNatClampNeg ≤ (h.2.2.1 a).2 ∧ dp.toNatClampNeg + n.toNatClampNeg ≤ (h.2.2.1 b).2 then
        some (pc + 3, r, h.1, h.2.1, h.2.2.1, am_ro h.2.2.2.1 b (va_cpy (h.2.2.2.1 a) (h.2.2.2.1 b) sp.toNatClampNeg dp.toNatClampNeg n.toNatClampNeg), h.2.2.2.2) else none
    | 3, .int y :: .int x :: r, some (_, 11) => if am_sz r ≤ 8 then some (pc + 3, .int (if y < x then y else x) :: r, h) else none
    | 3, .int y :: .int x :: r, some (_, 12) => if am_sz r ≤ 8 then some (pc + 3, .int (if x < y then y else x) :: r, h) else none
    | 3, .int x :: r, some (_, 13) => if am_sz r ≤ 8 then some (pc + 3, .int (if 0 ≤ x then x else 0 - x) :: r, h) else none
    | _, _, _ => none
  | .invokevirtual idx => match len, st, am_mlt.lookup (o, idx) with
    | 3, .ref a :: r, some (_, 8) => if am_sz r ≤ 8 ∧ h.1 < 600000 ∧ a < h.1 ∧ (h.2.2.1 a).1 = 20 then some (pc + 3, .ref h.1 :: r, am_nw h 20 (h.2.2.1 a).2 (h.2.2.2.1 a)) else none
    | 3, .ref a :: r, some (_, 9) => if am_sz r ≤ 8 ∧ am_K0 + 10 ≤ a ∧ a < am_K0 + 10 + 19 then some (pc + 3, .int (Int32.ofNat (am_tx (a - (am_K0 + 10))).length) :: r, h) else none
    | 3, .int i :: .ref a :: r, some (_, 10) => if am_sz r ≤ 8 ∧ am_K0 + 10 ≤ a ∧ a < am_K0 + 10 + 19 ∧ ¬ (i < 0 ∨ (am_tx (a - (am_K0 + 10))).length ≤ i.toNatClampNeg) then some (pc + 3, .int (Int32.ofNat ((am_tx (a - (am_K0 + 10))).getD i.toNatClampNeg 0)) :: r, h) else none
    | _, _, _ => none
  | .checkcast idx => match len, st with
    | 3, .ref a :: r => if o = 16 ∧ idx = 317 ∧ a < h.1 ∧ (h.2.2.1 a).1 = 20 then some (pc + 3, .ref a :: r, h) else none
    | _, _ => none
  | _ => none
/-- the end of a method -/
def am_opR (rt : Option FieldType) (i : Instr) (len : Nat) (st : List Value) : Option (Option Value) := match i with
  | .ireturn => match len, st, rt with
    | 1, [.int x], some .int => some (some (.int x))
    | 1, [.int x], some .boolean => if x = 0 ∨ x = 1 then some (some (.int x)) else none
    | _, _, _ => none
  | .lreturn => match len, st, rt with
    | 1, [.long x], some .long => some (some (.long x))
    | _, _, _ => none
  | .areturn => match len, st, rt with
    | 1, [.ref a], some (.object _) => some (some (.ref a))
    | 1, [.null], some (.object _) => some (some .null)
    | 1, [.ref a], some (.array _) => some (some (.ref a))
    | _, _, _ => none
  | .return_ => match len, st, rt with
    | 1, [], none => some none
    | _, _, _ => none
  | _ => none
/-- a call of a method of ours: which one, its arguments, what is left on the stack -/
def am_opC (o : Nat) (i : Instr) (len : Nat) (st : List Value) (h : am_H) : Option (Nat × List Value × List Value) := match i with
  | .invokevirtual idx => match len, am_mlt.lookup (o, idx) with
    | 3, some (m, 0) => match st.drop (am_me m).2.2.2.2.2.1 with
      | .ref b :: r => if am_sz r ≤ 8 ∧ b < h.1 ∧ (h.2.2.1 b).1 = (am_me m).2.2.2.2.1 ∧ (am_me m).2.2.2.2.2.1 ≤ st.length then some (m, .ref b :: (st.take (am_me m).2.2.2.2.2.1).reverse, r) else none
      | _ => none
    | _, _ => none
  | .invokestatic idx => match len, am_mlt.lookup (o, idx) with
    | 3, some (m, 1) => if am_sz (st.drop (am_me m).2.2.2.2.2.1) ≤ 8 ∧ (am_me m).2.2.2.2.2.1 ≤ st.length then some (m, (st.take (am_me m).2.2.2.2.2.1).reverse, st.drop (am_me m).2.2.2.2.2.1) else none
    | 3, some (m, 3) => if am_sz (st.drop (am_me m).2.2.2.2.2.1) ≤ 8 ∧ (am_me m).2.2.2.2.2.1 ≤ st.length then some (m, (st.take (am_me m).2.2.2.2.2.1).reverse, st.drop (am_me m).2.2.2.2.2.1) else none
    | _, _ => none
  | .invokespecial idx => match len, am_mlt.lookup (o, idx) with
    | 3, some (m, 2) => match st.drop (am_me m).2.2.2.2.2.1 with
      | .ref b :: r => if am_sz r ≤ 8 ∧ (am_me m).2.2.2.2.2.1 ≤ st.length then some (m, .ref b :: (st.take (am_me m).2.2.2.2.2.1).reverse, r) else none
      | _ => none
    | 3, some (m, 4) => match st.drop (am_me m).2.2.2.2.2.1 with
      | .ref b :: r => if am_sz r ≤ 8 ∧ (am_me m).2.2.2.2.2.1 ≤ st.length then some (m, .ref b :: (st.take (am_me m).2.2.2.2.2.1).reverse, r) else none
      | _ => none
    | _, _ => none
  | _ => none
/-- a method, from a place on: n turns at most, calls d deep at most; its answer and the cells behind it -/
def am_ex (X : am_X) : Nat → Nat → Nat → Nat → am_L → List Value → am_H → Option (Option Value × am_H)
  | 0, _, _, _, _, _, _ => none
  | n + 1, d, m, pc, L, st, h => match decode (am_me m).2.1 pc with
    | .ok (i, len) => match am_opP i len pc L st with
      | some (pc', L', st') => am_ex X n d m pc' L' st' h
      | none => match am_opH X (am_me m).2.2.2.2.1 (decide ((am_me m).1.name = "<init>")) i len pc st h with
        | some (pc', st', h') => am_ex X n d m pc' L st' h'
        | none => match am_opR (am_me m).2.2.2.1 i len st with
          | some v => some (v, h)
          | none => match am_opC (am_me m).2.2.2.2.1 i len st h, d with
            | some (m', as, r), d' + 1 => if (am_ar as).length ≤ (am_me m').2.2.1 then (match am_ex X n d' m' 0 (am_en (am_me m').2.2.1 as) [] h with
              | some (v, h') => am_ex X n (d' + 1) m (pc + 3) L (v.toList ++ r) h'
              | none => none) else none
            | _, _ => none
    | _ => none
