/-! TEXTS: how the tokens of a text are read, and what is told. tk: the tokens' codes (as the reference numbers them), tv: their numbers.
    A reader answers the token that can't go on, or the next token, how many PARTS there are, and what is meant (none: BROKEN). -/
section TX
variable (tk tv : Nat → Nat)
abbrev DI : Type := (Nat → Int32) → Option Int
abbrev DB : Type := (Nat → Int32) → Option Bool
abbrev RD (α : Type) : Type := Except Nat (Nat × Nat × α)
def holdI (v : Int) : Option Int := if 1000000000 < v ∨ v < -1000000000 then none else some v
def bi (f : Int → Int → Option Int) (a b : DI) : DI := fun w => match a w with
  | none => none
  | some x => match b w with
    | none => none
    | some y => f x y
def opA (c : Nat) (x y : Int) : Option Int := if c = 143 then holdI (x + y) else holdI (x - y)
def opM (c : Nat) (x y : Int) : Option Int := if c = 142 then holdI (x * y) else if y = 0 then none else holdI (x.tdiv y)
def cmpI (c : Nat) (x y : Int) : Bool := if c = 160 then decide (x < y) else if c = 162 then decide (y < x) else decide (x = y)
def cmD (c : Nat) (a b : DI) : DB := fun w => match a w with
  | none => none
  | some x => match b w with
    | none => none
    | some y => some (cmpI c x y)
def ntD (p : Bool) (a : DB) : DB := fun w => match a w with
  | none => none
  | some x => some (x != p)
def anD (a b : DB) : DB := fun w => match a w with
  | none => none
  | some false => some false
  | some true => b w
def orD (a b : DB) : DB := fun w => match a w with
  | none => none
  | some true => some true
  | some false => b w
def leafD (i : Nat) : DI := if tk i = 50 then fun _ => some (tv i : Int) else fun w => some (w (tk i - 9)).toInt
def pMore {α : Type} (sep : Nat → Bool) (P : Nat → Nat → RD α) (cb : Nat → α → α → α) : Nat → Nat → Nat → α → RD α
  | 0, i, q, D => .ok (i, q, D)
  | g + 1, i, q, D => if sep (tk i) then (match P (i + 1) q with
    | .error x => .error x
    | .ok r => pMore sep P cb g r.1 r.2.1 (cb (tk i) D r.2.2)) else .ok (i, q, D)
def pThen {α : Type} (sep : Nat → Bool) (P : Nat → Nat → RD α) (cb : Nat → α → α → α) (i q : Nat) : RD α := match P i q with
  | .error x => .error x
  | .ok r => pMore tk sep P cb 400 r.1 r.2.1 r.2.2
def pPart (S : Option (Nat → Nat → RD DI)) (i q : Nat) : RD DI :=
  if tk i = 191 then (match S with
    | none => .error i
    | some P => match P (i + 1) q with
      | .error x => .error x
      | .ok r => if tk r.1 = 193 then .ok (r.1 + 1, r.2.1, r.2.2) else .error r.1)
  else if (tk i = 50 ∧ tv i ≤ 1000) ∨ (9 ≤ tk i ∧ tk i ≤ 19) then (if q = 50 then .error i else .ok (i + 1, q + 1, leafD tk tv i)) else .error i
def seM (c : Nat) : Bool := c == 142 || c == 147
def seA (c : Nat) : Bool := c == 143 || c == 145
def pTerm (S : Option (Nat → Nat → RD DI)) : Nat → Nat → RD DI := pThen tk seM (pPart tk tv S) (fun c a b => bi (opM c) a b)
def pSumS (S : Option (Nat → Nat → RD DI)) : Nat → Nat → RD DI := pThen tk seA (pTerm tk tv S) (fun c a b => bi (opA c) a b)
def pSum : Nat → Nat → Nat → RD DI
  | 0 => pSumS tk tv none
  | e + 1 => pSumS tk tv (some (pSum e))
def pNots : Nat → Nat → Bool → Nat × Bool
  | 0, i, b => (i, b)
  | g + 1, i, b => if tk i = 8 then pNots g (i + 1) (!b) else (i, b)
def pPlain (P : Nat → Nat → RD DI) (T : Option (Nat → Nat → RD DB)) (i0 q : Nat) : RD DB :=
  if tk (pNots tk 400 i0 false).1 = 140 then (match T with
    | none => .error (pNots tk 400 i0 false).1
    | some T => match T ((pNots tk 400 i0 false).1 + 1) q with
      | .error x => .error x
      | .ok s => if tk s.1 = 141 then .ok (s.1 + 1, s.2.1, ntD (pNots tk 400 i0 false).2 s.2.2) else .error s.1)
  else match P (pNots tk 400 i0 false).1 q with
    | .error x => .error x
    | .ok s => if tk s.1 = 160 ∨ tk s.1 = 162 ∨ tk s.1 = 161 then (match P (s.1 + 1) s.2.1 with
      | .error x => .error x
      | .ok u => .ok (u.1, u.2.1, ntD (pNots tk 400 i0 false).2 (cmD (tk s.1) s.2.2 u.2.2))) else .error s.1
def seN (c : Nat) : Bool := c == 7
def seO (c : Nat) : Bool := c == 6
def pBoth (P : Nat → Nat → RD DI) (T : Option (Nat → Nat → RD DB)) : Nat → Nat → RD DB := pThen tk seN (pPlain tk P T) (fun _ a b => anD a b)
def pTestS (P : Nat → Nat → RD DI) (T : Option (Nat → Nat → RD DB)) : Nat → Nat → RD DB := pThen tk seO (pBoth tk P T) (fun _ a b => orD a b)
def pTest : Nat → Nat → Nat → RD DB
  | 0 => pTestS tk (pSum tk tv 0) none
  | e + 1 => pTestS tk (pSum tk tv (e + 1)) (some (pTest e))
/-- a clause: its head, what it tells, when it holds -/
abbrev CL : Type := Nat × DI × DB
def pIf (h : Nat) (D : DI) (i q : Nat) : RD CL := if tk i = 5 then (match pTest tk tv 8 (i + 1) q with
    | .error x => .error x
    | .ok r => .ok (r.1, r.2.1, (h, D, r.2.2))) else .ok (i, q, (h, D, fun _ => some true))
def pClause (i q : Nat) : RD CL := if 1 ≤ tk i ∧ tk i ≤ 3 then (match pSum tk tv 8 (i + 1) q with
    | .error x => .error x
    | .ok r => pIf tk tv (tk i) r.2.2 r.1 r.2.1) else if tk i = 4 then pIf tk tv 4 (fun _ => some 0) (i + 1) q else .error i
def pCls (NT : Nat) : Nat → Nat → Nat → List CL → Except Nat (List CL)
  | 0, i, _, _ => .error i
  | g + 1, i, q, l => match pClause tk tv i q with
    | .error x => .error x
    | .ok r => if r.1 = NT then .ok (l ++ [r.2.2]) else if tk r.1 = 159 then pCls NT g (r.1 + 1) r.2.1 (l ++ [r.2.2]) else .error r.1
def pText (NT : Nat) : Except Nat (List CL) := pCls tk tv NT 12 0 0 []
end TX
/-- what a text tells by a head, of words w -/
def told (l : List CL) (h : Nat) (w : Nat → Int32) : Option Int := l.foldl (fun acc c => if c.1 = h ∧ c.2.2 w = some true then (match c.2.1 w with
  | some v => some v
  | none => acc) else acc) none
