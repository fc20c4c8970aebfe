/-! TEXTS: the class works its steps out -/
section CW
variable {X : am_X} {d : Nat} {Q : Option Value → am_H → Prop} {n sl : Nat} {t : Nat → Nat × Nat} {I : Nat → Nat → Int32} {J : Nat → Nat → Int64} {F : Nat → Nat → Option Nat} {h : am_H}
variable {w : Nat → Int32}
/-- what stands on the stack, the topmost first -/
def SK (R : Nat → Int32) : List Int32 → Prop
  | [] => True
  | x :: s => R s.length = x ∧ SK R s
theorem SK_u {R : Nat → Int32} {v : Int32} : ∀ {s : List Int32} {k : Nat}, s.length ≤ k → SK R s → SK (upd R k v) s := by
  intro s
  induction s with
  | nil => intro k _ _; trivial
  | cons x s ih =>
    intro k hk h
    rw [List.length_cons] at hk
    refine ⟨?_, ih (by omega) h.2⟩
    rw [pu_ne (by omega)]
    exact h.1
theorem SK_p {R : Nat → Int32} {v : Int32} {s : List Int32} (h : SK R s) : SK (upd R s.length v) (v :: s) := ⟨pu_eq, SK_u (Nat.le_refl _) h⟩
/-- how the steps go on -/
def Cl (S : Nat → Int32) (w : Nat → Int32) (to : Nat) (B : Prop) (P : Nat → List Int32 → Prop) : Prop :=
  (∀ a s v, a < to → s.length < 64 → v ≤ 1000 → S a = nI v → P (a + 1) (nI v :: s) → P a s) ∧
  (∀ a s k, a < to → s.length < 64 → k < 11 → S a = nI (1001 + pw k) → P (a + 1) (w k :: s) → P a s) ∧
  (∀ a s x, a < to → S a = nI 1107 → P (a + 1) ((1 - x) :: s) → P a (x :: s)) ∧
  (∀ a s x e, a < to → a < e → e ≤ 400 → S a = nI (2000 + e) → (x = 0 → P e (x :: s)) → (x ≠ 0 → P (a + 1) s) → P a (x :: s)) ∧
  (∀ a s x e, a < to → a < e → e ≤ 400 → S a = nI (3000 + e) → (x = 1 → P e (x :: s)) → (x ≠ 1 → P (a + 1) s) → P a (x :: s)) ∧
  ∀ a s (x y : Int) c, a < to → (-1000000000 ≤ x ∧ x ≤ 1000000000) → (-1000000000 ≤ y ∧ y ≤ 1000000000) → 1100 ≤ c → c ≤ 1106 → S a = nI c → (match (if c = 1100 then holdI (x + y) else if c = 1101 then holdI (x - y) else if c = 1102 then holdI (x * y) else if c = 1103 then (if y = 0 then none else holdI (x.tdiv y)) else if c = 1104 then some (if x < y then 1 else 0) else if c = 1105 then some (if y < x then 1 else 0) else some (if x = y then 1 else 0)) with
    | some v => P (a + 1) (Int32.ofInt v :: s)
    | none => B) → P a (Int32.ofInt y :: Int32.ofInt x :: s)
theorem jI_i32 {v : Int} (h : -1000000000 ≤ v ∧ v ≤ 1000000000) : (jI v).toInt32 = Int32.ofInt v := by
  apply Int32.toInt_inj.mp
  rw [Int64.toInt_toInt32, jI_t (by omega) (by omega), Int32.toInt_ofInt]
theorem oI_j {v : Int} (h : -1000000000 ≤ v ∧ v ≤ 1000000000) : (Int32.ofInt v).toInt64 = jI v := by
  apply Int64.toInt_inj.mp
  rw [Int32.toInt_toInt64, oI_toInt h.1 h.2, jI_t (by omega) (by omega)]
def hdI (o : Option Int) : Int32 := match o with
  | some v => Int32.ofInt v
  | none => -nI 2000000000
theorem c_hold {v : Int} (h1 : -4000000000000000000 ≤ v) (h2 : v ≤ 4000000000000000000) : am_W X d 74 0 [some (.long (jI v)), none] [] (n, sl, t, I, J, F) Q ↔ Q (some (.int (hdI (holdI v)))) (n, sl, t, I, J, F) := by
  have y1 : (jI 1000000000 < jI v) = (1000000000 < v) := jI_lt (by omega) (by omega) (by omega) (by omega)
  have y2 : (jI (-1000000000) ≤ jI v) = (-1000000000 ≤ v) := jI_le (by omega) (by omega) (by omega) (by omega)
  have y3 : (-jI 1000000000 ≤ jI v) = (-1000000000 ≤ v) := by rw [jI_neg]; exact y2
  have l1 : (1000000000 : Int64) = jI 1000000000 := rfl
  have l2 : (-1000000000 : Int64) = jI (-1000000000) := rfl
  unfold holdI
  by_cases c1 : 1000000000 < v
  · rw [if_pos (Or.inl c1)]
    simp only [↓r74_0, ↓r74_1, ↓r74_4, ↓r74_5, ↓r74_8, ↓r74_9, ↓r74_12, ↓r74_13, ↓r74_16, ↓r74_18, ↓r74_21, ↓r74_22, ↓r74_23, l1, l2, lg_cmp_gt, lg_cmp_ge, y1, c1, hdI, Bool.false_eq_true, ps_lit, nI_add, nI_1, pk_mul, ps_cl, ps_neg, ps_c0, ps_c1, ps_n01, ps_n11, ps_10, ps_01, ps_1n, ps_0n, ps_b01, ps_e0, am_k_n, am_k_i, am_k_r, am_k_u, am_k_l, am_sz_0, am_sz_i, am_sz_r, am_sz_u, am_sz_l, Option.toList_some, Option.toList_none, List.cons_append, List.nil_append, true_and, and_true, or_false, false_or, or_self, or_true, true_or, and_self, if_true, if_false, not_false_eq_true, not_true_eq_false, Classical.not_not, ne_eq, ps_e1, ps_em, ps_z, Nat.not_le, false_implies, true_implies, forall_const, Nat.reduceAdd, Nat.reduceMul, Nat.reduceLT, Nat.reduceLeDiff, Nat.reduceEqDiff, Nat.reduceSub]
  · by_cases c2 : v < -1000000000
    · have c3 : ¬ -1000000000 ≤ v := by omega
      rw [if_pos (Or.inr c2)]
      simp only [↓r74_0, ↓r74_1, ↓r74_4, ↓r74_5, ↓r74_8, ↓r74_9, ↓r74_12, ↓r74_13, ↓r74_16, ↓r74_18, ↓r74_21, ↓r74_22, ↓r74_23, l1, l2, lg_cmp_gt, lg_cmp_ge, y1, y2, y3, c1, c3, hdI, Bool.false_eq_true, ps_lit, nI_add, nI_1, pk_mul, ps_cl, ps_neg, ps_c0, ps_c1, ps_n01, ps_n11, ps_10, ps_01, ps_1n, ps_0n, ps_b01, ps_e0, am_k_n, am_k_i, am_k_r, am_k_u, am_k_l, am_sz_0, am_sz_i, am_sz_r, am_sz_u, am_sz_l, Option.toList_some, Option.toList_none, List.cons_append, List.nil_append, true_and, and_true, or_false, false_or, or_self, or_true, true_or, and_self, if_true, if_false, not_false_eq_true, not_true_eq_false, Classical.not_not, ne_eq, ps_e1, ps_em, ps_z, Nat.not_le, false_implies, true_implies, forall_const, Nat.reduceAdd, Nat.reduceMul, Nat.reduceLT, Nat.reduceLeDiff, Nat.reduceEqDiff, Nat.reduceSub]
    · have c3 : -1000000000 ≤ v := by omega
      have e := jI_i32 (v := v) ⟨by omega, by omega⟩
      rw [if_neg (by omega)]
      simp only [↓r74_0, ↓r74_1, ↓r74_4, ↓r74_5, ↓r74_8, ↓r74_9, ↓r74_12, ↓r74_13, ↓r74_16, ↓r74_18, ↓r74_21, ↓r74_22, ↓r74_23, l1, l2, lg_cmp_gt, lg_cmp_ge, y1, y2, y3, c1, c3, e, hdI, Bool.false_eq_true, ps_lit, nI_add, nI_1, pk_mul, ps_cl, ps_neg, ps_c0, ps_c1, ps_n01, ps_n11, ps_10, ps_01, ps_1n, ps_0n, ps_b01, ps_e0, am_k_n, am_k_i, am_k_r, am_k_u, am_k_l, am_sz_0, am_sz_i, am_sz_r, am_sz_u, am_sz_l, Option.toList_some, Option.toList_none, List.cons_append, List.nil_append, true_and, and_true, or_false, false_or, or_self, or_true, true_or, and_self, if_true, if_false, not_false_eq_true, not_true_eq_false, Classical.not_not, ne_eq, ps_e1, ps_em, ps_z, Nat.not_le, false_implies, true_implies, forall_const, Nat.reduceAdd, Nat.reduceMul, Nat.reduceLT, Nat.reduceLeDiff, Nat.reduceEqDiff, Nat.reduceSub]
/-- two are joined -/
def jnD (c : Nat) (x y : Int) : Option Int := if c = 1100 then holdI (x + y) else if c = 1101 then holdI (x - y) else if c = 1102 then holdI (x * y) else if c = 1103 then (if y = 0 then none else holdI (x.tdiv y)) else if c = 1104 then some (if x < y then 1 else 0) else if c = 1105 then some (if y < x then 1 else 0) else some (if x = y then 1 else 0)
theorem c_join {c : Nat} {x y : Int} (hx : -1000000000 ≤ x ∧ x ≤ 1000000000) (hy : -1000000000 ≤ y ∧ y ≤ 1000000000) (h1 : 1100 ≤ c) (h2 : c ≤ 1106) : am_W X (d + 1) 73 0 [some (.int (nI c)), some (.int (Int32.ofInt x)), some (.int (Int32.ofInt y))] [] (n, sl, t, I, J, F) Q ↔ Q (some (.int (hdI (jnD c x y)))) (n, sl, t, I, J, F) := by
  have ex := oI_j hx
  have ey := oI_j hy
  have lt1 : (Int32.ofInt y ≤ Int32.ofInt x) = (y ≤ x) := by rw [Int32.le_iff_toInt_le, oI_toInt hx.1 hx.2, oI_toInt hy.1 hy.2]
  have lt2 : (Int32.ofInt x ≤ Int32.ofInt y) = (x ≤ y) := by rw [Int32.le_iff_toInt_le, oI_toInt hx.1 hx.2, oI_toInt hy.1 hy.2]
  have eqq : (Int32.ofInt x = Int32.ofInt y) = (x = y) := by
    apply propext
    constructor
    · intro q
      have := congrArg Int32.toInt q
      rw [oI_toInt hx.1 hx.2, oI_toInt hy.1 hy.2] at this
      exact this
    · rintro rfl; rfl
  have ey0 : (Int32.ofInt y = 0) = (y = 0) := by
    apply propext
    constructor
    · intro q
      have := congrArg Int32.toInt q
      rw [oI_toInt hy.1 hy.2] at this
      exact this
    · rintro rfl; rfl
  have h1' : ∀ b : Prop, [Decidable b] → hdI (some (if b then 1 else 0)) = if b then 1 else 0 := by
    intro b _
    by_cases hb : b
    · rw [if_pos hb, if_pos hb]; rfl
    · rw [if_neg hb, if_neg hb]; rfl
  unfold jnD
  have hcc : c = 1100 ∨ c = 1101 ∨ c = 1102 ∨ c = 1103 ∨ c = 1104 ∨ c = 1105 ∨ c = 1106 := by omega
  rcases hcc with rfl | rfl | rfl | rfl | rfl | rfl | rfl
  · have ts_1100 : (∀ {d : Nat} {Q : Option Value → am_H → Prop} {L : am_L} {st : List Value} {h : am_H}, am_W X d 73 1 L (.int (nI 1100) :: st) h Q ↔ am_W X d 73 44 L st h Q) := r73_1_0
    have e1 := fun Q => c_hold (X := X) (d := d) (Q := Q) (sl := sl) (J := J) (I := I) (n := n) (t := t) (F := F) (v := x + y) (by omega) (by omega)
    simp only [↓r73_0, ↓ts_1100, ↓r73_44, ↓r73_45, ↓r73_46, ↓r73_47, ↓r73_48, ↓r73_49, ↓r73_52, ↓e1, ex, ey, jI_add, if_true, Bool.false_eq_true, ps_lit, nI_add, nI_1, pk_mul, ps_cl, ps_neg, ps_c0, ps_c1, ps_n01, ps_n11, ps_10, ps_01, ps_1n, ps_0n, ps_b01, ps_e0, am_k_n, am_k_i, am_k_r, am_k_u, am_k_l, am_sz_0, am_sz_i, am_sz_r, am_sz_u, am_sz_l, Option.toList_some, Option.toList_none, List.cons_append, List.nil_append, true_and, and_true, or_false, false_or, or_self, or_true, true_or, and_self, if_true, if_false, not_false_eq_true, not_true_eq_false, Classical.not_not, ne_eq, ps_e1, ps_em, ps_z, Nat.not_le, false_implies, true_implies, forall_const, Nat.reduceAdd, Nat.reduceMul, Nat.reduceLT, Nat.reduceLeDiff, Nat.reduceEqDiff, Nat.reduceSub]
  · have ts_1101 : (∀ {d : Nat} {Q : Option Value → am_H → Prop} {L : am_L} {st : List Value} {h : am_H}, am_W X d 73 1 L (.int (nI 1101) :: st) h Q ↔ am_W X d 73 53 L st h Q) := r73_1_1
    have e1 := fun Q => c_hold (X := X) (d := d) (Q := Q) (sl := sl) (J := J) (I := I) (n := n) (t := t) (F := F) (v := x - y) (by omega) (by omega)
    simp only [↓r73_0, ↓ts_1101, ↓r73_53, ↓r73_54, ↓r73_55, ↓r73_56, ↓r73_57, ↓r73_58, ↓r73_61, ↓e1, ex, ey, jI_sub, if_true, if_false, Bool.false_eq_true, ps_lit, nI_add, nI_1, pk_mul, ps_cl, ps_neg, ps_c0, ps_c1, ps_n01, ps_n11, ps_10, ps_01, ps_1n, ps_0n, ps_b01, ps_e0, am_k_n, am_k_i, am_k_r, am_k_u, am_k_l, am_sz_0, am_sz_i, am_sz_r, am_sz_u, am_sz_l, Option.toList_some, Option.toList_none, List.cons_append, List.nil_append, true_and, and_true, or_false, false_or, or_self, or_true, true_or, and_self, if_true, if_false, not_false_eq_true, not_true_eq_false, Classical.not_not, ne_eq, ps_e1, ps_em, ps_z, Nat.not_le, false_implies, true_implies, forall_const, Nat.reduceAdd, Nat.reduceMul, Nat.reduceLT, Nat.reduceLeDiff, Nat.reduceEqDiff, Nat.reduceSub]
  · have ts_1102 : (∀ {d : Nat} {Q : Option Value → am_H → Prop} {L : am_L} {st : List Value} {h : am_H}, am_W X d 73 1 L (.int (nI 1102) :: st) h Q ↔ am_W X d 73 62 L st h Q) := r73_1_2
    have hm := mul_bd hx hy
    have e1 := fun Q => c_hold (X := X) (d := d) (Q := Q) (sl := sl) (J := J) (I := I) (n := n) (t := t) (F := F) (v := x * y) hm.1 hm.2
    simp only [↓r73_0, ↓ts_1102, ↓r73_62, ↓r73_63, ↓r73_64, ↓r73_65, ↓r73_66, ↓r73_67, ↓r73_70, ↓e1, ex, ey, jI_mul, if_true, if_false, Bool.false_eq_true, ps_lit, nI_add, nI_1, pk_mul, ps_cl, ps_neg, ps_c0, ps_c1, ps_n01, ps_n11, ps_10, ps_01, ps_1n, ps_0n, ps_b01, ps_e0, am_k_n, am_k_i, am_k_r, am_k_u, am_k_l, am_sz_0, am_sz_i, am_sz_r, am_sz_u, am_sz_l, Option.toList_some, Option.toList_none, List.cons_append, List.nil_append, true_and, and_true, or_false, false_or, or_self, or_true, true_or, and_self, if_true, if_false, not_false_eq_true, not_true_eq_false, Classical.not_not, ne_eq, ps_e1, ps_em, ps_z, Nat.not_le, false_implies, true_implies, forall_const, Nat.reduceAdd, Nat.reduceMul, Nat.reduceLT, Nat.reduceLeDiff, Nat.reduceEqDiff, Nat.reduceSub]
  · have ts_1103 : (∀ {d : Nat} {Q : Option Value → am_H → Prop} {L : am_L} {st : List Value} {h : am_H}, am_W X d 73 1 L (.int (nI 1103) :: st) h Q ↔ am_W X d 73 71 L st h Q) := r73_1_3
    by_cases y0 : y = 0
    · subst y0
      have ez : (Int32.ofInt 0 = 0) = True := eq_true rfl
      simp only [↓r73_0, ↓ts_1103, ↓r73_71, ↓r73_72, ↓r73_75, ↓r73_77, ↓r73_80, ↓r73_81, ↓r73_82, ↓r73_83, ↓r73_84, ↓r73_85, ↓r73_88, ez, if_true, if_false, hdI, Bool.false_eq_true, ps_lit, nI_add, nI_1, pk_mul, ps_cl, ps_neg, ps_c0, ps_c1, ps_n01, ps_n11, ps_10, ps_01, ps_1n, ps_0n, ps_b01, ps_e0, am_k_n, am_k_i, am_k_r, am_k_u, am_k_l, am_sz_0, am_sz_i, am_sz_r, am_sz_u, am_sz_l, Option.toList_some, Option.toList_none, List.cons_append, List.nil_append, true_and, and_true, or_false, false_or, or_self, or_true, true_or, and_self, if_true, if_false, not_false_eq_true, not_true_eq_false, Classical.not_not, ne_eq, ps_e1, ps_em, ps_z, Nat.not_le, false_implies, true_implies, forall_const, Nat.reduceAdd, Nat.reduceMul, Nat.reduceLT, Nat.reduceLeDiff, Nat.reduceEqDiff, Nat.reduceSub]
    · have hm := tdiv_bd (y := y) hx
      have e1 := fun Q => c_hold (X := X) (d := d) (Q := Q) (sl := sl) (J := J) (I := I) (n := n) (t := t) (F := F) (v := x.tdiv y) (by omega) (by omega)
      have e2 := jI_div hx hy
      have e3 := jI_e0 hy
      simp only [↓r73_0, ↓ts_1103, ↓r73_71, ↓r73_72, ↓r73_75, ↓r73_77, ↓r73_80, ↓r73_81, ↓r73_82, ↓r73_83, ↓r73_84, ↓r73_85, ↓r73_88, ↓e1, ex, ey, ey0, e3, y0, e2, if_true, if_false, Bool.false_eq_true, ps_lit, nI_add, nI_1, pk_mul, ps_cl, ps_neg, ps_c0, ps_c1, ps_n01, ps_n11, ps_10, ps_01, ps_1n, ps_0n, ps_b01, ps_e0, am_k_n, am_k_i, am_k_r, am_k_u, am_k_l, am_sz_0, am_sz_i, am_sz_r, am_sz_u, am_sz_l, Option.toList_some, Option.toList_none, List.cons_append, List.nil_append, true_and, and_true, or_false, false_or, or_self, or_true, true_or, and_self, if_true, if_false, not_false_eq_true, not_true_eq_false, Classical.not_not, ne_eq, ps_e1, ps_em, ps_z, Nat.not_le, false_implies, true_implies, forall_const, Nat.reduceAdd, Nat.reduceMul, Nat.reduceLT, Nat.reduceLeDiff, Nat.reduceEqDiff, Nat.reduceSub]
  · have ts_1104 : (∀ {d : Nat} {Q : Option Value → am_H → Prop} {L : am_L} {st : List Value} {h : am_H}, am_W X d 73 1 L (.int (nI 1104) :: st) h Q ↔ am_W X d 73 89 L st h Q) := r73_1_4
    by_cases q : x < y
    · have q2 : ¬ y ≤ x := by omega
      simp only [↓r73_0, ↓ts_1104, ↓r73_89, ↓r73_90, ↓r73_91, ↓r73_94, ↓r73_95, ↓r73_98, ↓r73_99, lt1, q, q2, if_true, if_false, Bool.false_eq_true, ps_lit, nI_add, nI_1, pk_mul, ps_cl, ps_neg, ps_c0, ps_c1, ps_n01, ps_n11, ps_10, ps_01, ps_1n, ps_0n, ps_b01, ps_e0, am_k_n, am_k_i, am_k_r, am_k_u, am_k_l, am_sz_0, am_sz_i, am_sz_r, am_sz_u, am_sz_l, Option.toList_some, Option.toList_none, List.cons_append, List.nil_append, true_and, and_true, or_false, false_or, or_self, or_true, true_or, and_self, if_true, if_false, not_false_eq_true, not_true_eq_false, Classical.not_not, ne_eq, ps_e1, ps_em, ps_z, Nat.not_le, false_implies, true_implies, forall_const, Nat.reduceAdd, Nat.reduceMul, Nat.reduceLT, Nat.reduceLeDiff, Nat.reduceEqDiff, Nat.reduceSub]
      exact Iff.rfl
    · have q2 : y ≤ x := by omega
      simp only [↓r73_0, ↓ts_1104, ↓r73_89, ↓r73_90, ↓r73_91, ↓r73_94, ↓r73_95, ↓r73_98, ↓r73_99, lt1, q, q2, if_true, if_false, Bool.false_eq_true, ps_lit, nI_add, nI_1, pk_mul, ps_cl, ps_neg, ps_c0, ps_c1, ps_n01, ps_n11, ps_10, ps_01, ps_1n, ps_0n, ps_b01, ps_e0, am_k_n, am_k_i, am_k_r, am_k_u, am_k_l, am_sz_0, am_sz_i, am_sz_r, am_sz_u, am_sz_l, Option.toList_some, Option.toList_none, List.cons_append, List.nil_append, true_and, and_true, or_false, false_or, or_self, or_true, true_or, and_self, if_true, if_false, not_false_eq_true, not_true_eq_false, Classical.not_not, ne_eq, ps_e1, ps_em, ps_z, Nat.not_le, false_implies, true_implies, forall_const, Nat.reduceAdd, Nat.reduceMul, Nat.reduceLT, Nat.reduceLeDiff, Nat.reduceEqDiff, Nat.reduceSub]
      exact Iff.rfl
  · have ts_1105 : (∀ {d : Nat} {Q : Option Value → am_H → Prop} {L : am_L} {st : List Value} {h : am_H}, am_W X d 73 1 L (.int (nI 1105) :: st) h Q ↔ am_W X d 73 100 L st h Q) := r73_1_5
    by_cases q : y < x
    · have q2 : ¬ x ≤ y := by omega
      simp only [↓r73_0, ↓ts_1105, ↓r73_100, ↓r73_101, ↓r73_102, ↓r73_105, ↓r73_106, ↓r73_109, ↓r73_110, lt2, q, q2, if_true, if_false, Bool.false_eq_true, ps_lit, nI_add, nI_1, pk_mul, ps_cl, ps_neg, ps_c0, ps_c1, ps_n01, ps_n11, ps_10, ps_01, ps_1n, ps_0n, ps_b01, ps_e0, am_k_n, am_k_i, am_k_r, am_k_u, am_k_l, am_sz_0, am_sz_i, am_sz_r, am_sz_u, am_sz_l, Option.toList_some, Option.toList_none, List.cons_append, List.nil_append, true_and, and_true, or_false, false_or, or_self, or_true, true_or, and_self, if_true, if_false, not_false_eq_true, not_true_eq_false, Classical.not_not, ne_eq, ps_e1, ps_em, ps_z, Nat.not_le, false_implies, true_implies, forall_const, Nat.reduceAdd, Nat.reduceMul, Nat.reduceLT, Nat.reduceLeDiff, Nat.reduceEqDiff, Nat.reduceSub]
      exact Iff.rfl
    · have q2 : x ≤ y := by omega
      simp only [↓r73_0, ↓ts_1105, ↓r73_100, ↓r73_101, ↓r73_102, ↓r73_105, ↓r73_106, ↓r73_109, ↓r73_110, lt2, q, q2, if_true, if_false, Bool.false_eq_true, ps_lit, nI_add, nI_1, pk_mul, ps_cl, ps_neg, ps_c0, ps_c1, ps_n01, ps_n11, ps_10, ps_01, ps_1n, ps_0n, ps_b01, ps_e0, am_k_n, am_k_i, am_k_r, am_k_u, am_k_l, am_sz_0, am_sz_i, am_sz_r, am_sz_u, am_sz_l, Option.toList_some, Option.toList_none, List.cons_append, List.nil_append, true_and, and_true, or_false, false_or, or_self, or_true, true_or, and_self, if_true, if_false, not_false_eq_true, not_true_eq_false, Classical.not_not, ne_eq, ps_e1, ps_em, ps_z, Nat.not_le, false_implies, true_implies, forall_const, Nat.reduceAdd, Nat.reduceMul, Nat.reduceLT, Nat.reduceLeDiff, Nat.reduceEqDiff, Nat.reduceSub]
      exact Iff.rfl
  · have ts_1106 : (∀ {d : Nat} {Q : Option Value → am_H → Prop} {L : am_L} {st : List Value} {h : am_H}, am_W X d 73 1 L (.int (nI 1106) :: st) h Q ↔ am_W X d 73 111 L st h Q) := r73_1_6
    by_cases q : x = y
    · simp only [↓r73_0, ↓ts_1106, ↓r73_111, ↓r73_112, ↓r73_113, ↓r73_116, ↓r73_117, ↓r73_120, ↓r73_121, q, if_true, if_false, Bool.false_eq_true, ps_lit, nI_add, nI_1, pk_mul, ps_cl, ps_neg, ps_c0, ps_c1, ps_n01, ps_n11, ps_10, ps_01, ps_1n, ps_0n, ps_b01, ps_e0, am_k_n, am_k_i, am_k_r, am_k_u, am_k_l, am_sz_0, am_sz_i, am_sz_r, am_sz_u, am_sz_l, Option.toList_some, Option.toList_none, List.cons_append, List.nil_append, true_and, and_true, or_false, false_or, or_self, or_true, true_or, and_self, if_true, if_false, not_false_eq_true, not_true_eq_false, Classical.not_not, ne_eq, ps_e1, ps_em, ps_z, Nat.not_le, false_implies, true_implies, forall_const, Nat.reduceAdd, Nat.reduceMul, Nat.reduceLT, Nat.reduceLeDiff, Nat.reduceEqDiff, Nat.reduceSub]
      exact Iff.rfl
    · simp only [↓r73_0, ↓ts_1106, ↓r73_111, ↓r73_112, ↓r73_113, ↓r73_116, ↓r73_117, ↓r73_120, ↓r73_121, eqq, q, if_true, if_false, Bool.false_eq_true, ps_lit, nI_add, nI_1, pk_mul, ps_cl, ps_neg, ps_c0, ps_c1, ps_n01, ps_n11, ps_10, ps_01, ps_1n, ps_0n, ps_b01, ps_e0, am_k_n, am_k_i, am_k_r, am_k_u, am_k_l, am_sz_0, am_sz_i, am_sz_r, am_sz_u, am_sz_l, Option.toList_some, Option.toList_none, List.cons_append, List.nil_append, true_and, and_true, or_false, false_or, or_self, or_true, true_or, and_self, if_true, if_false, not_false_eq_true, not_true_eq_false, Classical.not_not, ne_eq, ps_e1, ps_em, ps_z, Nat.not_le, false_implies, true_implies, forall_const, Nat.reduceAdd, Nat.reduceMul, Nat.reduceLT, Nat.reduceLeDiff, Nat.reduceEqDiff, Nat.reduceSub]
      exact Iff.rfl
end CW
