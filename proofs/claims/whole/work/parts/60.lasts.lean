/-! calls, one on each side: lasts, trust -/
section LA
variable {X : am_X} {d : Nat} {Q : Option Value → am_H → Prop} {n sl : Nat} {t : Nat → Nat × Nat} {I : Nat → Nat → Int32} {J : Nat → Nat → Int64} {F : Nat → Nat → Option Nat} {h : am_H}
variable {K : Nat → Int32} {N T : Nat} {lw : Nat → List CL}
theorem sm_grp (p : Nat → Bool) (f : Nat → Nat) : ∀ N, sm (fun i => f ((grp p N).getD i 0)) (grp p N).length = sm (fun a => if p a = true then f a else 0) N := by
  intro N
  induction N with
  | zero => rfl
  | succ N ih =>
    rw [sm, ← ih]
    by_cases hp : p N = true
    · have e : grp p (N + 1) = grp p N ++ [N] := by rw [grp, if_pos hp]
      rw [e, List.length_append, List.length_singleton, sm, if_pos hp]
      have e1 : (grp p N ++ [N]).getD (grp p N).length 0 = N := by
        rw [List.getD_eq_getElem?_getD, List.getElem?_append_right (Nat.le_refl _), Nat.sub_self]
        rfl
      rw [e1, sm_c (g := fun i => f ((grp p N).getD i 0))]
      intro i hi
      rw [List.getD_eq_getElem?_getD, List.getD_eq_getElem?_getD, List.getElem?_append_left hi]
    · have e : grp p (N + 1) = grp p N := by rw [grp, if_neg hp, List.append_nil]
      rw [e, if_neg hp, Nat.add_zero]
def lon (K : Nat → Int32) (a b : Nat) : Bool := decide (K (15 * b + 10) = 0 ∧ (if K (15 * a + 10) = 0 then K (15 * b + 9) < K (15 * a + 9) else K (15 * b + 9) ≤ K (15 * a + 9)))
def outc (K : Nat → Int32) (a b : Nat) : Nat := if lon K a b = true then 0 else if lon K b a = true then 1 else if K (15 * a + 10) = 0 ∧ K (15 * b + 10) = 0 then 2 else 3
theorem outc_le (a b : Nat) : outc K a b ≤ 3 := by
  unfold outc
  split
  · omega
  · split
    · omega
    · split <;> omega
def lq (K : Nat → Int32) (w a b : Nat) : Bool := !decide (b = a) && fTr K b && decide (outc K a b = w)
theorem lq_e {w a b : Nat} : lq K w a b = true ↔ ¬ b = a ∧ fTr K b = true ∧ outc K a b = w := by
  unfold lq
  simp [and_assoc]
def lcn (K : Nat → Int32) (l : List Nat) (w a : Nat) : Nat := if fTr K a = true then cnt (fun k => lq K w a (l.getD k 0)) l.length else 0
theorem su_0lt {a b : Nat} (ha : a ≤ 200) (hb : b ≤ 200) : (0 < nI a - nI b) = (nI b < nI a) := by
  rw [q_lt (by omega) (by omega)]
  apply propext
  rw [Int32.lt_iff_toInt_lt, pk_sub_toInt (by omega) (by omega)]
  have e : (0 : Int32).toInt = 0 := by decide
  rw [e]
  omega
theorem su_0le {a b : Nat} (ha : a ≤ 200) (hb : b ≤ 200) : (0 ≤ nI a - nI b) = (nI b ≤ nI a) := by
  rw [q_le (by omega) (by omega)]
  apply propext
  rw [Int32.le_iff_toInt_le, pk_sub_toInt (by omega) (by omega)]
  have e : (0 : Int32).toInt = 0 := by decide
  rw [e]
  omega
theorem c_outlasts {a b m : Int32} : am_W X d 146 0 [some (.int a), some (.int b), some (.int m)] [] (n, sl, t, I, J, F) Q ↔ Q (some (.int (if b = 0 ∧ (if a = 0 then 0 < m else 0 ≤ m) then 1 else 0))) (n, sl, t, I, J, F) := by
  by_cases h1 : b = 0
  · by_cases h2 : a = 0
    · by_cases h3 : 0 < m
      · simp only [↓r146_0, ↓r146_1, ↓r146_4, ↓r146_5, ↓r146_8, ↓r146_9, ↓r146_12, ↓r146_15, ↓r146_16, ↓r146_19, ↓r146_20, ↓r146_23, ↓r146_24, h1, h2, h3, Int32.not_le.mpr h3, and_self, if_true, Bool.false_eq_true, ps_lit, nI_add, nI_1, pk_mul, ps_cl, ps_neg, ps_c0, ps_c1, ps_n01, ps_n11, ps_10, ps_01, ps_1n, ps_0n, ps_b01, ps_e0, am_k_n, am_k_i, am_k_r, am_k_u, am_k_l, am_sz_0, am_sz_i, am_sz_r, am_sz_u, am_sz_l, Option.toList_some, Option.toList_none, List.cons_append, List.nil_append, true_and, and_true, or_false, false_or, or_self, or_true, true_or, and_self, if_true, if_false, not_false_eq_true, not_true_eq_false, Classical.not_not, ne_eq, ps_e1, ps_em, ps_z, Nat.not_le, false_implies, true_implies, forall_const, Nat.reduceAdd, Nat.reduceMul, Nat.reduceLT, Nat.reduceLeDiff, Nat.reduceEqDiff, Nat.reduceSub]
      · simp only [↓r146_0, ↓r146_1, ↓r146_4, ↓r146_5, ↓r146_8, ↓r146_9, ↓r146_12, ↓r146_15, ↓r146_16, ↓r146_19, ↓r146_20, ↓r146_23, ↓r146_24, h1, h2, h3, Int32.not_lt.mp h3, and_false, if_false, if_true, Bool.false_eq_true, ps_lit, nI_add, nI_1, pk_mul, ps_cl, ps_neg, ps_c0, ps_c1, ps_n01, ps_n11, ps_10, ps_01, ps_1n, ps_0n, ps_b01, ps_e0, am_k_n, am_k_i, am_k_r, am_k_u, am_k_l, am_sz_0, am_sz_i, am_sz_r, am_sz_u, am_sz_l, Option.toList_some, Option.toList_none, List.cons_append, List.nil_append, true_and, and_true, or_false, false_or, or_self, or_true, true_or, and_self, if_true, if_false, not_false_eq_true, not_true_eq_false, Classical.not_not, ne_eq, ps_e1, ps_em, ps_z, Nat.not_le, false_implies, true_implies, forall_const, Nat.reduceAdd, Nat.reduceMul, Nat.reduceLT, Nat.reduceLeDiff, Nat.reduceEqDiff, Nat.reduceSub]
    · by_cases h3 : 0 ≤ m
      · simp only [↓r146_0, ↓r146_1, ↓r146_4, ↓r146_5, ↓r146_8, ↓r146_9, ↓r146_12, ↓r146_15, ↓r146_16, ↓r146_19, ↓r146_20, ↓r146_23, ↓r146_24, h1, h2, h3, Int32.not_lt.mpr h3, and_self, if_true, if_false, Bool.false_eq_true, ps_lit, nI_add, nI_1, pk_mul, ps_cl, ps_neg, ps_c0, ps_c1, ps_n01, ps_n11, ps_10, ps_01, ps_1n, ps_0n, ps_b01, ps_e0, am_k_n, am_k_i, am_k_r, am_k_u, am_k_l, am_sz_0, am_sz_i, am_sz_r, am_sz_u, am_sz_l, Option.toList_some, Option.toList_none, List.cons_append, List.nil_append, true_and, and_true, or_false, false_or, or_self, or_true, true_or, and_self, if_true, if_false, not_false_eq_true, not_true_eq_false, Classical.not_not, ne_eq, ps_e1, ps_em, ps_z, Nat.not_le, false_implies, true_implies, forall_const, Nat.reduceAdd, Nat.reduceMul, Nat.reduceLT, Nat.reduceLeDiff, Nat.reduceEqDiff, Nat.reduceSub]
      · simp only [↓r146_0, ↓r146_1, ↓r146_4, ↓r146_5, ↓r146_8, ↓r146_9, ↓r146_12, ↓r146_15, ↓r146_16, ↓r146_19, ↓r146_20, ↓r146_23, ↓r146_24, h1, h2, h3, Int32.not_le.mp h3, and_false, if_false, Bool.false_eq_true, ps_lit, nI_add, nI_1, pk_mul, ps_cl, ps_neg, ps_c0, ps_c1, ps_n01, ps_n11, ps_10, ps_01, ps_1n, ps_0n, ps_b01, ps_e0, am_k_n, am_k_i, am_k_r, am_k_u, am_k_l, am_sz_0, am_sz_i, am_sz_r, am_sz_u, am_sz_l, Option.toList_some, Option.toList_none, List.cons_append, List.nil_append, true_and, and_true, or_false, false_or, or_self, or_true, true_or, and_self, if_true, if_false, not_false_eq_true, not_true_eq_false, Classical.not_not, ne_eq, ps_e1, ps_em, ps_z, Nat.not_le, false_implies, true_implies, forall_const, Nat.reduceAdd, Nat.reduceMul, Nat.reduceLT, Nat.reduceLeDiff, Nat.reduceEqDiff, Nat.reduceSub]
  · simp only [↓r146_0, ↓r146_1, ↓r146_4, ↓r146_5, ↓r146_8, ↓r146_9, ↓r146_12, ↓r146_15, ↓r146_16, ↓r146_19, ↓r146_20, ↓r146_23, ↓r146_24, h1, false_and, if_false, Bool.false_eq_true, ps_lit, nI_add, nI_1, pk_mul, ps_cl, ps_neg, ps_c0, ps_c1, ps_n01, ps_n11, ps_10, ps_01, ps_1n, ps_0n, ps_b01, ps_e0, am_k_n, am_k_i, am_k_r, am_k_u, am_k_l, am_sz_0, am_sz_i, am_sz_r, am_sz_u, am_sz_l, Option.toList_some, Option.toList_none, List.cons_append, List.nil_append, true_and, and_true, or_false, false_or, or_self, or_true, true_or, and_self, if_true, if_false, not_false_eq_true, not_true_eq_false, Classical.not_not, ne_eq, ps_e1, ps_em, ps_z, Nat.not_le, false_implies, true_implies, forall_const, Nat.reduceAdd, Nat.reduceMul, Nat.reduceLT, Nat.reduceLeDiff, Nat.reduceEqDiff, Nat.reduceSub]
theorem c_lasting {a b : Nat} (hK : KW K N T) (ha : a < N) (hb : b < N) : am_W X (d + 1) 145 0 [some (.int (K (15 * a + 10))), some (.int (K (15 * b + 10))), some (.int (K (15 * a + 9) - K (15 * b + 9)))] [] (n, sl, t, I, J, F) Q ↔ Q (some (.int (nI (outc K a b)))) (n, sl, t, I, J, F) := by
  obtain ⟨x, hx, ex⟩ := kid_ten hK ha
  obtain ⟨y, hy, ey⟩ := kid_ten hK hb
  have e1 : -(nI x - nI y) = nI y - nI x := Int32.neg_sub
  have p1 : (K (15 * b + 10) = 0 ∧ (if K (15 * a + 10) = 0 then 0 < nI x - nI y else 0 ≤ nI x - nI y)) = (lon K a b = true) := by
    unfold lon
    rw [ex, ey, su_0lt hx hy, su_0le hx hy, decide_eq_true_eq]
  have p2 : (K (15 * a + 10) = 0 ∧ (if K (15 * b + 10) = 0 then 0 < nI y - nI x else 0 ≤ nI y - nI x)) = (lon K b a = true) := by
    unfold lon
    rw [ex, ey, su_0lt hy hx, su_0le hy hx, decide_eq_true_eq]
  rw [ex, ey]
  have o1 : ∀ Q, am_W X d 146 0 [some (.int (K (15 * a + 10))), some (.int (K (15 * b + 10))), some (.int (nI x - nI y))] [] (n, sl, t, I, J, F) Q ↔ Q (some (.int (if lon K a b = true then 1 else 0))) (n, sl, t, I, J, F) := fun Q => by
    rw [c_outlasts]
    simp only [p1]
  have o2 : ∀ Q, am_W X d 146 0 [some (.int (K (15 * b + 10))), some (.int (K (15 * a + 10))), some (.int (nI y - nI x))] [] (n, sl, t, I, J, F) Q ↔ Q (some (.int (if lon K b a = true then 1 else 0))) (n, sl, t, I, J, F) := fun Q => by
    rw [c_outlasts]
    simp only [p2]
  unfold outc
  by_cases h1 : lon K a b = true
  · simp only [↓r145_0, ↓r145_1, ↓r145_2, ↓r145_3, ↓r145_6, ↓r145_9, ↓r145_10, ↓r145_11, ↓r145_12, ↓r145_13, ↓r145_14, ↓r145_15, ↓r145_18, ↓r145_21, ↓r145_22, ↓r145_23, ↓r145_24, ↓r145_27, ↓r145_28, ↓r145_31, ↓r145_32, ↓r145_35, ↓r145_36, ↓o1, ↓o2, e1, h1, if_true, ps_n0, Bool.false_eq_true, ps_lit, nI_add, nI_1, pk_mul, ps_cl, ps_neg, ps_c0, ps_c1, ps_n01, ps_n11, ps_10, ps_01, ps_1n, ps_0n, ps_b01, ps_e0, am_k_n, am_k_i, am_k_r, am_k_u, am_k_l, am_sz_0, am_sz_i, am_sz_r, am_sz_u, am_sz_l, Option.toList_some, Option.toList_none, List.cons_append, List.nil_append, true_and, and_true, or_false, false_or, or_self, or_true, true_or, and_self, if_true, if_false, not_false_eq_true, not_true_eq_false, Classical.not_not, ne_eq, ps_e1, ps_em, ps_z, Nat.not_le, false_implies, true_implies, forall_const, Nat.reduceAdd, Nat.reduceMul, Nat.reduceLT, Nat.reduceLeDiff, Nat.reduceEqDiff, Nat.reduceSub]
  · by_cases h2 : lon K b a = true
    · simp only [↓r145_0, ↓r145_1, ↓r145_2, ↓r145_3, ↓r145_6, ↓r145_9, ↓r145_10, ↓r145_11, ↓r145_12, ↓r145_13, ↓r145_14, ↓r145_15, ↓r145_18, ↓r145_21, ↓r145_22, ↓r145_23, ↓r145_24, ↓r145_27, ↓r145_28, ↓r145_31, ↓r145_32, ↓r145_35, ↓r145_36, ↓o1, ↓o2, e1, h1, h2, if_true, if_false, ps_n1, Bool.false_eq_true, ps_lit, nI_add, nI_1, pk_mul, ps_cl, ps_neg, ps_c0, ps_c1, ps_n01, ps_n11, ps_10, ps_01, ps_1n, ps_0n, ps_b01, ps_e0, am_k_n, am_k_i, am_k_r, am_k_u, am_k_l, am_sz_0, am_sz_i, am_sz_r, am_sz_u, am_sz_l, Option.toList_some, Option.toList_none, List.cons_append, List.nil_append, true_and, and_true, or_false, false_or, or_self, or_true, true_or, and_self, if_true, if_false, not_false_eq_true, not_true_eq_false, Classical.not_not, ne_eq, ps_e1, ps_em, ps_z, Nat.not_le, false_implies, true_implies, forall_const, Nat.reduceAdd, Nat.reduceMul, Nat.reduceLT, Nat.reduceLeDiff, Nat.reduceEqDiff, Nat.reduceSub]
    · simp only [↓r145_0, ↓r145_1, ↓r145_2, ↓r145_3, ↓r145_6, ↓r145_9, ↓r145_10, ↓r145_11, ↓r145_12, ↓r145_13, ↓r145_14, ↓r145_15, ↓r145_18, ↓o1, ↓o2, e1, h1, h2, if_true, if_false, Bool.false_eq_true, ps_lit, nI_add, nI_1, pk_mul, ps_cl, ps_neg, ps_c0, ps_c1, ps_n01, ps_n11, ps_10, ps_01, ps_1n, ps_0n, ps_b01, ps_e0, am_k_n, am_k_i, am_k_r, am_k_u, am_k_l, am_sz_0, am_sz_i, am_sz_r, am_sz_u, am_sz_l, Option.toList_some, Option.toList_none, List.cons_append, List.nil_append, true_and, and_true, or_false, false_or, or_self, or_true, true_or, and_self, if_true, if_false, not_false_eq_true, not_true_eq_false, Classical.not_not, ne_eq, ps_e1, ps_em, ps_z, Nat.not_le, false_implies, true_implies, forall_const, Nat.reduceAdd, Nat.reduceMul, Nat.reduceLT, Nat.reduceLeDiff, Nat.reduceEqDiff, Nat.reduceSub]
      by_cases h3 : K (15 * a + 10) = 0
      · by_cases h4 : K (15 * b + 10) = 0
        · simp only [↓r145_23, ↓r145_24, ↓r145_27, ↓r145_28, ↓r145_31, ↓r145_32, ↓r145_35, ↓r145_36, h3, h4, and_self, if_true, if_false, Bool.false_eq_true, ps_lit, nI_add, nI_1, pk_mul, ps_cl, ps_neg, ps_c0, ps_c1, ps_n01, ps_n11, ps_10, ps_01, ps_1n, ps_0n, ps_b01, ps_e0, am_k_n, am_k_i, am_k_r, am_k_u, am_k_l, am_sz_0, am_sz_i, am_sz_r, am_sz_u, am_sz_l, Option.toList_some, Option.toList_none, List.cons_append, List.nil_append, true_and, and_true, or_false, false_or, or_self, or_true, true_or, and_self, if_true, if_false, not_false_eq_true, not_true_eq_false, Classical.not_not, ne_eq, ps_e1, ps_em, ps_z, Nat.not_le, false_implies, true_implies, forall_const, Nat.reduceAdd, Nat.reduceMul, Nat.reduceLT, Nat.reduceLeDiff, Nat.reduceEqDiff, Nat.reduceSub]
        · simp only [↓r145_23, ↓r145_24, ↓r145_27, ↓r145_28, ↓r145_31, ↓r145_32, ↓r145_35, ↓r145_36, h3, h4, and_false, if_true, if_false, Bool.false_eq_true, ps_lit, nI_add, nI_1, pk_mul, ps_cl, ps_neg, ps_c0, ps_c1, ps_n01, ps_n11, ps_10, ps_01, ps_1n, ps_0n, ps_b01, ps_e0, am_k_n, am_k_i, am_k_r, am_k_u, am_k_l, am_sz_0, am_sz_i, am_sz_r, am_sz_u, am_sz_l, Option.toList_some, Option.toList_none, List.cons_append, List.nil_append, true_and, and_true, or_false, false_or, or_self, or_true, true_or, and_self, if_true, if_false, not_false_eq_true, not_true_eq_false, Classical.not_not, ne_eq, ps_e1, ps_em, ps_z, Nat.not_le, false_implies, true_implies, forall_const, Nat.reduceAdd, Nat.reduceMul, Nat.reduceLT, Nat.reduceLeDiff, Nat.reduceEqDiff, Nat.reduceSub]
      · simp only [↓r145_23, ↓r145_24, ↓r145_27, ↓r145_28, ↓r145_31, ↓r145_32, ↓r145_35, ↓r145_36, h3, false_and, if_true, if_false, Bool.false_eq_true, ps_lit, nI_add, nI_1, pk_mul, ps_cl, ps_neg, ps_c0, ps_c1, ps_n01, ps_n11, ps_10, ps_01, ps_1n, ps_0n, ps_b01, ps_e0, am_k_n, am_k_i, am_k_r, am_k_u, am_k_l, am_sz_0, am_sz_i, am_sz_r, am_sz_u, am_sz_l, Option.toList_some, Option.toList_none, List.cons_append, List.nil_append, true_and, and_true, or_false, false_or, or_self, or_true, true_or, and_self, if_true, if_false, not_false_eq_true, not_true_eq_false, Classical.not_not, ne_eq, ps_e1, ps_em, ps_z, Nat.not_le, false_implies, true_implies, forall_const, Nat.reduceAdd, Nat.reduceMul, Nat.reduceLT, Nat.reduceLeDiff, Nat.reduceEqDiff, Nat.reduceSub]
theorem fTr_c {a : Nat} (hK : KW K N T) (ha : a < N) : (K (15 * a + 10) = 0 ∨ K (15 * a + 10) = 1) = (fTr K a = true) := by
  obtain ⟨w, hw, e⟩ := kid_how hK ha
  unfold fTr
  rw [e, decide_eq_true_eq]
  exact propext (how_tr hw)
theorem cl_lasts {w : Nat} {l1 l2 : List Nat} (hw : w ≤ 3) (hCK : CK n t F (I 1 4) (I 2) (I 3) (I 49) K N) (hG : GH (I 15 1) (I 16) l1 N) (hG2 : GH (I 17 1) (I 18) l2 N) : am_W X (d + 3) 144 0 [some (.ref 0), some (.int (nI w)), none, none, none, none, none, none, none, none, none] [] (n, sl, t, I, J, F) Q ↔ Q (some (.int (nI (sm (fun i => lcn K l2 w (l1.getD i 0)) l1.length)))) (n, sl, t, I, J, F) := by
  have hW : WS n t F := hCK.1
  obtain ⟨hn, hn2, ht, hF⟩ := id hW
  obtain ⟨h1, h2, h3⟩ := hG
  obtain ⟨j1, j2, j3⟩ := hG2
  obtain ⟨_, ⟨T, hK⟩, _⟩ := id hCK
  have zw : w < 2000000 := by omega
  have hin : ∀ (R : Prop) (n0 i a : Nat), a < N → fTr K a = true → (∀ l7 l8 l9 l10 : Option Value, am_W X (d + 3) 144 153 [some (.ref 0), some (.int (nI w)), some (.int (nI (n0 + cnt (fun k => lq K w a (l2.getD k 0)) l2.length))), some (.int (nI i)), some (.int (nI a)), some (.int (K (15 * a + 10))), some (.int (K (15 * a + 9))), l7, l8, l9, l10] [] (n, sl, t, I, J, F) Q ↔ R) → ∀ l8 l9 l10 : Option Value, am_W X (d + 3) 144 55 [some (.ref 0), some (.int (nI w)), some (.int (nI n0)), some (.int (nI i)), some (.int (nI a)), some (.int (K (15 * a + 10))), some (.int (K (15 * a + 9))), some (.int 0), l8, l9, l10] [] (n, sl, t, I, J, F) Q ↔ R := by
    intro R n0 i a ha hta hR
    refine lp0 (A := fun k => ∀ l8 l9 l10 : Option Value, am_W X (d + 3) 144 55 [some (.ref 0), some (.int (nI w)), some (.int (nI (n0 + cnt (fun k => lq K w a (l2.getD k 0)) k))), some (.int (nI i)), some (.int (nI a)), some (.int (K (15 * a + 10))), some (.int (K (15 * a + 9))), some (.int (nI k)), l8, l9, l10] [] (n, sl, t, I, J, F) Q ↔ R) (N := l2.length) ?_ ?_
    · intro k hk ih l8 l9 l10
      obtain ⟨g1, g2⟩ := j3 k hk
      have z1 : k < 2000000 ∧ l2.length < 2000000 ∧ k < 120 := by omega
      have z2 : ¬ l2.length ≤ k := by omega
      have z3 : a < 2000000 ∧ l2.getD k 0 < 2000000 := by have := hK.1; omega
      have z4 := outc_le (K := K) a (l2.getD k 0)
      have z5 : outc K a (l2.getD k 0) < 2000000 := by omega
      have t1 := fTr_c hK ha
      have t2 := fTr_c hK g2
      rw [r144_55]
      by_cases q1 : l2.getD k 0 = a
      · have e4 : lq K w a (l2.getD k 0) = false := Bool.eq_false_iff.mpr (fun q => (lq_e.mp q).1 q1)
        rw [cnt_s0 (p := fun k => lq K w a (l2.getD k 0)) e4] at ih
        simp only [↓r144_57, ↓r144_58, ↓r144_61, ↓r144_64, ↓r144_67, ↓r144_69, ↓r144_72, ↓r144_75, ↓r144_76, ↓r144_79, ↓r144_82, ↓r144_84, ↓r144_84k, ↓r144_85, ↓r144_87, ↓r144_88, ↓r144_91, ↓r144_93, ↓r144_95, ↓r144_98, ↓r144_100, ↓r144_102, ↓r144_103, ↓r144_106, ↓r144_108, ↓r144_110, ↓r144_113, ↓r144_114, ↓r144_116, ↓r144_118, ↓r144_120, ↓r144_123, ↓r144_125, ↓r144_128, ↓r144_131, ↓r144_133, ↓r144_135, ↓r144_137, ↓r144_140, ↓r144_141, ↓r144_144, ↓r144_147, ↓r144_150, ↓c_meansTried, ↓k_at (K := K) (N := N), ↓k_isTried (K := K) (N := N), ↓k_side (K := K) (N := N), ↓k_thing (K := K) (N := N), ↓k_isFound (K := K) (N := N), ↓m_factOf (K := K) (N := N), ↓m_isTried (K := K) (N := N), ↓m_took (K := K) (N := N), ↓m_waited (K := K) (N := N), ↓m_isLong (K := K) (N := N), ↓m_isShort (K := K) (N := N), ↓m_thingOf (K := K) (N := N), ↓m_isFound (K := K) (N := N), ↓m_many (K := K) (N := N), ↓c_within, ↓s_lies, hCK, b01, b11, q_le, q_lt, q_eq, q_e0, q_e1, q_0e, q_1e, ps_n0, q_0le, q_le0, q_0lt, q_m1e, q_em1, j1, g1, g2, ha, z1, z2, z3, t1, t2, hta, (show (a = l2.getD k 0) = True from eq_true q1.symm), if_true, Bool.false_eq_true, hn, hn2, ht, hF, am_wt, am_wf, Option.isSome_some, am_rf_s, am_rf_n, ps_lit, nI_add, nI_1, pk_mul, ps_cl, ps_neg, ps_c0, ps_c1, ps_n01, ps_n11, ps_10, ps_b01, ps_e0, pu_Ine, pu_Ieq, pu_ne, pu_eq, am_k_n, am_k_i, am_k_r, am_k_u, am_k_l, am_sz_0, am_sz_i, am_sz_r, am_sz_u, am_sz_l, Option.toList_some, Option.toList_none, List.cons_append, List.nil_append, true_and, and_true, or_false, false_or, or_self, or_true, true_or, not_false_eq_true, not_true_eq_false, Classical.not_not, ne_eq, ps_e1, ps_em, ps_z, Nat.not_le, false_implies, true_implies, forall_const, ps_01, ps_1n, ps_0n, ps_m10, ps_m1n, lg_cmp_gt, lg_cmp_ge, lg_cmp_le, lg_cmp_lt, lg_cmp_eq, pu_rne, pu_req, pu_uro, RFc_n, Nat.reduceAdd, Nat.reduceMul, Nat.reduceLT, Nat.reduceLeDiff, Nat.reduceEqDiff, Nat.reduceSub]
        exact ih _ _ _
      · have q1' : ¬ a = l2.getD k 0 := fun q => q1 q.symm
        by_cases q2 : fTr K (l2.getD k 0) = true
        · by_cases q3 : outc K a (l2.getD k 0) = w
          · have e4 : lq K w a (l2.getD k 0) = true := lq_e.mpr ⟨q1, q2, q3⟩
            rw [cnt_s1 (p := fun k => lq K w a (l2.getD k 0)) e4] at ih
            simp only [↓r144_57, ↓r144_58, ↓r144_61, ↓r144_64, ↓r144_67, ↓r144_69, ↓r144_72, ↓r144_75, ↓r144_76, ↓r144_79, ↓r144_82, ↓r144_84, ↓r144_84k, ↓r144_85, ↓r144_87, ↓r144_88, ↓r144_91, ↓r144_93, ↓r144_95, ↓r144_98, ↓r144_100, ↓r144_102, ↓r144_103, ↓r144_106, ↓r144_108, ↓r144_110, ↓r144_113, ↓r144_114, ↓r144_116, ↓r144_118, ↓r144_120, ↓r144_123, ↓r144_125, ↓r144_128, ↓r144_131, ↓r144_133, ↓r144_135, ↓r144_137, ↓r144_140, ↓r144_141, ↓r144_144, ↓r144_147, ↓r144_150, ↓c_meansTried, ↓c_lasting hK ha g2, ↓k_at (K := K) (N := N), ↓k_isTried (K := K) (N := N), ↓k_side (K := K) (N := N), ↓k_thing (K := K) (N := N), ↓k_isFound (K := K) (N := N), ↓m_factOf (K := K) (N := N), ↓m_isTried (K := K) (N := N), ↓m_took (K := K) (N := N), ↓m_waited (K := K) (N := N), ↓m_isLong (K := K) (N := N), ↓m_isShort (K := K) (N := N), ↓m_thingOf (K := K) (N := N), ↓m_isFound (K := K) (N := N), ↓m_many (K := K) (N := N), ↓c_within, ↓s_lies, hCK, b01, b11, q_le, q_lt, q_eq, q_e0, q_e1, q_0e, q_1e, ps_n0, q_0le, q_le0, q_0lt, q_m1e, q_em1, j1, g1, g2, ha, z1, z2, z3, z5, zw, t1, t2, hta, q1', q2, q3, if_true, Bool.false_eq_true, hn, hn2, ht, hF, am_wt, am_wf, Option.isSome_some, am_rf_s, am_rf_n, ps_lit, nI_add, nI_1, pk_mul, ps_cl, ps_neg, ps_c0, ps_c1, ps_n01, ps_n11, ps_10, ps_b01, ps_e0, pu_Ine, pu_Ieq, pu_ne, pu_eq, am_k_n, am_k_i, am_k_r, am_k_u, am_k_l, am_sz_0, am_sz_i, am_sz_r, am_sz_u, am_sz_l, Option.toList_some, Option.toList_none, List.cons_append, List.nil_append, true_and, and_true, or_false, false_or, or_self, or_true, true_or, not_false_eq_true, not_true_eq_false, Classical.not_not, ne_eq, ps_e1, ps_em, ps_z, Nat.not_le, false_implies, true_implies, forall_const, ps_01, ps_1n, ps_0n, ps_m10, ps_m1n, lg_cmp_gt, lg_cmp_ge, lg_cmp_le, lg_cmp_lt, lg_cmp_eq, pu_rne, pu_req, pu_uro, RFc_n, Nat.reduceAdd, Nat.reduceMul, Nat.reduceLT, Nat.reduceLeDiff, Nat.reduceEqDiff, Nat.reduceSub]
            exact ih _ _ _
          · have e4 : lq K w a (l2.getD k 0) = false := Bool.eq_false_iff.mpr (fun q => q3 (lq_e.mp q).2.2)
            rw [cnt_s0 (p := fun k => lq K w a (l2.getD k 0)) e4] at ih
            simp only [↓r144_57, ↓r144_58, ↓r144_61, ↓r144_64, ↓r144_67, ↓r144_69, ↓r144_72, ↓r144_75, ↓r144_76, ↓r144_79, ↓r144_82, ↓r144_84, ↓r144_84k, ↓r144_85, ↓r144_87, ↓r144_88, ↓r144_91, ↓r144_93, ↓r144_95, ↓r144_98, ↓r144_100, ↓r144_102, ↓r144_103, ↓r144_106, ↓r144_108, ↓r144_110, ↓r144_113, ↓r144_114, ↓r144_116, ↓r144_118, ↓r144_120, ↓r144_123, ↓r144_125, ↓r144_128, ↓r144_131, ↓r144_133, ↓r144_135, ↓r144_137, ↓r144_140, ↓r144_141, ↓r144_144, ↓r144_147, ↓r144_150, ↓c_meansTried, ↓c_lasting hK ha g2, ↓k_at (K := K) (N := N), ↓k_isTried (K := K) (N := N), ↓k_side (K := K) (N := N), ↓k_thing (K := K) (N := N), ↓k_isFound (K := K) (N := N), ↓m_factOf (K := K) (N := N), ↓m_isTried (K := K) (N := N), ↓m_took (K := K) (N := N), ↓m_waited (K := K) (N := N), ↓m_isLong (K := K) (N := N), ↓m_isShort (K := K) (N := N), ↓m_thingOf (K := K) (N := N), ↓m_isFound (K := K) (N := N), ↓m_many (K := K) (N := N), ↓c_within, ↓s_lies, hCK, b01, b11, q_le, q_lt, q_eq, q_e0, q_e1, q_0e, q_1e, ps_n0, q_0le, q_le0, q_0lt, q_m1e, q_em1, j1, g1, g2, ha, z1, z2, z3, z5, zw, t1, t2, hta, q1', q2, q3, if_true, Bool.false_eq_true, hn, hn2, ht, hF, am_wt, am_wf, Option.isSome_some, am_rf_s, am_rf_n, ps_lit, nI_add, nI_1, pk_mul, ps_cl, ps_neg, ps_c0, ps_c1, ps_n01, ps_n11, ps_10, ps_b01, ps_e0, pu_Ine, pu_Ieq, pu_ne, pu_eq, am_k_n, am_k_i, am_k_r, am_k_u, am_k_l, am_sz_0, am_sz_i, am_sz_r, am_sz_u, am_sz_l, Option.toList_some, Option.toList_none, List.cons_append, List.nil_append, true_and, and_true, or_false, false_or, or_self, or_true, true_or, not_false_eq_true, not_true_eq_false, Classical.not_not, ne_eq, ps_e1, ps_em, ps_z, Nat.not_le, false_implies, true_implies, forall_const, ps_01, ps_1n, ps_0n, ps_m10, ps_m1n, lg_cmp_gt, lg_cmp_ge, lg_cmp_le, lg_cmp_lt, lg_cmp_eq, pu_rne, pu_req, pu_uro, RFc_n, Nat.reduceAdd, Nat.reduceMul, Nat.reduceLT, Nat.reduceLeDiff, Nat.reduceEqDiff, Nat.reduceSub]
            exact ih _ _ _
        · have e4 : lq K w a (l2.getD k 0) = false := Bool.eq_false_iff.mpr (fun q => q2 (lq_e.mp q).2.1)
          rw [cnt_s0 (p := fun k => lq K w a (l2.getD k 0)) e4] at ih
          simp only [↓r144_57, ↓r144_58, ↓r144_61, ↓r144_64, ↓r144_67, ↓r144_69, ↓r144_72, ↓r144_75, ↓r144_76, ↓r144_79, ↓r144_82, ↓r144_84, ↓r144_84k, ↓r144_85, ↓r144_87, ↓r144_88, ↓r144_91, ↓r144_93, ↓r144_95, ↓r144_98, ↓r144_100, ↓r144_102, ↓r144_103, ↓r144_106, ↓r144_108, ↓r144_110, ↓r144_113, ↓r144_114, ↓r144_116, ↓r144_118, ↓r144_120, ↓r144_123, ↓r144_125, ↓r144_128, ↓r144_131, ↓r144_133, ↓r144_135, ↓r144_137, ↓r144_140, ↓r144_141, ↓r144_144, ↓r144_147, ↓r144_150, ↓c_meansTried, ↓k_at (K := K) (N := N), ↓k_isTried (K := K) (N := N), ↓k_side (K := K) (N := N), ↓k_thing (K := K) (N := N), ↓k_isFound (K := K) (N := N), ↓m_factOf (K := K) (N := N), ↓m_isTried (K := K) (N := N), ↓m_took (K := K) (N := N), ↓m_waited (K := K) (N := N), ↓m_isLong (K := K) (N := N), ↓m_isShort (K := K) (N := N), ↓m_thingOf (K := K) (N := N), ↓m_isFound (K := K) (N := N), ↓m_many (K := K) (N := N), ↓c_within, ↓s_lies, hCK, b01, b11, q_le, q_lt, q_eq, q_e0, q_e1, q_0e, q_1e, ps_n0, q_0le, q_le0, q_0lt, q_m1e, q_em1, j1, g1, g2, ha, z1, z2, z3, t1, t2, hta, q1', q2, if_true, if_false, Bool.false_eq_true, hn, hn2, ht, hF, am_wt, am_wf, Option.isSome_some, am_rf_s, am_rf_n, ps_lit, nI_add, nI_1, pk_mul, ps_cl, ps_neg, ps_c0, ps_c1, ps_n01, ps_n11, ps_10, ps_b01, ps_e0, pu_Ine, pu_Ieq, pu_ne, pu_eq, am_k_n, am_k_i, am_k_r, am_k_u, am_k_l, am_sz_0, am_sz_i, am_sz_r, am_sz_u, am_sz_l, Option.toList_some, Option.toList_none, List.cons_append, List.nil_append, true_and, and_true, or_false, false_or, or_self, or_true, true_or, not_false_eq_true, not_true_eq_false, Classical.not_not, ne_eq, ps_e1, ps_em, ps_z, Nat.not_le, false_implies, true_implies, forall_const, ps_01, ps_1n, ps_0n, ps_m10, ps_m1n, lg_cmp_gt, lg_cmp_ge, lg_cmp_le, lg_cmp_lt, lg_cmp_eq, pu_rne, pu_req, pu_uro, RFc_n, Nat.reduceAdd, Nat.reduceMul, Nat.reduceLT, Nat.reduceLeDiff, Nat.reduceEqDiff, Nat.reduceSub]
          exact ih _ _ _
    · intro l8 l9 l10
      rw [r144_55]
      simp only [↓r144_57, ↓r144_58, ↓r144_61, ↓r144_64, j1, Int32.le_refl, Bool.false_eq_true, hn, hn2, ht, hF, am_wt, am_wf, Option.isSome_some, am_rf_s, am_rf_n, ps_lit, nI_add, nI_1, pk_mul, ps_cl, ps_neg, ps_c0, ps_c1, ps_n01, ps_n11, ps_10, ps_b01, ps_e0, pu_Ine, pu_Ieq, pu_ne, pu_eq, am_k_n, am_k_i, am_k_r, am_k_u, am_k_l, am_sz_0, am_sz_i, am_sz_r, am_sz_u, am_sz_l, Option.toList_some, Option.toList_none, List.cons_append, List.nil_append, true_and, and_true, or_false, false_or, or_self, or_true, true_or, not_false_eq_true, not_true_eq_false, Classical.not_not, ne_eq, ps_e1, ps_em, ps_z, Nat.not_le, false_implies, true_implies, forall_const, ps_01, ps_1n, ps_0n, ps_m10, ps_m1n, lg_cmp_gt, lg_cmp_ge, lg_cmp_le, lg_cmp_lt, lg_cmp_eq, pu_rne, pu_req, pu_uro, RFc_n, Nat.reduceAdd, Nat.reduceMul, Nat.reduceLT, Nat.reduceLeDiff, Nat.reduceEqDiff, Nat.reduceSub]
      exact hR _ _ _ _
  have hout : ∀ l4 l5 l6 l7 l8 l9 l10 : Option Value, am_W X (d + 3) 144 4 [some (.ref 0), some (.int (nI w)), some (.int 0), some (.int 0), l4, l5, l6, l7, l8, l9, l10] [] (n, sl, t, I, J, F) Q ↔ Q (some (.int (nI (sm (fun i => lcn K l2 w (l1.getD i 0)) l1.length)))) (n, sl, t, I, J, F) := by
    refine lp0 (A := fun i => ∀ l4 l5 l6 l7 l8 l9 l10 : Option Value, am_W X (d + 3) 144 4 [some (.ref 0), some (.int (nI w)), some (.int (nI (sm (fun i => lcn K l2 w (l1.getD i 0)) i))), some (.int (nI i)), l4, l5, l6, l7, l8, l9, l10] [] (n, sl, t, I, J, F) Q ↔ Q (some (.int (nI (sm (fun i => lcn K l2 w (l1.getD i 0)) l1.length)))) (n, sl, t, I, J, F)) (N := l1.length) ?_ ?_
    · intro i hi ih l4 l5 l6 l7 l8 l9 l10
      obtain ⟨g1, g2⟩ := h3 i hi
      have z1 : i < 2000000 ∧ l1.length < 2000000 ∧ i < 120 := by omega
      have z2 : ¬ l1.length ≤ i := by omega
      rw [r144_4]
      simp only [↓r144_5, ↓r144_6, ↓r144_9, ↓r144_12, ↓r144_15, ↓r144_16, ↓r144_19, ↓r144_22, ↓r144_23, ↓r144_23k, ↓r144_24, ↓r144_26, ↓r144_27, ↓r144_30, ↓r144_32, ↓r144_34, ↓r144_37, ↓r144_39, ↓r144_40, ↓r144_43, ↓r144_45, ↓r144_47, ↓r144_50, ↓r144_52, ↓r144_53, ↓k_at (K := K) (N := N), ↓k_isTried (K := K) (N := N), ↓k_side (K := K) (N := N), ↓k_thing (K := K) (N := N), ↓k_isFound (K := K) (N := N), ↓m_factOf (K := K) (N := N), ↓m_isTried (K := K) (N := N), ↓m_took (K := K) (N := N), ↓m_waited (K := K) (N := N), ↓m_isLong (K := K) (N := N), ↓m_isShort (K := K) (N := N), ↓m_thingOf (K := K) (N := N), ↓m_isFound (K := K) (N := N), ↓m_many (K := K) (N := N), ↓c_within, ↓s_lies, hCK, b01, b11, q_le, q_lt, q_eq, q_e0, q_e1, q_0e, q_1e, ps_n0, q_0le, q_le0, q_0lt, q_m1e, q_em1, h1, g1, g2, z1, z2, Bool.false_eq_true, hn, hn2, ht, hF, am_wt, am_wf, Option.isSome_some, am_rf_s, am_rf_n, ps_lit, nI_add, nI_1, pk_mul, ps_cl, ps_neg, ps_c0, ps_c1, ps_n01, ps_n11, ps_10, ps_b01, ps_e0, pu_Ine, pu_Ieq, pu_ne, pu_eq, am_k_n, am_k_i, am_k_r, am_k_u, am_k_l, am_sz_0, am_sz_i, am_sz_r, am_sz_u, am_sz_l, Option.toList_some, Option.toList_none, List.cons_append, List.nil_append, true_and, and_true, or_false, false_or, or_self, or_true, true_or, not_false_eq_true, not_true_eq_false, Classical.not_not, ne_eq, ps_e1, ps_em, ps_z, Nat.not_le, false_implies, true_implies, forall_const, ps_01, ps_1n, ps_0n, ps_m10, ps_m1n, lg_cmp_gt, lg_cmp_ge, lg_cmp_le, lg_cmp_lt, lg_cmp_eq, pu_rne, pu_req, pu_uro, RFc_n, Nat.reduceAdd, Nat.reduceMul, Nat.reduceLT, Nat.reduceLeDiff, Nat.reduceEqDiff, Nat.reduceSub]
      have es : sm (fun i => lcn K l2 w (l1.getD i 0)) (i + 1) = sm (fun i => lcn K l2 w (l1.getD i 0)) i + lcn K l2 w (l1.getD i 0) := rfl
      rw [es] at ih
      by_cases hta : fTr K (l1.getD i 0) = true
      · refine hin _ _ i _ g2 hta (fun l7 l8 l9 l10 => ?_) _ _ _
        have e5 : lcn K l2 w (l1.getD i 0) = cnt (fun k => lq K w (l1.getD i 0) (l2.getD k 0)) l2.length := if_pos hta
        rw [e5] at ih
        simp only [↓r144_153, ↓r144_156, Bool.false_eq_true, hn, hn2, ht, hF, am_wt, am_wf, Option.isSome_some, am_rf_s, am_rf_n, ps_lit, nI_add, nI_1, pk_mul, ps_cl, ps_neg, ps_c0, ps_c1, ps_n01, ps_n11, ps_10, ps_b01, ps_e0, pu_Ine, pu_Ieq, pu_ne, pu_eq, am_k_n, am_k_i, am_k_r, am_k_u, am_k_l, am_sz_0, am_sz_i, am_sz_r, am_sz_u, am_sz_l, Option.toList_some, Option.toList_none, List.cons_append, List.nil_append, true_and, and_true, or_false, false_or, or_self, or_true, true_or, not_false_eq_true, not_true_eq_false, Classical.not_not, ne_eq, ps_e1, ps_em, ps_z, Nat.not_le, false_implies, true_implies, forall_const, ps_01, ps_1n, ps_0n, ps_m10, ps_m1n, lg_cmp_gt, lg_cmp_ge, lg_cmp_le, lg_cmp_lt, lg_cmp_eq, pu_rne, pu_req, pu_uro, RFc_n, Nat.reduceAdd, Nat.reduceMul, Nat.reduceLT, Nat.reduceLeDiff, Nat.reduceEqDiff, Nat.reduceSub]
        exact ih _ _ _ _ _ _ _
      · have e5 : lcn K l2 w (l1.getD i 0) = 0 := if_neg hta
        rw [e5, Nat.add_zero] at ih
        have t1 := fTr_c hK g2
        rw [r144_55]
        by_cases q0 : nI l2.length ≤ 0
        · simp only [↓r144_57, ↓r144_58, ↓r144_61, ↓r144_64, ↓r144_153, ↓r144_156, j1, q0, Bool.false_eq_true, hn, hn2, ht, hF, am_wt, am_wf, Option.isSome_some, am_rf_s, am_rf_n, ps_lit, nI_add, nI_1, pk_mul, ps_cl, ps_neg, ps_c0, ps_c1, ps_n01, ps_n11, ps_10, ps_b01, ps_e0, pu_Ine, pu_Ieq, pu_ne, pu_eq, am_k_n, am_k_i, am_k_r, am_k_u, am_k_l, am_sz_0, am_sz_i, am_sz_r, am_sz_u, am_sz_l, Option.toList_some, Option.toList_none, List.cons_append, List.nil_append, true_and, and_true, or_false, false_or, or_self, or_true, true_or, not_false_eq_true, not_true_eq_false, Classical.not_not, ne_eq, ps_e1, ps_em, ps_z, Nat.not_le, false_implies, true_implies, forall_const, ps_01, ps_1n, ps_0n, ps_m10, ps_m1n, lg_cmp_gt, lg_cmp_ge, lg_cmp_le, lg_cmp_lt, lg_cmp_eq, pu_rne, pu_req, pu_uro, RFc_n, Nat.reduceAdd, Nat.reduceMul, Nat.reduceLT, Nat.reduceLeDiff, Nat.reduceEqDiff, Nat.reduceSub]
          exact ih _ _ _ _ _ _ _
        · simp only [↓r144_57, ↓r144_58, ↓r144_61, ↓r144_64, ↓r144_67, ↓r144_69, ↓r144_72, ↓r144_153, ↓r144_156, ↓c_meansTried, j1, q0, t1, hta, if_false, Bool.false_eq_true, hn, hn2, ht, hF, am_wt, am_wf, Option.isSome_some, am_rf_s, am_rf_n, ps_lit, nI_add, nI_1, pk_mul, ps_cl, ps_neg, ps_c0, ps_c1, ps_n01, ps_n11, ps_10, ps_b01, ps_e0, pu_Ine, pu_Ieq, pu_ne, pu_eq, am_k_n, am_k_i, am_k_r, am_k_u, am_k_l, am_sz_0, am_sz_i, am_sz_r, am_sz_u, am_sz_l, Option.toList_some, Option.toList_none, List.cons_append, List.nil_append, true_and, and_true, or_false, false_or, or_self, or_true, true_or, not_false_eq_true, not_true_eq_false, Classical.not_not, ne_eq, ps_e1, ps_em, ps_z, Nat.not_le, false_implies, true_implies, forall_const, ps_01, ps_1n, ps_0n, ps_m10, ps_m1n, lg_cmp_gt, lg_cmp_ge, lg_cmp_le, lg_cmp_lt, lg_cmp_eq, pu_rne, pu_req, pu_uro, RFc_n, Nat.reduceAdd, Nat.reduceMul, Nat.reduceLT, Nat.reduceLeDiff, Nat.reduceEqDiff, Nat.reduceSub]
          exact ih _ _ _ _ _ _ _
    · intro l4 l5 l6 l7 l8 l9 l10
      rw [r144_4]
      simp only [↓r144_5, ↓r144_6, ↓r144_9, ↓r144_12, ↓r144_159, ↓r144_160, h1, Int32.le_refl, Bool.false_eq_true, hn, hn2, ht, hF, am_wt, am_wf, Option.isSome_some, am_rf_s, am_rf_n, ps_lit, nI_add, nI_1, pk_mul, ps_cl, ps_neg, ps_c0, ps_c1, ps_n01, ps_n11, ps_10, ps_b01, ps_e0, pu_Ine, pu_Ieq, pu_ne, pu_eq, am_k_n, am_k_i, am_k_r, am_k_u, am_k_l, am_sz_0, am_sz_i, am_sz_r, am_sz_u, am_sz_l, Option.toList_some, Option.toList_none, List.cons_append, List.nil_append, true_and, and_true, or_false, false_or, or_self, or_true, true_or, not_false_eq_true, not_true_eq_false, Classical.not_not, ne_eq, ps_e1, ps_em, ps_z, Nat.not_le, false_implies, true_implies, forall_const, ps_01, ps_1n, ps_0n, ps_m10, ps_m1n, lg_cmp_gt, lg_cmp_ge, lg_cmp_le, lg_cmp_lt, lg_cmp_eq, pu_rne, pu_req, pu_uro, RFc_n, Nat.reduceAdd, Nat.reduceMul, Nat.reduceLT, Nat.reduceLeDiff, Nat.reduceEqDiff, Nat.reduceSub]
  rw [← hout none none none none none none none]
  simp only [↓r144_0, ↓r144_1, ↓r144_2, ↓r144_3, am_k_i]
end LA
