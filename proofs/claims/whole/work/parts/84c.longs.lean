/-! the reference's numbers of many digits -/
section RJ
variable {X : am_X} {d : Nat} {Q : Option Value → am_H → Prop} {n sl : Nat} {t : Nat → Nat × Nat} {I : Nat → Nat → Int32} {J : Nat → Nat → Int64} {F : Nat → Nat → Option Nat} {h : am_H}
def cC : Nat := 100000000
theorem cC_e : cC = 100000000 := rfl
theorem cC_p : 0 < cC := by decide
def rwL (M : Nat) (f s : Nat → Int64) : Nat → Int64 := fun w => if w < M then s w else f w
theorem rwL_s {i : Nat} {g s : Nat → Int64} : vp_updL (rwL i g s) i (s i) = rwL (i + 1) g s := by
  funext k
  unfold vp_updL rwL
  by_cases h : k = i
  · rw [if_pos h, if_pos (by omega), h]
  · rw [if_neg h]
    by_cases h2 : k < i
    · rw [if_pos h2, if_pos (by omega)]
    · rw [if_neg h2, if_neg (by omega)]
theorem rwL_0 {g s : Nat → Int64} : rwL 0 g s = g := by
  funext k
  unfold rwL
  rw [if_neg (by omega)]
theorem rwL_n {i k : Nat} {g s : Nat → Int64} (h : ¬ k < i) : rwL i g s k = g k := if_neg h
theorem rwL_at {i k : Nat} {g s : Nat → Int64} (h : k < i) : rwL i g s k = s k := if_pos h
theorem oneC {k : Nat} : dig cC 1 k = if k = 0 then 1 else 0 := by
  unfold dig
  by_cases h : k = 0
  · rw [if_pos h, h]; decide
  · rw [if_neg h]
    have : 1 < cC ^ k := by
      refine Nat.lt_of_lt_of_le (show 1 < cC ^ 1 by decide) (Nat.pow_le_pow_right cC_p (by omega))
    rw [Nat.div_eq_of_lt this, Nat.zero_mod]
/-- a number lies here -/
def NC (f : Nat → Int64) (V : Nat) : Prop := V < cC ^ 620 ∧ ∀ k, k < 620 → f k = lN (dig cC V k)
theorem NC_w {f : Nat → Int64} {V : Nat} (h : V < cC ^ 620) : NC (rwL 620 f (fun k => lN (dig cC V k))) V := ⟨h, fun _ hk => rwL_at hk⟩
theorem m_be {a : Nat} (hn2 : n ≤ 1000000) (ha : a < n) (ta : t a = (23, 620)) : am_W X d 237 0 [some (.ref a), some (.long 1), none, none] [] (n, sl, t, I, J, F) Q ↔ Q none (n, sl, t, I, am_ro J a (rwL 620 (J a) (fun k => lN (dig cC 1 k))), F) := by
  have hx : am_W X d 237 2 [some (.ref a), some (.long 1), none, some (.int 0)] [] (n, sl, t, I, am_ro J a (rwL 0 (J a) (fun k => lN (dig cC 1 k))), F) Q ↔ Q none (n, sl, t, I, am_ro J a (rwL 620 (J a) (fun k => lN (dig cC 1 k))), F) := by
    refine lp0 (A := fun i => am_W X d 237 2 [some (.ref a), some (.long 1), none, some (.int (nI i))] [] (n, sl, t, I, am_ro J a (rwL i (J a) (fun k => lN (dig cC 1 k))), F) Q ↔ Q none (n, sl, t, I, am_ro J a (rwL 620 (J a) (fun k => lN (dig cC 1 k))), F)) (N := 620) ?_ ?_
    · intro i hi ih
      have z1 : i < 2000000 ∧ i < 620 := by omega
      have z2 : ¬ 620 ≤ i := by omega
      have y7 := rwL_s (i := i) (g := J a) (s := fun k => lN (dig cC 1 k))
      rw [oneC] at y7
      rw [← y7] at ih
      rw [r237_2]
      by_cases h : i = 0
      · rw [if_pos h] at ih
        have h1 : lN 1 = (1 : Int64) := rfl
        rw [h1] at ih
        simp only [↓r237_3, ↓r237_6, ↓r237_9, ↓r237_9n, ↓r237_10, ↓r237_11, ↓r237_12, ↓r237_15, ↓r237_16, ↓r237_19, ↓r237_20, ↓r237_21, ↓r237_24, q_le, q_lt, q_eq, q_e0, q_e1, q_0e, q_1e, ps_n0, q_0le, q_le0, q_0lt, q_m1e, q_em1, ha, ta, z1, z2, h, pu_uJ, pu_ror, pu_req, Bool.false_eq_true, ps_lit, nI_add, nI_1, pk_mul, ps_cl, ps_neg, ps_c0, ps_c1, ps_n01, ps_n11, ps_10, ps_01, ps_1n, ps_0n, ps_b01, ps_e0, am_k_n, am_k_i, am_k_r, am_k_u, am_k_l, am_sz_0, am_sz_i, am_sz_r, am_sz_u, am_sz_l, Option.toList_some, Option.toList_none, List.cons_append, List.nil_append, true_and, and_true, or_false, false_or, or_self, or_true, true_or, and_self, if_true, if_false, not_false_eq_true, not_true_eq_false, Classical.not_not, ne_eq, ps_e1, ps_em, ps_z, Nat.not_le, false_implies, true_implies, forall_const, Nat.reduceAdd, Nat.reduceMul, Nat.reduceLT, Nat.reduceLeDiff, Nat.reduceEqDiff, Nat.reduceSub]
        simp only [h] at ih
        exact ih
      · rw [if_neg h] at ih
        have h1 : lN 0 = (0 : Int64) := rfl
        rw [h1] at ih
        simp only [↓r237_3, ↓r237_6, ↓r237_9, ↓r237_9n, ↓r237_10, ↓r237_11, ↓r237_12, ↓r237_15, ↓r237_16, ↓r237_19, ↓r237_20, ↓r237_21, ↓r237_24, q_le, q_lt, q_eq, q_e0, q_e1, q_0e, q_1e, ps_n0, q_0le, q_le0, q_0lt, q_m1e, q_em1, ha, ta, z1, z2, h, pu_uJ, pu_ror, pu_req, Bool.false_eq_true, ps_lit, nI_add, nI_1, pk_mul, ps_cl, ps_neg, ps_c0, ps_c1, ps_n01, ps_n11, ps_10, ps_01, ps_1n, ps_0n, ps_b01, ps_e0, am_k_n, am_k_i, am_k_r, am_k_u, am_k_l, am_sz_0, am_sz_i, am_sz_r, am_sz_u, am_sz_l, Option.toList_some, Option.toList_none, List.cons_append, List.nil_append, true_and, and_true, or_false, false_or, or_self, or_true, true_or, and_self, if_true, if_false, not_false_eq_true, not_true_eq_false, Classical.not_not, ne_eq, ps_e1, ps_em, ps_z, Nat.not_le, false_implies, true_implies, forall_const, Nat.reduceAdd, Nat.reduceMul, Nat.reduceLT, Nat.reduceLeDiff, Nat.reduceEqDiff, Nat.reduceSub]
        exact ih
    · rw [r237_2]
      simp only [↓r237_3, ↓r237_6, ↓r237_27, q_le, q_lt, q_eq, q_e0, q_e1, q_0e, q_1e, ps_n0, q_0le, q_le0, q_0lt, q_m1e, q_em1, Bool.false_eq_true, ps_lit, nI_add, nI_1, pk_mul, ps_cl, ps_neg, ps_c0, ps_c1, ps_n01, ps_n11, ps_10, ps_01, ps_1n, ps_0n, ps_b01, ps_e0, am_k_n, am_k_i, am_k_r, am_k_u, am_k_l, am_sz_0, am_sz_i, am_sz_r, am_sz_u, am_sz_l, Option.toList_some, Option.toList_none, List.cons_append, List.nil_append, true_and, and_true, or_false, false_or, or_self, or_true, true_or, and_self, if_true, if_false, not_false_eq_true, not_true_eq_false, Classical.not_not, ne_eq, ps_e1, ps_em, ps_z, Nat.not_le, false_implies, true_implies, forall_const, Nat.reduceAdd, Nat.reduceMul, Nat.reduceLT, Nat.reduceLeDiff, Nat.reduceEqDiff, Nat.reduceSub]
  rw [rwL_0, pu_roJ] at hx
  rw [← hx]
  simp only [↓r237_0, ↓r237_1, am_k_n, am_k_i, am_k_l, Bool.false_eq_true, ps_lit, nI_add, nI_1, pk_mul, ps_cl, ps_neg, ps_c0, ps_c1, ps_n01, ps_n11, ps_10, ps_01, ps_1n, ps_0n, ps_b01, ps_e0, am_k_n, am_k_i, am_k_r, am_k_u, am_k_l, am_sz_0, am_sz_i, am_sz_r, am_sz_u, am_sz_l, Option.toList_some, Option.toList_none, List.cons_append, List.nil_append, true_and, and_true, or_false, false_or, or_self, or_true, true_or, and_self, if_true, if_false, not_false_eq_true, not_true_eq_false, Classical.not_not, ne_eq, ps_e1, ps_em, ps_z, Nat.not_le, false_implies, true_implies, forall_const, Nat.reduceAdd, Nat.reduceMul, Nat.reduceLT, Nat.reduceLeDiff, Nat.reduceEqDiff, Nat.reduceSub]
theorem m_grows {a V f : Nat} (hn2 : n ≤ 1000000) (ha : a < n) (ta : t a = (23, 620)) (hN : NC (J a) V) (hf : f ≤ 1000000) : am_W X d 241 0 [some (.ref a), some (.int (nI f)), none, none, none, none, none] [] (n, sl, t, I, J, F) Q ↔ Q none (n, sl, t, I, am_ro J a (rwL 620 (J a) (fun k => lN (dig cC (V * f) k))), F) := by
  obtain ⟨hV, hd⟩ := hN
  have hB : (100000000 : Int64) = lN cC := rfl
  have hB0 : (lN cC = 0) = False := by decide
  have hx : ∀ l5 l6 : Option Value, am_W X d 241 5 [some (.ref a), some (.int (nI f)), some (.long 0), none, some (.int 0), l5, l6] [] (n, sl, t, I, am_ro J a (rwL 0 (J a) (fun k => lN (dig cC (V * f) k))), F) Q ↔ Q none (n, sl, t, I, am_ro J a (rwL 620 (J a) (fun k => lN (dig cC (V * f) k))), F) := by
    have h0 : (0 : Int64) = lN (cB cC V f 0) := by rw [cB_0]; rfl
    rw [h0]
    refine lp0 (A := fun i => ∀ l5 l6 : Option Value, am_W X d 241 5 [some (.ref a), some (.int (nI f)), some (.long (lN (cB cC V f i))), none, some (.int (nI i)), l5, l6] [] (n, sl, t, I, am_ro J a (rwL i (J a) (fun k => lN (dig cC (V * f) k))), F) Q ↔ Q none (n, sl, t, I, am_ro J a (rwL 620 (J a) (fun k => lN (dig cC (V * f) k))), F)) (N := 620) ?_ ?_
    · intro i hi ih l5 l6
      have z1 : i < 2000000 ∧ i < 620 := by omega
      have z2 : ¬ 620 ≤ i := by omega
      have y1 : rwL i (J a) (fun k => lN (dig cC (V * f) k)) i = lN (dig cC V i) := by rw [rwL_n (by omega), hd i hi]
      have y3 : (nI f).toInt64 = lN f := nI_l (by omega)
      have y4 := gs_c (V := V) (f := f) (i := i) cC_p
      have hb := gs_b (V := V) (f := f) (i := i) cC_p
      have hb2 : cC * f ≤ 100000000 * 1000000 := Nat.mul_le_mul (Nat.le_of_eq cC_e) hf
      have y5 : lN (V % cC ^ (i + 1) * f / cC ^ i) - lN (V % cC ^ (i + 1) * f / cC ^ i) / lN cC * lN cC = lN (dig cC (V * f) i) := by rw [pk_lRem (by omega) cC_p (by decide), gs_d]
      have y6 : lN (V % cC ^ (i + 1) * f / cC ^ i) / lN cC = lN (cB cC V f (i + 1)) := by rw [pk_lDiv (by omega) cC_p (by decide), gs_q]
      have y7 := rwL_s (i := i) (g := J a) (s := fun k => lN (dig cC (V * f) k))
      rw [← y7] at ih
      rw [r241_5]
      simp only [↓r241_7, ↓r241_10, ↓r241_13, ↓r241_13n, ↓r241_14, ↓r241_16, ↓r241_17, ↓r241_18, ↓r241_19, ↓r241_20, ↓r241_21, ↓r241_22, ↓r241_24, ↓r241_24n, ↓r241_25, ↓r241_27, ↓r241_29, ↓r241_32, ↓r241_33, ↓r241_34, ↓r241_36, ↓r241_39, ↓r241_40, ↓r241_41, ↓r241_44, q_le, q_lt, q_eq, q_e0, q_e1, q_0e, q_1e, ps_n0, q_0le, q_le0, q_0lt, q_m1e, q_em1, ha, ta, z1, z2, y1, y3, lN_mul, lN_add, y4, hB, hB0, y5, pu_uJ, pu_ror, pu_req, am_k_n, am_k_i, am_k_l, Bool.false_eq_true, ps_lit, nI_add, nI_1, pk_mul, ps_cl, ps_neg, ps_c0, ps_c1, ps_n01, ps_n11, ps_10, ps_01, ps_1n, ps_0n, ps_b01, ps_e0, am_k_n, am_k_i, am_k_r, am_k_u, am_k_l, am_sz_0, am_sz_i, am_sz_r, am_sz_u, am_sz_l, Option.toList_some, Option.toList_none, List.cons_append, List.nil_append, true_and, and_true, or_false, false_or, or_self, or_true, true_or, and_self, if_true, if_false, not_false_eq_true, not_true_eq_false, Classical.not_not, ne_eq, ps_e1, ps_em, ps_z, Nat.not_le, false_implies, true_implies, forall_const, Nat.reduceAdd, Nat.reduceMul, Nat.reduceLT, Nat.reduceLeDiff, Nat.reduceEqDiff, Nat.reduceSub]
      simp only [y6]
      exact ih _ _
    · intro l5 l6
      rw [r241_5]
      simp only [↓r241_7, ↓r241_10, ↓r241_47, q_le, q_lt, q_eq, q_e0, q_e1, q_0e, q_1e, ps_n0, q_0le, q_le0, q_0lt, q_m1e, q_em1, Bool.false_eq_true, ps_lit, nI_add, nI_1, pk_mul, ps_cl, ps_neg, ps_c0, ps_c1, ps_n01, ps_n11, ps_10, ps_01, ps_1n, ps_0n, ps_b01, ps_e0, am_k_n, am_k_i, am_k_r, am_k_u, am_k_l, am_sz_0, am_sz_i, am_sz_r, am_sz_u, am_sz_l, Option.toList_some, Option.toList_none, List.cons_append, List.nil_append, true_and, and_true, or_false, false_or, or_self, or_true, true_or, and_self, if_true, if_false, not_false_eq_true, not_true_eq_false, Classical.not_not, ne_eq, ps_e1, ps_em, ps_z, Nat.not_le, false_implies, true_implies, forall_const, Nat.reduceAdd, Nat.reduceMul, Nat.reduceLT, Nat.reduceLeDiff, Nat.reduceEqDiff, Nat.reduceSub]
  have h1 := hx none none
  rw [rwL_0, pu_roJ] at h1
  rw [← h1]
  simp only [↓r241_0, ↓r241_1, ↓r241_2, ↓r241_3, am_k_n, am_k_i, am_k_l, Bool.false_eq_true, ps_lit, nI_add, nI_1, pk_mul, ps_cl, ps_neg, ps_c0, ps_c1, ps_n01, ps_n11, ps_10, ps_01, ps_1n, ps_0n, ps_b01, ps_e0, am_k_n, am_k_i, am_k_r, am_k_u, am_k_l, am_sz_0, am_sz_i, am_sz_r, am_sz_u, am_sz_l, Option.toList_some, Option.toList_none, List.cons_append, List.nil_append, true_and, and_true, or_false, false_or, or_self, or_true, true_or, and_self, if_true, if_false, not_false_eq_true, not_true_eq_false, Classical.not_not, ne_eq, ps_e1, ps_em, ps_z, Nat.not_le, false_implies, true_implies, forall_const, Nat.reduceAdd, Nat.reduceMul, Nat.reduceLT, Nat.reduceLeDiff, Nat.reduceEqDiff, Nat.reduceSub]
theorem div_dig {V k : Nat} : V / cC ^ k = cC * (V / cC ^ (k + 1)) + dig cC V k := by
  unfold dig
  rw [Nat.pow_succ, ← Nat.div_div_eq_div_mul]
  exact (Nat.div_add_mod _ _).symm
theorem m_order {a b U V : Nat} (hn2 : n ≤ 1000000) (ha : a < n) (ta : t a = (23, 620)) (hb : b < n) (tb : t b = (23, 620)) (hU : NC (J a) U) (hV : NC (J b) V) : am_W X d 243 0 [some (.ref a), some (.ref b), none] [] (n, sl, t, I, J, F) Q ↔ Q (some (.int (if U < V then -1 else if U = V then 0 else 1))) (n, sl, t, I, J, F) := by
  have hx : ∀ m, m ≤ 620 → U / cC ^ m = V / cC ^ m → (am_W X d 243 4 [some (.ref a), some (.ref b), some (.int (nI m - 1))] [] (n, sl, t, I, J, F) Q ↔ Q (some (.int (if U < V then -1 else if U = V then 0 else 1))) (n, sl, t, I, J, F)) := by
    intro m
    induction m with
    | zero =>
      intro _ h
      rw [Nat.pow_zero, Nat.div_one, Nat.div_one] at h
      subst h
      have e : nI 0 - 1 = -1 := by decide
      rw [if_neg (by omega), if_pos rfl, e, r243_4]
      simp only [↓r243_5, ↓r243_40, ↓r243_41, ps_m1n, Bool.false_eq_true, ps_lit, nI_add, nI_1, pk_mul, ps_cl, ps_neg, ps_c0, ps_c1, ps_n01, ps_n11, ps_10, ps_01, ps_1n, ps_0n, ps_b01, ps_e0, am_k_n, am_k_i, am_k_r, am_k_u, am_k_l, am_sz_0, am_sz_i, am_sz_r, am_sz_u, am_sz_l, Option.toList_some, Option.toList_none, List.cons_append, List.nil_append, true_and, and_true, or_false, false_or, or_self, or_true, true_or, and_self, if_true, if_false, not_false_eq_true, not_true_eq_false, Classical.not_not, ne_eq, ps_e1, ps_em, ps_z, Nat.not_le, false_implies, true_implies, forall_const, Nat.reduceAdd, Nat.reduceMul, Nat.reduceLT, Nat.reduceLeDiff, Nat.reduceEqDiff, Nat.reduceSub]
    | succ m ih =>
      intro hm h
      have z1 : m < 2000000 ∧ m < 620 := by omega
      have d1 : dig cC U m < 100000000 := dig_lt cC_p
      have d2 : dig cC V m < 100000000 := dig_lt cC_p
      have x1 := hU.2 m (by omega)
      have x2 := hV.2 m (by omega)
      have w1 := div_dig (V := U) (k := m)
      have w2 := div_dig (V := V) (k := m)
      rw [h] at w1
      have e1 : (lN (dig cC U m) = lN (dig cC V m)) = (dig cC U m = dig cC V m) := propext (pk_lEQ (by omega) (by omega))
      have e2 : (lN (dig cC V m) ≤ lN (dig cC U m)) = (dig cC V m ≤ dig cC U m) := propext (pk_lLE (by omega) (by omega))
      have e3 : nI m + Int32.ofInt (-1) = nI m - 1 := by rw [Int32.sub_eq_add_neg]; rfl
      rw [nI_pred, r243_4]
      by_cases c1 : dig cC U m = dig cC V m
      · have := ih (by omega) (by omega)
        simp only [↓r243_5, ↓r243_8, ↓r243_8n, ↓r243_9, ↓r243_10, ↓r243_11, ↓r243_11n, ↓r243_12, ↓r243_13, ↓r243_14, ↓r243_15, ↓r243_18, ↓r243_18n, ↓r243_19, ↓r243_20, ↓r243_21, ↓r243_21n, ↓r243_22, ↓r243_23, ↓r243_24, ↓r243_25, ↓r243_28, ↓r243_29, ↓r243_32, ↓r243_33, ↓r243_34, ↓r243_37, q_le, q_lt, q_eq, q_e0, q_e1, q_0e, q_1e, ps_n0, q_0le, q_le0, q_0lt, q_m1e, q_em1, ha, ta, hb, tb, z1, x1, x2, lg_cmp_eq, e1, c1, e3, am_k_r, Bool.false_eq_true, ps_lit, nI_add, nI_1, pk_mul, ps_cl, ps_neg, ps_c0, ps_c1, ps_n01, ps_n11, ps_10, ps_01, ps_1n, ps_0n, ps_b01, ps_e0, am_k_n, am_k_i, am_k_r, am_k_u, am_k_l, am_sz_0, am_sz_i, am_sz_r, am_sz_u, am_sz_l, Option.toList_some, Option.toList_none, List.cons_append, List.nil_append, true_and, and_true, or_false, false_or, or_self, or_true, true_or, and_self, if_true, if_false, not_false_eq_true, not_true_eq_false, Classical.not_not, ne_eq, ps_e1, ps_em, ps_z, Nat.not_le, false_implies, true_implies, forall_const, Nat.reduceAdd, Nat.reduceMul, Nat.reduceLT, Nat.reduceLeDiff, Nat.reduceEqDiff, Nat.reduceSub]
        exact this
      · by_cases c2 : dig cC V m ≤ dig cC U m
        · have h1 : V / cC ^ m < U / cC ^ m := by omega
          have h2 : V < U := by
            refine Nat.lt_of_not_le (fun q => ?_)
            have := Nat.div_le_div_right (c := cC ^ m) q
            omega
          rw [if_neg (by omega), if_neg (by omega)]
          simp only [↓r243_5, ↓r243_8, ↓r243_8n, ↓r243_9, ↓r243_10, ↓r243_11, ↓r243_11n, ↓r243_12, ↓r243_13, ↓r243_14, ↓r243_15, ↓r243_18, ↓r243_18n, ↓r243_19, ↓r243_20, ↓r243_21, ↓r243_21n, ↓r243_22, ↓r243_23, ↓r243_24, ↓r243_25, ↓r243_28, ↓r243_29, ↓r243_32, ↓r243_33, q_le, q_lt, q_eq, q_e0, q_e1, q_0e, q_1e, ps_n0, q_0le, q_le0, q_0lt, q_m1e, q_em1, ha, ta, hb, tb, z1, x1, x2, lg_cmp_eq, lg_cmp_ge, e1, e2, c1, c2, Bool.false_eq_true, ps_lit, nI_add, nI_1, pk_mul, ps_cl, ps_neg, ps_c0, ps_c1, ps_n01, ps_n11, ps_10, ps_01, ps_1n, ps_0n, ps_b01, ps_e0, am_k_n, am_k_i, am_k_r, am_k_u, am_k_l, am_sz_0, am_sz_i, am_sz_r, am_sz_u, am_sz_l, Option.toList_some, Option.toList_none, List.cons_append, List.nil_append, true_and, and_true, or_false, false_or, or_self, or_true, true_or, and_self, if_true, if_false, not_false_eq_true, not_true_eq_false, Classical.not_not, ne_eq, ps_e1, ps_em, ps_z, Nat.not_le, false_implies, true_implies, forall_const, Nat.reduceAdd, Nat.reduceMul, Nat.reduceLT, Nat.reduceLeDiff, Nat.reduceEqDiff, Nat.reduceSub]
        · have h1 : U / cC ^ m < V / cC ^ m := by omega
          have h2 : U < V := by
            refine Nat.lt_of_not_le (fun q => ?_)
            have := Nat.div_le_div_right (c := cC ^ m) q
            omega
          rw [if_pos h2]
          simp only [↓r243_5, ↓r243_8, ↓r243_8n, ↓r243_9, ↓r243_10, ↓r243_11, ↓r243_11n, ↓r243_12, ↓r243_13, ↓r243_14, ↓r243_15, ↓r243_18, ↓r243_18n, ↓r243_19, ↓r243_20, ↓r243_21, ↓r243_21n, ↓r243_22, ↓r243_23, ↓r243_24, ↓r243_25, ↓r243_28, ↓r243_29, ↓r243_32, ↓r243_33, q_le, q_lt, q_eq, q_e0, q_e1, q_0e, q_1e, ps_n0, q_0le, q_le0, q_0lt, q_m1e, q_em1, ha, ta, hb, tb, z1, x1, x2, lg_cmp_eq, lg_cmp_ge, e1, e2, c1, c2, Bool.false_eq_true, ps_lit, nI_add, nI_1, pk_mul, ps_cl, ps_neg, ps_c0, ps_c1, ps_n01, ps_n11, ps_10, ps_01, ps_1n, ps_0n, ps_b01, ps_e0, am_k_n, am_k_i, am_k_r, am_k_u, am_k_l, am_sz_0, am_sz_i, am_sz_r, am_sz_u, am_sz_l, Option.toList_some, Option.toList_none, List.cons_append, List.nil_append, true_and, and_true, or_false, false_or, or_self, or_true, true_or, and_self, if_true, if_false, not_false_eq_true, not_true_eq_false, Classical.not_not, ne_eq, ps_e1, ps_em, ps_z, Nat.not_le, false_implies, true_implies, forall_const, Nat.reduceAdd, Nat.reduceMul, Nat.reduceLT, Nat.reduceLeDiff, Nat.reduceEqDiff, Nat.reduceSub]
  have h0 := hx 620 (Nat.le_refl _) (by rw [Nat.div_eq_of_lt hU.1, Nat.div_eq_of_lt hV.1])
  have e : nI 620 - 1 = nI 619 := by decide
  rw [e] at h0
  rw [← h0]
  simp only [↓r243_0, ↓r243_3, am_k_r, Bool.false_eq_true, ps_lit, nI_add, nI_1, pk_mul, ps_cl, ps_neg, ps_c0, ps_c1, ps_n01, ps_n11, ps_10, ps_01, ps_1n, ps_0n, ps_b01, ps_e0, am_k_n, am_k_i, am_k_r, am_k_u, am_k_l, am_sz_0, am_sz_i, am_sz_r, am_sz_u, am_sz_l, Option.toList_some, Option.toList_none, List.cons_append, List.nil_append, true_and, and_true, or_false, false_or, or_self, or_true, true_or, and_self, if_true, if_false, not_false_eq_true, not_true_eq_false, Classical.not_not, ne_eq, ps_e1, ps_em, ps_z, Nat.not_le, false_implies, true_implies, forall_const, Nat.reduceAdd, Nat.reduceMul, Nat.reduceLT, Nat.reduceLeDiff, Nat.reduceEqDiff, Nat.reduceSub]
/-- both numbers lie here -/
def RK (J : Nat → Nat → Int64) (P D : Nat) : Prop := NC (J 60) P ∧ NC (J 61) D
theorem ord_le {U V : Nat} : (0 < (if U < V then (-1 : Int32) else if U = V then 0 else 1)) = (V < U) := by
  apply propext
  by_cases h : U < V
  · rw [if_pos h]
    exact ⟨fun q => absurd q (by decide), fun q => by omega⟩
  · rw [if_neg h]
    by_cases h2 : U = V
    · rw [if_pos h2]
      exact ⟨fun q => absurd q (by decide), fun q => by omega⟩
    · rw [if_neg h2]
      exact ⟨fun _ => by omega, fun _ => by decide⟩
/-- a copy into the spare number -/
theorem m_cp62 {c m pc0 : Nat} : rwL 620 (J 62) (J c) = rwL 620 (J 62) (J c) := rfl
theorem NC_c {f g : Nat → Int64} {V : Nat} (h : NC f V) : NC (rwL 620 g f) V := ⟨h.1, fun k hk => by rw [rwL_at hk]; exact h.2 k hk⟩
theorem m_isHalf {P D : Nat} (hW : WS n t F) (hR : RK J P D) (hb : 2 * P < cC ^ 620) (hQ : ∀ J', J' 60 = J 60 → J' 61 = J 61 → Q (some (.int (if 2 * P ≤ D then 1 else 0))) (n, sl, t, I, J', F)) : am_W X (d + 1) 246 0 [some (.ref 47), none] [] (n, sl, t, I, J, F) Q := by
  obtain ⟨hn, hn2, ht, hF⟩ := id hW
  have hx : am_W X (d + 1) 246 2 [some (.ref 47), some (.int 0)] [] (n, sl, t, I, am_ro J 62 (rwL 0 (J 62) (J 60)), F) Q ↔ am_W X (d + 1) 246 27 [some (.ref 47), some (.int (nI 620))] [] (n, sl, t, I, am_ro J 62 (rwL 620 (J 62) (J 60)), F) Q := by
    refine lp0 (A := fun i => am_W X (d + 1) 246 2 [some (.ref 47), some (.int (nI i))] [] (n, sl, t, I, am_ro J 62 (rwL i (J 62) (J 60)), F) Q ↔ am_W X (d + 1) 246 27 [some (.ref 47), some (.int (nI 620))] [] (n, sl, t, I, am_ro J 62 (rwL 620 (J 62) (J 60)), F) Q) (N := 620) ?_ ?_
    · intro i hi ih
      have z1 : i < 2000000 ∧ i < 620 := by omega
      have z2 : ¬ 620 ≤ i := by omega
      rw [← rwL_s] at ih
      rw [r246_2]
      simp only [↓r246_3, ↓r246_6, ↓r246_9, ↓r246_10, ↓r246_13, ↓r246_14, ↓r246_15, ↓r246_18, ↓r246_19, ↓r246_20, ↓r246_21, ↓r246_24, q_le, q_lt, q_eq, q_e0, q_e1, q_0e, q_1e, ps_n0, q_0le, q_le0, q_0lt, q_m1e, q_em1, z1, z2, pu_uJ, pu_ror, Bool.false_eq_true, hn, hn2, ht, hF, am_wt, am_wf, Option.isSome_some, am_rf_s, am_rf_n, ps_lit, nI_add, nI_1, pk_mul, ps_cl, ps_neg, ps_c0, ps_c1, ps_n01, ps_n11, ps_10, ps_b01, ps_e0, pu_Ine, pu_Ieq, pu_ne, pu_eq, am_k_n, am_k_i, am_k_r, am_k_u, am_k_l, am_sz_0, am_sz_i, am_sz_r, am_sz_u, am_sz_l, Option.toList_some, Option.toList_none, List.cons_append, List.nil_append, true_and, and_true, or_false, false_or, or_self, or_true, true_or, not_false_eq_true, not_true_eq_false, Classical.not_not, ne_eq, ps_e1, ps_em, ps_z, Nat.not_le, false_implies, true_implies, forall_const, ps_01, ps_1n, ps_0n, ps_m10, ps_m1n, lg_cmp_gt, lg_cmp_ge, lg_cmp_le, lg_cmp_lt, lg_cmp_eq, pu_rne, pu_req, pu_uro, RFc_n, Nat.reduceAdd, Nat.reduceMul, Nat.reduceLT, Nat.reduceLeDiff, Nat.reduceEqDiff, Nat.reduceSub]
      exact ih
    · rw [r246_2]
      simp only [↓r246_3, ↓r246_6, q_le, q_lt, q_eq, q_e0, q_e1, q_0e, q_1e, ps_n0, q_0le, q_le0, q_0lt, q_m1e, q_em1, Bool.false_eq_true, hn, hn2, ht, hF, am_wt, am_wf, Option.isSome_some, am_rf_s, am_rf_n, ps_lit, nI_add, nI_1, pk_mul, ps_cl, ps_neg, ps_c0, ps_c1, ps_n01, ps_n11, ps_10, ps_b01, ps_e0, pu_Ine, pu_Ieq, pu_ne, pu_eq, am_k_n, am_k_i, am_k_r, am_k_u, am_k_l, am_sz_0, am_sz_i, am_sz_r, am_sz_u, am_sz_l, Option.toList_some, Option.toList_none, List.cons_append, List.nil_append, true_and, and_true, or_false, false_or, or_self, or_true, true_or, not_false_eq_true, not_true_eq_false, Classical.not_not, ne_eq, ps_e1, ps_em, ps_z, Nat.not_le, false_implies, true_implies, forall_const, ps_01, ps_1n, ps_0n, ps_m10, ps_m1n, lg_cmp_gt, lg_cmp_ge, lg_cmp_le, lg_cmp_lt, lg_cmp_eq, pu_rne, pu_req, pu_uro, RFc_n, Nat.reduceAdd, Nat.reduceMul, Nat.reduceLT, Nat.reduceLeDiff, Nat.reduceEqDiff, Nat.reduceSub]
  rw [rwL_0, pu_roJ] at hx
  simp only [↓r246_0, ↓r246_1, Bool.false_eq_true, hn, hn2, ht, hF, am_wt, am_wf, Option.isSome_some, am_rf_s, am_rf_n, ps_lit, nI_add, nI_1, pk_mul, ps_cl, ps_neg, ps_c0, ps_c1, ps_n01, ps_n11, ps_10, ps_b01, ps_e0, pu_Ine, pu_Ieq, pu_ne, pu_eq, am_k_n, am_k_i, am_k_r, am_k_u, am_k_l, am_sz_0, am_sz_i, am_sz_r, am_sz_u, am_sz_l, Option.toList_some, Option.toList_none, List.cons_append, List.nil_append, true_and, and_true, or_false, false_or, or_self, or_true, true_or, not_false_eq_true, not_true_eq_false, Classical.not_not, ne_eq, ps_e1, ps_em, ps_z, Nat.not_le, false_implies, true_implies, forall_const, ps_01, ps_1n, ps_0n, ps_m10, ps_m1n, lg_cmp_gt, lg_cmp_ge, lg_cmp_le, lg_cmp_lt, lg_cmp_eq, pu_rne, pu_req, pu_uro, RFc_n, Nat.reduceAdd, Nat.reduceMul, Nat.reduceLT, Nat.reduceLeDiff, Nat.reduceEqDiff, Nat.reduceSub]
  rw [ps_n0.symm, ps_n0, hx]
  have e1 := fun J hN Q => m_grows (X := X) (d := d) (Q := Q) (sl := sl) (I := I) (J := J) (F := F) (a := 62) (V := P) (f := 2) hn2 (hn _ (by decide)) (ht _ (by decide)) hN (by decide)
  have e2 := fun Q => e1 (am_ro J 62 (rwL 620 (J 62) (J 60))) (by rw [pu_req]; exact NC_c hR.1) Q
  have e3 := fun J hU hV Q => m_order (X := X) (d := d) (Q := Q) (sl := sl) (I := I) (J := J) (F := F) (a := 62) (b := 61) (U := P * 2) (V := D) hn2 (hn _ (by decide)) (ht _ (by decide)) (hn _ (by decide)) (ht _ (by decide)) hU hV
  have e4 := fun f Q => e3 (am_ro J 62 (rwL 620 f (fun k => lN (dig cC (P * 2) k)))) (by rw [pu_req]; exact NC_w (by omega)) (by rw [pu_rne (by decide)]; exact hR.2) Q
  simp only [↓r246_27, ↓r246_28, ↓r246_31, ↓r246_32, ↓r246_35, ↓r246_36, ↓r246_39, ↓r246_40, ↓r246_43, ↓e2, ↓e4, pu_ror, pu_req, Bool.false_eq_true, hn, hn2, ht, hF, am_wt, am_wf, Option.isSome_some, am_rf_s, am_rf_n, ps_lit, nI_add, nI_1, pk_mul, ps_cl, ps_neg, ps_c0, ps_c1, ps_n01, ps_n11, ps_10, ps_b01, ps_e0, pu_Ine, pu_Ieq, pu_ne, pu_eq, am_k_n, am_k_i, am_k_r, am_k_u, am_k_l, am_sz_0, am_sz_i, am_sz_r, am_sz_u, am_sz_l, Option.toList_some, Option.toList_none, List.cons_append, List.nil_append, true_and, and_true, or_false, false_or, or_self, or_true, true_or, not_false_eq_true, not_true_eq_false, Classical.not_not, ne_eq, ps_e1, ps_em, ps_z, Nat.not_le, false_implies, true_implies, forall_const, ps_01, ps_1n, ps_0n, ps_m10, ps_m1n, lg_cmp_gt, lg_cmp_ge, lg_cmp_le, lg_cmp_lt, lg_cmp_eq, pu_rne, pu_req, pu_uro, RFc_n, Nat.reduceAdd, Nat.reduceMul, Nat.reduceLT, Nat.reduceLeDiff, Nat.reduceEqDiff, Nat.reduceSub]
  by_cases h : 2 * P ≤ D
  · have h' : ¬ D < P * 2 := by omega
    have := hQ (am_ro J 62 (rwL 620 (rwL 620 (J 62) (J 60)) (fun k => lN (dig cC (P * 2) k)))) (pu_rne (by decide)) (pu_rne (by decide))
    rw [if_pos h] at this
    simp only [↓r246_46, ↓r246_49, ↓r246_50, ↓r246_53, ↓r246_54, ord_le, h', Bool.false_eq_true, hn, hn2, ht, hF, am_wt, am_wf, Option.isSome_some, am_rf_s, am_rf_n, ps_lit, nI_add, nI_1, pk_mul, ps_cl, ps_neg, ps_c0, ps_c1, ps_n01, ps_n11, ps_10, ps_b01, ps_e0, pu_Ine, pu_Ieq, pu_ne, pu_eq, am_k_n, am_k_i, am_k_r, am_k_u, am_k_l, am_sz_0, am_sz_i, am_sz_r, am_sz_u, am_sz_l, Option.toList_some, Option.toList_none, List.cons_append, List.nil_append, true_and, and_true, or_false, false_or, or_self, or_true, true_or, not_false_eq_true, not_true_eq_false, Classical.not_not, ne_eq, ps_e1, ps_em, ps_z, Nat.not_le, false_implies, true_implies, forall_const, ps_01, ps_1n, ps_0n, ps_m10, ps_m1n, lg_cmp_gt, lg_cmp_ge, lg_cmp_le, lg_cmp_lt, lg_cmp_eq, pu_rne, pu_req, pu_uro, RFc_n, Nat.reduceAdd, Nat.reduceMul, Nat.reduceLT, Nat.reduceLeDiff, Nat.reduceEqDiff, Nat.reduceSub]
    exact this
  · have h' : D < P * 2 := by omega
    have := hQ (am_ro J 62 (rwL 620 (rwL 620 (J 62) (J 60)) (fun k => lN (dig cC (P * 2) k)))) (pu_rne (by decide)) (pu_rne (by decide))
    rw [if_neg h] at this
    simp only [↓r246_46, ↓r246_49, ↓r246_50, ↓r246_53, ↓r246_54, ord_le, h', Bool.false_eq_true, hn, hn2, ht, hF, am_wt, am_wf, Option.isSome_some, am_rf_s, am_rf_n, ps_lit, nI_add, nI_1, pk_mul, ps_cl, ps_neg, ps_c0, ps_c1, ps_n01, ps_n11, ps_10, ps_b01, ps_e0, pu_Ine, pu_Ieq, pu_ne, pu_eq, am_k_n, am_k_i, am_k_r, am_k_u, am_k_l, am_sz_0, am_sz_i, am_sz_r, am_sz_u, am_sz_l, Option.toList_some, Option.toList_none, List.cons_append, List.nil_append, true_and, and_true, or_false, false_or, or_self, or_true, true_or, not_false_eq_true, not_true_eq_false, Classical.not_not, ne_eq, ps_e1, ps_em, ps_z, Nat.not_le, false_implies, true_implies, forall_const, ps_01, ps_1n, ps_0n, ps_m10, ps_m1n, lg_cmp_gt, lg_cmp_ge, lg_cmp_le, lg_cmp_lt, lg_cmp_eq, pu_rne, pu_req, pu_uro, RFc_n, Nat.reduceAdd, Nat.reduceMul, Nat.reduceLT, Nat.reduceLeDiff, Nat.reduceEqDiff, Nat.reduceSub]
    exact this
theorem m_bis {G S most tf : Nat} (hW : WS n t F) (hS : 0 < S) (hb : S * 1000000 < cC ^ 620) (hm : most ≤ 1000000) (hQ : ∀ J, Q (some (.int (nI (min most (G / S))))) (n, sl, t, I, J, F)) : ∀ g low high, high - low < 2 ^ g → low ≤ min most (G / S) → min most (G / S) ≤ high → high ≤ most → ∀ (J : Nat → Nat → Int64), RK J G S → ∀ l5 l6 : Option Value, am_W X (d + 1) 242 13 [some (.ref 47), some (.int (nI most)), some (.int (nI tf)), some (.int (nI low)), some (.int (nI high)), l5, l6] [] (n, sl, t, I, J, F) Q := by
  obtain ⟨hn, hn2, ht, hF⟩ := id hW
  intro g
  induction g with
  | zero =>
    intro low high hg h1 h2 h3 J hR l5 l6
    have e3 : low = high := by omega
    have e4 : low = min most (G / S) := by omega
    rw [← e3, r242_13]
    simp only [↓r242_14, ↓r242_16, ↓r242_98, ↓r242_99, Int32.le_refl, Bool.false_eq_true, hn, hn2, ht, hF, am_wt, am_wf, Option.isSome_some, am_rf_s, am_rf_n, ps_lit, nI_add, nI_1, pk_mul, ps_cl, ps_neg, ps_c0, ps_c1, ps_n01, ps_n11, ps_10, ps_b01, ps_e0, pu_Ine, pu_Ieq, pu_ne, pu_eq, am_k_n, am_k_i, am_k_r, am_k_u, am_k_l, am_sz_0, am_sz_i, am_sz_r, am_sz_u, am_sz_l, Option.toList_some, Option.toList_none, List.cons_append, List.nil_append, true_and, and_true, or_false, false_or, or_self, or_true, true_or, not_false_eq_true, not_true_eq_false, Classical.not_not, ne_eq, ps_e1, ps_em, ps_z, Nat.not_le, false_implies, true_implies, forall_const, ps_01, ps_1n, ps_0n, ps_m10, ps_m1n, lg_cmp_gt, lg_cmp_ge, lg_cmp_le, lg_cmp_lt, lg_cmp_eq, pu_rne, pu_req, pu_uro, RFc_n, Nat.reduceAdd, Nat.reduceMul, Nat.reduceLT, Nat.reduceLeDiff, Nat.reduceEqDiff, Nat.reduceSub]
    rw [e4]
    exact hQ _
  | succ g ih =>
    intro low high hg h1 h2 h3 J hR l5 l6
    have z1 : low < 2000000 ∧ high < 2000000 := by omega
    rw [r242_13]
    by_cases c2 : high ≤ low
    · have e3 : low = min most (G / S) := by omega
      simp only [↓r242_14, ↓r242_16, ↓r242_98, ↓r242_99, q_le, q_lt, q_eq, q_e0, q_e1, q_0e, q_1e, ps_n0, q_0le, q_le0, q_0lt, q_m1e, q_em1, z1, c2, Bool.false_eq_true, hn, hn2, ht, hF, am_wt, am_wf, Option.isSome_some, am_rf_s, am_rf_n, ps_lit, nI_add, nI_1, pk_mul, ps_cl, ps_neg, ps_c0, ps_c1, ps_n01, ps_n11, ps_10, ps_b01, ps_e0, pu_Ine, pu_Ieq, pu_ne, pu_eq, am_k_n, am_k_i, am_k_r, am_k_u, am_k_l, am_sz_0, am_sz_i, am_sz_r, am_sz_u, am_sz_l, Option.toList_some, Option.toList_none, List.cons_append, List.nil_append, true_and, and_true, or_false, false_or, or_self, or_true, true_or, not_false_eq_true, not_true_eq_false, Classical.not_not, ne_eq, ps_e1, ps_em, ps_z, Nat.not_le, false_implies, true_implies, forall_const, ps_01, ps_1n, ps_0n, ps_m10, ps_m1n, lg_cmp_gt, lg_cmp_ge, lg_cmp_le, lg_cmp_lt, lg_cmp_eq, pu_rne, pu_req, pu_uro, RFc_n, Nat.reduceAdd, Nat.reduceMul, Nat.reduceLT, Nat.reduceLeDiff, Nat.reduceEqDiff, Nat.reduceSub]
      rw [e3]
      exact hQ _
    · have y2 : nI (low + high + 1) / nI 2 = nI ((low + high + 1) / 2) := pk_div (by omega) (by decide) (by decide)
      have y3 : ¬ nI 2 = 0 := by decide
      have hp : 2 ^ (g + 1) = 2 * 2 ^ g := by rw [Nat.pow_succ, Nat.mul_comm]
      simp only [↓r242_14, ↓r242_16, ↓r242_19, ↓r242_20, ↓r242_22, ↓r242_23, ↓r242_24, ↓r242_25, ↓r242_26, ↓r242_27, ↓r242_29, ↓r242_30, q_le, q_lt, q_eq, q_e0, q_e1, q_0e, q_1e, ps_n0, q_0le, q_le0, q_0lt, q_m1e, q_em1, z1, c2, y2, y3, Bool.false_eq_true, hn, hn2, ht, hF, am_wt, am_wf, Option.isSome_some, am_rf_s, am_rf_n, ps_lit, nI_add, nI_1, pk_mul, ps_cl, ps_neg, ps_c0, ps_c1, ps_n01, ps_n11, ps_10, ps_b01, ps_e0, pu_Ine, pu_Ieq, pu_ne, pu_eq, am_k_n, am_k_i, am_k_r, am_k_u, am_k_l, am_sz_0, am_sz_i, am_sz_r, am_sz_u, am_sz_l, Option.toList_some, Option.toList_none, List.cons_append, List.nil_append, true_and, and_true, or_false, false_or, or_self, or_true, true_or, not_false_eq_true, not_true_eq_false, Classical.not_not, ne_eq, ps_e1, ps_em, ps_z, Nat.not_le, false_implies, true_implies, forall_const, ps_01, ps_1n, ps_0n, ps_m10, ps_m1n, lg_cmp_gt, lg_cmp_ge, lg_cmp_le, lg_cmp_lt, lg_cmp_eq, pu_rne, pu_req, pu_uro, RFc_n, Nat.reduceAdd, Nat.reduceMul, Nat.reduceLT, Nat.reduceLeDiff, Nat.reduceEqDiff, Nat.reduceSub]
      obtain ⟨mid, hmid⟩ : ∃ mid, (low + high + 1) / 2 = mid := ⟨_, rfl⟩
      rw [hmid]
      have hx : am_W X (d + 1) 242 32 [some (.ref 47), some (.int (nI most)), some (.int (nI tf)), some (.int (nI low)), some (.int (nI high)), some (.int (nI mid)), some (.int 0)] [] (n, sl, t, I, am_ro J 62 (rwL 0 (J 62) (J 61)), F) Q ↔ am_W X (d + 1) 242 60 [some (.ref 47), some (.int (nI most)), some (.int (nI tf)), some (.int (nI low)), some (.int (nI high)), some (.int (nI mid)), some (.int (nI 620))] [] (n, sl, t, I, am_ro J 62 (rwL 620 (J 62) (J 61)), F) Q := by
        refine lp0 (A := fun i => am_W X (d + 1) 242 32 [some (.ref 47), some (.int (nI most)), some (.int (nI tf)), some (.int (nI low)), some (.int (nI high)), some (.int (nI mid)), some (.int (nI i))] [] (n, sl, t, I, am_ro J 62 (rwL i (J 62) (J 61)), F) Q ↔ am_W X (d + 1) 242 60 [some (.ref 47), some (.int (nI most)), some (.int (nI tf)), some (.int (nI low)), some (.int (nI high)), some (.int (nI mid)), some (.int (nI 620))] [] (n, sl, t, I, am_ro J 62 (rwL 620 (J 62) (J 61)), F) Q) (N := 620) ?_ ?_
        · intro i hi ih
          have z1 : i < 2000000 ∧ i < 620 := by omega
          have z2 : ¬ 620 ≤ i := by omega
          rw [← rwL_s] at ih
          rw [r242_32]
          simp only [↓r242_34, ↓r242_37, ↓r242_40, ↓r242_41, ↓r242_44, ↓r242_46, ↓r242_47, ↓r242_50, ↓r242_52, ↓r242_53, ↓r242_54, ↓r242_57, q_le, q_lt, q_eq, q_e0, q_e1, q_0e, q_1e, ps_n0, q_0le, q_le0, q_0lt, q_m1e, q_em1, z1, z2, pu_uJ, pu_ror, Bool.false_eq_true, hn, hn2, ht, hF, am_wt, am_wf, Option.isSome_some, am_rf_s, am_rf_n, ps_lit, nI_add, nI_1, pk_mul, ps_cl, ps_neg, ps_c0, ps_c1, ps_n01, ps_n11, ps_10, ps_b01, ps_e0, pu_Ine, pu_Ieq, pu_ne, pu_eq, am_k_n, am_k_i, am_k_r, am_k_u, am_k_l, am_sz_0, am_sz_i, am_sz_r, am_sz_u, am_sz_l, Option.toList_some, Option.toList_none, List.cons_append, List.nil_append, true_and, and_true, or_false, false_or, or_self, or_true, true_or, not_false_eq_true, not_true_eq_false, Classical.not_not, ne_eq, ps_e1, ps_em, ps_z, Nat.not_le, false_implies, true_implies, forall_const, ps_01, ps_1n, ps_0n, ps_m10, ps_m1n, lg_cmp_gt, lg_cmp_ge, lg_cmp_le, lg_cmp_lt, lg_cmp_eq, pu_rne, pu_req, pu_uro, RFc_n, Nat.reduceAdd, Nat.reduceMul, Nat.reduceLT, Nat.reduceLeDiff, Nat.reduceEqDiff, Nat.reduceSub]
          exact ih
        · rw [r242_32]
          simp only [↓r242_34, ↓r242_37, q_le, q_lt, q_eq, q_e0, q_e1, q_0e, q_1e, ps_n0, q_0le, q_le0, q_0lt, q_m1e, q_em1, Bool.false_eq_true, hn, hn2, ht, hF, am_wt, am_wf, Option.isSome_some, am_rf_s, am_rf_n, ps_lit, nI_add, nI_1, pk_mul, ps_cl, ps_neg, ps_c0, ps_c1, ps_n01, ps_n11, ps_10, ps_b01, ps_e0, pu_Ine, pu_Ieq, pu_ne, pu_eq, am_k_n, am_k_i, am_k_r, am_k_u, am_k_l, am_sz_0, am_sz_i, am_sz_r, am_sz_u, am_sz_l, Option.toList_some, Option.toList_none, List.cons_append, List.nil_append, true_and, and_true, or_false, false_or, or_self, or_true, true_or, not_false_eq_true, not_true_eq_false, Classical.not_not, ne_eq, ps_e1, ps_em, ps_z, Nat.not_le, false_implies, true_implies, forall_const, ps_01, ps_1n, ps_0n, ps_m10, ps_m1n, lg_cmp_gt, lg_cmp_ge, lg_cmp_le, lg_cmp_lt, lg_cmp_eq, pu_rne, pu_req, pu_uro, RFc_n, Nat.reduceAdd, Nat.reduceMul, Nat.reduceLT, Nat.reduceLeDiff, Nat.reduceEqDiff, Nat.reduceSub]
      rw [rwL_0, pu_roJ] at hx
      rw [hx]
      have hsm : S * mid < cC ^ 620 := Nat.lt_of_le_of_lt (Nat.mul_le_mul_left S (by omega)) hb
      have e2 := fun Q => m_grows (X := X) (d := d) (Q := Q) (sl := sl) (I := I) (J := am_ro J 62 (rwL 620 (J 62) (J 61))) (F := F) (a := 62) (V := S) (f := mid) hn2 (hn _ (by decide)) (ht _ (by decide)) (by rw [pu_req]; exact NC_c hR.2) (by omega)
      have e4 := fun f Q => m_order (X := X) (d := d) (Q := Q) (sl := sl) (I := I) (J := am_ro J 62 (rwL 620 f (fun k => lN (dig cC (S * mid) k)))) (F := F) (a := 62) (b := 60) (U := S * mid) (V := G) hn2 (hn _ (by decide)) (ht _ (by decide)) (hn _ (by decide)) (ht _ (by decide)) (by rw [pu_req]; exact NC_w hsm) (by rw [pu_rne (by decide)]; exact hR.1)
      have hq := Nat.le_div_iff_mul_le (x := mid) (y := G) hS
      rw [Nat.mul_comm mid S] at hq
      have hR' : ∀ f, RK (am_ro J 62 f) G S := fun f => by
        unfold RK
        rw [pu_rne (by decide), pu_rne (by decide)]
        exact hR
      simp only [↓r242_60, ↓r242_61, ↓r242_64, ↓r242_66, ↓r242_69, ↓r242_70, ↓r242_73, ↓r242_74, ↓r242_77, ↓e2, ↓e4, pu_ror, pu_req, Bool.false_eq_true, hn, hn2, ht, hF, am_wt, am_wf, Option.isSome_some, am_rf_s, am_rf_n, ps_lit, nI_add, nI_1, pk_mul, ps_cl, ps_neg, ps_c0, ps_c1, ps_n01, ps_n11, ps_10, ps_b01, ps_e0, pu_Ine, pu_Ieq, pu_ne, pu_eq, am_k_n, am_k_i, am_k_r, am_k_u, am_k_l, am_sz_0, am_sz_i, am_sz_r, am_sz_u, am_sz_l, Option.toList_some, Option.toList_none, List.cons_append, List.nil_append, true_and, and_true, or_false, false_or, or_self, or_true, true_or, not_false_eq_true, not_true_eq_false, Classical.not_not, ne_eq, ps_e1, ps_em, ps_z, Nat.not_le, false_implies, true_implies, forall_const, ps_01, ps_1n, ps_0n, ps_m10, ps_m1n, lg_cmp_gt, lg_cmp_ge, lg_cmp_le, lg_cmp_lt, lg_cmp_eq, pu_rne, pu_req, pu_uro, RFc_n, Nat.reduceAdd, Nat.reduceMul, Nat.reduceLT, Nat.reduceLeDiff, Nat.reduceEqDiff, Nat.reduceSub]
      by_cases c3 : S * mid ≤ G
      · have c3' : ¬ G < S * mid := by omega
        have hq2 := hq.mpr c3
        simp only [↓r242_80, ↓r242_83, ↓r242_85, ↓r242_86, ↓r242_89, ↓r242_91, ↓r242_92, ↓r242_93, ↓r242_95, ord_le, c3', Bool.false_eq_true, hn, hn2, ht, hF, am_wt, am_wf, Option.isSome_some, am_rf_s, am_rf_n, ps_lit, nI_add, nI_1, pk_mul, ps_cl, ps_neg, ps_c0, ps_c1, ps_n01, ps_n11, ps_10, ps_b01, ps_e0, pu_Ine, pu_Ieq, pu_ne, pu_eq, am_k_n, am_k_i, am_k_r, am_k_u, am_k_l, am_sz_0, am_sz_i, am_sz_r, am_sz_u, am_sz_l, Option.toList_some, Option.toList_none, List.cons_append, List.nil_append, true_and, and_true, or_false, false_or, or_self, or_true, true_or, not_false_eq_true, not_true_eq_false, Classical.not_not, ne_eq, ps_e1, ps_em, ps_z, Nat.not_le, false_implies, true_implies, forall_const, ps_01, ps_1n, ps_0n, ps_m10, ps_m1n, lg_cmp_gt, lg_cmp_ge, lg_cmp_le, lg_cmp_lt, lg_cmp_eq, pu_rne, pu_req, pu_uro, RFc_n, Nat.reduceAdd, Nat.reduceMul, Nat.reduceLT, Nat.reduceLeDiff, Nat.reduceEqDiff, Nat.reduceSub]
        exact ih _ _ (by omega) (by omega) h2 h3 _ (hR' _) _ _
      · have c3' : G < S * mid := by omega
        have hq2 : ¬ mid ≤ G / S := fun q => c3 (hq.mp q)
        obtain ⟨k, rfl⟩ : ∃ k, mid = k + 1 := ⟨mid - 1, by omega⟩
        simp only [↓r242_80, ↓r242_83, ↓r242_85, ↓r242_86, ↓r242_89, ↓r242_91, ↓r242_92, ↓r242_93, ↓r242_95, ord_le, c3', nI_pred, Bool.false_eq_true, hn, hn2, ht, hF, am_wt, am_wf, Option.isSome_some, am_rf_s, am_rf_n, ps_lit, nI_add, nI_1, pk_mul, ps_cl, ps_neg, ps_c0, ps_c1, ps_n01, ps_n11, ps_10, ps_b01, ps_e0, pu_Ine, pu_Ieq, pu_ne, pu_eq, am_k_n, am_k_i, am_k_r, am_k_u, am_k_l, am_sz_0, am_sz_i, am_sz_r, am_sz_u, am_sz_l, Option.toList_some, Option.toList_none, List.cons_append, List.nil_append, true_and, and_true, or_false, false_or, or_self, or_true, true_or, not_false_eq_true, not_true_eq_false, Classical.not_not, ne_eq, ps_e1, ps_em, ps_z, Nat.not_le, false_implies, true_implies, forall_const, ps_01, ps_1n, ps_0n, ps_m10, ps_m1n, lg_cmp_gt, lg_cmp_ge, lg_cmp_le, lg_cmp_lt, lg_cmp_eq, pu_rne, pu_req, pu_uro, RFc_n, Nat.reduceAdd, Nat.reduceMul, Nat.reduceLT, Nat.reduceLeDiff, Nat.reduceEqDiff, Nat.reduceSub]
        exact ih _ _ (by omega) h1 (by omega) (by omega) _ (hR' _) _ _
theorem m_quot {P D most tf : Nat} (hW : WS n t F) (hR : RK J P D) (hD : 0 < D) (hb : D * 1000000 < cC ^ 620) (htf : tf ≤ 1000000) (h1 : P * tf < cC ^ 620) (hm : most ≤ 1000000) (hQ : ∀ J, Q (some (.int (nI (min most (P * tf / D))))) (n, sl, t, I, J, F)) : am_W X (d + 1) 242 0 [some (.ref 47), some (.int (nI most)), some (.int (nI tf)), none, none, none, none] [] (n, sl, t, I, J, F) Q := by
  obtain ⟨hn, hn2, ht, hF⟩ := id hW
  have e2 := fun Q => m_grows (X := X) (d := d) (Q := Q) (sl := sl) (I := I) (J := J) (F := F) (a := 60) (V := P) (f := tf) hn2 (hn _ (by decide)) (ht _ (by decide)) hR.1 htf
  simp only [↓r242_0, ↓r242_1, ↓r242_4, ↓r242_5, ↓r242_8, ↓r242_9, ↓r242_10, ↓r242_11, ↓e2, Bool.false_eq_true, hn, hn2, ht, hF, am_wt, am_wf, Option.isSome_some, am_rf_s, am_rf_n, ps_lit, nI_add, nI_1, pk_mul, ps_cl, ps_neg, ps_c0, ps_c1, ps_n01, ps_n11, ps_10, ps_b01, ps_e0, pu_Ine, pu_Ieq, pu_ne, pu_eq, am_k_n, am_k_i, am_k_r, am_k_u, am_k_l, am_sz_0, am_sz_i, am_sz_r, am_sz_u, am_sz_l, Option.toList_some, Option.toList_none, List.cons_append, List.nil_append, true_and, and_true, or_false, false_or, or_self, or_true, true_or, not_false_eq_true, not_true_eq_false, Classical.not_not, ne_eq, ps_e1, ps_em, ps_z, Nat.not_le, false_implies, true_implies, forall_const, ps_01, ps_1n, ps_0n, ps_m10, ps_m1n, lg_cmp_gt, lg_cmp_ge, lg_cmp_le, lg_cmp_lt, lg_cmp_eq, pu_rne, pu_req, pu_uro, RFc_n, Nat.reduceAdd, Nat.reduceMul, Nat.reduceLT, Nat.reduceLeDiff, Nat.reduceEqDiff, Nat.reduceSub]
  exact m_bis hW hD hb hm hQ 20 0 most (by omega) (Nat.zero_le _) (Nat.min_le_left _ _) (Nat.le_refl _) _ ⟨by rw [pu_req]; exact NC_w h1, by rw [pu_rne (by decide)]; exact hR.2⟩ _ _
theorem m_isGone {P D : Nat} (hW : WS n t F) (hR : RK J P D) : am_W X d 248 0 [some (.ref 47), none, none] [] (n, sl, t, I, J, F) Q ↔ Q (some (.int (if P = 0 then 1 else 0))) (n, sl, t, I, J, F) := by
  obtain ⟨hn, hn2, ht, hF⟩ := id hW
  have key : ∀ i, i ≤ 620 → (P % cC ^ i = 0 ↔ ∀ k, k < i → dig cC P k = 0) := by
    intro i
    induction i with
    | zero => intro _; simp [Nat.mod_one]
    | succ i ih =>
      intro hi
      have ih := ih (by omega)
      rw [Nat.mod_pow_succ]
      have hp : 0 < cC ^ i := Nat.pow_pos cC_p
      constructor
      · intro h k hk
        by_cases e : k = i
        · subst e
          have h2 : cC ^ k * (P / cC ^ k % cC) = 0 := (Nat.add_eq_zero_iff.mp h).2
          rcases Nat.mul_eq_zero.mp h2 with q | q
          · omega
          · exact q
        · exact ih.mp (Nat.add_eq_zero_iff.mp h).1 k (by omega)
      · intro h
        have h1 := ih.mpr (fun k hk => h k (by omega))
        have h2 : P / cC ^ i % cC = 0 := h i (by omega)
        rw [h1, h2, Nat.mul_zero]
  have hx : am_W X d 248 4 [some (.ref 47), some (.int (if P % cC ^ 0 = 0 then 1 else 0)), some (.int 0)] [] (n, sl, t, I, J, F) Q ↔ Q (some (.int (if P = 0 then 1 else 0))) (n, sl, t, I, J, F) := by
    refine lp0 (A := fun i => am_W X d 248 4 [some (.ref 47), some (.int (if P % cC ^ i = 0 then 1 else 0)), some (.int (nI i))] [] (n, sl, t, I, J, F) Q ↔ Q (some (.int (if P = 0 then 1 else 0))) (n, sl, t, I, J, F)) (N := 620) ?_ ?_
    · intro i hi ih
      have z1 : i < 2000000 ∧ i < 620 := by omega
      have z2 : ¬ 620 ≤ i := by omega
      have x1 := hR.1.2 i hi
      have d1 : dig cC P i < 100000000 := dig_lt cC_p
      have e1 : (lN (dig cC P i) = 0) = (dig cC P i = 0) := propext (pk_lEQ (b := 0) (by omega) (by omega))
      have k1 := key i (by omega)
      have k2 := key (i + 1) (by omega)
      rw [r248_4]
      by_cases h : P % cC ^ i = 0
      · by_cases h2 : dig cC P i = 0
        · have h3 : P % cC ^ (i + 1) = 0 := k2.mpr (fun k hk => by
            by_cases e : k = i
            · rw [e]; exact h2
            · exact k1.mp h k (by omega))
          rw [if_pos h3] at ih
          rw [if_pos h]
          have e0 : (lN 0 = (0 : Int64)) = True := eq_true rfl
          simp only [↓r248_5, ↓r248_8, ↓r248_11, ↓r248_12, ↓r248_15, ↓r248_16, ↓r248_19, ↓r248_20, ↓r248_21, ↓r248_22, ↓r248_23, ↓r248_26, ↓r248_27, ↓r248_30, ↓r248_31, ↓r248_32, ↓r248_35, q_le, q_lt, q_eq, q_e0, q_e1, q_0e, q_1e, ps_n0, q_0le, q_le0, q_0lt, q_m1e, q_em1, z1, z2, x1, lg_cmp_eq, h2, e0, Bool.false_eq_true, hn, hn2, ht, hF, am_wt, am_wf, Option.isSome_some, am_rf_s, am_rf_n, ps_lit, nI_add, nI_1, pk_mul, ps_cl, ps_neg, ps_c0, ps_c1, ps_n01, ps_n11, ps_10, ps_b01, ps_e0, pu_Ine, pu_Ieq, pu_ne, pu_eq, am_k_n, am_k_i, am_k_r, am_k_u, am_k_l, am_sz_0, am_sz_i, am_sz_r, am_sz_u, am_sz_l, Option.toList_some, Option.toList_none, List.cons_append, List.nil_append, true_and, and_true, or_false, false_or, or_self, or_true, true_or, not_false_eq_true, not_true_eq_false, Classical.not_not, ne_eq, ps_e1, ps_em, ps_z, Nat.not_le, false_implies, true_implies, forall_const, ps_01, ps_1n, ps_0n, ps_m10, ps_m1n, lg_cmp_gt, lg_cmp_ge, lg_cmp_le, lg_cmp_lt, lg_cmp_eq, pu_rne, pu_req, pu_uro, RFc_n, Nat.reduceAdd, Nat.reduceMul, Nat.reduceLT, Nat.reduceLeDiff, Nat.reduceEqDiff, Nat.reduceSub]
          exact ih
        · have h3 : ¬ P % cC ^ (i + 1) = 0 := fun q => h2 (k2.mp q i (by omega))
          rw [if_neg h3] at ih
          rw [if_pos h]
          simp only [↓r248_5, ↓r248_8, ↓r248_11, ↓r248_12, ↓r248_15, ↓r248_16, ↓r248_19, ↓r248_20, ↓r248_21, ↓r248_22, ↓r248_23, ↓r248_26, ↓r248_27, ↓r248_30, ↓r248_31, ↓r248_32, ↓r248_35, q_le, q_lt, q_eq, q_e0, q_e1, q_0e, q_1e, ps_n0, q_0le, q_le0, q_0lt, q_m1e, q_em1, z1, z2, x1, lg_cmp_eq, e1, h2, Bool.false_eq_true, hn, hn2, ht, hF, am_wt, am_wf, Option.isSome_some, am_rf_s, am_rf_n, ps_lit, nI_add, nI_1, pk_mul, ps_cl, ps_neg, ps_c0, ps_c1, ps_n01, ps_n11, ps_10, ps_b01, ps_e0, pu_Ine, pu_Ieq, pu_ne, pu_eq, am_k_n, am_k_i, am_k_r, am_k_u, am_k_l, am_sz_0, am_sz_i, am_sz_r, am_sz_u, am_sz_l, Option.toList_some, Option.toList_none, List.cons_append, List.nil_append, true_and, and_true, or_false, false_or, or_self, or_true, true_or, not_false_eq_true, not_true_eq_false, Classical.not_not, ne_eq, ps_e1, ps_em, ps_z, Nat.not_le, false_implies, true_implies, forall_const, ps_01, ps_1n, ps_0n, ps_m10, ps_m1n, lg_cmp_gt, lg_cmp_ge, lg_cmp_le, lg_cmp_lt, lg_cmp_eq, pu_rne, pu_req, pu_uro, RFc_n, Nat.reduceAdd, Nat.reduceMul, Nat.reduceLT, Nat.reduceLeDiff, Nat.reduceEqDiff, Nat.reduceSub]
          exact ih
      · have h3 : ¬ P % cC ^ (i + 1) = 0 := fun q => h (k1.mpr (fun k hk => k2.mp q k (by omega)))
        rw [if_neg h3] at ih
        rw [if_neg h]
        simp only [↓r248_5, ↓r248_8, ↓r248_11, ↓r248_12, ↓r248_15, ↓r248_16, ↓r248_19, ↓r248_20, ↓r248_21, ↓r248_22, ↓r248_23, ↓r248_26, ↓r248_27, ↓r248_30, ↓r248_31, ↓r248_32, ↓r248_35, q_le, q_lt, q_eq, q_e0, q_e1, q_0e, q_1e, ps_n0, q_0le, q_le0, q_0lt, q_m1e, q_em1, z1, z2, Bool.false_eq_true, hn, hn2, ht, hF, am_wt, am_wf, Option.isSome_some, am_rf_s, am_rf_n, ps_lit, nI_add, nI_1, pk_mul, ps_cl, ps_neg, ps_c0, ps_c1, ps_n01, ps_n11, ps_10, ps_b01, ps_e0, pu_Ine, pu_Ieq, pu_ne, pu_eq, am_k_n, am_k_i, am_k_r, am_k_u, am_k_l, am_sz_0, am_sz_i, am_sz_r, am_sz_u, am_sz_l, Option.toList_some, Option.toList_none, List.cons_append, List.nil_append, true_and, and_true, or_false, false_or, or_self, or_true, true_or, not_false_eq_true, not_true_eq_false, Classical.not_not, ne_eq, ps_e1, ps_em, ps_z, Nat.not_le, false_implies, true_implies, forall_const, ps_01, ps_1n, ps_0n, ps_m10, ps_m1n, lg_cmp_gt, lg_cmp_ge, lg_cmp_le, lg_cmp_lt, lg_cmp_eq, pu_rne, pu_req, pu_uro, RFc_n, Nat.reduceAdd, Nat.reduceMul, Nat.reduceLT, Nat.reduceLeDiff, Nat.reduceEqDiff, Nat.reduceSub]
        exact ih
    · rw [r248_4, Nat.mod_eq_of_lt hR.1.1]
      simp only [↓r248_5, ↓r248_8, ↓r248_38, ↓r248_39, q_le, q_lt, q_eq, q_e0, q_e1, q_0e, q_1e, ps_n0, q_0le, q_le0, q_0lt, q_m1e, q_em1, ps_b01, Bool.false_eq_true, hn, hn2, ht, hF, am_wt, am_wf, Option.isSome_some, am_rf_s, am_rf_n, ps_lit, nI_add, nI_1, pk_mul, ps_cl, ps_neg, ps_c0, ps_c1, ps_n01, ps_n11, ps_10, ps_b01, ps_e0, pu_Ine, pu_Ieq, pu_ne, pu_eq, am_k_n, am_k_i, am_k_r, am_k_u, am_k_l, am_sz_0, am_sz_i, am_sz_r, am_sz_u, am_sz_l, Option.toList_some, Option.toList_none, List.cons_append, List.nil_append, true_and, and_true, or_false, false_or, or_self, or_true, true_or, not_false_eq_true, not_true_eq_false, Classical.not_not, ne_eq, ps_e1, ps_em, ps_z, Nat.not_le, false_implies, true_implies, forall_const, ps_01, ps_1n, ps_0n, ps_m10, ps_m1n, lg_cmp_gt, lg_cmp_ge, lg_cmp_le, lg_cmp_lt, lg_cmp_eq, pu_rne, pu_req, pu_uro, RFc_n, Nat.reduceAdd, Nat.reduceMul, Nat.reduceLT, Nat.reduceLeDiff, Nat.reduceEqDiff, Nat.reduceSub]
  rw [Nat.pow_zero, Nat.mod_one, if_pos rfl] at hx
  rw [← hx]
  simp only [↓r248_0, ↓r248_1, ↓r248_2, ↓r248_3, Bool.false_eq_true, hn, hn2, ht, hF, am_wt, am_wf, Option.isSome_some, am_rf_s, am_rf_n, ps_lit, nI_add, nI_1, pk_mul, ps_cl, ps_neg, ps_c0, ps_c1, ps_n01, ps_n11, ps_10, ps_b01, ps_e0, pu_Ine, pu_Ieq, pu_ne, pu_eq, am_k_n, am_k_i, am_k_r, am_k_u, am_k_l, am_sz_0, am_sz_i, am_sz_r, am_sz_u, am_sz_l, Option.toList_some, Option.toList_none, List.cons_append, List.nil_append, true_and, and_true, or_false, false_or, or_self, or_true, true_or, not_false_eq_true, not_true_eq_false, Classical.not_not, ne_eq, ps_e1, ps_em, ps_z, Nat.not_le, false_implies, true_implies, forall_const, ps_01, ps_1n, ps_0n, ps_m10, ps_m1n, lg_cmp_gt, lg_cmp_ge, lg_cmp_le, lg_cmp_lt, lg_cmp_eq, pu_rne, pu_req, pu_uro, RFc_n, Nat.reduceAdd, Nat.reduceMul, Nat.reduceLT, Nat.reduceLeDiff, Nat.reduceEqDiff, Nat.reduceSub]
end RJ
