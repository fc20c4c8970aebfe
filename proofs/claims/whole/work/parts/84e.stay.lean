/-! products of what stays, on both sides -/
section ST
variable {X : am_X} {d : Nat} {Q : Option Value → am_H → Prop} {n sl : Nat} {t : Nat → Nat × Nat} {I : Nat → Nat → Int32} {J : Nat → Nat → Int64} {F : Nat → Nat → Option Nat} {h : am_H}
variable {K : Nat → Int32} {N T : Nat} {lw : Nat → List CL} {tk ct th : Nat → Nat}
def sU (tk th : Nat → Nat) (a : Nat) : Nat → Nat
  | 0 => 1
  | j + 1 => if tk (a + j) = 0 then sU tk th a j else sU tk th a j * (th (a + j) - tk (a + j))
def sD (tk th : Nat → Nat) (a : Nat) : Nat → Nat
  | 0 => 1
  | j + 1 => if tk (a + j) = 0 then sD tk th a j else sD tk th a j * th (a + j)
def TT (tk th : Nat → Nat) : Prop := ∀ t, tk t ≤ th t ∧ th t ≤ 120
def pC : Nat := 120 ^ 201
theorem pC_b : pC * 2000000 < bB ^ 600 := by decide +kernel
theorem pC_c : pC * 2000000 < cC ^ 620 := by decide +kernel
theorem p120 {j : Nat} (h : j ≤ 201) : 120 ^ j ≤ pC := Nat.pow_le_pow_right (by decide) h
theorem sU_l (h : TT tk th) {a : Nat} : ∀ j, sU tk th a j ≤ 120 ^ j := by
  intro j
  induction j with
  | zero => exact Nat.le_refl 1
  | succ j ih =>
    rw [sU, Nat.pow_succ]
    have h2 := (h (a + j)).2
    by_cases c : tk (a + j) = 0
    · rw [if_pos c]
      omega
    · rw [if_neg c]
      exact Nat.mul_le_mul ih (by omega)
theorem sD_l (h : TT tk th) {a : Nat} : ∀ j, sD tk th a j ≤ 120 ^ j := by
  intro j
  induction j with
  | zero => exact Nat.le_refl 1
  | succ j ih =>
    rw [sD, Nat.pow_succ]
    have h2 := (h (a + j)).2
    by_cases c : tk (a + j) = 0
    · rw [if_pos c]
      omega
    · rw [if_neg c]
      exact Nat.mul_le_mul ih h2
theorem sU_b (h : TT tk th) {a j : Nat} (hj : j ≤ 201) : sU tk th a j ≤ pC := Nat.le_trans (sU_l h j) (p120 hj)
theorem sD_b (h : TT tk th) {a j : Nat} (hj : j ≤ 201) : sD tk th a j ≤ pC := Nat.le_trans (sD_l h j) (p120 hj)
theorem sD_p (h : TT tk th) {a : Nat} : ∀ j, 0 < sD tk th a j := by
  intro j
  induction j with
  | zero => exact Nat.one_pos
  | succ j ih =>
    rw [sD]
    by_cases c : tk (a + j) = 0
    · rw [if_pos c]; exact ih
    · rw [if_neg c]
      have h2 := (h (a + j)).1
      exact Nat.mul_pos ih (by omega)
theorem mulb {P u C B : Nat} (hP : P ≤ C) (hu : u ≤ 2000000) (hC : C * 2000000 < B) : P * u < B := Nat.lt_of_le_of_lt (Nat.mul_le_mul hP hu) hC
theorem sU_z {a : Nat} : ∀ m j, sU tk th a j = 0 → sU tk th a (j + m) = 0 := by
  intro m
  induction m with
  | zero => intro j h; exact h
  | succ m ih =>
    intro j h
    have := ih j h
    rw [← Nat.add_assoc, sU]
    by_cases c : tk (a + (j + m)) = 0
    · rw [if_pos c]; exact this
    · rw [if_neg c, this, Nat.zero_mul]
theorem sU_nz {a : Nat} : ∀ j, (∀ i, i < j → tk (a + i) < th (a + i)) → ¬ sU tk th a j = 0 := by
  intro j
  induction j with
  | zero => intro _ h; exact absurd h Nat.one_ne_zero
  | succ j ih =>
    intro h q
    have h1 := ih (fun i hi => h i (by omega))
    have h2 := h j (by omega)
    rw [sU] at q
    by_cases c : tk (a + j) = 0
    · rw [if_pos c] at q; exact h1 q
    · rw [if_neg c] at q
      rcases Nat.mul_eq_zero.mp q with z | z
      · exact h1 z
      · omega
/-- the fewest tenths with a half or less -/
def hv (tk th : Nat → Nat) (a : Nat) : Nat → Nat → Option Nat
  | _, 0 => none
  | j, m + 1 => if 2 * sU tk th a (j + 1) ≤ sD tk th a (j + 1) then some (a + j) else hv tk th a (j + 1) m
def hvI : Option Nat → Int32
  | none => -1
  | some t => nI t
theorem hv_le {a : Nat} : ∀ m j t', hv tk th a j m = some t' → t' < a + j + m := by
  intro m
  induction m with
  | zero => intro j t' h; cases h
  | succ m ih =>
    intro j t' h
    rw [hv] at h
    by_cases c : 2 * sU tk th a (j + 1) ≤ sD tk th a (j + 1)
    · rw [if_pos c] at h
      cases h
      omega
    · rw [if_neg c] at h
      have := ih (j + 1) t' h
      omega
/-! the class -/
theorem c_allTook {a : Nat} (hW : WS n t F) (hC : CV I tk ct th) (hT : TT tk th) (ha : a < 201) : am_W X d 84 0 [some (.ref 24), some (.int (nI a))] [] (n, sl, t, I, J, F) Q ↔ Q (some (.int (if 0 < tk a ∧ tk a = th a then 1 else 0))) (n, sl, t, I, J, F) := by
  obtain ⟨hn, hn2, ht, hF⟩ := id hW
  obtain ⟨x1, x2, x3⟩ := hC a ha
  obtain ⟨y1, y2⟩ := hT a
  have z1 : a < 2000000 ∧ tk a < 2000000 ∧ th a < 2000000 := by omega
  by_cases c1 : tk a ≤ 0
  · rw [if_neg (fun q => by omega)]
    simp only [↓r84_0, ↓r84_1, ↓r84_4, ↓r84_5, ↓r84_5k, ↓r84_6, ↓r84_9, ↓r84_10, ↓r84_13, ↓r84_14, ↓r84_14k, ↓r84_15, ↓r84_16, ↓r84_19, ↓r84_20, ↓r84_20k, ↓r84_21, ↓r84_24, ↓r84_25, ↓r84_28, ↓r84_29, q_le, q_lt, q_eq, q_e0, q_e1, q_0e, q_1e, ps_n0, q_0le, q_le0, q_0lt, q_m1e, q_em1, ha, z1, x1, x3, c1, Bool.false_eq_true, hn, hn2, ht, hF, am_wt, am_wf, Option.isSome_some, am_rf_s, am_rf_n, ps_lit, nI_add, nI_1, pk_mul, ps_cl, ps_neg, ps_c0, ps_c1, ps_n01, ps_n11, ps_10, ps_b01, ps_e0, pu_Ine, pu_Ieq, pu_ne, pu_eq, am_k_n, am_k_i, am_k_r, am_k_u, am_k_l, am_sz_0, am_sz_i, am_sz_r, am_sz_u, am_sz_l, Option.toList_some, Option.toList_none, List.cons_append, List.nil_append, true_and, and_true, or_false, false_or, or_self, or_true, true_or, not_false_eq_true, not_true_eq_false, Classical.not_not, ne_eq, ps_e1, ps_em, ps_z, Nat.not_le, false_implies, true_implies, forall_const, ps_01, ps_1n, ps_0n, ps_m10, ps_m1n, lg_cmp_gt, lg_cmp_ge, lg_cmp_le, lg_cmp_lt, lg_cmp_eq, pu_rne, pu_req, pu_uro, RFc_n, Nat.reduceAdd, Nat.reduceMul, Nat.reduceLT, Nat.reduceLeDiff, Nat.reduceEqDiff, Nat.reduceSub]
  · by_cases c2 : tk a = th a
    · rw [if_pos ⟨by omega, c2⟩]
      simp only [↓r84_0, ↓r84_1, ↓r84_4, ↓r84_5, ↓r84_5k, ↓r84_6, ↓r84_9, ↓r84_10, ↓r84_13, ↓r84_14, ↓r84_14k, ↓r84_15, ↓r84_16, ↓r84_19, ↓r84_20, ↓r84_20k, ↓r84_21, ↓r84_24, ↓r84_25, ↓r84_28, ↓r84_29, q_le, q_lt, q_eq, q_e0, q_e1, q_0e, q_1e, ps_n0, q_0le, q_le0, q_0lt, q_m1e, q_em1, ha, z1, x1, x3, c1, (show (tk a = th a) = True from eq_true c2), Bool.false_eq_true, hn, hn2, ht, hF, am_wt, am_wf, Option.isSome_some, am_rf_s, am_rf_n, ps_lit, nI_add, nI_1, pk_mul, ps_cl, ps_neg, ps_c0, ps_c1, ps_n01, ps_n11, ps_10, ps_b01, ps_e0, pu_Ine, pu_Ieq, pu_ne, pu_eq, am_k_n, am_k_i, am_k_r, am_k_u, am_k_l, am_sz_0, am_sz_i, am_sz_r, am_sz_u, am_sz_l, Option.toList_some, Option.toList_none, List.cons_append, List.nil_append, true_and, and_true, or_false, false_or, or_self, or_true, true_or, not_false_eq_true, not_true_eq_false, Classical.not_not, ne_eq, ps_e1, ps_em, ps_z, Nat.not_le, false_implies, true_implies, forall_const, ps_01, ps_1n, ps_0n, ps_m10, ps_m1n, lg_cmp_gt, lg_cmp_ge, lg_cmp_le, lg_cmp_lt, lg_cmp_eq, pu_rne, pu_req, pu_uro, RFc_n, Nat.reduceAdd, Nat.reduceMul, Nat.reduceLT, Nat.reduceLeDiff, Nat.reduceEqDiff, Nat.reduceSub]
    · rw [if_neg (fun q => c2 q.2)]
      simp only [↓r84_0, ↓r84_1, ↓r84_4, ↓r84_5, ↓r84_5k, ↓r84_6, ↓r84_9, ↓r84_10, ↓r84_13, ↓r84_14, ↓r84_14k, ↓r84_15, ↓r84_16, ↓r84_19, ↓r84_20, ↓r84_20k, ↓r84_21, ↓r84_24, ↓r84_25, ↓r84_28, ↓r84_29, q_le, q_lt, q_eq, q_e0, q_e1, q_0e, q_1e, ps_n0, q_0le, q_le0, q_0lt, q_m1e, q_em1, ha, z1, x1, x3, c1, c2, Bool.false_eq_true, hn, hn2, ht, hF, am_wt, am_wf, Option.isSome_some, am_rf_s, am_rf_n, ps_lit, nI_add, nI_1, pk_mul, ps_cl, ps_neg, ps_c0, ps_c1, ps_n01, ps_n11, ps_10, ps_b01, ps_e0, pu_Ine, pu_Ieq, pu_ne, pu_eq, am_k_n, am_k_i, am_k_r, am_k_u, am_k_l, am_sz_0, am_sz_i, am_sz_r, am_sz_u, am_sz_l, Option.toList_some, Option.toList_none, List.cons_append, List.nil_append, true_and, and_true, or_false, false_or, or_self, or_true, true_or, not_false_eq_true, not_true_eq_false, Classical.not_not, ne_eq, ps_e1, ps_em, ps_z, Nat.not_le, false_implies, true_implies, forall_const, ps_01, ps_1n, ps_0n, ps_m10, ps_m1n, lg_cmp_gt, lg_cmp_ge, lg_cmp_le, lg_cmp_lt, lg_cmp_eq, pu_rne, pu_req, pu_uro, RFc_n, Nat.reduceAdd, Nat.reduceMul, Nat.reduceLT, Nat.reduceLeDiff, Nat.reduceEqDiff, Nat.reduceSub]
theorem c_mill {a to : Nat} {x : Int32} (hW : WS n t F) (hC : CV I tk ct th) (hT : TT tk th) (hx : x + 1 = nI a) (ha : a ≤ to + 1) (hto : to ≤ 200) (hQ : ∀ I', RX I I' → Q (some (.int (nI (min 1000000 (sU tk th a (to + 1 - a) * 1000000 / sD tk th a (to + 1 - a)))))) (n, sl, t, I', J, F)) : am_W X (d + 2) 82 0 [some (.ref 24), some (.int x), some (.int (nI to)), none] [] (n, sl, t, I, J, F) Q := by
  obtain ⟨hn, hn2, ht, hF⟩ := id hW
  have hl : ∀ m j, a + j + m = to + 1 → ∀ I', RX I I' → RAT I' (sU tk th a j) (sD tk th a j) → am_W X (d + 2) 82 15 [some (.ref 24), some (.int x), some (.int (nI to)), some (.int (nI (a + j)))] [] (n, sl, t, I', J, F) Q := by
    intro m
    induction m with
    | zero =>
      intro j hj I' hX hR
      have z1 : a + j < 2000000 ∧ to < 2000000 ∧ to < a + j := by omega
      rw [r82_15]
      simp only [↓r82_16, ↓r82_17, ↓r82_78, ↓r82_79, ↓r82_82, ↓r82_84, ↓r82_86, q_le, q_lt, q_eq, q_e0, q_e1, q_0e, q_1e, ps_n0, q_0le, q_le0, q_0lt, q_m1e, q_em1, z1, Bool.false_eq_true, hn, hn2, ht, hF, am_wt, am_wf, Option.isSome_some, am_rf_s, am_rf_n, ps_lit, nI_add, nI_1, pk_mul, ps_cl, ps_neg, ps_c0, ps_c1, ps_n01, ps_n11, ps_10, ps_b01, ps_e0, pu_Ine, pu_Ieq, pu_ne, pu_eq, am_k_n, am_k_i, am_k_r, am_k_u, am_k_l, am_sz_0, am_sz_i, am_sz_r, am_sz_u, am_sz_l, Option.toList_some, Option.toList_none, List.cons_append, List.nil_append, true_and, and_true, or_false, false_or, or_self, or_true, true_or, not_false_eq_true, not_true_eq_false, Classical.not_not, ne_eq, ps_e1, ps_em, ps_z, Nat.not_le, false_implies, true_implies, forall_const, ps_01, ps_1n, ps_0n, ps_m10, ps_m1n, lg_cmp_gt, lg_cmp_ge, lg_cmp_le, lg_cmp_lt, lg_cmp_eq, pu_rne, pu_req, pu_uro, RFc_n, Nat.reduceAdd, Nat.reduceMul, Nat.reduceLT, Nat.reduceLeDiff, Nat.reduceEqDiff, Nat.reduceSub]
      refine c_cut hW hR (sD_p hT j) (by decide) (mulb (sU_b hT (by omega)) (by decide) pC_b) (by decide) (fun I'' hX' => ?_)
      simp only [↓r82_89, Bool.false_eq_true, hn, hn2, ht, hF, am_wt, am_wf, Option.isSome_some, am_rf_s, am_rf_n, ps_lit, nI_add, nI_1, pk_mul, ps_cl, ps_neg, ps_c0, ps_c1, ps_n01, ps_n11, ps_10, ps_b01, ps_e0, pu_Ine, pu_Ieq, pu_ne, pu_eq, am_k_n, am_k_i, am_k_r, am_k_u, am_k_l, am_sz_0, am_sz_i, am_sz_r, am_sz_u, am_sz_l, Option.toList_some, Option.toList_none, List.cons_append, List.nil_append, true_and, and_true, or_false, false_or, or_self, or_true, true_or, not_false_eq_true, not_true_eq_false, Classical.not_not, ne_eq, ps_e1, ps_em, ps_z, Nat.not_le, false_implies, true_implies, forall_const, ps_01, ps_1n, ps_0n, ps_m10, ps_m1n, lg_cmp_gt, lg_cmp_ge, lg_cmp_le, lg_cmp_lt, lg_cmp_eq, pu_rne, pu_req, pu_uro, RFc_n, Nat.reduceAdd, Nat.reduceMul, Nat.reduceLT, Nat.reduceLeDiff, Nat.reduceEqDiff, Nat.reduceSub]
      have := hQ I'' (RX_t hX hX')
      rw [show to + 1 - a = j by omega] at this
      exact this
    | succ m ih =>
      intro j hj I' hX hR
      have hC' := CV_x hC hX
      have z1 : a + j < 2000000 ∧ to < 2000000 ∧ a + j < 201 := by omega
      have z2 : ¬ to < a + j ∧ ¬ 200 < a + j := by omega
      obtain ⟨x1, x2, x3⟩ := hC' (a + j) (by omega)
      obtain ⟨y1, y2⟩ := hT (a + j)
      have z3 : tk (a + j) < 2000000 ∧ th (a + j) < 2000000 := by omega
      have e1 := fun Q => c_allTook (X := X) (d := d + 1) (Q := Q) (sl := sl) (J := J) (F := F) (a := a + j) hW hC' hT (by omega)
      rw [r82_15]
      by_cases c1 : 0 < tk (a + j) ∧ tk (a + j) = th (a + j)
      · have : sU tk th a (to + 1 - a) = 0 := by
          have h0 : sU tk th a (j + 1) = 0 := by
            rw [sU, if_neg (by omega), c1.2, Nat.sub_self, Nat.mul_zero]
          have := sU_z m (j + 1) h0
          rw [show to + 1 - a = j + 1 + m by omega]
          exact this
        have hq := hQ I' hX
        rw [this, Nat.zero_mul, Nat.zero_div, Nat.min_zero] at hq
        simp only [↓r82_16, ↓r82_17, ↓r82_20, ↓r82_21, ↓r82_24, ↓r82_27, ↓r82_28, ↓r82_29, ↓r82_32, ↓r82_35, ↓r82_36, ↓e1, q_le, q_lt, q_eq, q_e0, q_e1, q_0e, q_1e, ps_n0, q_0le, q_le0, q_0lt, q_m1e, q_em1, z1, z2, eq_true c1, if_true, Bool.false_eq_true, hn, hn2, ht, hF, am_wt, am_wf, Option.isSome_some, am_rf_s, am_rf_n, ps_lit, nI_add, nI_1, pk_mul, ps_cl, ps_neg, ps_c0, ps_c1, ps_n01, ps_n11, ps_10, ps_b01, ps_e0, pu_Ine, pu_Ieq, pu_ne, pu_eq, am_k_n, am_k_i, am_k_r, am_k_u, am_k_l, am_sz_0, am_sz_i, am_sz_r, am_sz_u, am_sz_l, Option.toList_some, Option.toList_none, List.cons_append, List.nil_append, true_and, and_true, or_false, false_or, or_self, or_true, true_or, not_false_eq_true, not_true_eq_false, Classical.not_not, ne_eq, ps_e1, ps_em, ps_z, Nat.not_le, false_implies, true_implies, forall_const, ps_01, ps_1n, ps_0n, ps_m10, ps_m1n, lg_cmp_gt, lg_cmp_ge, lg_cmp_le, lg_cmp_lt, lg_cmp_eq, pu_rne, pu_req, pu_uro, RFc_n, Nat.reduceAdd, Nat.reduceMul, Nat.reduceLT, Nat.reduceLeDiff, Nat.reduceEqDiff, Nat.reduceSub]
        exact hq
      · have ih' := ih (j + 1) (by omega)
        rw [← Nat.add_assoc] at ih'
        by_cases c2 : tk (a + j) = 0
        · have c3 : tk (a + j) ≤ 0 := by omega
          have e2 : sU tk th a (j + 1) = sU tk th a j := if_pos c2
          have e3 : sD tk th a (j + 1) = sD tk th a j := if_pos c2
          rw [e2, e3] at ih'
          simp only [↓r82_16, ↓r82_17, ↓r82_20, ↓r82_21, ↓r82_24, ↓r82_27, ↓r82_28, ↓r82_29, ↓r82_32, ↓r82_35, ↓r82_36, ↓r82_37, ↓r82_38, ↓r82_41, ↓r82_42, ↓r82_42k, ↓r82_43, ↓r82_72, ↓r82_75, ↓e1, q_le, q_lt, q_eq, q_e0, q_e1, q_0e, q_1e, ps_n0, q_0le, q_le0, q_0lt, q_m1e, q_em1, z1, z2, z3, c1, c3, x1, if_false, Bool.false_eq_true, hn, hn2, ht, hF, am_wt, am_wf, Option.isSome_some, am_rf_s, am_rf_n, ps_lit, nI_add, nI_1, pk_mul, ps_cl, ps_neg, ps_c0, ps_c1, ps_n01, ps_n11, ps_10, ps_b01, ps_e0, pu_Ine, pu_Ieq, pu_ne, pu_eq, am_k_n, am_k_i, am_k_r, am_k_u, am_k_l, am_sz_0, am_sz_i, am_sz_r, am_sz_u, am_sz_l, Option.toList_some, Option.toList_none, List.cons_append, List.nil_append, true_and, and_true, or_false, false_or, or_self, or_true, true_or, not_false_eq_true, not_true_eq_false, Classical.not_not, ne_eq, ps_e1, ps_em, ps_z, Nat.not_le, false_implies, true_implies, forall_const, ps_01, ps_1n, ps_0n, ps_m10, ps_m1n, lg_cmp_gt, lg_cmp_ge, lg_cmp_le, lg_cmp_lt, lg_cmp_eq, pu_rne, pu_req, pu_uro, RFc_n, Nat.reduceAdd, Nat.reduceMul, Nat.reduceLT, Nat.reduceLeDiff, Nat.reduceEqDiff, Nat.reduceSub]
          exact ih' I' hX hR
        · have c3 : ¬ tk (a + j) ≤ 0 := by omega
          have e2 : sU tk th a (j + 1) = sU tk th a j * (th (a + j) - tk (a + j)) := if_neg c2
          have e3 : sD tk th a (j + 1) = sD tk th a j * th (a + j) := if_neg c2
          rw [e2, e3] at ih'
          simp only [↓r82_16, ↓r82_17, ↓r82_20, ↓r82_21, ↓r82_24, ↓r82_27, ↓r82_28, ↓r82_29, ↓r82_32, ↓r82_35, ↓r82_36, ↓r82_37, ↓r82_38, ↓r82_41, ↓r82_42, ↓r82_42k, ↓r82_43, ↓r82_46, ↓r82_47, ↓r82_50, ↓r82_51, ↓r82_54, ↓r82_55, ↓r82_55k, ↓r82_56, ↓r82_57, ↓r82_60, ↓r82_61, ↓r82_61k, ↓r82_62, ↓r82_63, ↓r82_64, ↓r82_67, ↓r82_68, ↓r82_68k, ↓r82_69, ↓e1, q_le, q_lt, q_eq, q_e0, q_e1, q_0e, q_1e, ps_n0, q_0le, q_le0, q_0lt, q_m1e, q_em1, z1, z2, z3, c1, c3, x1, x3, nI_sub y1, if_false, Bool.false_eq_true, hn, hn2, ht, hF, am_wt, am_wf, Option.isSome_some, am_rf_s, am_rf_n, ps_lit, nI_add, nI_1, pk_mul, ps_cl, ps_neg, ps_c0, ps_c1, ps_n01, ps_n11, ps_10, ps_b01, ps_e0, pu_Ine, pu_Ieq, pu_ne, pu_eq, am_k_n, am_k_i, am_k_r, am_k_u, am_k_l, am_sz_0, am_sz_i, am_sz_r, am_sz_u, am_sz_l, Option.toList_some, Option.toList_none, List.cons_append, List.nil_append, true_and, and_true, or_false, false_or, or_self, or_true, true_or, not_false_eq_true, not_true_eq_false, Classical.not_not, ne_eq, ps_e1, ps_em, ps_z, Nat.not_le, false_implies, true_implies, forall_const, ps_01, ps_1n, ps_0n, ps_m10, ps_m1n, lg_cmp_gt, lg_cmp_ge, lg_cmp_le, lg_cmp_lt, lg_cmp_eq, pu_rne, pu_req, pu_uro, RFc_n, Nat.reduceAdd, Nat.reduceMul, Nat.reduceLT, Nat.reduceLeDiff, Nat.reduceEqDiff, Nat.reduceSub]
          refine c_mul hW hR (by rw [bB_e]; omega) (by rw [bB_e]; omega) (mulb (sU_b hT (by omega)) (by omega) pC_b) (mulb (sD_b hT (by omega)) (by omega) pC_b) (fun I'' hX' hR' => ?_)
          simp only [↓r82_72, ↓r82_75, Bool.false_eq_true, hn, hn2, ht, hF, am_wt, am_wf, Option.isSome_some, am_rf_s, am_rf_n, ps_lit, nI_add, nI_1, pk_mul, ps_cl, ps_neg, ps_c0, ps_c1, ps_n01, ps_n11, ps_10, ps_b01, ps_e0, pu_Ine, pu_Ieq, pu_ne, pu_eq, am_k_n, am_k_i, am_k_r, am_k_u, am_k_l, am_sz_0, am_sz_i, am_sz_r, am_sz_u, am_sz_l, Option.toList_some, Option.toList_none, List.cons_append, List.nil_append, true_and, and_true, or_false, false_or, or_self, or_true, true_or, not_false_eq_true, not_true_eq_false, Classical.not_not, ne_eq, ps_e1, ps_em, ps_z, Nat.not_le, false_implies, true_implies, forall_const, ps_01, ps_1n, ps_0n, ps_m10, ps_m1n, lg_cmp_gt, lg_cmp_ge, lg_cmp_le, lg_cmp_lt, lg_cmp_eq, pu_rne, pu_req, pu_uro, RFc_n, Nat.reduceAdd, Nat.reduceMul, Nat.reduceLT, Nat.reduceLeDiff, Nat.reduceEqDiff, Nat.reduceSub]
          exact ih' I'' (RX_t hX hX') hR'
  have z1 : a < 2000000 := by omega
  simp only [↓r82_0, ↓r82_1, ↓r82_4, Bool.false_eq_true, hn, hn2, ht, hF, am_wt, am_wf, Option.isSome_some, am_rf_s, am_rf_n, ps_lit, nI_add, nI_1, pk_mul, ps_cl, ps_neg, ps_c0, ps_c1, ps_n01, ps_n11, ps_10, ps_b01, ps_e0, pu_Ine, pu_Ieq, pu_ne, pu_eq, am_k_n, am_k_i, am_k_r, am_k_u, am_k_l, am_sz_0, am_sz_i, am_sz_r, am_sz_u, am_sz_l, Option.toList_some, Option.toList_none, List.cons_append, List.nil_append, true_and, and_true, or_false, false_or, or_self, or_true, true_or, not_false_eq_true, not_true_eq_false, Classical.not_not, ne_eq, ps_e1, ps_em, ps_z, Nat.not_le, false_implies, true_implies, forall_const, ps_01, ps_1n, ps_0n, ps_m10, ps_m1n, lg_cmp_gt, lg_cmp_ge, lg_cmp_le, lg_cmp_lt, lg_cmp_eq, pu_rne, pu_req, pu_uro, RFc_n, Nat.reduceAdd, Nat.reduceMul, Nat.reduceLT, Nat.reduceLeDiff, Nat.reduceEqDiff, Nat.reduceSub]
  refine c_rstart hW (fun I' hX hR => ?_)
  simp only [↓r82_7, ↓r82_8, ↓r82_9, ↓r82_10, ↓r82_11, ↓r82_14, hx, q_le, q_lt, q_eq, q_e0, q_e1, q_0e, q_1e, ps_n0, q_0le, q_le0, q_0lt, q_m1e, q_em1, z1, if_false, Bool.false_eq_true, hn, hn2, ht, hF, am_wt, am_wf, Option.isSome_some, am_rf_s, am_rf_n, ps_lit, nI_add, nI_1, pk_mul, ps_cl, ps_neg, ps_c0, ps_c1, ps_n01, ps_n11, ps_10, ps_b01, ps_e0, pu_Ine, pu_Ieq, pu_ne, pu_eq, am_k_n, am_k_i, am_k_r, am_k_u, am_k_l, am_sz_0, am_sz_i, am_sz_r, am_sz_u, am_sz_l, Option.toList_some, Option.toList_none, List.cons_append, List.nil_append, true_and, and_true, or_false, false_or, or_self, or_true, true_or, not_false_eq_true, not_true_eq_false, Classical.not_not, ne_eq, ps_e1, ps_em, ps_z, Nat.not_le, false_implies, true_implies, forall_const, ps_01, ps_1n, ps_0n, ps_m10, ps_m1n, lg_cmp_gt, lg_cmp_ge, lg_cmp_le, lg_cmp_lt, lg_cmp_eq, pu_rne, pu_req, pu_uro, RFc_n, Nat.reduceAdd, Nat.reduceMul, Nat.reduceLT, Nat.reduceLeDiff, Nat.reduceEqDiff, Nat.reduceSub]
  exact hl (to + 1 - a) 0 (by omega) I' hX hR
theorem c_halfB {a : Nat} {x : Int32} (hW : WS n t F) (hC : CV I tk ct th) (hT : TT tk th) (hx : x + 1 = nI a) (ha : a ≤ 201) (hQ : ∀ I', RX I I' → Q (some (.int (hvI (hv tk th a 0 (201 - a))))) (n, sl, t, I', J, F)) : am_W X (d + 2) 90 0 [some (.ref 24), some (.int x), none] [] (n, sl, t, I, J, F) Q := by
  obtain ⟨hn, hn2, ht, hF⟩ := id hW
  have hl : ∀ m j, a + j + m = 201 → hv tk th a 0 (201 - a) = hv tk th a j m → ¬ 2 * sU tk th a j ≤ sD tk th a j → ∀ I', RX I I' → RAT I' (sU tk th a j) (sD tk th a j) → am_W X (d + 2) 90 15 [some (.ref 24), some (.int x), some (.int (nI (a + j)))] [] (n, sl, t, I', J, F) Q := by
    intro m
    induction m with
    | zero =>
      intro j hj he hn' I' hX hR
      have z1 : a + j < 2000000 ∧ 200 < a + j := by omega
      have hq := hQ I' hX
      rw [he] at hq
      rw [r90_15]
      simp only [↓r90_16, ↓r90_19, ↓r90_85, ↓r90_86, q_le, q_lt, q_eq, q_e0, q_e1, q_0e, q_1e, ps_n0, q_0le, q_le0, q_0lt, q_m1e, q_em1, z1, Bool.false_eq_true, hn, hn2, ht, hF, am_wt, am_wf, Option.isSome_some, am_rf_s, am_rf_n, ps_lit, nI_add, nI_1, pk_mul, ps_cl, ps_neg, ps_c0, ps_c1, ps_n01, ps_n11, ps_10, ps_b01, ps_e0, pu_Ine, pu_Ieq, pu_ne, pu_eq, am_k_n, am_k_i, am_k_r, am_k_u, am_k_l, am_sz_0, am_sz_i, am_sz_r, am_sz_u, am_sz_l, Option.toList_some, Option.toList_none, List.cons_append, List.nil_append, true_and, and_true, or_false, false_or, or_self, or_true, true_or, not_false_eq_true, not_true_eq_false, Classical.not_not, ne_eq, ps_e1, ps_em, ps_z, Nat.not_le, false_implies, true_implies, forall_const, ps_01, ps_1n, ps_0n, ps_m10, ps_m1n, lg_cmp_gt, lg_cmp_ge, lg_cmp_le, lg_cmp_lt, lg_cmp_eq, pu_rne, pu_req, pu_uro, RFc_n, Nat.reduceAdd, Nat.reduceMul, Nat.reduceLT, Nat.reduceLeDiff, Nat.reduceEqDiff, Nat.reduceSub]
      exact hq
    | succ m ih =>
      intro j hj he hn' I' hX hR
      have hC' := CV_x hC hX
      have z1 : a + j < 2000000 ∧ a + j < 201 := by omega
      have z2 : ¬ 200 < a + j := by omega
      obtain ⟨x1, x2, x3⟩ := hC' (a + j) (by omega)
      obtain ⟨y1, y2⟩ := hT (a + j)
      have z3 : tk (a + j) < 2000000 ∧ th (a + j) < 2000000 := by omega
      have e1 := fun Q => c_allTook (X := X) (d := d + 1) (Q := Q) (sl := sl) (J := J) (F := F) (a := a + j) hW hC' hT (by omega)
      rw [hv] at he
      have ih' := ih (j + 1) (by omega)
      rw [← Nat.add_assoc] at ih'
      rw [r90_15]
      by_cases c1 : 0 < tk (a + j) ∧ tk (a + j) = th (a + j)
      · have h0 : sU tk th a (j + 1) = 0 := by
          rw [sU, if_neg (by omega), c1.2, Nat.sub_self, Nat.mul_zero]
        rw [h0, if_pos (by omega)] at he
        have hq := hQ I' hX
        rw [he] at hq
        simp only [↓r90_16, ↓r90_19, ↓r90_22, ↓r90_23, ↓r90_24, ↓r90_27, ↓r90_30, ↓r90_31, ↓e1, q_le, q_lt, q_eq, q_e0, q_e1, q_0e, q_1e, ps_n0, q_0le, q_le0, q_0lt, q_m1e, q_em1, z1, z2, eq_true c1, if_true, Bool.false_eq_true, hn, hn2, ht, hF, am_wt, am_wf, Option.isSome_some, am_rf_s, am_rf_n, ps_lit, nI_add, nI_1, pk_mul, ps_cl, ps_neg, ps_c0, ps_c1, ps_n01, ps_n11, ps_10, ps_b01, ps_e0, pu_Ine, pu_Ieq, pu_ne, pu_eq, am_k_n, am_k_i, am_k_r, am_k_u, am_k_l, am_sz_0, am_sz_i, am_sz_r, am_sz_u, am_sz_l, Option.toList_some, Option.toList_none, List.cons_append, List.nil_append, true_and, and_true, or_false, false_or, or_self, or_true, true_or, not_false_eq_true, not_true_eq_false, Classical.not_not, ne_eq, ps_e1, ps_em, ps_z, Nat.not_le, false_implies, true_implies, forall_const, ps_01, ps_1n, ps_0n, ps_m10, ps_m1n, lg_cmp_gt, lg_cmp_ge, lg_cmp_le, lg_cmp_lt, lg_cmp_eq, pu_rne, pu_req, pu_uro, RFc_n, Nat.reduceAdd, Nat.reduceMul, Nat.reduceLT, Nat.reduceLeDiff, Nat.reduceEqDiff, Nat.reduceSub]
        exact hq
      · by_cases c2 : tk (a + j) = 0
        · have c3 : tk (a + j) ≤ 0 := by omega
          have e2 : sU tk th a (j + 1) = sU tk th a j := if_pos c2
          have e3 : sD tk th a (j + 1) = sD tk th a j := if_pos c2
          rw [e2, e3] at ih' he
          rw [if_neg hn'] at he
          simp only [↓r90_16, ↓r90_19, ↓r90_22, ↓r90_23, ↓r90_24, ↓r90_27, ↓r90_30, ↓r90_31, ↓r90_32, ↓r90_33, ↓r90_36, ↓r90_37, ↓r90_37k, ↓r90_38, ↓r90_79, ↓r90_82, ↓e1, q_le, q_lt, q_eq, q_e0, q_e1, q_0e, q_1e, ps_n0, q_0le, q_le0, q_0lt, q_m1e, q_em1, z1, z2, z3, c1, c3, x1, if_false, Bool.false_eq_true, hn, hn2, ht, hF, am_wt, am_wf, Option.isSome_some, am_rf_s, am_rf_n, ps_lit, nI_add, nI_1, pk_mul, ps_cl, ps_neg, ps_c0, ps_c1, ps_n01, ps_n11, ps_10, ps_b01, ps_e0, pu_Ine, pu_Ieq, pu_ne, pu_eq, am_k_n, am_k_i, am_k_r, am_k_u, am_k_l, am_sz_0, am_sz_i, am_sz_r, am_sz_u, am_sz_l, Option.toList_some, Option.toList_none, List.cons_append, List.nil_append, true_and, and_true, or_false, false_or, or_self, or_true, true_or, not_false_eq_true, not_true_eq_false, Classical.not_not, ne_eq, ps_e1, ps_em, ps_z, Nat.not_le, false_implies, true_implies, forall_const, ps_01, ps_1n, ps_0n, ps_m10, ps_m1n, lg_cmp_gt, lg_cmp_ge, lg_cmp_le, lg_cmp_lt, lg_cmp_eq, pu_rne, pu_req, pu_uro, RFc_n, Nat.reduceAdd, Nat.reduceMul, Nat.reduceLT, Nat.reduceLeDiff, Nat.reduceEqDiff, Nat.reduceSub]
          exact ih' he hn' I' hX hR
        · have c3 : ¬ tk (a + j) ≤ 0 := by omega
          have e2 : sU tk th a (j + 1) = sU tk th a j * (th (a + j) - tk (a + j)) := if_neg c2
          have e3 : sD tk th a (j + 1) = sD tk th a j * th (a + j) := if_neg c2
          rw [e2, e3] at ih' he
          simp only [↓r90_16, ↓r90_19, ↓r90_22, ↓r90_23, ↓r90_24, ↓r90_27, ↓r90_30, ↓r90_31, ↓r90_32, ↓r90_33, ↓r90_36, ↓r90_37, ↓r90_37k, ↓r90_38, ↓r90_41, ↓r90_42, ↓r90_45, ↓r90_46, ↓r90_49, ↓r90_50, ↓r90_50k, ↓r90_51, ↓r90_52, ↓r90_55, ↓r90_56, ↓r90_56k, ↓r90_57, ↓r90_58, ↓r90_59, ↓r90_62, ↓r90_63, ↓r90_63k, ↓r90_64, ↓e1, q_le, q_lt, q_eq, q_e0, q_e1, q_0e, q_1e, ps_n0, q_0le, q_le0, q_0lt, q_m1e, q_em1, z1, z2, z3, c1, c3, x1, x3, nI_sub y1, if_false, Bool.false_eq_true, hn, hn2, ht, hF, am_wt, am_wf, Option.isSome_some, am_rf_s, am_rf_n, ps_lit, nI_add, nI_1, pk_mul, ps_cl, ps_neg, ps_c0, ps_c1, ps_n01, ps_n11, ps_10, ps_b01, ps_e0, pu_Ine, pu_Ieq, pu_ne, pu_eq, am_k_n, am_k_i, am_k_r, am_k_u, am_k_l, am_sz_0, am_sz_i, am_sz_r, am_sz_u, am_sz_l, Option.toList_some, Option.toList_none, List.cons_append, List.nil_append, true_and, and_true, or_false, false_or, or_self, or_true, true_or, not_false_eq_true, not_true_eq_false, Classical.not_not, ne_eq, ps_e1, ps_em, ps_z, Nat.not_le, false_implies, true_implies, forall_const, ps_01, ps_1n, ps_0n, ps_m10, ps_m1n, lg_cmp_gt, lg_cmp_ge, lg_cmp_le, lg_cmp_lt, lg_cmp_eq, pu_rne, pu_req, pu_uro, RFc_n, Nat.reduceAdd, Nat.reduceMul, Nat.reduceLT, Nat.reduceLeDiff, Nat.reduceEqDiff, Nat.reduceSub]
          refine c_mul hW hR (by rw [bB_e]; omega) (by rw [bB_e]; omega) (mulb (sU_b hT (by omega)) (by omega) pC_b) (mulb (sD_b hT (by omega)) (by omega) pC_b) (fun I'' hX' hR' => ?_)
          have g1 := fun Q => c_half (X := X) (d := d) (Q := Q) (sl := sl) (J := J) hW hR'
          by_cases c4 : 2 * (sU tk th a j * (th (a + j) - tk (a + j))) ≤ sD tk th a j * th (a + j)
          · rw [if_pos c4] at he
            have hq := hQ I'' (RX_t hX hX')
            rw [he] at hq
            simp only [↓r90_67, ↓r90_68, ↓r90_71, ↓r90_74, ↓r90_77, ↓r90_78, ↓g1, c4, if_true, Bool.false_eq_true, hn, hn2, ht, hF, am_wt, am_wf, Option.isSome_some, am_rf_s, am_rf_n, ps_lit, nI_add, nI_1, pk_mul, ps_cl, ps_neg, ps_c0, ps_c1, ps_n01, ps_n11, ps_10, ps_b01, ps_e0, pu_Ine, pu_Ieq, pu_ne, pu_eq, am_k_n, am_k_i, am_k_r, am_k_u, am_k_l, am_sz_0, am_sz_i, am_sz_r, am_sz_u, am_sz_l, Option.toList_some, Option.toList_none, List.cons_append, List.nil_append, true_and, and_true, or_false, false_or, or_self, or_true, true_or, not_false_eq_true, not_true_eq_false, Classical.not_not, ne_eq, ps_e1, ps_em, ps_z, Nat.not_le, false_implies, true_implies, forall_const, ps_01, ps_1n, ps_0n, ps_m10, ps_m1n, lg_cmp_gt, lg_cmp_ge, lg_cmp_le, lg_cmp_lt, lg_cmp_eq, pu_rne, pu_req, pu_uro, RFc_n, Nat.reduceAdd, Nat.reduceMul, Nat.reduceLT, Nat.reduceLeDiff, Nat.reduceEqDiff, Nat.reduceSub]
            exact hq
          · rw [if_neg c4] at he
            simp only [↓r90_67, ↓r90_68, ↓r90_71, ↓r90_74, ↓r90_79, ↓r90_82, ↓g1, c4, if_false, Bool.false_eq_true, hn, hn2, ht, hF, am_wt, am_wf, Option.isSome_some, am_rf_s, am_rf_n, ps_lit, nI_add, nI_1, pk_mul, ps_cl, ps_neg, ps_c0, ps_c1, ps_n01, ps_n11, ps_10, ps_b01, ps_e0, pu_Ine, pu_Ieq, pu_ne, pu_eq, am_k_n, am_k_i, am_k_r, am_k_u, am_k_l, am_sz_0, am_sz_i, am_sz_r, am_sz_u, am_sz_l, Option.toList_some, Option.toList_none, List.cons_append, List.nil_append, true_and, and_true, or_false, false_or, or_self, or_true, true_or, not_false_eq_true, not_true_eq_false, Classical.not_not, ne_eq, ps_e1, ps_em, ps_z, Nat.not_le, false_implies, true_implies, forall_const, ps_01, ps_1n, ps_0n, ps_m10, ps_m1n, lg_cmp_gt, lg_cmp_ge, lg_cmp_le, lg_cmp_lt, lg_cmp_eq, pu_rne, pu_req, pu_uro, RFc_n, Nat.reduceAdd, Nat.reduceMul, Nat.reduceLT, Nat.reduceLeDiff, Nat.reduceEqDiff, Nat.reduceSub]
            exact ih' he c4 I'' (RX_t hX hX') hR'
  have z1 : a < 2000000 := by omega
  simp only [↓r90_0, ↓r90_1, ↓r90_4, Bool.false_eq_true, hn, hn2, ht, hF, am_wt, am_wf, Option.isSome_some, am_rf_s, am_rf_n, ps_lit, nI_add, nI_1, pk_mul, ps_cl, ps_neg, ps_c0, ps_c1, ps_n01, ps_n11, ps_10, ps_b01, ps_e0, pu_Ine, pu_Ieq, pu_ne, pu_eq, am_k_n, am_k_i, am_k_r, am_k_u, am_k_l, am_sz_0, am_sz_i, am_sz_r, am_sz_u, am_sz_l, Option.toList_some, Option.toList_none, List.cons_append, List.nil_append, true_and, and_true, or_false, false_or, or_self, or_true, true_or, not_false_eq_true, not_true_eq_false, Classical.not_not, ne_eq, ps_e1, ps_em, ps_z, Nat.not_le, false_implies, true_implies, forall_const, ps_01, ps_1n, ps_0n, ps_m10, ps_m1n, lg_cmp_gt, lg_cmp_ge, lg_cmp_le, lg_cmp_lt, lg_cmp_eq, pu_rne, pu_req, pu_uro, RFc_n, Nat.reduceAdd, Nat.reduceMul, Nat.reduceLT, Nat.reduceLeDiff, Nat.reduceEqDiff, Nat.reduceSub]
  refine c_rstart hW (fun I' hX hR => ?_)
  simp only [↓r90_7, ↓r90_8, ↓r90_9, ↓r90_10, ↓r90_11, ↓r90_14, hx, q_le, q_lt, q_eq, q_e0, q_e1, q_0e, q_1e, ps_n0, q_0le, q_le0, q_0lt, q_m1e, q_em1, z1, if_false, Bool.false_eq_true, hn, hn2, ht, hF, am_wt, am_wf, Option.isSome_some, am_rf_s, am_rf_n, ps_lit, nI_add, nI_1, pk_mul, ps_cl, ps_neg, ps_c0, ps_c1, ps_n01, ps_n11, ps_10, ps_b01, ps_e0, pu_Ine, pu_Ieq, pu_ne, pu_eq, am_k_n, am_k_i, am_k_r, am_k_u, am_k_l, am_sz_0, am_sz_i, am_sz_r, am_sz_u, am_sz_l, Option.toList_some, Option.toList_none, List.cons_append, List.nil_append, true_and, and_true, or_false, false_or, or_self, or_true, true_or, not_false_eq_true, not_true_eq_false, Classical.not_not, ne_eq, ps_e1, ps_em, ps_z, Nat.not_le, false_implies, true_implies, forall_const, ps_01, ps_1n, ps_0n, ps_m10, ps_m1n, lg_cmp_gt, lg_cmp_ge, lg_cmp_le, lg_cmp_lt, lg_cmp_eq, pu_rne, pu_req, pu_uro, RFc_n, Nat.reduceAdd, Nat.reduceMul, Nat.reduceLT, Nat.reduceLeDiff, Nat.reduceEqDiff, Nat.reduceSub]
  exact hl (201 - a) 0 (by omega) rfl (by show ¬ 2 * 1 ≤ 1; omega) I' hX hR
theorem c_nothing {a : Nat} (hW : WS n t F) (hC : CV I tk ct th) (hT : TT tk th) (ha : a ≤ 200) : am_W X (d + 1) 93 0 [some (.ref 24), some (.int (nI a)), none, none] [] (n, sl, t, I, J, F) Q ↔ Q (some (.int (if sU tk th 0 (a + 1) = 0 then 1 else 0))) (n, sl, t, I, J, F) := by
  obtain ⟨hn, hn2, ht, hF⟩ := id hW
  have hx : am_W X (d + 1) 93 4 [some (.ref 24), some (.int (nI a)), some (.int (if sU tk th 0 0 = 0 then 1 else 0)), some (.int 0)] [] (n, sl, t, I, J, F) Q ↔ Q (some (.int (if sU tk th 0 (a + 1) = 0 then 1 else 0))) (n, sl, t, I, J, F) := by
    refine lp0 (A := fun i => am_W X (d + 1) 93 4 [some (.ref 24), some (.int (nI a)), some (.int (if sU tk th 0 i = 0 then 1 else 0)), some (.int (nI i))] [] (n, sl, t, I, J, F) Q ↔ Q (some (.int (if sU tk th 0 (a + 1) = 0 then 1 else 0))) (n, sl, t, I, J, F)) (N := a + 1) ?_ ?_
    · intro i hi ih
      have z1 : i < 2000000 ∧ a < 2000000 := by omega
      have z2 : ¬ a < i ∧ ¬ 200 < i := by omega
      have e1 := fun Q => c_allTook (X := X) (d := d) (Q := Q) (sl := sl) (J := J) (F := F) (a := i) hW hC hT (by omega)
      obtain ⟨y1, y2⟩ := hT i
      have e2 : sU tk th 0 (i + 1) = if tk i = 0 then sU tk th 0 i else sU tk th 0 i * (th i - tk i) := by
        rw [sU, Nat.zero_add]
      rw [r93_4]
      by_cases c0 : sU tk th 0 i = 0
      · rw [e2, c0, Nat.zero_mul, ite_self, if_pos rfl] at ih
        rw [if_pos c0]
        simp only [↓r93_5, ↓r93_6, ↓r93_9, ↓r93_10, ↓r93_13, ↓r93_16, ↓r93_17, ↓r93_20, ↓r93_21, ↓r93_22, ↓r93_25, ↓r93_28, ↓r93_29, ↓r93_32, ↓r93_33, ↓r93_34, ↓r93_37, q_le, q_lt, q_eq, q_e0, q_e1, q_0e, q_1e, ps_n0, q_0le, q_le0, q_0lt, q_m1e, q_em1, z1, z2, Bool.false_eq_true, hn, hn2, ht, hF, am_wt, am_wf, Option.isSome_some, am_rf_s, am_rf_n, ps_lit, nI_add, nI_1, pk_mul, ps_cl, ps_neg, ps_c0, ps_c1, ps_n01, ps_n11, ps_10, ps_b01, ps_e0, pu_Ine, pu_Ieq, pu_ne, pu_eq, am_k_n, am_k_i, am_k_r, am_k_u, am_k_l, am_sz_0, am_sz_i, am_sz_r, am_sz_u, am_sz_l, Option.toList_some, Option.toList_none, List.cons_append, List.nil_append, true_and, and_true, or_false, false_or, or_self, or_true, true_or, not_false_eq_true, not_true_eq_false, Classical.not_not, ne_eq, ps_e1, ps_em, ps_z, Nat.not_le, false_implies, true_implies, forall_const, ps_01, ps_1n, ps_0n, ps_m10, ps_m1n, lg_cmp_gt, lg_cmp_ge, lg_cmp_le, lg_cmp_lt, lg_cmp_eq, pu_rne, pu_req, pu_uro, RFc_n, Nat.reduceAdd, Nat.reduceMul, Nat.reduceLT, Nat.reduceLeDiff, Nat.reduceEqDiff, Nat.reduceSub]
        exact ih
      · rw [if_neg c0]
        by_cases c1 : 0 < tk i ∧ tk i = th i
        · rw [e2, if_neg (show ¬ tk i = 0 by omega), c1.2, Nat.sub_self, Nat.mul_zero, if_pos rfl] at ih
          simp only [↓r93_5, ↓r93_6, ↓r93_9, ↓r93_10, ↓r93_13, ↓r93_16, ↓r93_17, ↓r93_20, ↓r93_21, ↓r93_22, ↓r93_25, ↓r93_28, ↓r93_29, ↓r93_32, ↓r93_33, ↓r93_34, ↓r93_37, ↓e1, q_le, q_lt, q_eq, q_e0, q_e1, q_0e, q_1e, ps_n0, q_0le, q_le0, q_0lt, q_m1e, q_em1, z1, z2, eq_true c1, if_true, Bool.false_eq_true, hn, hn2, ht, hF, am_wt, am_wf, Option.isSome_some, am_rf_s, am_rf_n, ps_lit, nI_add, nI_1, pk_mul, ps_cl, ps_neg, ps_c0, ps_c1, ps_n01, ps_n11, ps_10, ps_b01, ps_e0, pu_Ine, pu_Ieq, pu_ne, pu_eq, am_k_n, am_k_i, am_k_r, am_k_u, am_k_l, am_sz_0, am_sz_i, am_sz_r, am_sz_u, am_sz_l, Option.toList_some, Option.toList_none, List.cons_append, List.nil_append, true_and, and_true, or_false, false_or, or_self, or_true, true_or, not_false_eq_true, not_true_eq_false, Classical.not_not, ne_eq, ps_e1, ps_em, ps_z, Nat.not_le, false_implies, true_implies, forall_const, ps_01, ps_1n, ps_0n, ps_m10, ps_m1n, lg_cmp_gt, lg_cmp_ge, lg_cmp_le, lg_cmp_lt, lg_cmp_eq, pu_rne, pu_req, pu_uro, RFc_n, Nat.reduceAdd, Nat.reduceMul, Nat.reduceLT, Nat.reduceLeDiff, Nat.reduceEqDiff, Nat.reduceSub]
          exact ih
        · have c2 : ¬ sU tk th 0 (i + 1) = 0 := by
            rw [e2]
            by_cases c3 : tk i = 0
            · rw [if_pos c3]; exact c0
            · rw [if_neg c3]
              intro q
              rcases Nat.mul_eq_zero.mp q with z | z
              · exact c0 z
              · exact c1 ⟨by omega, by omega⟩
          rw [if_neg c2] at ih
          simp only [↓r93_5, ↓r93_6, ↓r93_9, ↓r93_10, ↓r93_13, ↓r93_16, ↓r93_17, ↓r93_20, ↓r93_21, ↓r93_22, ↓r93_25, ↓r93_28, ↓r93_29, ↓r93_32, ↓r93_33, ↓r93_34, ↓r93_37, ↓e1, q_le, q_lt, q_eq, q_e0, q_e1, q_0e, q_1e, ps_n0, q_0le, q_le0, q_0lt, q_m1e, q_em1, z1, z2, c1, if_false, Bool.false_eq_true, hn, hn2, ht, hF, am_wt, am_wf, Option.isSome_some, am_rf_s, am_rf_n, ps_lit, nI_add, nI_1, pk_mul, ps_cl, ps_neg, ps_c0, ps_c1, ps_n01, ps_n11, ps_10, ps_b01, ps_e0, pu_Ine, pu_Ieq, pu_ne, pu_eq, am_k_n, am_k_i, am_k_r, am_k_u, am_k_l, am_sz_0, am_sz_i, am_sz_r, am_sz_u, am_sz_l, Option.toList_some, Option.toList_none, List.cons_append, List.nil_append, true_and, and_true, or_false, false_or, or_self, or_true, true_or, not_false_eq_true, not_true_eq_false, Classical.not_not, ne_eq, ps_e1, ps_em, ps_z, Nat.not_le, false_implies, true_implies, forall_const, ps_01, ps_1n, ps_0n, ps_m10, ps_m1n, lg_cmp_gt, lg_cmp_ge, lg_cmp_le, lg_cmp_lt, lg_cmp_eq, pu_rne, pu_req, pu_uro, RFc_n, Nat.reduceAdd, Nat.reduceMul, Nat.reduceLT, Nat.reduceLeDiff, Nat.reduceEqDiff, Nat.reduceSub]
          exact ih
    · have z1 : a + 1 < 2000000 ∧ a < 2000000 ∧ a < a + 1 := by omega
      rw [r93_4]
      simp only [↓r93_5, ↓r93_6, ↓r93_40, ↓r93_41, q_le, q_lt, q_eq, q_e0, q_e1, q_0e, q_1e, ps_n0, q_0le, q_le0, q_0lt, q_m1e, q_em1, z1, ps_b01, Bool.false_eq_true, hn, hn2, ht, hF, am_wt, am_wf, Option.isSome_some, am_rf_s, am_rf_n, ps_lit, nI_add, nI_1, pk_mul, ps_cl, ps_neg, ps_c0, ps_c1, ps_n01, ps_n11, ps_10, ps_b01, ps_e0, pu_Ine, pu_Ieq, pu_ne, pu_eq, am_k_n, am_k_i, am_k_r, am_k_u, am_k_l, am_sz_0, am_sz_i, am_sz_r, am_sz_u, am_sz_l, Option.toList_some, Option.toList_none, List.cons_append, List.nil_append, true_and, and_true, or_false, false_or, or_self, or_true, true_or, not_false_eq_true, not_true_eq_false, Classical.not_not, ne_eq, ps_e1, ps_em, ps_z, Nat.not_le, false_implies, true_implies, forall_const, ps_01, ps_1n, ps_0n, ps_m10, ps_m1n, lg_cmp_gt, lg_cmp_ge, lg_cmp_le, lg_cmp_lt, lg_cmp_eq, pu_rne, pu_req, pu_uro, RFc_n, Nat.reduceAdd, Nat.reduceMul, Nat.reduceLT, Nat.reduceLeDiff, Nat.reduceEqDiff, Nat.reduceSub]
  rw [show (if sU tk th 0 0 = 0 then (1 : Int32) else 0) = 0 from rfl] at hx
  rw [← hx]
  simp only [↓r93_0, ↓r93_1, ↓r93_2, ↓r93_3, Bool.false_eq_true, hn, hn2, ht, hF, am_wt, am_wf, Option.isSome_some, am_rf_s, am_rf_n, ps_lit, nI_add, nI_1, pk_mul, ps_cl, ps_neg, ps_c0, ps_c1, ps_n01, ps_n11, ps_10, ps_b01, ps_e0, pu_Ine, pu_Ieq, pu_ne, pu_eq, am_k_n, am_k_i, am_k_r, am_k_u, am_k_l, am_sz_0, am_sz_i, am_sz_r, am_sz_u, am_sz_l, Option.toList_some, Option.toList_none, List.cons_append, List.nil_append, true_and, and_true, or_false, false_or, or_self, or_true, true_or, not_false_eq_true, not_true_eq_false, Classical.not_not, ne_eq, ps_e1, ps_em, ps_z, Nat.not_le, false_implies, true_implies, forall_const, ps_01, ps_1n, ps_0n, ps_m10, ps_m1n, lg_cmp_gt, lg_cmp_ge, lg_cmp_le, lg_cmp_lt, lg_cmp_eq, pu_rne, pu_req, pu_uro, RFc_n, Nat.reduceAdd, Nat.reduceMul, Nat.reduceLT, Nat.reduceLeDiff, Nat.reduceEqDiff, Nat.reduceSub]
/-! the reference -/
theorem m_stayOn {l : List Nat} {tt P D : Nat} (hCK : CK n t F (I 1 4) (I 2) (I 3) (I 49) K N) (hG : GH (I 47 24) (I 59) l N) (htt : tt ≤ 200) (hR : RK J P D) (hP : P ≤ pC) (hD : D ≤ pC) (hQ : ∀ J', RK J' (if tkc K l tt l.length = 0 then P else P * (thc K l tt l.length - tkc K l tt l.length)) (if tkc K l tt l.length = 0 then D else D * thc K l tt l.length) → Q none (n, sl, t, I, J', F)) : am_W X (d + 3) 238 0 [some (.ref 47), some (.int (nI tt)), none, none] [] (n, sl, t, I, J, F) Q := by
  have hW : WS n t F := hCK.1
  obtain ⟨hn, hn2, ht, hF⟩ := id hW
  have g1 := fun Q => m_tookAt (X := X) (d := d) (Q := Q) (sl := sl) (J := J) hCK hG htt
  have g2 := fun Q => m_thereAt (X := X) (d := d) (Q := Q) (sl := sl) (J := J) hCK hG htt
  have y1 := tk_th (K := K) (l := l) tt l.length
  have y2 := th_le (K := K) hG.2.1 tt
  have z1 : tkc K l tt l.length < 2000000 := by omega
  by_cases c : tkc K l tt l.length = 0
  · rw [if_pos c, if_pos c] at hQ
    simp only [↓r238_0, ↓r238_1, ↓r238_2, ↓r238_5, ↓r238_6, ↓r238_7, ↓r238_10, ↓g1, q_le, q_lt, q_eq, q_e0, q_e1, q_0e, q_1e, ps_n0, q_0le, q_le0, q_0lt, q_m1e, q_em1, z1, c, Bool.false_eq_true, hn, hn2, ht, hF, am_wt, am_wf, Option.isSome_some, am_rf_s, am_rf_n, ps_lit, nI_add, nI_1, pk_mul, ps_cl, ps_neg, ps_c0, ps_c1, ps_n01, ps_n11, ps_10, ps_b01, ps_e0, pu_Ine, pu_Ieq, pu_ne, pu_eq, am_k_n, am_k_i, am_k_r, am_k_u, am_k_l, am_sz_0, am_sz_i, am_sz_r, am_sz_u, am_sz_l, Option.toList_some, Option.toList_none, List.cons_append, List.nil_append, true_and, and_true, or_false, false_or, or_self, or_true, true_or, not_false_eq_true, not_true_eq_false, Classical.not_not, ne_eq, ps_e1, ps_em, ps_z, Nat.not_le, false_implies, true_implies, forall_const, ps_01, ps_1n, ps_0n, ps_m10, ps_m1n, lg_cmp_gt, lg_cmp_ge, lg_cmp_le, lg_cmp_lt, lg_cmp_eq, pu_rne, pu_req, pu_uro, RFc_n, Nat.reduceAdd, Nat.reduceMul, Nat.reduceLT, Nat.reduceLeDiff, Nat.reduceEqDiff, Nat.reduceSub]
    exact hQ J hR
  · rw [if_neg c, if_neg c] at hQ
    have e1 := fun Q => m_grows (X := X) (d := d + 2) (Q := Q) (sl := sl) (I := I) (J := J) (F := F) (a := 60) (V := P) (f := thc K l tt l.length - tkc K l tt l.length) hn2 (hn _ (by decide)) (ht _ (by decide)) hR.1 (by omega)
    have e2 := fun f Q => m_grows (X := X) (d := d + 2) (Q := Q) (sl := sl) (I := I) (J := am_ro J 60 f) (F := F) (a := 61) (V := D) (f := thc K l tt l.length) hn2 (hn _ (by decide)) (ht _ (by decide)) (by rw [pu_rne (by decide)]; exact hR.2) (by omega)
    simp only [↓r238_0, ↓r238_1, ↓r238_2, ↓r238_5, ↓r238_6, ↓r238_7, ↓r238_10, ↓r238_11, ↓r238_12, ↓r238_13, ↓r238_16, ↓r238_17, ↓r238_18, ↓r238_21, ↓r238_22, ↓r238_23, ↓r238_24, ↓r238_27, ↓r238_28, ↓r238_31, ↓r238_32, ↓r238_35, ↓g1, ↓g2, ↓e1, ↓e2, q_le, q_lt, q_eq, q_e0, q_e1, q_0e, q_1e, ps_n0, q_0le, q_le0, q_0lt, q_m1e, q_em1, z1, c, nI_sub y1, Bool.false_eq_true, hn, hn2, ht, hF, am_wt, am_wf, Option.isSome_some, am_rf_s, am_rf_n, ps_lit, nI_add, nI_1, pk_mul, ps_cl, ps_neg, ps_c0, ps_c1, ps_n01, ps_n11, ps_10, ps_b01, ps_e0, pu_Ine, pu_Ieq, pu_ne, pu_eq, am_k_n, am_k_i, am_k_r, am_k_u, am_k_l, am_sz_0, am_sz_i, am_sz_r, am_sz_u, am_sz_l, Option.toList_some, Option.toList_none, List.cons_append, List.nil_append, true_and, and_true, or_false, false_or, or_self, or_true, true_or, not_false_eq_true, not_true_eq_false, Classical.not_not, ne_eq, ps_e1, ps_em, ps_z, Nat.not_le, false_implies, true_implies, forall_const, ps_01, ps_1n, ps_0n, ps_m10, ps_m1n, lg_cmp_gt, lg_cmp_ge, lg_cmp_le, lg_cmp_lt, lg_cmp_eq, pu_rne, pu_req, pu_uro, RFc_n, Nat.reduceAdd, Nat.reduceMul, Nat.reduceLT, Nat.reduceLeDiff, Nat.reduceEqDiff, Nat.reduceSub]
    refine hQ _ ⟨?_, ?_⟩
    · rw [pu_rne (by decide), pu_req]
      exact NC_w (mulb hP (by omega) pC_c)
    · rw [pu_req]
      exact NC_w (mulb hD (by omega) pC_c)
theorem RK_1 {f g : Nat → Int64} : RK (am_ro (am_ro J 60 (rwL 620 f (fun k => lN (dig cC 1 k)))) 61 (rwL 620 g (fun k => lN (dig cC 1 k)))) 1 1 := by
  have h1 : 1 < cC ^ 620 := Nat.lt_of_le_of_lt (by show 1 ≤ pC * 2000000; decide +kernel) pC_c
  refine ⟨?_, ?_⟩
  · rw [pu_rne (by decide), pu_req]
    exact NC_w h1
  · rw [pu_req]
    exact NC_w h1
theorem m_stay {l : List Nat} {a to : Nat} {x : Int32} (hCK : CK n t F (I 1 4) (I 2) (I 3) (I 49) K N) (hG : GH (I 47 24) (I 59) l N) (hx : x + 1 = nI a) (ha : a ≤ to + 1) (hto : to ≤ 200) (hQ : ∀ J', RK J' (sU (fun t => tkc K l t l.length) (fun t => thc K l t l.length) a (to + 1 - a)) (sD (fun t => tkc K l t l.length) (fun t => thc K l t l.length) a (to + 1 - a)) → Q none (n, sl, t, I, J', F)) : am_W X (d + 4) 236 0 [some (.ref 47), some (.int x), some (.int (nI to)), none] [] (n, sl, t, I, J, F) Q := by
  have hW : WS n t F := hCK.1
  obtain ⟨hn, hn2, ht, hF⟩ := id hW
  have hT : TT (fun t => tkc K l t l.length) (fun t => thc K l t l.length) := fun t' => ⟨tk_th t' _, th_le hG.2.1 t'⟩
  have hl : ∀ m j, a + j + m = to + 1 → ∀ J', RK J' (sU (fun t => tkc K l t l.length) (fun t => thc K l t l.length) a j) (sD (fun t => tkc K l t l.length) (fun t => thc K l t l.length) a j) → am_W X (d + 4) 236 20 [some (.ref 47), some (.int x), some (.int (nI to)), some (.int (nI (a + j)))] [] (n, sl, t, I, J', F) Q := by
    intro m
    induction m with
    | zero =>
      intro j hj J' hR
      have z1 : a + j < 2000000 ∧ to < 2000000 ∧ to < a + j := by omega
      rw [show to + 1 - a = j by omega] at hQ
      rw [r236_20]
      simp only [↓r236_21, ↓r236_22, ↓r236_36, q_le, q_lt, q_eq, q_e0, q_e1, q_0e, q_1e, ps_n0, q_0le, q_le0, q_0lt, q_m1e, q_em1, z1, Bool.false_eq_true, hn, hn2, ht, hF, am_wt, am_wf, Option.isSome_some, am_rf_s, am_rf_n, ps_lit, nI_add, nI_1, pk_mul, ps_cl, ps_neg, ps_c0, ps_c1, ps_n01, ps_n11, ps_10, ps_b01, ps_e0, pu_Ine, pu_Ieq, pu_ne, pu_eq, am_k_n, am_k_i, am_k_r, am_k_u, am_k_l, am_sz_0, am_sz_i, am_sz_r, am_sz_u, am_sz_l, Option.toList_some, Option.toList_none, List.cons_append, List.nil_append, true_and, and_true, or_false, false_or, or_self, or_true, true_or, not_false_eq_true, not_true_eq_false, Classical.not_not, ne_eq, ps_e1, ps_em, ps_z, Nat.not_le, false_implies, true_implies, forall_const, ps_01, ps_1n, ps_0n, ps_m10, ps_m1n, lg_cmp_gt, lg_cmp_ge, lg_cmp_le, lg_cmp_lt, lg_cmp_eq, pu_rne, pu_req, pu_uro, RFc_n, Nat.reduceAdd, Nat.reduceMul, Nat.reduceLT, Nat.reduceLeDiff, Nat.reduceEqDiff, Nat.reduceSub]
      exact hQ J' hR
    | succ m ih =>
      intro j hj J' hR
      have ih' := ih (j + 1) (by omega)
      rw [← Nat.add_assoc, sU, sD] at ih'
      have z1 : a + j < 2000000 ∧ to < 2000000 := by omega
      have z2 : ¬ to < a + j := by omega
      rw [r236_20]
      simp only [↓r236_21, ↓r236_22, ↓r236_25, ↓r236_26, ↓r236_27, q_le, q_lt, q_eq, q_e0, q_e1, q_0e, q_1e, ps_n0, q_0le, q_le0, q_0lt, q_m1e, q_em1, z1, z2, Bool.false_eq_true, hn, hn2, ht, hF, am_wt, am_wf, Option.isSome_some, am_rf_s, am_rf_n, ps_lit, nI_add, nI_1, pk_mul, ps_cl, ps_neg, ps_c0, ps_c1, ps_n01, ps_n11, ps_10, ps_b01, ps_e0, pu_Ine, pu_Ieq, pu_ne, pu_eq, am_k_n, am_k_i, am_k_r, am_k_u, am_k_l, am_sz_0, am_sz_i, am_sz_r, am_sz_u, am_sz_l, Option.toList_some, Option.toList_none, List.cons_append, List.nil_append, true_and, and_true, or_false, false_or, or_self, or_true, true_or, not_false_eq_true, not_true_eq_false, Classical.not_not, ne_eq, ps_e1, ps_em, ps_z, Nat.not_le, false_implies, true_implies, forall_const, ps_01, ps_1n, ps_0n, ps_m10, ps_m1n, lg_cmp_gt, lg_cmp_ge, lg_cmp_le, lg_cmp_lt, lg_cmp_eq, pu_rne, pu_req, pu_uro, RFc_n, Nat.reduceAdd, Nat.reduceMul, Nat.reduceLT, Nat.reduceLeDiff, Nat.reduceEqDiff, Nat.reduceSub]
      refine m_stayOn hCK hG (by omega) hR (sU_b hT (by omega)) (sD_b hT (by omega)) (fun J'' hR' => ?_)
      simp only [↓r236_30, ↓r236_33, Bool.false_eq_true, hn, hn2, ht, hF, am_wt, am_wf, Option.isSome_some, am_rf_s, am_rf_n, ps_lit, nI_add, nI_1, pk_mul, ps_cl, ps_neg, ps_c0, ps_c1, ps_n01, ps_n11, ps_10, ps_b01, ps_e0, pu_Ine, pu_Ieq, pu_ne, pu_eq, am_k_n, am_k_i, am_k_r, am_k_u, am_k_l, am_sz_0, am_sz_i, am_sz_r, am_sz_u, am_sz_l, Option.toList_some, Option.toList_none, List.cons_append, List.nil_append, true_and, and_true, or_false, false_or, or_self, or_true, true_or, not_false_eq_true, not_true_eq_false, Classical.not_not, ne_eq, ps_e1, ps_em, ps_z, Nat.not_le, false_implies, true_implies, forall_const, ps_01, ps_1n, ps_0n, ps_m10, ps_m1n, lg_cmp_gt, lg_cmp_ge, lg_cmp_le, lg_cmp_lt, lg_cmp_eq, pu_rne, pu_req, pu_uro, RFc_n, Nat.reduceAdd, Nat.reduceMul, Nat.reduceLT, Nat.reduceLeDiff, Nat.reduceEqDiff, Nat.reduceSub]
      exact ih' J'' hR'
  have e1 := fun (J : Nat → Nat → Int64) Q => m_be (X := X) (d := d + 3) (Q := Q) (sl := sl) (I := I) (J := J) (F := F) (a := 60) hn2 (hn _ (by decide)) (ht _ (by decide))
  have e2 := fun (J : Nat → Nat → Int64) Q => m_be (X := X) (d := d + 3) (Q := Q) (sl := sl) (I := I) (J := J) (F := F) (a := 61) hn2 (hn _ (by decide)) (ht _ (by decide))
  simp only [↓r236_0, ↓r236_1, ↓r236_4, ↓r236_5, ↓r236_8, ↓r236_9, ↓r236_12, ↓r236_13, ↓r236_16, ↓r236_17, ↓r236_18, ↓r236_19, ↓e1, ↓e2, hx, Bool.false_eq_true, hn, hn2, ht, hF, am_wt, am_wf, Option.isSome_some, am_rf_s, am_rf_n, ps_lit, nI_add, nI_1, pk_mul, ps_cl, ps_neg, ps_c0, ps_c1, ps_n01, ps_n11, ps_10, ps_b01, ps_e0, pu_Ine, pu_Ieq, pu_ne, pu_eq, am_k_n, am_k_i, am_k_r, am_k_u, am_k_l, am_sz_0, am_sz_i, am_sz_r, am_sz_u, am_sz_l, Option.toList_some, Option.toList_none, List.cons_append, List.nil_append, true_and, and_true, or_false, false_or, or_self, or_true, true_or, not_false_eq_true, not_true_eq_false, Classical.not_not, ne_eq, ps_e1, ps_em, ps_z, Nat.not_le, false_implies, true_implies, forall_const, ps_01, ps_1n, ps_0n, ps_m10, ps_m1n, lg_cmp_gt, lg_cmp_ge, lg_cmp_le, lg_cmp_lt, lg_cmp_eq, pu_rne, pu_req, pu_uro, RFc_n, Nat.reduceAdd, Nat.reduceMul, Nat.reduceLT, Nat.reduceLeDiff, Nat.reduceEqDiff, Nat.reduceSub]
  exact hl (to + 1 - a) 0 (by omega) _ RK_1
theorem m_halfB {l : List Nat} {a : Nat} {x : Int32} (hCK : CK n t F (I 1 4) (I 2) (I 3) (I 49) K N) (hG : GH (I 47 24) (I 59) l N) (hx : x + 1 = nI a) (ha : a ≤ 201) (hQ : ∀ J', Q (some (.int (hvI (hv (fun t => tkc K l t l.length) (fun t => thc K l t l.length) a 0 (201 - a))))) (n, sl, t, I, J', F)) : am_W X (d + 4) 245 0 [some (.ref 47), some (.int x), none] [] (n, sl, t, I, J, F) Q := by
  have hW : WS n t F := hCK.1
  obtain ⟨hn, hn2, ht, hF⟩ := id hW
  have hT : TT (fun t => tkc K l t l.length) (fun t => thc K l t l.length) := fun t' => ⟨tk_th t' _, th_le hG.2.1 t'⟩
  have hl : ∀ m j, a + j + m = 201 → hv (fun t => tkc K l t l.length) (fun t => thc K l t l.length) a 0 (201 - a) = hv (fun t => tkc K l t l.length) (fun t => thc K l t l.length) a j m → ∀ J', RK J' (sU (fun t => tkc K l t l.length) (fun t => thc K l t l.length) a j) (sD (fun t => tkc K l t l.length) (fun t => thc K l t l.length) a j) → am_W X (d + 4) 245 20 [some (.ref 47), some (.int x), some (.int (nI (a + j)))] [] (n, sl, t, I, J', F) Q := by
    intro m
    induction m with
    | zero =>
      intro j hj he J' hR
      have z1 : a + j < 2000000 ∧ 200 < a + j := by omega
      have hq := hQ J'
      rw [he] at hq
      rw [r245_20]
      simp only [↓r245_21, ↓r245_24, ↓r245_47, ↓r245_48, q_le, q_lt, q_eq, q_e0, q_e1, q_0e, q_1e, ps_n0, q_0le, q_le0, q_0lt, q_m1e, q_em1, z1, Bool.false_eq_true, hn, hn2, ht, hF, am_wt, am_wf, Option.isSome_some, am_rf_s, am_rf_n, ps_lit, nI_add, nI_1, pk_mul, ps_cl, ps_neg, ps_c0, ps_c1, ps_n01, ps_n11, ps_10, ps_b01, ps_e0, pu_Ine, pu_Ieq, pu_ne, pu_eq, am_k_n, am_k_i, am_k_r, am_k_u, am_k_l, am_sz_0, am_sz_i, am_sz_r, am_sz_u, am_sz_l, Option.toList_some, Option.toList_none, List.cons_append, List.nil_append, true_and, and_true, or_false, false_or, or_self, or_true, true_or, not_false_eq_true, not_true_eq_false, Classical.not_not, ne_eq, ps_e1, ps_em, ps_z, Nat.not_le, false_implies, true_implies, forall_const, ps_01, ps_1n, ps_0n, ps_m10, ps_m1n, lg_cmp_gt, lg_cmp_ge, lg_cmp_le, lg_cmp_lt, lg_cmp_eq, pu_rne, pu_req, pu_uro, RFc_n, Nat.reduceAdd, Nat.reduceMul, Nat.reduceLT, Nat.reduceLeDiff, Nat.reduceEqDiff, Nat.reduceSub]
      exact hq
    | succ m ih =>
      intro j hj he J' hR
      have ih' := ih (j + 1) (by omega)
      rw [hv] at he
      rw [← Nat.add_assoc] at ih'
      have hb := sU_b hT (a := a) (j := j + 1) (by omega)
      have z1 : a + j < 2000000 := by omega
      have z2 : ¬ 200 < a + j := by omega
      rw [r245_20]
      simp only [↓r245_21, ↓r245_24, ↓r245_27, ↓r245_28, ↓r245_29, q_le, q_lt, q_eq, q_e0, q_e1, q_0e, q_1e, ps_n0, q_0le, q_le0, q_0lt, q_m1e, q_em1, z1, z2, Bool.false_eq_true, hn, hn2, ht, hF, am_wt, am_wf, Option.isSome_some, am_rf_s, am_rf_n, ps_lit, nI_add, nI_1, pk_mul, ps_cl, ps_neg, ps_c0, ps_c1, ps_n01, ps_n11, ps_10, ps_b01, ps_e0, pu_Ine, pu_Ieq, pu_ne, pu_eq, am_k_n, am_k_i, am_k_r, am_k_u, am_k_l, am_sz_0, am_sz_i, am_sz_r, am_sz_u, am_sz_l, Option.toList_some, Option.toList_none, List.cons_append, List.nil_append, true_and, and_true, or_false, false_or, or_self, or_true, true_or, not_false_eq_true, not_true_eq_false, Classical.not_not, ne_eq, ps_e1, ps_em, ps_z, Nat.not_le, false_implies, true_implies, forall_const, ps_01, ps_1n, ps_0n, ps_m10, ps_m1n, lg_cmp_gt, lg_cmp_ge, lg_cmp_le, lg_cmp_lt, lg_cmp_eq, pu_rne, pu_req, pu_uro, RFc_n, Nat.reduceAdd, Nat.reduceMul, Nat.reduceLT, Nat.reduceLeDiff, Nat.reduceEqDiff, Nat.reduceSub]
      refine m_stayOn hCK hG (by omega) hR (sU_b hT (by omega)) (sD_b hT (by omega)) (fun J'' hR' => ?_)
      have hR2 : RK J'' (sU (fun t => tkc K l t l.length) (fun t => thc K l t l.length) a (j + 1)) (sD (fun t => tkc K l t l.length) (fun t => thc K l t l.length) a (j + 1)) := hR'
      simp only [↓r245_32, ↓r245_33, Bool.false_eq_true, hn, hn2, ht, hF, am_wt, am_wf, Option.isSome_some, am_rf_s, am_rf_n, ps_lit, nI_add, nI_1, pk_mul, ps_cl, ps_neg, ps_c0, ps_c1, ps_n01, ps_n11, ps_10, ps_b01, ps_e0, pu_Ine, pu_Ieq, pu_ne, pu_eq, am_k_n, am_k_i, am_k_r, am_k_u, am_k_l, am_sz_0, am_sz_i, am_sz_r, am_sz_u, am_sz_l, Option.toList_some, Option.toList_none, List.cons_append, List.nil_append, true_and, and_true, or_false, false_or, or_self, or_true, true_or, not_false_eq_true, not_true_eq_false, Classical.not_not, ne_eq, ps_e1, ps_em, ps_z, Nat.not_le, false_implies, true_implies, forall_const, ps_01, ps_1n, ps_0n, ps_m10, ps_m1n, lg_cmp_gt, lg_cmp_ge, lg_cmp_le, lg_cmp_lt, lg_cmp_eq, pu_rne, pu_req, pu_uro, RFc_n, Nat.reduceAdd, Nat.reduceMul, Nat.reduceLT, Nat.reduceLeDiff, Nat.reduceEqDiff, Nat.reduceSub]
      refine m_isHalf hW hR2 (by rw [Nat.mul_comm]; exact mulb hb (by decide) pC_c) (fun J3 q1 q2 => ?_)
      by_cases c4 : 2 * sU (fun t => tkc K l t l.length) (fun t => thc K l t l.length) a (j + 1) ≤ sD (fun t => tkc K l t l.length) (fun t => thc K l t l.length) a (j + 1)
      · rw [if_pos c4] at he ⊢
        have hq := hQ J3
        rw [he] at hq
        simp only [↓r245_36, ↓r245_39, ↓r245_40, Bool.false_eq_true, hn, hn2, ht, hF, am_wt, am_wf, Option.isSome_some, am_rf_s, am_rf_n, ps_lit, nI_add, nI_1, pk_mul, ps_cl, ps_neg, ps_c0, ps_c1, ps_n01, ps_n11, ps_10, ps_b01, ps_e0, pu_Ine, pu_Ieq, pu_ne, pu_eq, am_k_n, am_k_i, am_k_r, am_k_u, am_k_l, am_sz_0, am_sz_i, am_sz_r, am_sz_u, am_sz_l, Option.toList_some, Option.toList_none, List.cons_append, List.nil_append, true_and, and_true, or_false, false_or, or_self, or_true, true_or, not_false_eq_true, not_true_eq_false, Classical.not_not, ne_eq, ps_e1, ps_em, ps_z, Nat.not_le, false_implies, true_implies, forall_const, ps_01, ps_1n, ps_0n, ps_m10, ps_m1n, lg_cmp_gt, lg_cmp_ge, lg_cmp_le, lg_cmp_lt, lg_cmp_eq, pu_rne, pu_req, pu_uro, RFc_n, Nat.reduceAdd, Nat.reduceMul, Nat.reduceLT, Nat.reduceLeDiff, Nat.reduceEqDiff, Nat.reduceSub]
        exact hq
      · rw [if_neg c4] at he ⊢
        simp only [↓r245_36, ↓r245_39, ↓r245_40, ↓r245_41, ↓r245_44, Bool.false_eq_true, hn, hn2, ht, hF, am_wt, am_wf, Option.isSome_some, am_rf_s, am_rf_n, ps_lit, nI_add, nI_1, pk_mul, ps_cl, ps_neg, ps_c0, ps_c1, ps_n01, ps_n11, ps_10, ps_b01, ps_e0, pu_Ine, pu_Ieq, pu_ne, pu_eq, am_k_n, am_k_i, am_k_r, am_k_u, am_k_l, am_sz_0, am_sz_i, am_sz_r, am_sz_u, am_sz_l, Option.toList_some, Option.toList_none, List.cons_append, List.nil_append, true_and, and_true, or_false, false_or, or_self, or_true, true_or, not_false_eq_true, not_true_eq_false, Classical.not_not, ne_eq, ps_e1, ps_em, ps_z, Nat.not_le, false_implies, true_implies, forall_const, ps_01, ps_1n, ps_0n, ps_m10, ps_m1n, lg_cmp_gt, lg_cmp_ge, lg_cmp_le, lg_cmp_lt, lg_cmp_eq, pu_rne, pu_req, pu_uro, RFc_n, Nat.reduceAdd, Nat.reduceMul, Nat.reduceLT, Nat.reduceLeDiff, Nat.reduceEqDiff, Nat.reduceSub]
        refine ih' he J3 ?_
        unfold RK
        rw [q1, q2]
        exact hR2
  have e1 := fun (J : Nat → Nat → Int64) Q => m_be (X := X) (d := d + 3) (Q := Q) (sl := sl) (I := I) (J := J) (F := F) (a := 60) hn2 (hn _ (by decide)) (ht _ (by decide))
  have e2 := fun (J : Nat → Nat → Int64) Q => m_be (X := X) (d := d + 3) (Q := Q) (sl := sl) (I := I) (J := J) (F := F) (a := 61) hn2 (hn _ (by decide)) (ht _ (by decide))
  simp only [↓r245_0, ↓r245_1, ↓r245_4, ↓r245_5, ↓r245_8, ↓r245_9, ↓r245_12, ↓r245_13, ↓r245_16, ↓r245_17, ↓r245_18, ↓r245_19, ↓e1, ↓e2, hx, Bool.false_eq_true, hn, hn2, ht, hF, am_wt, am_wf, Option.isSome_some, am_rf_s, am_rf_n, ps_lit, nI_add, nI_1, pk_mul, ps_cl, ps_neg, ps_c0, ps_c1, ps_n01, ps_n11, ps_10, ps_b01, ps_e0, pu_Ine, pu_Ieq, pu_ne, pu_eq, am_k_n, am_k_i, am_k_r, am_k_u, am_k_l, am_sz_0, am_sz_i, am_sz_r, am_sz_u, am_sz_l, Option.toList_some, Option.toList_none, List.cons_append, List.nil_append, true_and, and_true, or_false, false_or, or_self, or_true, true_or, not_false_eq_true, not_true_eq_false, Classical.not_not, ne_eq, ps_e1, ps_em, ps_z, Nat.not_le, false_implies, true_implies, forall_const, ps_01, ps_1n, ps_0n, ps_m10, ps_m1n, lg_cmp_gt, lg_cmp_ge, lg_cmp_le, lg_cmp_lt, lg_cmp_eq, pu_rne, pu_req, pu_uro, RFc_n, Nat.reduceAdd, Nat.reduceMul, Nat.reduceLT, Nat.reduceLeDiff, Nat.reduceEqDiff, Nat.reduceSub]
  exact hl (201 - a) 0 (by omega) rfl _ RK_1
end ST
