/-! calls, one on each side: fewest -/
section FW
variable {X : am_X} {d : Nat} {Q : Option Value → am_H → Prop} {n sl : Nat} {t : Nat → Nat × Nat} {I : Nat → Nat → Int32} {J : Nat → Nat → Int64} {F : Nat → Nat → Option Nat} {h : am_H}
variable {K : Nat → Int32} {N T : Nat} {lw : Nat → List CL}
theorem c_fill {a len : Nat} (hn2 : n ≤ 1000000) (ha : a < n) (ta : t a = (20, len)) (hl : len ≤ 2000) : am_W X d 81 0 [some (.ref a), some (.int 0), none, none] [] (n, sl, t, I, J, F) Q ↔ Q none (n, sl, t, am_ro I a (fun k => if k < len then 0 else I a k), J, F) := by
  have ha2 : a < 1000000 := by omega
  have hx : am_W X d 81 5 [some (.ref a), some (.int 0), some (.int 0), some (.int (nI len))] [] (n, sl, t, am_ro I a (fun k => if k < 0 then 0 else I a k), J, F) Q ↔ Q none (n, sl, t, am_ro I a (fun k => if k < len then 0 else I a k), J, F) := by
    refine lp0 (A := fun i => am_W X d 81 5 [some (.ref a), some (.int 0), some (.int (nI i)), some (.int (nI len))] [] (n, sl, t, am_ro I a (fun k => if k < i then 0 else I a k), J, F) Q ↔ Q none (n, sl, t, am_ro I a (fun k => if k < len then 0 else I a k), J, F)) (N := len) ?_ ?_
    · intro i hi ih
      have z1 : i < 2000000 ∧ len < 2000000 := by omega
      have z2 : ¬ len ≤ i := by omega
      have e1 : upd (fun k => if k < i then 0 else I a k) i 0 = fun k => if k < i + 1 then 0 else I a k := by
        funext k
        unfold upd
        by_cases h : k = i
        · rw [if_pos h, if_pos (by omega)]
        · rw [if_neg h]
          show (if k < i then 0 else I a k) = if k < i + 1 then 0 else I a k
          by_cases h2 : k < i
          · rw [if_pos h2, if_pos (by omega)]
          · rw [if_neg h2, if_neg (by omega)]
      rw [← e1] at ih
      rw [r81_5]
      simp only [↓r81_6, ↓r81_7, ↓r81_10, ↓r81_10n, ↓r81_11, ↓r81_12, ↓r81_13, ↓r81_14, ↓r81_17, q_le, q_lt, q_eq, q_e0, q_e1, q_0e, q_1e, ps_n0, q_0le, q_le0, q_0lt, q_m1e, q_em1, ha, ha2, ta, z1, z2, hi, pu_uro, Bool.false_eq_true, ps_lit, nI_add, nI_1, pk_mul, ps_cl, ps_neg, ps_c0, ps_c1, ps_n01, ps_n11, ps_10, ps_01, ps_1n, ps_0n, ps_b01, ps_e0, am_k_n, am_k_i, am_k_r, am_k_u, am_k_l, am_sz_0, am_sz_i, am_sz_r, am_sz_u, am_sz_l, Option.toList_some, Option.toList_none, List.cons_append, List.nil_append, true_and, and_true, or_false, false_or, or_self, or_true, true_or, and_self, if_true, if_false, not_false_eq_true, not_true_eq_false, Classical.not_not, ne_eq, ps_e1, ps_em, ps_z, Nat.not_le, false_implies, true_implies, forall_const, Nat.reduceAdd, Nat.reduceMul, Nat.reduceLT, Nat.reduceLeDiff, Nat.reduceEqDiff, Nat.reduceSub]
      exact ih
    · rw [r81_5]
      simp only [↓r81_6, ↓r81_7, ↓r81_20, Int32.le_refl, Bool.false_eq_true, ps_lit, nI_add, nI_1, pk_mul, ps_cl, ps_neg, ps_c0, ps_c1, ps_n01, ps_n11, ps_10, ps_01, ps_1n, ps_0n, ps_b01, ps_e0, am_k_n, am_k_i, am_k_r, am_k_u, am_k_l, am_sz_0, am_sz_i, am_sz_r, am_sz_u, am_sz_l, Option.toList_some, Option.toList_none, List.cons_append, List.nil_append, true_and, and_true, or_false, false_or, or_self, or_true, true_or, and_self, if_true, if_false, not_false_eq_true, not_true_eq_false, Classical.not_not, ne_eq, ps_e1, ps_em, ps_z, Nat.not_le, false_implies, true_implies, forall_const, Nat.reduceAdd, Nat.reduceMul, Nat.reduceLT, Nat.reduceLeDiff, Nat.reduceEqDiff, Nat.reduceSub]
  rw [← hx]
  have e0 : am_ro I a (fun k => if k < 0 then 0 else I a k) = I := by
    have : (fun k => if k < 0 then 0 else I a k) = I a := by funext k; simp
    rw [this, pu_roI]
  rw [e0]
  simp only [↓r81_0, ↓r81_1, ↓r81_2, ↓r81_2n, ↓r81_3, ↓r81_3k, ↓r81_4, ha, ha2, ta, Bool.false_eq_true, ps_lit, nI_add, nI_1, pk_mul, ps_cl, ps_neg, ps_c0, ps_c1, ps_n01, ps_n11, ps_10, ps_01, ps_1n, ps_0n, ps_b01, ps_e0, am_k_n, am_k_i, am_k_r, am_k_u, am_k_l, am_sz_0, am_sz_i, am_sz_r, am_sz_u, am_sz_l, Option.toList_some, Option.toList_none, List.cons_append, List.nil_append, true_and, and_true, or_false, false_or, or_self, or_true, true_or, and_self, if_true, if_false, not_false_eq_true, not_true_eq_false, Classical.not_not, ne_eq, ps_e1, ps_em, ps_z, Nat.not_le, false_implies, true_implies, forall_const, Nat.reduceAdd, Nat.reduceMul, Nat.reduceLT, Nat.reduceLeDiff, Nat.reduceEqDiff, Nat.reduceSub]
/-- taken one after the other, until it is enough -/
def gr (M : Nat) : Nat → Nat → List Nat → Nat × Nat
  | S, m, [] => (S, m)
  | S, m, x :: L => if S < M then gr M (S + x) (m + 1) L else (S, m)
theorem gr_stop {M S m : Nat} {L : List Nat} (h : ¬ S < M) : gr M S m L = (S, m) := by
  cases L with
  | nil => rfl
  | cons x L => rw [gr, if_neg h]
theorem gr_app {M : Nat} : ∀ (A B : List Nat) (S m : Nat), gr M S m (A ++ B) = gr M (gr M S m A).1 (gr M S m A).2 B := by
  intro A
  induction A with
  | nil => intro B S m; rfl
  | cons x A ih =>
    intro B S m
    rw [List.cons_append, gr, gr]
    by_cases h : S < M
    · rw [if_pos h, if_pos h]
      exact ih B _ _
    · rw [if_neg h, if_neg h, gr_stop h]
theorem gr_b {M : Nat} : ∀ (L : List Nat) (S m : Nat), (∀ x, x ∈ L → x ≤ 200) → S ≤ M + 200 → (gr M S m L).1 ≤ M + 200 := by
  intro L
  induction L with
  | nil => intro S m _ h; exact h
  | cons x L ih =>
    intro S m hx h
    rw [gr]
    by_cases c : S < M
    · rw [if_pos c]
      refine ih _ _ (fun y hy => hx y (List.mem_cons_of_mem _ hy)) ?_
      have := hx x List.mem_cons_self
      omega
    · rw [if_neg c]; exact h
theorem gr_m {M : Nat} : ∀ (L : List Nat) (S m : Nat), (gr M S m L).2 ≤ m + L.length := by
  intro L
  induction L with
  | nil => intro S m; exact Nat.le_refl _
  | cons x L ih =>
    intro S m
    rw [gr]
    by_cases c : S < M
    · rw [if_pos c, List.length_cons]
      have := ih (S + x) (m + 1)
      omega
    · rw [if_neg c]
      exact Nat.le_add_right _ _
def grV (M : Nat) (r : Nat × Nat) : Int32 := if r.1 < M then -1 else nI r.2
theorem gr_zero {M S m : Nat} (k : Nat) : grV M (gr M S m (List.replicate k 0)) = grV M (S, m) := by
  induction k generalizing m with
  | zero => rfl
  | succ k ih =>
    rw [List.replicate_succ, gr]
    by_cases c : S < M
    · rw [if_pos c, Nat.add_zero, ih]
      unfold grV
      rw [if_pos c, if_pos c]
    · rw [if_neg c]
/-- the greatest numbers first, m of them -/
def tp (c : Nat → Nat) : Nat → List Nat
  | 0 => []
  | m + 1 => tp c m ++ List.replicate (c (200 - m)) (200 - m)
theorem bl_tp {c : Nat → Nat} : ∀ m, m ≤ 200 → bl c 200 = tp c m ++ bl c (200 - m) := by
  intro m
  induction m with
  | zero => intro _; rfl
  | succ m ih =>
    intro h
    obtain ⟨q, hq⟩ : ∃ q, 200 - m = q + 1 := ⟨200 - m - 1, by omega⟩
    have e2 : 200 - (m + 1) = q := by omega
    rw [ih (by omega), tp, e2, hq, bl, List.append_assoc]
theorem tp_le {c : Nat → Nat} : ∀ m x, x ∈ tp c m → x ≤ 200 := by
  intro m
  induction m with
  | zero => intro x hx; exact absurd hx List.not_mem_nil
  | succ m ih =>
    intro x hx
    rw [tp] at hx
    rcases List.mem_append.mp hx with q | q
    · exact ih x q
    · rw [List.eq_of_mem_replicate q]; omega
theorem su3 {a b c : Nat} : nI a - nI b - nI c = nI a - nI (b + c) := by
  rw [← nI_add, Int32.sub_eq_add_neg, Int32.sub_eq_add_neg, Int32.sub_eq_add_neg, Int32.neg_add, Int32.add_assoc, Int32.sub_eq_add_neg]
theorem su_le0 {a b : Nat} (ha : a < 2000000) (hb : b < 2000000) : (nI a - nI b ≤ 0) ↔ a ≤ b := by
  rw [Int32.le_iff_toInt_le, pk_sub_toInt (by omega) (by omega)]
  have e : (0 : Int32).toInt = 0 := by decide
  rw [e]
  omega
theorem cl_fewestFor {M : Nat} {c : Nat → Nat} (hW : WS n t F) (hM : M ≤ 100000) (hc : ∀ v, v ≤ 200 → I 45 v = nI (c v) ∧ c v ≤ 120) : am_W X d 115 0 [some (.ref 0), some (.int (nI M)), none, none, none, none] [] (n, sl, t, I, J, F) Q ↔ Q (some (.int (grV M (gr M 0 0 (bl c 200))))) (n, sl, t, I, J, F) := by
  obtain ⟨hn, hn2, ht, hF⟩ := id hW
  have hin : ∀ (R : Prop) (S m v : Nat), S ≤ M + 200 → 1 ≤ v → v ≤ 200 → (∀ l5 : Option Value, am_W X d 115 51 [some (.ref 0), some (.int (nI M)), some (.int (nI M - nI (gr M S m (List.replicate (c v) v)).1)), some (.int (nI (gr M S m (List.replicate (c v) v)).2)), some (.int (nI v)), l5] [] (n, sl, t, I, J, F) Q ↔ R) → (am_W X d 115 21 [some (.ref 0), some (.int (nI M)), some (.int (nI M - nI S)), some (.int (nI m)), some (.int (nI v)), some (.int 0)] [] (n, sl, t, I, J, F) Q ↔ R) := by
    intro R S m v hS hv1 hv hR
    obtain ⟨c1, c2⟩ := hc v hv
    refine lp0 (A := fun k => am_W X d 115 21 [some (.ref 0), some (.int (nI M)), some (.int (nI M - nI (gr M S m (List.replicate k v)).1)), some (.int (nI (gr M S m (List.replicate k v)).2)), some (.int (nI v)), some (.int (nI k))] [] (n, sl, t, I, J, F) Q ↔ R) (N := c v) ?_ ?_
    · intro k hk ih
      have hb := gr_b (M := M) (List.replicate k v) S m (fun x hx => by rw [List.eq_of_mem_replicate hx]; exact hv) hS
      have es : gr M S m (List.replicate (k + 1) v) = gr M (gr M S m (List.replicate k v)).1 (gr M S m (List.replicate k v)).2 [v] := by
        rw [List.replicate_succ', gr_app]
      have ec : ∀ q, k + q = c v → gr M S m (List.replicate (c v) v) = gr M (gr M S m (List.replicate k v)).1 (gr M S m (List.replicate k v)).2 (List.replicate q v) := fun q hq => by
        rw [← hq, ← List.replicate_append_replicate, gr_app]
      rw [es] at ih
      have ec' := ec (c v - k) (by omega)
      generalize gr M S m (List.replicate k v) = r at hb ih ec'
      obtain ⟨S1, m1⟩ := r
      dsimp only at hb ih ec' ⊢
      have z1 : k < 2000000 ∧ c v < 2000000 ∧ v < 2000000 ∧ v < 201 := by omega
      have z2 : ¬ c v ≤ k := by omega
      have s0 := su_le0 (a := M) (b := S1) (by omega) (by omega)
      rw [r115_21]
      by_cases q : S1 < M
      · have q1 : ¬ nI M - nI S1 ≤ 0 := fun z => by have := s0.mp z; omega
        rw [gr, if_pos q] at ih
        simp only [↓r115_23, ↓r115_24, ↓r115_27, ↓r115_29, ↓r115_29k, ↓r115_30, ↓r115_33, ↓r115_34, ↓r115_37, ↓r115_38, ↓r115_40, ↓r115_41, ↓r115_42, ↓r115_45, ↓r115_48, q_le, q_lt, q_eq, q_e0, q_e1, q_0e, q_1e, ps_n0, q_0le, q_le0, q_0lt, q_m1e, q_em1, c1, z1, z2, q1, su3, Bool.false_eq_true, hn, hn2, ht, hF, am_wt, am_wf, Option.isSome_some, am_rf_s, am_rf_n, ps_lit, nI_add, nI_1, pk_mul, ps_cl, ps_neg, ps_c0, ps_c1, ps_n01, ps_n11, ps_10, ps_b01, ps_e0, pu_Ine, pu_Ieq, pu_ne, pu_eq, am_k_n, am_k_i, am_k_r, am_k_u, am_k_l, am_sz_0, am_sz_i, am_sz_r, am_sz_u, am_sz_l, Option.toList_some, Option.toList_none, List.cons_append, List.nil_append, true_and, and_true, or_false, false_or, or_self, or_true, true_or, not_false_eq_true, not_true_eq_false, Classical.not_not, ne_eq, ps_e1, ps_em, ps_z, Nat.not_le, false_implies, true_implies, forall_const, ps_01, ps_1n, ps_0n, ps_m10, ps_m1n, lg_cmp_gt, lg_cmp_ge, lg_cmp_le, lg_cmp_lt, lg_cmp_eq, pu_rne, pu_req, pu_uro, RFc_n, Nat.reduceAdd, Nat.reduceMul, Nat.reduceLT, Nat.reduceLeDiff, Nat.reduceEqDiff, Nat.reduceSub]
        exact ih
      · have q1 : nI M - nI S1 ≤ 0 := s0.mpr (by omega)
        rw [gr_stop q] at ec'
        rw [ec'] at hR
        simp only [↓r115_23, ↓r115_24, ↓r115_27, ↓r115_29, ↓r115_29k, ↓r115_30, ↓r115_33, ↓r115_34, q_le, q_lt, q_eq, q_e0, q_e1, q_0e, q_1e, ps_n0, q_0le, q_le0, q_0lt, q_m1e, q_em1, c1, z1, z2, q1, Bool.false_eq_true, hn, hn2, ht, hF, am_wt, am_wf, Option.isSome_some, am_rf_s, am_rf_n, ps_lit, nI_add, nI_1, pk_mul, ps_cl, ps_neg, ps_c0, ps_c1, ps_n01, ps_n11, ps_10, ps_b01, ps_e0, pu_Ine, pu_Ieq, pu_ne, pu_eq, am_k_n, am_k_i, am_k_r, am_k_u, am_k_l, am_sz_0, am_sz_i, am_sz_r, am_sz_u, am_sz_l, Option.toList_some, Option.toList_none, List.cons_append, List.nil_append, true_and, and_true, or_false, false_or, or_self, or_true, true_or, not_false_eq_true, not_true_eq_false, Classical.not_not, ne_eq, ps_e1, ps_em, ps_z, Nat.not_le, false_implies, true_implies, forall_const, ps_01, ps_1n, ps_0n, ps_m10, ps_m1n, lg_cmp_gt, lg_cmp_ge, lg_cmp_le, lg_cmp_lt, lg_cmp_eq, pu_rne, pu_req, pu_uro, RFc_n, Nat.reduceAdd, Nat.reduceMul, Nat.reduceLT, Nat.reduceLeDiff, Nat.reduceEqDiff, Nat.reduceSub]
        exact hR _
    · rw [r115_21]
      have z1 : c v < 2000000 ∧ v < 2000000 ∧ v < 201 := by omega
      simp only [↓r115_23, ↓r115_24, ↓r115_27, ↓r115_29, ↓r115_29k, ↓r115_30, q_le, q_lt, q_eq, q_e0, q_e1, q_0e, q_1e, ps_n0, q_0le, q_le0, q_0lt, q_m1e, q_em1, c1, z1, Nat.le_refl, Bool.false_eq_true, hn, hn2, ht, hF, am_wt, am_wf, Option.isSome_some, am_rf_s, am_rf_n, ps_lit, nI_add, nI_1, pk_mul, ps_cl, ps_neg, ps_c0, ps_c1, ps_n01, ps_n11, ps_10, ps_b01, ps_e0, pu_Ine, pu_Ieq, pu_ne, pu_eq, am_k_n, am_k_i, am_k_r, am_k_u, am_k_l, am_sz_0, am_sz_i, am_sz_r, am_sz_u, am_sz_l, Option.toList_some, Option.toList_none, List.cons_append, List.nil_append, true_and, and_true, or_false, false_or, or_self, or_true, true_or, not_false_eq_true, not_true_eq_false, Classical.not_not, ne_eq, ps_e1, ps_em, ps_z, Nat.not_le, false_implies, true_implies, forall_const, ps_01, ps_1n, ps_0n, ps_m10, ps_m1n, lg_cmp_gt, lg_cmp_ge, lg_cmp_le, lg_cmp_lt, lg_cmp_eq, pu_rne, pu_req, pu_uro, RFc_n, Nat.reduceAdd, Nat.reduceMul, Nat.reduceLT, Nat.reduceLeDiff, Nat.reduceEqDiff, Nat.reduceSub]
      exact hR _
  have hend : ∀ (S m : Nat) (l4 l5 : Option Value), S ≤ M + 200 → (am_W X d 115 57 [some (.ref 0), some (.int (nI M)), some (.int (nI M - nI S)), some (.int (nI m)), l4, l5] [] (n, sl, t, I, J, F) Q ↔ Q (some (.int (grV M (S, m)))) (n, sl, t, I, J, F)) := by
    intro S m l4 l5 hS
    have s0 := su_le0 (a := M) (b := S) (by omega) (by omega)
    unfold grV
    by_cases q : S < M
    · have q1 : ¬ nI M - nI S ≤ 0 := fun z => by have := s0.mp z; omega
      rw [if_pos q]
      simp only [↓r115_57, ↓r115_58, ↓r115_61, ↓r115_62, ↓r115_65, ↓r115_66, q1, Bool.false_eq_true, hn, hn2, ht, hF, am_wt, am_wf, Option.isSome_some, am_rf_s, am_rf_n, ps_lit, nI_add, nI_1, pk_mul, ps_cl, ps_neg, ps_c0, ps_c1, ps_n01, ps_n11, ps_10, ps_b01, ps_e0, pu_Ine, pu_Ieq, pu_ne, pu_eq, am_k_n, am_k_i, am_k_r, am_k_u, am_k_l, am_sz_0, am_sz_i, am_sz_r, am_sz_u, am_sz_l, Option.toList_some, Option.toList_none, List.cons_append, List.nil_append, true_and, and_true, or_false, false_or, or_self, or_true, true_or, not_false_eq_true, not_true_eq_false, Classical.not_not, ne_eq, ps_e1, ps_em, ps_z, Nat.not_le, false_implies, true_implies, forall_const, ps_01, ps_1n, ps_0n, ps_m10, ps_m1n, lg_cmp_gt, lg_cmp_ge, lg_cmp_le, lg_cmp_lt, lg_cmp_eq, pu_rne, pu_req, pu_uro, RFc_n, Nat.reduceAdd, Nat.reduceMul, Nat.reduceLT, Nat.reduceLeDiff, Nat.reduceEqDiff, Nat.reduceSub]
    · have q1 : nI M - nI S ≤ 0 := s0.mpr (by omega)
      rw [if_neg q]
      simp only [↓r115_57, ↓r115_58, ↓r115_61, ↓r115_62, ↓r115_65, ↓r115_66, q1, Bool.false_eq_true, hn, hn2, ht, hF, am_wt, am_wf, Option.isSome_some, am_rf_s, am_rf_n, ps_lit, nI_add, nI_1, pk_mul, ps_cl, ps_neg, ps_c0, ps_c1, ps_n01, ps_n11, ps_10, ps_b01, ps_e0, pu_Ine, pu_Ieq, pu_ne, pu_eq, am_k_n, am_k_i, am_k_r, am_k_u, am_k_l, am_sz_0, am_sz_i, am_sz_r, am_sz_u, am_sz_l, Option.toList_some, Option.toList_none, List.cons_append, List.nil_append, true_and, and_true, or_false, false_or, or_self, or_true, true_or, not_false_eq_true, not_true_eq_false, Classical.not_not, ne_eq, ps_e1, ps_em, ps_z, Nat.not_le, false_implies, true_implies, forall_const, ps_01, ps_1n, ps_0n, ps_m10, ps_m1n, lg_cmp_gt, lg_cmp_ge, lg_cmp_le, lg_cmp_lt, lg_cmp_eq, pu_rne, pu_req, pu_uro, RFc_n, Nat.reduceAdd, Nat.reduceMul, Nat.reduceLT, Nat.reduceLeDiff, Nat.reduceEqDiff, Nat.reduceSub]
  have hall : ∀ m, m ≤ 200 → grV M (gr M 0 0 (bl c 200)) = grV M (gr M (gr M 0 0 (tp c m)).1 (gr M 0 0 (tp c m)).2 (bl c (200 - m))) := fun m hm => by
    rw [bl_tp m hm, gr_app]
  have hout : ∀ l5 : Option Value, am_W X d 115 9 [some (.ref 0), some (.int (nI M)), some (.int (nI M - nI (gr M 0 0 (tp c 0)).1)), some (.int (nI (gr M 0 0 (tp c 0)).2)), some (.int (nI (200 - 0))), l5] [] (n, sl, t, I, J, F) Q ↔ Q (some (.int (grV M (gr M 0 0 (bl c 200))))) (n, sl, t, I, J, F) := by
    refine lp0 (A := fun m => ∀ l5 : Option Value, am_W X d 115 9 [some (.ref 0), some (.int (nI M)), some (.int (nI M - nI (gr M 0 0 (tp c m)).1)), some (.int (nI (gr M 0 0 (tp c m)).2)), some (.int (nI (200 - m))), l5] [] (n, sl, t, I, J, F) Q ↔ Q (some (.int (grV M (gr M 0 0 (bl c 200))))) (n, sl, t, I, J, F)) (N := 200) ?_ ?_
    · intro m hm ih l5
      have hb := gr_b (M := M) (tp c m) 0 0 (tp_le m) (by omega)
      have es : gr M 0 0 (tp c (m + 1)) = gr M (gr M 0 0 (tp c m)).1 (gr M 0 0 (tp c m)).2 (List.replicate (c (200 - m)) (200 - m)) := by rw [tp, gr_app]
      have ha := hall m (by omega)
      rw [es] at ih
      generalize gr M 0 0 (tp c m) = r at hb ih ha
      obtain ⟨S1, m1⟩ := r
      dsimp only at hb ih ha ⊢
      obtain ⟨v, hv⟩ : ∃ v, 200 - m = v + 1 := ⟨200 - m - 1, by omega⟩
      have ev : 200 - (m + 1) = v := by omega
      rw [ev, hv] at ih
      rw [hv]
      have s0 := su_le0 (a := M) (b := S1) (by omega) (by omega)
      have z1 : v + 1 < 2000000 := by omega
      have z2 : ¬ v + 1 ≤ 0 := by omega
      rw [r115_9]
      by_cases q : S1 < M
      · have q1 : ¬ nI M - nI S1 ≤ 0 := fun z => by have := s0.mp z; omega
        simp only [↓r115_11, ↓r115_14, ↓r115_15, ↓r115_18, ↓r115_19, q_le, q_lt, q_eq, q_e0, q_e1, q_0e, q_1e, ps_n0, q_0le, q_le0, q_0lt, q_m1e, q_em1, z1, z2, q1, Bool.false_eq_true, hn, hn2, ht, hF, am_wt, am_wf, Option.isSome_some, am_rf_s, am_rf_n, ps_lit, nI_add, nI_1, pk_mul, ps_cl, ps_neg, ps_c0, ps_c1, ps_n01, ps_n11, ps_10, ps_b01, ps_e0, pu_Ine, pu_Ieq, pu_ne, pu_eq, am_k_n, am_k_i, am_k_r, am_k_u, am_k_l, am_sz_0, am_sz_i, am_sz_r, am_sz_u, am_sz_l, Option.toList_some, Option.toList_none, List.cons_append, List.nil_append, true_and, and_true, or_false, false_or, or_self, or_true, true_or, not_false_eq_true, not_true_eq_false, Classical.not_not, ne_eq, ps_e1, ps_em, ps_z, Nat.not_le, false_implies, true_implies, forall_const, ps_01, ps_1n, ps_0n, ps_m10, ps_m1n, lg_cmp_gt, lg_cmp_ge, lg_cmp_le, lg_cmp_lt, lg_cmp_eq, pu_rne, pu_req, pu_uro, RFc_n, Nat.reduceAdd, Nat.reduceMul, Nat.reduceLT, Nat.reduceLeDiff, Nat.reduceEqDiff, Nat.reduceSub]
        refine hin _ S1 m1 (v + 1) hb (by omega) (by omega) (fun l5 => ?_)
        have e3 : nI (v + 1) + Int32.ofInt (-1) = nI v := by
          rw [show Int32.ofInt (-1) = -1 by decide, ← Int32.sub_eq_add_neg, nI_pred]
        simp only [↓r115_51, ↓r115_54, e3, Bool.false_eq_true, hn, hn2, ht, hF, am_wt, am_wf, Option.isSome_some, am_rf_s, am_rf_n, ps_lit, nI_add, nI_1, pk_mul, ps_cl, ps_neg, ps_c0, ps_c1, ps_n01, ps_n11, ps_10, ps_b01, ps_e0, pu_Ine, pu_Ieq, pu_ne, pu_eq, am_k_n, am_k_i, am_k_r, am_k_u, am_k_l, am_sz_0, am_sz_i, am_sz_r, am_sz_u, am_sz_l, Option.toList_some, Option.toList_none, List.cons_append, List.nil_append, true_and, and_true, or_false, false_or, or_self, or_true, true_or, not_false_eq_true, not_true_eq_false, Classical.not_not, ne_eq, ps_e1, ps_em, ps_z, Nat.not_le, false_implies, true_implies, forall_const, ps_01, ps_1n, ps_0n, ps_m10, ps_m1n, lg_cmp_gt, lg_cmp_ge, lg_cmp_le, lg_cmp_lt, lg_cmp_eq, pu_rne, pu_req, pu_uro, RFc_n, Nat.reduceAdd, Nat.reduceMul, Nat.reduceLT, Nat.reduceLeDiff, Nat.reduceEqDiff, Nat.reduceSub]
        exact ih _
      · have q1 : nI M - nI S1 ≤ 0 := s0.mpr (by omega)
        rw [gr_stop q] at ha
        rw [ha, ← hend S1 m1 (some (.int (nI (v + 1)))) l5 hb]
        simp only [↓r115_11, ↓r115_14, ↓r115_15, q_le, q_lt, q_eq, q_e0, q_e1, q_0e, q_1e, ps_n0, q_0le, q_le0, q_0lt, q_m1e, q_em1, z1, z2, q1, Bool.false_eq_true, hn, hn2, ht, hF, am_wt, am_wf, Option.isSome_some, am_rf_s, am_rf_n, ps_lit, nI_add, nI_1, pk_mul, ps_cl, ps_neg, ps_c0, ps_c1, ps_n01, ps_n11, ps_10, ps_b01, ps_e0, pu_Ine, pu_Ieq, pu_ne, pu_eq, am_k_n, am_k_i, am_k_r, am_k_u, am_k_l, am_sz_0, am_sz_i, am_sz_r, am_sz_u, am_sz_l, Option.toList_some, Option.toList_none, List.cons_append, List.nil_append, true_and, and_true, or_false, false_or, or_self, or_true, true_or, not_false_eq_true, not_true_eq_false, Classical.not_not, ne_eq, ps_e1, ps_em, ps_z, Nat.not_le, false_implies, true_implies, forall_const, ps_01, ps_1n, ps_0n, ps_m10, ps_m1n, lg_cmp_gt, lg_cmp_ge, lg_cmp_le, lg_cmp_lt, lg_cmp_eq, pu_rne, pu_req, pu_uro, RFc_n, Nat.reduceAdd, Nat.reduceMul, Nat.reduceLT, Nat.reduceLeDiff, Nat.reduceEqDiff, Nat.reduceSub]
    · intro l5
      have hb := gr_b (M := M) (tp c 200) 0 0 (tp_le 200) (by omega)
      have ha := hall 200 (Nat.le_refl _)
      have e0 : bl c (200 - 200) = List.replicate (c 0) 0 := rfl
      rw [e0, gr_zero] at ha
      rw [ha, ← hend _ _ (some (.int 0)) l5 hb, r115_9]
      simp only [↓r115_11, q_le, q_lt, q_eq, q_e0, q_e1, q_0e, q_1e, ps_n0, q_0le, q_le0, q_0lt, q_m1e, q_em1, ps_n0, Nat.sub_self, Int32.le_refl, Bool.false_eq_true, hn, hn2, ht, hF, am_wt, am_wf, Option.isSome_some, am_rf_s, am_rf_n, ps_lit, nI_add, nI_1, pk_mul, ps_cl, ps_neg, ps_c0, ps_c1, ps_n01, ps_n11, ps_10, ps_b01, ps_e0, pu_Ine, pu_Ieq, pu_ne, pu_eq, am_k_n, am_k_i, am_k_r, am_k_u, am_k_l, am_sz_0, am_sz_i, am_sz_r, am_sz_u, am_sz_l, Option.toList_some, Option.toList_none, List.cons_append, List.nil_append, true_and, and_true, or_false, false_or, or_self, or_true, true_or, not_false_eq_true, not_true_eq_false, Classical.not_not, ne_eq, ps_e1, ps_em, ps_z, Nat.not_le, false_implies, true_implies, forall_const, ps_01, ps_1n, ps_0n, ps_m10, ps_m1n, lg_cmp_gt, lg_cmp_ge, lg_cmp_le, lg_cmp_lt, lg_cmp_eq, pu_rne, pu_req, pu_uro, RFc_n, Nat.reduceAdd, Nat.reduceMul, Nat.reduceLT, Nat.reduceLeDiff, Nat.reduceEqDiff, Nat.reduceSub]
  rw [← hout none]
  have e0 : nI M - nI (gr M 0 0 (tp c 0)).1 = nI M := by
    show nI M - nI 0 = nI M
    rw [ps_n0, Int32.sub_zero]
  rw [e0]
  simp only [↓r115_0, ↓r115_1, ↓r115_2, ↓r115_3, ↓r115_4, ↓r115_7, am_k_i, ps_lit, Nat.reduceAdd, Nat.reduceMul, Nat.reduceLT, Nat.reduceLeDiff, Nat.reduceEqDiff, Nat.reduceSub]
  exact Iff.rfl
end FW
