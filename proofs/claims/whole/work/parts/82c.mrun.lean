/-! calls, one on each side: run, the reference -/
section RM
variable {X : am_X} {d : Nat} {Q : Option Value → am_H → Prop} {n sl : Nat} {t : Nat → Nat × Nat} {I : Nat → Nat → Int32} {J : Nat → Nat → Int64} {F : Nat → Nat → Option Nat} {h : am_H}
variable {K : Nat → Int32} {N T : Nat} {lw : Nat → List CL}
def fl1 (f a : Nat → Int32) (c : Nat) : Nat → Int32 := fun k => if k < c then a k else f k
theorem fl1_s {f a : Nat → Int32} {c : Nat} : upd (fl1 f a c) c (a c) = fl1 f a (c + 1) := by
  funext k
  unfold upd fl1
  by_cases h : k = c
  · rw [if_pos h, if_pos (show k < c + 1 by omega), h]
  · rw [if_neg h]
    by_cases h2 : k < c
    · rw [if_pos h2, if_pos (show k < c + 1 by omega)]
    · rw [if_neg h2, if_neg (show ¬ k < c + 1 by omega)]
def wfr (f K : Nat → Int32) (m : Nat) : Nat → Int32 := fun i => if i < m then K (15 * (i / 8) + i % 8) else f i
theorem wfr_s {f : Nat → Int32} {c j : Nat} (hj : j < 8) : upd (wfr f K (8 * c + j)) (8 * c + j) (K (15 * c + j)) = wfr f K (8 * c + (j + 1)) := by
  funext k
  unfold upd wfr
  by_cases h : k = 8 * c + j
  · rw [if_pos h, if_pos (show k < 8 * c + (j + 1) by omega), show k / 8 = c by omega, show k % 8 = j by omega]
  · rw [if_neg h]
    by_cases h2 : k < 8 * c + j
    · rw [if_pos h2, if_pos (show k < 8 * c + (j + 1) by omega)]
    · rw [if_neg h2, if_neg (show ¬ k < 8 * c + (j + 1) by omega)]
theorem CX_g {I' : Nat → Nat → Int32} (h : CX n t I F K N T lw) (h1 : I' 1 = I 1) (h2 : I' 2 = I 2) (h3 : I' 3 = I 3) (h4 : I' 4 = I 4) (h5 : I' 49 = I 49) (h6 : ∀ s, 73 ≤ s → I' s = I s) : CX n t I' F K N T lw := by
  obtain ⟨hW, hK, h49, hx, hl⟩ := h
  refine ⟨hW, hK, by rw [h5]; exact h49, by rw [h1, h2, h3, h4]; exact hx, fun j hj => ?_⟩
  obtain ⟨a, s, c, ls, lc, ea, l1, l2, l3, l4, l5, l6⟩ := hl j hj
  exact ⟨a, s, c, ls, lc, ea, l1, l2, l3, l4, by rw [h6 s l1.2.2.1, h6 c l1.2.2.2.2.1]; exact l5, l6⟩
/-- what the reference leaves as it is -/
def ag7 (f g : Nat → Int32) : Prop := ∀ k, k ≠ 17 → k ≠ 18 → k ≠ 19 → k ≠ 22 → k ≠ 35 → f k = g k
theorem m_waitOut {j c E : Nat} {x2 x3 : Int32} {B : Nat → Int32} {r69 r70 r71 r72 : Nat → Int32} (hC : CX n t I F K N T lw) (hj : j < T) (hc : c < N) (hE : E ≤ 20) (h39 : B 39 = nI E)
    : ∀ f m q, m + f = E → q < 1000003 → ∀ f47 f58 g47, ag7 f47 B → f47 35 = nI q → ∀ l7 : Option Value, (∀ f47 f58 g47, ag7 f47 B → f47 35 = nI (wout (chm K (lw j) c) f m q).2 → am_W X (d + 48) 287 130 [some (.ref 47), some (.int (nI j)), some (.int x2), some (.int x3), some (.int (nI c)), some (.int (nI (wout (chm K (lw j) c) f m q).1)), some (.int (if (wout (chm K (lw j) c) f m q).1 < E then 1 else 0)), l7] [] (n, sl, t, am_ro (am_ro (am_ro (am_ro (am_ro (am_ro I 47 f47) 58 f58) 69 r69) 70 r70) 71 r71) 72 r72, am_ro J 47 g47, F) Q) → am_W X (d + 48) 287 73 [some (.ref 47), some (.int (nI j)), some (.int x2), some (.int x3), some (.int (nI c)), some (.int (nI m)), some (.int 0), l7] [] (n, sl, t, am_ro (am_ro (am_ro (am_ro (am_ro (am_ro I 47 f47) 58 f58) 69 r69) 70 r70) 71 r71) 72 r72, am_ro J 47 g47, F) Q := by
  have hW := hC.1
  obtain ⟨hn, hn2, ht, hF⟩ := id hW
  have h49 := hC.2.2.1
  intro f
  induction f with
  | zero =>
    intro m q hm hq f47 f58 g47 hf hfq l7 hQ
    obtain rfl : m = E := by omega
    have e39 : f47 39 = nI m := (hf 39 (by decide) (by decide) (by decide) (by decide) (by decide)).trans h39
    have := hQ f47 f58 g47 hf hfq
    rw [show wout (chm K (lw j) c) 0 m q = (m, q) from rfl] at this
    dsimp only at this
    rw [if_neg (Nat.lt_irrefl m)] at this
    rw [r287_73]
    simp only [↓r287_75, ↓r287_76, ↓r287_79, e39, Int32.le_refl, Bool.false_eq_true, hn, hn2, ht, hF, am_wt, am_wf, Option.isSome_some, am_rf_s, am_rf_n, ps_lit, nI_add, nI_1, pk_mul, ps_cl, ps_neg, ps_c0, ps_c1, ps_n01, ps_n11, ps_10, ps_b01, ps_e0, pu_Ine, pu_Ieq, pu_ne, pu_eq, am_k_n, am_k_i, am_k_r, am_k_u, am_k_l, am_sz_0, am_sz_i, am_sz_r, am_sz_u, am_sz_l, Option.toList_some, Option.toList_none, List.cons_append, List.nil_append, true_and, and_true, or_false, false_or, or_self, or_true, true_or, not_false_eq_true, not_true_eq_false, Classical.not_not, ne_eq, ps_e1, ps_em, ps_z, Nat.not_le, false_implies, true_implies, forall_const, ps_01, ps_1n, ps_0n, ps_m10, ps_m1n, lg_cmp_gt, lg_cmp_ge, lg_cmp_le, lg_cmp_lt, lg_cmp_eq, pu_rne, pu_req, pu_uro, RFc_n, Nat.reduceAdd, Nat.reduceMul, Nat.reduceLT, Nat.reduceLeDiff, Nat.reduceEqDiff, Nat.reduceSub]
    exact this
  | succ f ih =>
    intro m q hm hq f47 f58 g47 hf hfq l7 hQ
    have e39 : f47 39 = nI E := (hf 39 (by decide) (by decide) (by decide) (by decide) (by decide)).trans h39
    have z1 : m < 2000000 ∧ E < 2000000 := by omega
    have z2 : ¬ E ≤ m := by omega
    have e1 := fun Q => m_draws (X := X) (d := d + 47) (Q := Q) (sl := sl) (J := am_ro J 47 g47) (I := am_ro (am_ro (am_ro (am_ro (am_ro (am_ro I 47 f47) 58 f58) 69 r69) 70 r70) 71 r71) 72 r72) (m := 100) hW hq (by omega) (by omega) (by simp only [pu_rne, pu_req, ne_eq, not_false_eq_true, Nat.reduceAdd, Nat.reduceMul, Nat.reduceLT, Nat.reduceLeDiff, Nat.reduceEqDiff, Nat.reduceSub]; exact hfq)
    have hk : nx q % 100 < 100 := Nat.mod_lt _ (by decide)
    have hch := chV_le (l := lw j) (w := wd K c (nI m))
    have z3 : nx q % 100 < 2000000 ∧ chV (lw j) (wd K c (nI m)) < 2000000 := by omega
    rw [r287_73]
    simp only [↓r287_75, ↓r287_76, ↓r287_79, ↓r287_82, ↓r287_84, ↓r287_87, ↓r287_88, ↓r287_90, ↓r287_93, ↓r287_94, ↓r287_95, ↓r287_97, ↓r287_99, ↓e1, q_le, q_lt, q_eq, q_e0, q_e1, q_0e, q_1e, ps_n0, q_0le, q_le0, q_0lt, q_m1e, q_em1, e39, z1, z2, pu_uI, pu_rol, pu_ror, Bool.false_eq_true, hn, hn2, ht, hF, am_wt, am_wf, Option.isSome_some, am_rf_s, am_rf_n, ps_lit, nI_add, nI_1, pk_mul, ps_cl, ps_neg, ps_c0, ps_c1, ps_n01, ps_n11, ps_10, ps_b01, ps_e0, pu_Ine, pu_Ieq, pu_ne, pu_eq, am_k_n, am_k_i, am_k_r, am_k_u, am_k_l, am_sz_0, am_sz_i, am_sz_r, am_sz_u, am_sz_l, Option.toList_some, Option.toList_none, List.cons_append, List.nil_append, true_and, and_true, or_false, false_or, or_self, or_true, true_or, not_false_eq_true, not_true_eq_false, Classical.not_not, ne_eq, ps_e1, ps_em, ps_z, Nat.not_le, false_implies, true_implies, forall_const, ps_01, ps_1n, ps_0n, ps_m10, ps_m1n, lg_cmp_gt, lg_cmp_ge, lg_cmp_le, lg_cmp_lt, lg_cmp_eq, pu_rne, pu_req, pu_uro, RFc_n, Nat.reduceAdd, Nat.reduceMul, Nat.reduceLT, Nat.reduceLeDiff, Nat.reduceEqDiff, Nat.reduceSub]
    refine m_chanceOf (d := d + 2) hC hj hc (by omega) (by simp only [pu_rne, ne_eq, not_false_eq_true, Nat.reduceAdd, Nat.reduceMul, Nat.reduceLT, Nat.reduceLeDiff, Nat.reduceEqDiff, Nat.reduceSub]; exact h49) (fun a b g q1 => ?_)
    have q2 : ag7 a B := fun k k1 k2 k3 k4 k5 => by
      rw [q1 k k1 k2 k3 k4]
      simp only [pu_rne, pu_req, ne_eq, not_false_eq_true, Nat.reduceAdd, Nat.reduceMul, Nat.reduceLT, Nat.reduceLeDiff, Nat.reduceEqDiff, Nat.reduceSub]
      rw [pu_ne k5]
      exact hf k k1 k2 k3 k4 k5
    have q3 : a 35 = nI (nx q) := by
      rw [q1 35 (by decide) (by decide) (by decide) (by decide)]
      simp only [pu_rne, pu_req, ne_eq, not_false_eq_true, Nat.reduceAdd, Nat.reduceMul, Nat.reduceLT, Nat.reduceLeDiff, Nat.reduceEqDiff, Nat.reduceSub]
      exact pu_eq
    rw [wout] at hQ
    by_cases cc : nx q % 100 < chV (lw j) (wd K c (nI m))
    · rw [if_pos (show nx q % 100 < chm K (lw j) c m from cc)] at hQ
      have c2 : ¬ chV (lw j) (wd K c (nI m)) ≤ nx q % 100 := by omega
      have h5 := hQ a b g q2 q3
      dsimp only at h5
      rw [if_pos (show m < E by omega)] at h5
      have e39' : a 39 = nI E := (q2 39 (by decide) (by decide) (by decide) (by decide) (by decide)).trans h39
      simp only [↓r287_102, ↓r287_105, ↓r287_106, ↓r287_109, ↓r287_110, ↓r287_112, ↓r287_114, ↓r287_116, ↓r287_119, ↓r287_120, ↓r287_123, ↓r287_124, ↓r287_125, ↓r287_127, q_le, q_lt, q_eq, q_e0, q_e1, q_0e, q_1e, ps_n0, q_0le, q_le0, q_0lt, q_m1e, q_em1, z3, c2, pu_rol, pu_ror, Int32.add_zero, Bool.false_eq_true, hn, hn2, ht, hF, am_wt, am_wf, Option.isSome_some, am_rf_s, am_rf_n, ps_lit, nI_add, nI_1, pk_mul, ps_cl, ps_neg, ps_c0, ps_c1, ps_n01, ps_n11, ps_10, ps_b01, ps_e0, pu_Ine, pu_Ieq, pu_ne, pu_eq, am_k_n, am_k_i, am_k_r, am_k_u, am_k_l, am_sz_0, am_sz_i, am_sz_r, am_sz_u, am_sz_l, Option.toList_some, Option.toList_none, List.cons_append, List.nil_append, true_and, and_true, or_false, false_or, or_self, or_true, true_or, not_false_eq_true, not_true_eq_false, Classical.not_not, ne_eq, ps_e1, ps_em, ps_z, Nat.not_le, false_implies, true_implies, forall_const, ps_01, ps_1n, ps_0n, ps_m10, ps_m1n, lg_cmp_gt, lg_cmp_ge, lg_cmp_le, lg_cmp_lt, lg_cmp_eq, pu_rne, pu_req, pu_uro, RFc_n, Nat.reduceAdd, Nat.reduceMul, Nat.reduceLT, Nat.reduceLeDiff, Nat.reduceEqDiff, Nat.reduceSub]
      rw [r287_73]
      simp only [↓r287_75, ↓r287_76, ↓r287_79, ↓r287_82, ↓r287_84, q_le, q_lt, q_eq, q_e0, q_e1, q_0e, q_1e, ps_n0, q_0le, q_le0, q_0lt, q_m1e, q_em1, e39', z1, z2, Bool.false_eq_true, hn, hn2, ht, hF, am_wt, am_wf, Option.isSome_some, am_rf_s, am_rf_n, ps_lit, nI_add, nI_1, pk_mul, ps_cl, ps_neg, ps_c0, ps_c1, ps_n01, ps_n11, ps_10, ps_b01, ps_e0, pu_Ine, pu_Ieq, pu_ne, pu_eq, am_k_n, am_k_i, am_k_r, am_k_u, am_k_l, am_sz_0, am_sz_i, am_sz_r, am_sz_u, am_sz_l, Option.toList_some, Option.toList_none, List.cons_append, List.nil_append, true_and, and_true, or_false, false_or, or_self, or_true, true_or, not_false_eq_true, not_true_eq_false, Classical.not_not, ne_eq, ps_e1, ps_em, ps_z, Nat.not_le, false_implies, true_implies, forall_const, ps_01, ps_1n, ps_0n, ps_m10, ps_m1n, lg_cmp_gt, lg_cmp_ge, lg_cmp_le, lg_cmp_lt, lg_cmp_eq, pu_rne, pu_req, pu_uro, RFc_n, Nat.reduceAdd, Nat.reduceMul, Nat.reduceLT, Nat.reduceLeDiff, Nat.reduceEqDiff, Nat.reduceSub]
      exact h5
    · rw [if_neg (show ¬ nx q % 100 < chm K (lw j) c m from cc)] at hQ
      have c2 : chV (lw j) (wd K c (nI m)) ≤ nx q % 100 := by omega
      have h5 := ih (m + 1) (nx q) (by omega) (nx_lt q) a b g q2 q3 l7 hQ
      simp only [↓r287_102, ↓r287_105, ↓r287_106, ↓r287_109, ↓r287_110, ↓r287_112, ↓r287_114, ↓r287_116, ↓r287_119, ↓r287_120, ↓r287_123, ↓r287_124, ↓r287_125, ↓r287_127, q_le, q_lt, q_eq, q_e0, q_e1, q_0e, q_1e, ps_n0, q_0le, q_le0, q_0lt, q_m1e, q_em1, z3, c2, pu_rol, pu_ror, Bool.false_eq_true, hn, hn2, ht, hF, am_wt, am_wf, Option.isSome_some, am_rf_s, am_rf_n, ps_lit, nI_add, nI_1, pk_mul, ps_cl, ps_neg, ps_c0, ps_c1, ps_n01, ps_n11, ps_10, ps_b01, ps_e0, pu_Ine, pu_Ieq, pu_ne, pu_eq, am_k_n, am_k_i, am_k_r, am_k_u, am_k_l, am_sz_0, am_sz_i, am_sz_r, am_sz_u, am_sz_l, Option.toList_some, Option.toList_none, List.cons_append, List.nil_append, true_and, and_true, or_false, false_or, or_self, or_true, true_or, not_false_eq_true, not_true_eq_false, Classical.not_not, ne_eq, ps_e1, ps_em, ps_z, Nat.not_le, false_implies, true_implies, forall_const, ps_01, ps_1n, ps_0n, ps_m10, ps_m1n, lg_cmp_gt, lg_cmp_ge, lg_cmp_le, lg_cmp_lt, lg_cmp_eq, pu_rne, pu_req, pu_uro, RFc_n, Nat.reduceAdd, Nat.reduceMul, Nat.reduceLT, Nat.reduceLeDiff, Nat.reduceEqDiff, Nat.reduceSub]
      exact h5
theorem m_facts {j c : Nat} {x2 x3 x5 x6 : Int32} {I' : Nat → Nat → Int32} {f : Nat → Int32} (hCK : CK n t F (I' 1 4) (I' 2) (I' 3) (I' 49) K N) (hc : c < N) : am_W X (d + 1) 287 172 [some (.ref 47), some (.int (nI j)), some (.int x2), some (.int x3), some (.int (nI c)), some (.int x5), some (.int x6), some (.int 0)] [] (n, sl, t, am_ro I' 72 (wfr f K (8 * c + 0)), J, F) Q ↔ am_W X (d + 1) 287 206 [some (.ref 47), some (.int (nI j)), some (.int x2), some (.int x3), some (.int (nI c)), some (.int x5), some (.int x6), some (.int (nI 8))] [] (n, sl, t, am_ro I' 72 (wfr f K (8 * c + 8)), J, F) Q := by
  have hW : WS n t F := hCK.1
  obtain ⟨hn, hn2, ht, hF⟩ := id hW
  have hN := CK_N hCK
  refine lp0 (A := fun k => am_W X (d + 1) 287 172 [some (.ref 47), some (.int (nI j)), some (.int x2), some (.int x3), some (.int (nI c)), some (.int x5), some (.int x6), some (.int (nI k))] [] (n, sl, t, am_ro I' 72 (wfr f K (8 * c + k)), J, F) Q ↔ am_W X (d + 1) 287 206 [some (.ref 47), some (.int (nI j)), some (.int x2), some (.int x3), some (.int (nI c)), some (.int x5), some (.int x6), some (.int (nI 8))] [] (n, sl, t, am_ro I' 72 (wfr f K (8 * c + 8)), J, F) Q) (N := 8) ?_ ?_
  · intro k hk ih
    have z1 : k < 2000000 ∧ k < 15 ∧ 8 * c + k < 2000000 ∧ 8 * c + k < 960 := by omega
    have z2 : ¬ 8 ≤ k := by omega
    rw [← wfr_s hk] at ih
    rw [r287_172]
    simp only [↓r287_174, ↓r287_176, ↓r287_179, ↓r287_180, ↓r287_183, ↓r287_185, ↓r287_187, ↓r287_188, ↓r287_190, ↓r287_191, ↓r287_192, ↓r287_194, ↓r287_196, ↓r287_199, ↓r287_200, ↓r287_203, ↓k_at (K := K) (N := N), ↓k_isTried (K := K) (N := N), ↓k_side (K := K) (N := N), ↓k_thing (K := K) (N := N), ↓k_isFound (K := K) (N := N), ↓m_factOf (K := K) (N := N), ↓m_isTried (K := K) (N := N), ↓m_took (K := K) (N := N), ↓m_waited (K := K) (N := N), ↓m_isLong (K := K) (N := N), ↓m_isShort (K := K) (N := N), ↓m_thingOf (K := K) (N := N), ↓m_isFound (K := K) (N := N), ↓m_many (K := K) (N := N), ↓c_within, ↓s_lies, hCK, b01, b11, q_le, q_lt, q_eq, q_e0, q_e1, q_0e, q_1e, ps_n0, q_0le, q_le0, q_0lt, q_m1e, q_em1, hc, z1, z2, pu_uI, pu_ror, Bool.false_eq_true, hn, hn2, ht, hF, am_wt, am_wf, Option.isSome_some, am_rf_s, am_rf_n, ps_lit, nI_add, nI_1, pk_mul, ps_cl, ps_neg, ps_c0, ps_c1, ps_n01, ps_n11, ps_10, ps_b01, ps_e0, pu_Ine, pu_Ieq, pu_ne, pu_eq, am_k_n, am_k_i, am_k_r, am_k_u, am_k_l, am_sz_0, am_sz_i, am_sz_r, am_sz_u, am_sz_l, Option.toList_some, Option.toList_none, List.cons_append, List.nil_append, true_and, and_true, or_false, false_or, or_self, or_true, true_or, not_false_eq_true, not_true_eq_false, Classical.not_not, ne_eq, ps_e1, ps_em, ps_z, Nat.not_le, false_implies, true_implies, forall_const, ps_01, ps_1n, ps_0n, ps_m10, ps_m1n, lg_cmp_gt, lg_cmp_ge, lg_cmp_le, lg_cmp_lt, lg_cmp_eq, pu_rne, pu_req, pu_uro, RFc_n, Nat.reduceAdd, Nat.reduceMul, Nat.reduceLT, Nat.reduceLeDiff, Nat.reduceEqDiff, Nat.reduceSub]
    exact ih
  · rw [r287_172]
    simp only [↓r287_174, ↓r287_176, Int32.le_refl, Bool.false_eq_true, hn, hn2, ht, hF, am_wt, am_wf, Option.isSome_some, am_rf_s, am_rf_n, ps_lit, nI_add, nI_1, pk_mul, ps_cl, ps_neg, ps_c0, ps_c1, ps_n01, ps_n11, ps_10, ps_b01, ps_e0, pu_Ine, pu_Ieq, pu_ne, pu_eq, am_k_n, am_k_i, am_k_r, am_k_u, am_k_l, am_sz_0, am_sz_i, am_sz_r, am_sz_u, am_sz_l, Option.toList_some, Option.toList_none, List.cons_append, List.nil_append, true_and, and_true, or_false, false_or, or_self, or_true, true_or, not_false_eq_true, not_true_eq_false, Classical.not_not, ne_eq, ps_e1, ps_em, ps_z, Nat.not_le, false_implies, true_implies, forall_const, ps_01, ps_1n, ps_0n, ps_m10, ps_m1n, lg_cmp_gt, lg_cmp_ge, lg_cmp_le, lg_cmp_lt, lg_cmp_eq, pu_rne, pu_req, pu_uro, RFc_n, Nat.reduceAdd, Nat.reduceMul, Nat.reduceLT, Nat.reduceLeDiff, Nat.reduceEqDiff, Nat.reduceSub]
end RM
