/-! calls, one on each side: run, the class -/
section RU
variable {X : am_X} {d : Nat} {Q : Option Value → am_H → Prop} {n sl : Nat} {t : Nat → Nat × Nat} {I : Nat → Nat → Int32} {J : Nat → Nat → Int64} {F : Nat → Nat → Option Nat} {h : am_H}
variable {K : Nat → Int32} {N T : Nat} {lw : Nat → List CL}
/-- how long one waits: the minute, the next draw's seed -/
def wout (ch : Nat → Nat) : Nat → Nat → Nat → Nat × Nat
  | 0, m, q => (m, q)
  | f + 1, m, q => if nx q % 100 < ch m then (m, nx q) else wout ch f (m + 1) (nx q)
theorem wout_q {ch : Nat → Nat} : ∀ f m q, q < 1000003 → (wout ch f m q).2 < 1000003 := by
  intro f
  induction f with
  | zero => intro m q h; exact h
  | succ f ih =>
    intro m q _
    rw [wout]
    split
    · exact nx_lt q
    · exact ih _ _ (nx_lt q)
theorem wout_le {ch : Nat → Nat} : ∀ f m q, m ≤ (wout ch f m q).1 ∧ (wout ch f m q).1 ≤ m + f := by
  intro f
  induction f with
  | zero => intro m q; exact ⟨Nat.le_refl _, Nat.le_refl _⟩
  | succ f ih =>
    intro m q
    rw [wout]
    split
    · exact ⟨Nat.le_refl _, Nat.le_add_right _ _⟩
    · have := ih (m + 1) (nx q)
      omega
theorem c_ask42 {c : Nat} (hW : WS n t F) (hc : c < 120) : am_W X (d + 1) 68 0 [some (.ref 12), some (.ref 42), some (.int (nI c)), none] [] (n, sl, t, I, J, F) Q ↔ Q none (n, sl, t, am_ro I 13 (upd (va_cpy (I 42) (I 13) (15 * c) 0 10) 10 0), J, F) := by
  obtain ⟨hn, hn2, ht, hF⟩ := id hW
  have e0 : (0 : Int32) ≤ nI c := nI_le (a := 0) (Nat.zero_le c) (by omega)
  have e1 : nI c ≤ nI 119 := nI_le (by omega) (by decide)
  have e2 : ¬ nI 1800 < nI (15 * c + 15) := nI_nlt (by omega) (by decide)
  have e3 : c * 15 = 15 * c := by omega
  have z1 : 15 * c < 2000000 := by omega
  have z2 : 15 * c + 10 ≤ 1800 := by omega
  have e4 : ¬ nI (15 * c) < 0 := nI_pos (by omega)
  simp only [↓r68_0, ↓r68_1, ↓r68_3, ↓r68_4, ↓r68_5, ↓r68_6, ↓r68_7, ↓r68_9, ↓r68_12, ↓r68_15, ↓r68_16, ↓r68_18, ↓r68_19, ↓r68_19n, ↓r68_20, ↓r68_20k, ↓r68_21, ↓r68_24, ↓r68_24n, ↓r68_25, ↓r68_26, ↓r68_27, ↓r68_30, ↓r68_31, ↓r68_33, ↓r68_36, ↓r68_37, ↓r68_40, ↓r68_42, ↓r68_43, ↓r68_44, ↓c_within, e0, e1, e2, e3, e4, z1, z2, and_self, if_true, pu_uI, pu_ror, pu_req, Bool.false_eq_true, hn, hn2, ht, hF, am_wt, am_wf, Option.isSome_some, am_rf_s, am_rf_n, ps_lit, nI_add, nI_1, pk_mul, ps_cl, ps_neg, ps_c0, ps_c1, ps_n01, ps_n11, ps_10, ps_b01, ps_e0, pu_Ine, pu_Ieq, pu_ne, pu_eq, am_k_n, am_k_i, am_k_r, am_k_u, am_k_l, am_sz_0, am_sz_i, am_sz_r, am_sz_u, am_sz_l, Option.toList_some, Option.toList_none, List.cons_append, List.nil_append, true_and, and_true, or_false, false_or, or_self, or_true, true_or, not_false_eq_true, not_true_eq_false, Classical.not_not, ne_eq, ps_e1, ps_em, ps_z, Nat.not_le, false_implies, true_implies, forall_const, ps_01, ps_1n, ps_0n, ps_m10, ps_m1n, lg_cmp_gt, lg_cmp_ge, lg_cmp_le, lg_cmp_lt, lg_cmp_eq, pu_rne, pu_req, pu_uro, RFc_n, Nat.reduceAdd, Nat.reduceMul, Nat.reduceLT, Nat.reduceLeDiff, Nat.reduceEqDiff, Nat.reduceSub]
theorem c_laterBy (hC : CX n t I F K N T lw) {j a : Nat} (hj : j < T) (ha : F 5 j = some a) {w : Nat → Int32} (hw : WV w) (hmi : w 9 = 0) {I' : Nat → Nat → Int32} (hS : ∀ s, 73 ≤ s → I' s = I s) (h13 : ∀ k, k < 11 → k ≠ 9 → I' 13 (pw k) = w k) (hQ : ∀ f, Q (some (.int (nI (laV (lw j) w)))) (n, sl, t, am_ro (am_ro I' 13 (upd (I' 13) 10 0)) 14 f, J, F)) : am_W X (d + 5) 152 0 [some (.ref 12), some (.ref a), none] [] (n, sl, t, I', J, F) Q := by
  obtain ⟨a', ea, a1, a2, ta, hb⟩ := CX_law hC hj
  rw [ha] at ea
  cases ea
  have hW := hC.1
  obtain ⟨_, _, _, _, hl⟩ := id hC
  obtain ⟨a', s, c, ls, lc, ea, ⟨l1, l2, l3, l4, l5, l6⟩, l7, l8, _, l9, _⟩ := hl j hj
  rw [ha] at ea
  cases ea
  obtain ⟨hn, hn2, ht, hF⟩ := id hW
  simp only [↓r152_0, ↓r152_1, ↓r152_4, ↓r152_6, ↓r152_7, ↓r152_8, ↓r152_8n, ↓r152_9, ↓r152_10, ↓r152_11, a2, ta, pu_uI, Bool.false_eq_true, hn, hn2, ht, hF, am_wt, am_wf, Option.isSome_some, am_rf_s, am_rf_n, ps_lit, nI_add, nI_1, pk_mul, ps_cl, ps_neg, ps_c0, ps_c1, ps_n01, ps_n11, ps_10, ps_b01, ps_e0, pu_Ine, pu_Ieq, pu_ne, pu_eq, am_k_n, am_k_i, am_k_r, am_k_u, am_k_l, am_sz_0, am_sz_i, am_sz_r, am_sz_u, am_sz_l, Option.toList_some, Option.toList_none, List.cons_append, List.nil_append, true_and, and_true, or_false, false_or, or_self, or_true, true_or, not_false_eq_true, not_true_eq_false, Classical.not_not, ne_eq, ps_e1, ps_em, ps_z, Nat.not_le, false_implies, true_implies, forall_const, ps_01, ps_1n, ps_0n, ps_m10, ps_m1n, lg_cmp_gt, lg_cmp_ge, lg_cmp_le, lg_cmp_lt, lg_cmp_eq, pu_rne, pu_req, pu_uro, RFc_n, Nat.reduceAdd, Nat.reduceMul, Nat.reduceLT, Nat.reduceLeDiff, Nat.reduceEqDiff, Nat.reduceSub]
  refine l9.2.1 X d _ n sl t (am_ro I' 13 (upd (I' 13) 10 0)) J F a s c 2 w hW ⟨l3, l5⟩ ⟨l2, l4, l6⟩ l7 l8 ((pu_rne (show s ≠ 13 by omega)).trans (hS s l3)) ((pu_rne (show c ≠ 13 by omega)).trans (hS c l5)) (by decide) hw (fun k hk => ?_) (fun f => ?_)
  · rw [pu_req]
    by_cases k9 : k = 9
    · subst k9
      show upd (I' 13) 10 0 10 = w 9
      rw [pu_eq, hmi]
    · rw [pu_ne, h13 k hk k9]
      unfold pw
      split <;> omega
  · have q := hQ f
    unfold laV at q
    cases ho : told (lw j) (2 + 1) w with
    | none =>
      rw [show told (lw j) 3 w = none from ho] at q
      simp only [↓r152_14, ↓r152_15, ↓r152_16, ↓r152_18, ↓r152_21, ↓r152_22, ↓r152_25, ↓r152_26, ↓r152_27, ↓r152_30, ↓r152_33, tva, Bool.false_eq_true, hn, hn2, ht, hF, am_wt, am_wf, Option.isSome_some, am_rf_s, am_rf_n, ps_lit, nI_add, nI_1, pk_mul, ps_cl, ps_neg, ps_c0, ps_c1, ps_n01, ps_n11, ps_10, ps_b01, ps_e0, pu_Ine, pu_Ieq, pu_ne, pu_eq, am_k_n, am_k_i, am_k_r, am_k_u, am_k_l, am_sz_0, am_sz_i, am_sz_r, am_sz_u, am_sz_l, Option.toList_some, Option.toList_none, List.cons_append, List.nil_append, true_and, and_true, or_false, false_or, or_self, or_true, true_or, not_false_eq_true, not_true_eq_false, Classical.not_not, ne_eq, ps_e1, ps_em, ps_z, Nat.not_le, false_implies, true_implies, forall_const, ps_01, ps_1n, ps_0n, ps_m10, ps_m1n, lg_cmp_gt, lg_cmp_ge, lg_cmp_le, lg_cmp_lt, lg_cmp_eq, pu_rne, pu_req, pu_uro, RFc_n, Nat.reduceAdd, Nat.reduceMul, Nat.reduceLT, Nat.reduceLeDiff, Nat.reduceEqDiff, Nat.reduceSub]
      exact q
    | some v =>
      rw [show told (lw j) 3 w = some v from ho] at q
      obtain ⟨b1, b2⟩ := hb 3 w v hw ho
      have e1 := oI_un b1 b2
      have e2 := near_c (lo := 0) (hi := 999) b1 b2 (by omega) (by omega)
      rw [ps_n0] at e2
      simp only [↓r152_14, ↓r152_15, ↓r152_16, ↓r152_18, ↓r152_21, ↓r152_22, ↓r152_25, ↓r152_26, ↓r152_27, ↓r152_30, ↓r152_33, ↓c_nearest, tva, e1, if_false, Bool.false_eq_true, hn, hn2, ht, hF, am_wt, am_wf, Option.isSome_some, am_rf_s, am_rf_n, ps_lit, nI_add, nI_1, pk_mul, ps_cl, ps_neg, ps_c0, ps_c1, ps_n01, ps_n11, ps_10, ps_b01, ps_e0, pu_Ine, pu_Ieq, pu_ne, pu_eq, am_k_n, am_k_i, am_k_r, am_k_u, am_k_l, am_sz_0, am_sz_i, am_sz_r, am_sz_u, am_sz_l, Option.toList_some, Option.toList_none, List.cons_append, List.nil_append, true_and, and_true, or_false, false_or, or_self, or_true, true_or, not_false_eq_true, not_true_eq_false, Classical.not_not, ne_eq, ps_e1, ps_em, ps_z, Nat.not_le, false_implies, true_implies, forall_const, ps_01, ps_1n, ps_0n, ps_m10, ps_m1n, lg_cmp_gt, lg_cmp_ge, lg_cmp_le, lg_cmp_lt, lg_cmp_eq, pu_rne, pu_req, pu_uro, RFc_n, Nat.reduceAdd, Nat.reduceMul, Nat.reduceLT, Nat.reduceLeDiff, Nat.reduceEqDiff, Nat.reduceSub]
      have q' : Q (some (.int (nI (nearN v 0 999)))) (n, sl, t, am_ro (am_ro I' 13 (upd (I' 13) 10 0)) 14 f, J, F) := q
      rw [← e2] at q'
      exact q'
/-- as c_chanceBy, over cells that may have changed outside the laws -/
theorem c_chanceByg (hC : CX n t I F K N T lw) {j a mi : Nat} (hj : j < T) (ha : F 5 j = some a) {w : Nat → Int32} (hw : WV w) (hmi : w 9 = nI mi) {I' : Nat → Nat → Int32} (hS : ∀ s, 73 ≤ s → I' s = I s) (h13 : ∀ k, k < 11 → k ≠ 9 → I' 13 (pw k) = w k) (hQ : ∀ f, Q (some (.int (nI (chV (lw j) w)))) (n, sl, t, am_ro (am_ro I' 13 (upd (I' 13) 10 (nI mi))) 14 f, J, F)) : am_W X (d + 5) 96 0 [some (.ref 12), some (.ref a), some (.int (nI mi)), none] [] (n, sl, t, I', J, F) Q := by
  obtain ⟨a', ea, a1, a2, ta, hb⟩ := CX_law hC hj
  rw [ha] at ea
  cases ea
  have hW := hC.1
  obtain ⟨_, _, _, _, hl⟩ := id hC
  obtain ⟨a', s, c, ls, lc, ea, ⟨l1, l2, l3, l4, l5, l6⟩, l7, l8, _, l9, _⟩ := hl j hj
  rw [ha] at ea
  cases ea
  obtain ⟨hn, hn2, ht, hF⟩ := id hW
  simp only [↓r96_0, ↓r96_1, ↓r96_4, ↓r96_6, ↓r96_7, ↓r96_8, ↓r96_8n, ↓r96_9, ↓r96_10, ↓r96_11, a2, ta, pu_uI, Bool.false_eq_true, hn, hn2, ht, hF, am_wt, am_wf, Option.isSome_some, am_rf_s, am_rf_n, ps_lit, nI_add, nI_1, pk_mul, ps_cl, ps_neg, ps_c0, ps_c1, ps_n01, ps_n11, ps_10, ps_b01, ps_e0, pu_Ine, pu_Ieq, pu_ne, pu_eq, am_k_n, am_k_i, am_k_r, am_k_u, am_k_l, am_sz_0, am_sz_i, am_sz_r, am_sz_u, am_sz_l, Option.toList_some, Option.toList_none, List.cons_append, List.nil_append, true_and, and_true, or_false, false_or, or_self, or_true, true_or, not_false_eq_true, not_true_eq_false, Classical.not_not, ne_eq, ps_e1, ps_em, ps_z, Nat.not_le, false_implies, true_implies, forall_const, ps_01, ps_1n, ps_0n, ps_m10, ps_m1n, lg_cmp_gt, lg_cmp_ge, lg_cmp_le, lg_cmp_lt, lg_cmp_eq, pu_rne, pu_req, pu_uro, RFc_n, Nat.reduceAdd, Nat.reduceMul, Nat.reduceLT, Nat.reduceLeDiff, Nat.reduceEqDiff, Nat.reduceSub]
  refine l9.2.1 X d _ n sl t (am_ro I' 13 (upd (I' 13) 10 (nI mi))) J F a s c 0 w hW ⟨l3, l5⟩ ⟨l2, l4, l6⟩ l7 l8 ((pu_rne (show s ≠ 13 by omega)).trans (hS s l3)) ((pu_rne (show c ≠ 13 by omega)).trans (hS c l5)) (by decide) hw (fun k hk => ?_) (fun f => ?_)
  · rw [pu_req]
    by_cases k9 : k = 9
    · subst k9
      show upd (I' 13) 10 (nI mi) 10 = w 9
      rw [pu_eq, hmi]
    · rw [pu_ne, h13 k hk k9]
      unfold pw
      split <;> omega
  · have q := hQ f
    unfold chV at q
    cases ho : told (lw j) (0 + 1) w with
    | none =>
      rw [show told (lw j) 1 w = none from ho] at q
      simp only [↓r96_14, ↓r96_15, ↓r96_16, ↓r96_18, ↓r96_21, ↓r96_23, ↓r96_26, ↓r96_27, ↓r96_28, ↓r96_30, ↓r96_33, tva, Bool.false_eq_true, hn, hn2, ht, hF, am_wt, am_wf, Option.isSome_some, am_rf_s, am_rf_n, ps_lit, nI_add, nI_1, pk_mul, ps_cl, ps_neg, ps_c0, ps_c1, ps_n01, ps_n11, ps_10, ps_b01, ps_e0, pu_Ine, pu_Ieq, pu_ne, pu_eq, am_k_n, am_k_i, am_k_r, am_k_u, am_k_l, am_sz_0, am_sz_i, am_sz_r, am_sz_u, am_sz_l, Option.toList_some, Option.toList_none, List.cons_append, List.nil_append, true_and, and_true, or_false, false_or, or_self, or_true, true_or, not_false_eq_true, not_true_eq_false, Classical.not_not, ne_eq, ps_e1, ps_em, ps_z, Nat.not_le, false_implies, true_implies, forall_const, ps_01, ps_1n, ps_0n, ps_m10, ps_m1n, lg_cmp_gt, lg_cmp_ge, lg_cmp_le, lg_cmp_lt, lg_cmp_eq, pu_rne, pu_req, pu_uro, RFc_n, Nat.reduceAdd, Nat.reduceMul, Nat.reduceLT, Nat.reduceLeDiff, Nat.reduceEqDiff, Nat.reduceSub]
      exact q
    | some v =>
      rw [show told (lw j) 1 w = some v from ho] at q
      obtain ⟨b1, b2⟩ := hb 1 w v hw ho
      have e1 := oI_un b1 b2
      have e2 := near_c (lo := 1) (hi := 99) b1 b2 (by decide) (by decide)
      rw [ps_n1] at e2
      simp only [↓r96_14, ↓r96_15, ↓r96_16, ↓r96_18, ↓r96_21, ↓r96_23, ↓r96_26, ↓r96_27, ↓r96_28, ↓r96_30, ↓r96_33, ↓c_nearest, tva, e1, if_false, Bool.false_eq_true, hn, hn2, ht, hF, am_wt, am_wf, Option.isSome_some, am_rf_s, am_rf_n, ps_lit, nI_add, nI_1, pk_mul, ps_cl, ps_neg, ps_c0, ps_c1, ps_n01, ps_n11, ps_10, ps_b01, ps_e0, pu_Ine, pu_Ieq, pu_ne, pu_eq, am_k_n, am_k_i, am_k_r, am_k_u, am_k_l, am_sz_0, am_sz_i, am_sz_r, am_sz_u, am_sz_l, Option.toList_some, Option.toList_none, List.cons_append, List.nil_append, true_and, and_true, or_false, false_or, or_self, or_true, true_or, not_false_eq_true, not_true_eq_false, Classical.not_not, ne_eq, ps_e1, ps_em, ps_z, Nat.not_le, false_implies, true_implies, forall_const, ps_01, ps_1n, ps_0n, ps_m10, ps_m1n, lg_cmp_gt, lg_cmp_ge, lg_cmp_le, lg_cmp_lt, lg_cmp_eq, pu_rne, pu_req, pu_uro, RFc_n, Nat.reduceAdd, Nat.reduceMul, Nat.reduceLT, Nat.reduceLeDiff, Nat.reduceEqDiff, Nat.reduceSub]
      have q' : Q (some (.int (nI (nearN v 1 99)))) (n, sl, t, am_ro (am_ro I' 13 (upd (I' 13) 10 (nI mi))) 14 f, J, F) := q
      rw [← e2] at q'
      exact q'
theorem c_waitOut {j a c E : Nat} {I' : Nat → Nat → Int32} (hC : CX n t I F K N T lw) (hj : j < T) (ha : F 5 j = some a) (hc : c < N) (hE : E ≤ 20) (hS : ∀ s, 73 ≤ s → I' s = I s) (h13 : ∀ k, k < 11 → k ≠ 9 → I' 13 (pw k) = wd K c 0 k)
    : ∀ f m q, m + f = E → q < 1000003 → ∀ f13 f14, (∀ k, k ≠ 10 → f13 k = I' 13 k) → (∀ f13 f14, (∀ k, k ≠ 10 → f13 k = I' 13 k) → Q (some (.int (nI (wout (fun m => chV (lw j) (wd K c (nI m))) f m q).1))) (n, sl, t, am_ro (am_ro (am_ro I' 13 f13) 14 f14) 44 (upd (I' 44) 0 (nI (wout (fun m => chV (lw j) (wd K c (nI m))) f m q).2)), J, F)) → am_W X (d + 6) 151 3 [some (.ref a), some (.int (nI E)), some (.ref 12), some (.ref 44), some (.int (nI m))] [] (n, sl, t, am_ro (am_ro (am_ro I' 13 f13) 14 f14) 44 (upd (I' 44) 0 (nI q)), J, F) Q := by
  have hW := hC.1
  obtain ⟨hn, hn2, ht, hF⟩ := id hW
  obtain ⟨_, ea, a1, a2, ta, hb⟩ := CX_law hC hj
  rw [ha] at ea
  cases ea
  intro f
  induction f with
  | zero =>
    intro m q hm hq f13 f14 hf hQ
    obtain rfl : m = E := by omega
    rw [r151_3]
    simp only [↓r151_5, ↓r151_6, ↓r151_31, ↓r151_33, Int32.le_refl, Bool.false_eq_true, hn, hn2, ht, hF, am_wt, am_wf, Option.isSome_some, am_rf_s, am_rf_n, ps_lit, nI_add, nI_1, pk_mul, ps_cl, ps_neg, ps_c0, ps_c1, ps_n01, ps_n11, ps_10, ps_b01, ps_e0, pu_Ine, pu_Ieq, pu_ne, pu_eq, am_k_n, am_k_i, am_k_r, am_k_u, am_k_l, am_sz_0, am_sz_i, am_sz_r, am_sz_u, am_sz_l, Option.toList_some, Option.toList_none, List.cons_append, List.nil_append, true_and, and_true, or_false, false_or, or_self, or_true, true_or, not_false_eq_true, not_true_eq_false, Classical.not_not, ne_eq, ps_e1, ps_em, ps_z, Nat.not_le, false_implies, true_implies, forall_const, ps_01, ps_1n, ps_0n, ps_m10, ps_m1n, lg_cmp_gt, lg_cmp_ge, lg_cmp_le, lg_cmp_lt, lg_cmp_eq, pu_rne, pu_req, pu_uro, RFc_n, Nat.reduceAdd, Nat.reduceMul, Nat.reduceLT, Nat.reduceLeDiff, Nat.reduceEqDiff, Nat.reduceSub]
    exact hQ f13 f14 hf
  | succ f ih =>
    intro m q hm hq f13 f14 hf hQ
    have z1 : m < 2000000 ∧ E < 2000000 := by omega
    have z2 : ¬ E ≤ m := by omega
    have e1 := fun Q => c_draw (X := X) (d := d + 5) (Q := Q) (sl := sl) (J := J) (I := am_ro (am_ro (am_ro I' 13 f13) 14 f14) 44 (upd (I' 44) 0 (nI q))) (m := 100) hW hq (by omega) (by omega) (by rw [pu_req, pu_eq])
    have hk : nx q % 100 < 100 := Nat.mod_lt _ (by decide)
    have hch := chV_le (l := lw j) (w := wd K c (nI m))
    have z3 : nx q % 100 < 2000000 ∧ chV (lw j) (wd K c (nI m)) < 2000000 := by omega
    rw [r151_3]
    simp only [↓r151_5, ↓r151_6, ↓r151_9, ↓r151_9n, ↓r151_10, ↓r151_12, ↓r151_15, ↓r151_15n, ↓r151_16, ↓r151_16n, ↓r151_17, ↓r151_19, ↓e1, q_le, q_lt, q_eq, q_e0, q_e1, q_0e, q_1e, ps_n0, q_0le, q_le0, q_0lt, q_m1e, q_em1, z1, z2, a2, ta, pu_uI, pu_ror, pu_uu, Bool.false_eq_true, hn, hn2, ht, hF, am_wt, am_wf, Option.isSome_some, am_rf_s, am_rf_n, ps_lit, nI_add, nI_1, pk_mul, ps_cl, ps_neg, ps_c0, ps_c1, ps_n01, ps_n11, ps_10, ps_b01, ps_e0, pu_Ine, pu_Ieq, pu_ne, pu_eq, am_k_n, am_k_i, am_k_r, am_k_u, am_k_l, am_sz_0, am_sz_i, am_sz_r, am_sz_u, am_sz_l, Option.toList_some, Option.toList_none, List.cons_append, List.nil_append, true_and, and_true, or_false, false_or, or_self, or_true, true_or, not_false_eq_true, not_true_eq_false, Classical.not_not, ne_eq, ps_e1, ps_em, ps_z, Nat.not_le, false_implies, true_implies, forall_const, ps_01, ps_1n, ps_0n, ps_m10, ps_m1n, lg_cmp_gt, lg_cmp_ge, lg_cmp_le, lg_cmp_lt, lg_cmp_eq, pu_rne, pu_req, pu_uro, RFc_n, Nat.reduceAdd, Nat.reduceMul, Nat.reduceLT, Nat.reduceLeDiff, Nat.reduceEqDiff, Nat.reduceSub]
    refine c_chanceByg hC hj ha (w := wd K c (nI m)) (wd_WV hC.2.1 hc (by omega)) rfl (fun s hs => by rw [pu_rne (by omega), pu_rne (by omega), pu_rne (by omega)]; exact hS s hs) (fun k hk2 hk9 => ?_) (fun g => ?_)
    · rw [pu_rne (by decide), pu_rne (by decide), pu_req]
      have p10 : pw k ≠ 10 := by unfold pw; split <;> omega
      rw [hf _ p10, h13 k hk2 hk9]
      unfold wd
      split
      · rfl
      · rfl
    · rw [wout] at hQ
      by_cases cc : nx q % 100 < chV (lw j) (wd K c (nI m))
      · rw [if_pos cc] at hQ
        have q1 := hQ (upd f13 10 (nI m)) g (fun k hk => by rw [pu_ne hk]; exact hf k hk)
        simp only [↓r151_22, ↓r151_25, ↓r151_28, ↓r151_31, ↓r151_33, q_le, q_lt, q_eq, q_e0, q_e1, q_0e, q_1e, ps_n0, q_0le, q_le0, q_0lt, q_m1e, q_em1, z3, cc, pu_rol, pu_ror, Bool.false_eq_true, hn, hn2, ht, hF, am_wt, am_wf, Option.isSome_some, am_rf_s, am_rf_n, ps_lit, nI_add, nI_1, pk_mul, ps_cl, ps_neg, ps_c0, ps_c1, ps_n01, ps_n11, ps_10, ps_b01, ps_e0, pu_Ine, pu_Ieq, pu_ne, pu_eq, am_k_n, am_k_i, am_k_r, am_k_u, am_k_l, am_sz_0, am_sz_i, am_sz_r, am_sz_u, am_sz_l, Option.toList_some, Option.toList_none, List.cons_append, List.nil_append, true_and, and_true, or_false, false_or, or_self, or_true, true_or, not_false_eq_true, not_true_eq_false, Classical.not_not, ne_eq, ps_e1, ps_em, ps_z, Nat.not_le, false_implies, true_implies, forall_const, ps_01, ps_1n, ps_0n, ps_m10, ps_m1n, lg_cmp_gt, lg_cmp_ge, lg_cmp_le, lg_cmp_lt, lg_cmp_eq, pu_rne, pu_req, pu_uro, RFc_n, Nat.reduceAdd, Nat.reduceMul, Nat.reduceLT, Nat.reduceLeDiff, Nat.reduceEqDiff, Nat.reduceSub]
        exact q1
      · rw [if_neg cc] at hQ
        have q1 := ih (m + 1) (nx q) (by omega) (nx_lt q) (upd f13 10 (nI m)) g (fun k hk => by rw [pu_ne hk]; exact hf k hk) hQ
        simp only [↓r151_22, ↓r151_25, ↓r151_28, q_le, q_lt, q_eq, q_e0, q_e1, q_0e, q_1e, ps_n0, q_0le, q_le0, q_0lt, q_m1e, q_em1, z3, cc, pu_rol, pu_ror, Bool.false_eq_true, hn, hn2, ht, hF, am_wt, am_wf, Option.isSome_some, am_rf_s, am_rf_n, ps_lit, nI_add, nI_1, pk_mul, ps_cl, ps_neg, ps_c0, ps_c1, ps_n01, ps_n11, ps_10, ps_b01, ps_e0, pu_Ine, pu_Ieq, pu_ne, pu_eq, am_k_n, am_k_i, am_k_r, am_k_u, am_k_l, am_sz_0, am_sz_i, am_sz_r, am_sz_u, am_sz_l, Option.toList_some, Option.toList_none, List.cons_append, List.nil_append, true_and, and_true, or_false, false_or, or_self, or_true, true_or, not_false_eq_true, not_true_eq_false, Classical.not_not, ne_eq, ps_e1, ps_em, ps_z, Nat.not_le, false_implies, true_implies, forall_const, ps_01, ps_1n, ps_0n, ps_m10, ps_m1n, lg_cmp_gt, lg_cmp_ge, lg_cmp_le, lg_cmp_lt, lg_cmp_eq, pu_rne, pu_req, pu_uro, RFc_n, Nat.reduceAdd, Nat.reduceMul, Nat.reduceLT, Nat.reduceLeDiff, Nat.reduceEqDiff, Nat.reduceSub]
        exact q1
end RU
