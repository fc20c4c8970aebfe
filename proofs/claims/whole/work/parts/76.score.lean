/-! each WAY is scored -/
section SW
variable {X : am_X} {d : Nat} {Q : Option Value → am_H → Prop} {n sl : Nat} {t : Nat → Nat × Nat} {I : Nat → Nat → Int32} {J : Nat → Nat → Int64} {F : Nat → Nat → Option Nat} {h : am_H}
variable {K : Nat → Int32} {N T : Nat} {lw : Nat → List CL} {LL SS : List Nat} {th : Nat → Int32}
def smI (f : Nat → Int32) : Nat → Int32
  | 0 => 0
  | j + 1 => smI f j + f j
theorem smI_c {f g : Nat → Int32} : ∀ j, (∀ i, i < j → f i = g i) → smI f j = smI g j := by
  intro j
  induction j with
  | zero => intro _; rfl
  | succ j ih =>
    intro h
    rw [smI, smI, ih (fun i hi => h i (by omega)), h j (by omega)]
theorem smI_0 {f : Nat → Int32} : ∀ j, (∀ i, i < j → f i = 0) → smI f j = 0 := by
  intro j
  induction j with
  | zero => intro _; rfl
  | succ j ih =>
    intro h
    rw [smI, ih (fun i hi => h i (by omega)), h j (by omega)]
    rfl
theorem smI_flt (p : Nat → Bool) (l : List Nat) (f : Nat → Int32) : ∀ k, smI (fun i => f ((flt p l k).getD i 0)) (flt p l k).length = smI (fun i => if p (l.getD i 0) = true then f (l.getD i 0) else 0) k := by
  intro k
  induction k with
  | zero => rfl
  | succ k ih =>
    rw [smI, ← ih]
    by_cases hp : p (l.getD k 0) = true
    · have e : flt p l (k + 1) = flt p l k ++ [l.getD k 0] := by rw [flt, if_pos hp]
      rw [e, List.length_append, List.length_singleton, smI, if_pos hp]
      have e1 : (flt p l k ++ [l.getD k 0]).getD (flt p l k).length 0 = l.getD k 0 := by
        rw [List.getD_eq_getElem?_getD, List.getElem?_append_right (Nat.le_refl _), Nat.sub_self]
        rfl
      rw [e1, smI_c (g := fun i => f ((flt p l k).getD i 0))]
      intro i hi
      simp only [List.getD_eq_getElem?_getD, List.getElem?_append_left hi]
    · have e : flt p l (k + 1) = flt p l k := by rw [flt, if_neg hp, List.append_nil]
      rw [e, if_neg hp, Int32.add_zero]
/-- what a pair tells of a way -/
def ctw (wy : Nat → Nat) (th : Nat → Int32) (w a b : Nat) : Int32 := if wy a = w ∧ wy b = w then cmv (th a) (th b) else 0
def u1 (wy : Nat → Nat) (th : Nat → Int32) (w a : Nat) (SS : List Nat) (k : Nat) : Int32 := smI (fun k => ctw wy th w a (SS.getD k 0)) k
def u2 (wy : Nat → Nat) (th : Nat → Int32) (w : Nat) (LL SS : List Nat) (i : Nat) : Int32 := smI (fun i => u1 wy th w (LL.getD i 0) SS SS.length) i
/-- the greatest of the first, the earliest of these -/
def bst (sc : Nat → Int32) : Nat → Nat
  | 0 => 0
  | k + 1 => if sc (bst sc k) < sc (k + 1) then k + 1 else bst sc k
theorem bst_le (sc : Nat → Int32) : ∀ k, bst sc k ≤ k := by
  intro k
  induction k with
  | zero => exact Nat.le_refl 0
  | succ k ih =>
    rw [bst]
    split <;> omega
theorem bst_c {f g : Nat → Int32} : ∀ k, (∀ i, i ≤ k → f i = g i) → bst f k = bst g k := by
  intro k
  induction k with
  | zero => intro _; rfl
  | succ k ih =>
    intro h
    have e := ih (fun i hi => h i (by omega))
    have hl := bst_le g k
    rw [bst, bst, e, h _ (show bst g k ≤ k + 1 by omega), h (k + 1) (Nat.le_refl _)]
def rw39 (f : Nat → Int32) (s : Nat → Int32) : Nat → Int32 := fun w => if w < 24 then s w else f w
theorem rw39_u {f s s' : Nat → Int32} {v : Nat} {x : Int32} (hv : v < 24) (h1 : s' v = x) (h2 : ∀ w, w ≠ v → s' w = s w) : upd (rw39 f s) v x = rw39 f s' := by
  funext w
  unfold upd rw39
  by_cases e : w = v
  · rw [if_pos e, e, if_pos hv, h1]
  · rw [if_neg e, h2 w e]
theorem SDH_39 {r : Nat} {f : Nat → Int32} (h : SDH I F r LL SS th) : SDH (am_ro I 39 f) F r LL SS th := by
  unfold SDH at h ⊢
  rw [pu_rne (by decide), pu_rne (by decide), pu_rne (by decide), pu_rne (by decide), pu_rne (by decide)]
  exact h
theorem cl_score {r : Nat} {wy : Nat → Nat} (hW : WS n t F) (hD : SDH I F r LL SS th) (h1 : ∀ i, i < LL.length → I 36 (LL.getD i 0) = nI (wy (LL.getD i 0)) ∧ wy (LL.getD i 0) < 24) (h2 : ∀ i, i < SS.length → I 36 (SS.getD i 0) = nI (wy (SS.getD i 0)) ∧ wy (SS.getD i 0) < 24) : am_W X (d + 2) 137 0 [some (.ref 28), none, none, none] [] (n, sl, t, I, J, F) Q ↔ Q (some (.int (nI (bst (fun w => u2 wy th w LL SS LL.length) 23)))) (n, sl, t, am_ro I 39 (rw39 (I 39) (fun w => u2 wy th w LL SS LL.length)), J, F) := by
  obtain ⟨hn, hn2, ht, hF⟩ := id hW
  obtain ⟨f8, hr2, ⟨a1, a2, a3⟩, ⟨b1, b2, b3⟩, t1, t2⟩ := id hD
  have hin : ∀ (R : Prop) (i : Nat), i < LL.length → (∀ l3 : Option Value, am_W X (d + 2) 137 88 [some (.ref 28), some (.int (nI i)), some (.int (nI (wy (LL.getD i 0)))), l3] [] (n, sl, t, am_ro I 39 (rw39 (I 39) (fun w => u2 wy th w LL SS i + u1 wy th w (LL.getD i 0) SS SS.length)), J, F) Q ↔ R) → (am_W X (d + 2) 137 38 [some (.ref 28), some (.int (nI i)), some (.int (nI (wy (LL.getD i 0)))), some (.int 0)] [] (n, sl, t, am_ro I 39 (rw39 (I 39) (fun w => u2 wy th w LL SS i + u1 wy th w (LL.getD i 0) SS 0)), J, F) Q ↔ R) := by
    intro R i hi hR
    obtain ⟨c1, c2⟩ := a3 i hi
    obtain ⟨y1, y2⟩ := h1 i hi
    refine lp0 (A := fun k => am_W X (d + 2) 137 38 [some (.ref 28), some (.int (nI i)), some (.int (nI (wy (LL.getD i 0)))), some (.int (nI k))] [] (n, sl, t, am_ro I 39 (rw39 (I 39) (fun w => u2 wy th w LL SS i + u1 wy th w (LL.getD i 0) SS k)), J, F) Q ↔ R) (N := SS.length) ?_ ?_
    · intro k hk ih
      obtain ⟨c3, c4⟩ := b3 k hk
      obtain ⟨y3, y4⟩ := h2 k hk
      have z1 : k < 2000000 ∧ SS.length < 2000000 ∧ k < 120 ∧ i < 2000000 ∧ i < 120 ∧ SS.getD k 0 < 2000000 ∧ wy (LL.getD i 0) < 2000000 ∧ wy (SS.getD k 0) < 2000000 := by omega
      have z2 : ¬ SS.length ≤ k := by omega
      have es : ∀ w, u1 wy th w (LL.getD i 0) SS (k + 1) = u1 wy th w (LL.getD i 0) SS k + ctw wy th w (LL.getD i 0) (SS.getD k 0) := fun w => rfl
      have e2 := fun f Q => c_scmp (X := X) (d := d) (Q := Q) (sl := sl) (J := J) (I := am_ro I 39 f) hW (SDH_39 (f := f) hD) hi hk
      rw [r137_38]
      by_cases q : wy (SS.getD k 0) = wy (LL.getD i 0)
      · have e3 : rw39 (I 39) (fun w => u2 wy th w LL SS i + u1 wy th w (LL.getD i 0) SS k) (wy (LL.getD i 0)) = u2 wy th (wy (LL.getD i 0)) LL SS i + u1 wy th (wy (LL.getD i 0)) (LL.getD i 0) SS k := if_pos y2
        have e4 := rw39_u (f := I 39) (s := fun w => u2 wy th w LL SS i + u1 wy th w (LL.getD i 0) SS k) (s' := fun w => u2 wy th w LL SS i + u1 wy th w (LL.getD i 0) SS (k + 1)) (v := wy (LL.getD i 0)) (x := u2 wy th (wy (LL.getD i 0)) LL SS i + u1 wy th (wy (LL.getD i 0)) (LL.getD i 0) SS k + cmv (th (LL.getD i 0)) (th (SS.getD k 0))) y2 (by
          show u2 wy th (wy (LL.getD i 0)) LL SS i + u1 wy th (wy (LL.getD i 0)) (LL.getD i 0) SS (k + 1) = _
          rw [es, Int32.add_assoc]
          unfold ctw
          rw [if_pos ⟨rfl, q⟩]) (fun w hw => by
          show u2 wy th w LL SS i + u1 wy th w (LL.getD i 0) SS (k + 1) = u2 wy th w LL SS i + u1 wy th w (LL.getD i 0) SS k
          rw [es]
          unfold ctw
          rw [if_neg (fun z => hw z.1.symm), Int32.add_zero])
        rw [← e4] at ih
        simp only [↓r137_39, ↓r137_40, ↓r137_43, ↓r137_46, ↓r137_49, ↓r137_50, ↓r137_53, ↓r137_54, ↓r137_57, ↓r137_60, ↓r137_61, ↓r137_61k, ↓r137_62, ↓r137_62k, ↓r137_63, ↓r137_64, ↓r137_67, ↓r137_68, ↓r137_71, ↓r137_72, ↓r137_73, ↓r137_73k, ↓r137_74, ↓r137_75, ↓r137_76, ↓r137_77, ↓r137_80, ↓r137_81, ↓r137_82, ↓r137_85, ↓e2, q_le, q_lt, q_eq, q_e0, q_e1, q_0e, q_1e, ps_n0, q_0le, q_le0, q_0lt, q_m1e, q_em1, b1, c3, c4, y3, y2, z1, z2, (show (wy (SS.getD k 0) = wy (LL.getD i 0)) = True from eq_true q), e3, pu_uI, pu_ror, Bool.false_eq_true, hn, hn2, ht, hF, am_wt, am_wf, Option.isSome_some, am_rf_s, am_rf_n, ps_lit, nI_add, nI_1, pk_mul, ps_cl, ps_neg, ps_c0, ps_c1, ps_n01, ps_n11, ps_10, ps_b01, ps_e0, pu_Ine, pu_Ieq, pu_ne, pu_eq, am_k_n, am_k_i, am_k_r, am_k_u, am_k_l, am_sz_0, am_sz_i, am_sz_r, am_sz_u, am_sz_l, Option.toList_some, Option.toList_none, List.cons_append, List.nil_append, true_and, and_true, or_false, false_or, or_self, or_true, true_or, not_false_eq_true, not_true_eq_false, Classical.not_not, ne_eq, ps_e1, ps_em, ps_z, Nat.not_le, false_implies, true_implies, forall_const, ps_01, ps_1n, ps_0n, ps_m10, ps_m1n, lg_cmp_gt, lg_cmp_ge, lg_cmp_le, lg_cmp_lt, lg_cmp_eq, pu_rne, pu_req, pu_uro, RFc_n, Nat.reduceAdd, Nat.reduceMul, Nat.reduceLT, Nat.reduceLeDiff, Nat.reduceEqDiff, Nat.reduceSub]
        exact ih
      · have e5 : (fun w => u2 wy th w LL SS i + u1 wy th w (LL.getD i 0) SS (k + 1)) = fun w => u2 wy th w LL SS i + u1 wy th w (LL.getD i 0) SS k := by
          funext w
          rw [es]
          unfold ctw
          rw [if_neg (fun z => q (z.2.trans z.1.symm)), Int32.add_zero]
        rw [e5] at ih
        simp only [↓r137_39, ↓r137_40, ↓r137_43, ↓r137_46, ↓r137_49, ↓r137_50, ↓r137_53, ↓r137_54, ↓r137_57, ↓r137_60, ↓r137_61, ↓r137_61k, ↓r137_62, ↓r137_62k, ↓r137_63, ↓r137_64, ↓r137_67, ↓r137_68, ↓r137_71, ↓r137_72, ↓r137_73, ↓r137_73k, ↓r137_74, ↓r137_75, ↓r137_76, ↓r137_77, ↓r137_80, ↓r137_81, ↓r137_82, ↓r137_85, q_le, q_lt, q_eq, q_e0, q_e1, q_0e, q_1e, ps_n0, q_0le, q_le0, q_0lt, q_m1e, q_em1, b1, c3, c4, y3, y2, z1, z2, q, Bool.false_eq_true, hn, hn2, ht, hF, am_wt, am_wf, Option.isSome_some, am_rf_s, am_rf_n, ps_lit, nI_add, nI_1, pk_mul, ps_cl, ps_neg, ps_c0, ps_c1, ps_n01, ps_n11, ps_10, ps_b01, ps_e0, pu_Ine, pu_Ieq, pu_ne, pu_eq, am_k_n, am_k_i, am_k_r, am_k_u, am_k_l, am_sz_0, am_sz_i, am_sz_r, am_sz_u, am_sz_l, Option.toList_some, Option.toList_none, List.cons_append, List.nil_append, true_and, and_true, or_false, false_or, or_self, or_true, true_or, not_false_eq_true, not_true_eq_false, Classical.not_not, ne_eq, ps_e1, ps_em, ps_z, Nat.not_le, false_implies, true_implies, forall_const, ps_01, ps_1n, ps_0n, ps_m10, ps_m1n, lg_cmp_gt, lg_cmp_ge, lg_cmp_le, lg_cmp_lt, lg_cmp_eq, pu_rne, pu_req, pu_uro, RFc_n, Nat.reduceAdd, Nat.reduceMul, Nat.reduceLT, Nat.reduceLeDiff, Nat.reduceEqDiff, Nat.reduceSub]
        exact ih
    · rw [r137_38]
      simp only [↓r137_39, ↓r137_40, ↓r137_43, ↓r137_46, b1, Int32.le_refl, Bool.false_eq_true, hn, hn2, ht, hF, am_wt, am_wf, Option.isSome_some, am_rf_s, am_rf_n, ps_lit, nI_add, nI_1, pk_mul, ps_cl, ps_neg, ps_c0, ps_c1, ps_n01, ps_n11, ps_10, ps_b01, ps_e0, pu_Ine, pu_Ieq, pu_ne, pu_eq, am_k_n, am_k_i, am_k_r, am_k_u, am_k_l, am_sz_0, am_sz_i, am_sz_r, am_sz_u, am_sz_l, Option.toList_some, Option.toList_none, List.cons_append, List.nil_append, true_and, and_true, or_false, false_or, or_self, or_true, true_or, not_false_eq_true, not_true_eq_false, Classical.not_not, ne_eq, ps_e1, ps_em, ps_z, Nat.not_le, false_implies, true_implies, forall_const, ps_01, ps_1n, ps_0n, ps_m10, ps_m1n, lg_cmp_gt, lg_cmp_ge, lg_cmp_le, lg_cmp_lt, lg_cmp_eq, pu_rne, pu_req, pu_uro, RFc_n, Nat.reduceAdd, Nat.reduceMul, Nat.reduceLT, Nat.reduceLeDiff, Nat.reduceEqDiff, Nat.reduceSub]
      exact hR _
  have hout : ∀ (R : Prop), (∀ l1 l2 l3 : Option Value, am_W X (d + 2) 137 94 [some (.ref 28), l1, l2, l3] [] (n, sl, t, am_ro I 39 (rw39 (I 39) (fun w => u2 wy th w LL SS LL.length)), J, F) Q ↔ R) → ∀ l2 l3 : Option Value, am_W X (d + 2) 137 10 [some (.ref 28), some (.int 0), l2, l3] [] (n, sl, t, am_ro I 39 (rw39 (I 39) (fun w => u2 wy th w LL SS 0)), J, F) Q ↔ R := by
    intro R hR
    refine lp0 (A := fun i => ∀ l2 l3 : Option Value, am_W X (d + 2) 137 10 [some (.ref 28), some (.int (nI i)), l2, l3] [] (n, sl, t, am_ro I 39 (rw39 (I 39) (fun w => u2 wy th w LL SS i)), J, F) Q ↔ R) (N := LL.length) ?_ ?_
    · intro i hi ih l2 l3
      obtain ⟨c1, c2⟩ := a3 i hi
      obtain ⟨y1, y2⟩ := h1 i hi
      have z1 : i < 2000000 ∧ LL.length < 2000000 ∧ i < 120 ∧ LL.getD i 0 < 2000000 := by omega
      have z2 : ¬ LL.length ≤ i := by omega
      have e0 : (fun w => u2 wy th w LL SS i + u1 wy th w (LL.getD i 0) SS 0) = fun w => u2 wy th w LL SS i := by
        funext w
        exact Int32.add_zero _
      have := hin R i hi (fun l3 => by
        simp only [↓r137_88, ↓r137_91, Bool.false_eq_true, hn, hn2, ht, hF, am_wt, am_wf, Option.isSome_some, am_rf_s, am_rf_n, ps_lit, nI_add, nI_1, pk_mul, ps_cl, ps_neg, ps_c0, ps_c1, ps_n01, ps_n11, ps_10, ps_b01, ps_e0, pu_Ine, pu_Ieq, pu_ne, pu_eq, am_k_n, am_k_i, am_k_r, am_k_u, am_k_l, am_sz_0, am_sz_i, am_sz_r, am_sz_u, am_sz_l, Option.toList_some, Option.toList_none, List.cons_append, List.nil_append, true_and, and_true, or_false, false_or, or_self, or_true, true_or, not_false_eq_true, not_true_eq_false, Classical.not_not, ne_eq, ps_e1, ps_em, ps_z, Nat.not_le, false_implies, true_implies, forall_const, ps_01, ps_1n, ps_0n, ps_m10, ps_m1n, lg_cmp_gt, lg_cmp_ge, lg_cmp_le, lg_cmp_lt, lg_cmp_eq, pu_rne, pu_req, pu_uro, RFc_n, Nat.reduceAdd, Nat.reduceMul, Nat.reduceLT, Nat.reduceLeDiff, Nat.reduceEqDiff, Nat.reduceSub]
        exact ih _ _)
      rw [e0] at this
      rw [r137_10]
      simp only [↓r137_11, ↓r137_12, ↓r137_15, ↓r137_18, ↓r137_21, ↓r137_22, ↓r137_25, ↓r137_26, ↓r137_29, ↓r137_32, ↓r137_33, ↓r137_33k, ↓r137_34, ↓r137_34k, ↓r137_35, ↓r137_36, ↓r137_37, q_le, q_lt, q_eq, q_e0, q_e1, q_0e, q_1e, ps_n0, q_0le, q_le0, q_0lt, q_m1e, q_em1, a1, c1, c2, y1, z1, z2, Bool.false_eq_true, hn, hn2, ht, hF, am_wt, am_wf, Option.isSome_some, am_rf_s, am_rf_n, ps_lit, nI_add, nI_1, pk_mul, ps_cl, ps_neg, ps_c0, ps_c1, ps_n01, ps_n11, ps_10, ps_b01, ps_e0, pu_Ine, pu_Ieq, pu_ne, pu_eq, am_k_n, am_k_i, am_k_r, am_k_u, am_k_l, am_sz_0, am_sz_i, am_sz_r, am_sz_u, am_sz_l, Option.toList_some, Option.toList_none, List.cons_append, List.nil_append, true_and, and_true, or_false, false_or, or_self, or_true, true_or, not_false_eq_true, not_true_eq_false, Classical.not_not, ne_eq, ps_e1, ps_em, ps_z, Nat.not_le, false_implies, true_implies, forall_const, ps_01, ps_1n, ps_0n, ps_m10, ps_m1n, lg_cmp_gt, lg_cmp_ge, lg_cmp_le, lg_cmp_lt, lg_cmp_eq, pu_rne, pu_req, pu_uro, RFc_n, Nat.reduceAdd, Nat.reduceMul, Nat.reduceLT, Nat.reduceLeDiff, Nat.reduceEqDiff, Nat.reduceSub]
      exact this
    · intro l2 l3
      rw [r137_10]
      simp only [↓r137_11, ↓r137_12, ↓r137_15, ↓r137_18, a1, Int32.le_refl, Bool.false_eq_true, hn, hn2, ht, hF, am_wt, am_wf, Option.isSome_some, am_rf_s, am_rf_n, ps_lit, nI_add, nI_1, pk_mul, ps_cl, ps_neg, ps_c0, ps_c1, ps_n01, ps_n11, ps_10, ps_b01, ps_e0, pu_Ine, pu_Ieq, pu_ne, pu_eq, am_k_n, am_k_i, am_k_r, am_k_u, am_k_l, am_sz_0, am_sz_i, am_sz_r, am_sz_u, am_sz_l, Option.toList_some, Option.toList_none, List.cons_append, List.nil_append, true_and, and_true, or_false, false_or, or_self, or_true, true_or, not_false_eq_true, not_true_eq_false, Classical.not_not, ne_eq, ps_e1, ps_em, ps_z, Nat.not_le, false_implies, true_implies, forall_const, ps_01, ps_1n, ps_0n, ps_m10, ps_m1n, lg_cmp_gt, lg_cmp_ge, lg_cmp_le, lg_cmp_lt, lg_cmp_eq, pu_rne, pu_req, pu_uro, RFc_n, Nat.reduceAdd, Nat.reduceMul, Nat.reduceLT, Nat.reduceLeDiff, Nat.reduceEqDiff, Nat.reduceSub]
      exact hR _ _ _
  have hbest : ∀ (s : Nat → Int32), ∀ l3 : Option Value, am_W X (d + 2) 137 98 [some (.ref 28), some (.int 0), some (.int 1), l3] [] (n, sl, t, am_ro I 39 (rw39 (I 39) s), J, F) Q ↔ Q (some (.int (nI (bst s 23)))) (n, sl, t, am_ro I 39 (rw39 (I 39) s), J, F) := by
    intro s
    refine lp0 (A := fun k => ∀ l3 : Option Value, am_W X (d + 2) 137 98 [some (.ref 28), some (.int (nI (bst s k))), some (.int (nI (k + 1))), l3] [] (n, sl, t, am_ro I 39 (rw39 (I 39) s), J, F) Q ↔ Q (some (.int (nI (bst s 23)))) (n, sl, t, am_ro I 39 (rw39 (I 39) s), J, F)) (N := 23) ?_ ?_
    · intro k hk ih l3
      have hb := bst_le s k
      have z1 : k + 1 < 2000000 ∧ k + 1 < 24 ∧ k < 23 ∧ bst s k < 2000000 ∧ bst s k < 24 := by omega
      have z2 : ¬ 24 ≤ k + 1 := by omega
      have e1 : rw39 (I 39) s (k + 1) = s (k + 1) := if_pos (by omega)
      have e2 : rw39 (I 39) s (bst s k) = s (bst s k) := if_pos (by omega)
      rw [bst] at ih
      rw [r137_98]
      by_cases q : s (bst s k) < s (k + 1)
      · rw [if_pos q] at ih
        simp only [↓r137_99, ↓r137_101, ↓r137_104, ↓r137_105, ↓r137_108, ↓r137_109, ↓r137_109k, ↓r137_110, ↓r137_111, ↓r137_114, ↓r137_115, ↓r137_115k, ↓r137_116, ↓r137_119, ↓r137_120, ↓r137_121, ↓r137_124, q_le, q_lt, q_eq, q_e0, q_e1, q_0e, q_1e, ps_n0, q_0le, q_le0, q_0lt, q_m1e, q_em1, e1, e2, z1, z2, Int32.not_le.mpr q, Bool.false_eq_true, hn, hn2, ht, hF, am_wt, am_wf, Option.isSome_some, am_rf_s, am_rf_n, ps_lit, nI_add, nI_1, pk_mul, ps_cl, ps_neg, ps_c0, ps_c1, ps_n01, ps_n11, ps_10, ps_b01, ps_e0, pu_Ine, pu_Ieq, pu_ne, pu_eq, am_k_n, am_k_i, am_k_r, am_k_u, am_k_l, am_sz_0, am_sz_i, am_sz_r, am_sz_u, am_sz_l, Option.toList_some, Option.toList_none, List.cons_append, List.nil_append, true_and, and_true, or_false, false_or, or_self, or_true, true_or, not_false_eq_true, not_true_eq_false, Classical.not_not, ne_eq, ps_e1, ps_em, ps_z, Nat.not_le, false_implies, true_implies, forall_const, ps_01, ps_1n, ps_0n, ps_m10, ps_m1n, lg_cmp_gt, lg_cmp_ge, lg_cmp_le, lg_cmp_lt, lg_cmp_eq, pu_rne, pu_req, pu_uro, RFc_n, Nat.reduceAdd, Nat.reduceMul, Nat.reduceLT, Nat.reduceLeDiff, Nat.reduceEqDiff, Nat.reduceSub]
        exact ih _
      · rw [if_neg q] at ih
        simp only [↓r137_99, ↓r137_101, ↓r137_104, ↓r137_105, ↓r137_108, ↓r137_109, ↓r137_109k, ↓r137_110, ↓r137_111, ↓r137_114, ↓r137_115, ↓r137_115k, ↓r137_116, ↓r137_119, ↓r137_120, ↓r137_121, ↓r137_124, q_le, q_lt, q_eq, q_e0, q_e1, q_0e, q_1e, ps_n0, q_0le, q_le0, q_0lt, q_m1e, q_em1, e1, e2, z1, z2, Int32.not_lt.mp q, Bool.false_eq_true, hn, hn2, ht, hF, am_wt, am_wf, Option.isSome_some, am_rf_s, am_rf_n, ps_lit, nI_add, nI_1, pk_mul, ps_cl, ps_neg, ps_c0, ps_c1, ps_n01, ps_n11, ps_10, ps_b01, ps_e0, pu_Ine, pu_Ieq, pu_ne, pu_eq, am_k_n, am_k_i, am_k_r, am_k_u, am_k_l, am_sz_0, am_sz_i, am_sz_r, am_sz_u, am_sz_l, Option.toList_some, Option.toList_none, List.cons_append, List.nil_append, true_and, and_true, or_false, false_or, or_self, or_true, true_or, not_false_eq_true, not_true_eq_false, Classical.not_not, ne_eq, ps_e1, ps_em, ps_z, Nat.not_le, false_implies, true_implies, forall_const, ps_01, ps_1n, ps_0n, ps_m10, ps_m1n, lg_cmp_gt, lg_cmp_ge, lg_cmp_le, lg_cmp_lt, lg_cmp_eq, pu_rne, pu_req, pu_uro, RFc_n, Nat.reduceAdd, Nat.reduceMul, Nat.reduceLT, Nat.reduceLeDiff, Nat.reduceEqDiff, Nat.reduceSub]
        exact ih _
    · intro l3
      rw [r137_98]
      simp only [↓r137_99, ↓r137_101, ↓r137_127, ↓r137_128, q_le, q_lt, q_eq, q_e0, q_e1, q_0e, q_1e, ps_n0, q_0le, q_le0, q_0lt, q_m1e, q_em1, Bool.false_eq_true, hn, hn2, ht, hF, am_wt, am_wf, Option.isSome_some, am_rf_s, am_rf_n, ps_lit, nI_add, nI_1, pk_mul, ps_cl, ps_neg, ps_c0, ps_c1, ps_n01, ps_n11, ps_10, ps_b01, ps_e0, pu_Ine, pu_Ieq, pu_ne, pu_eq, am_k_n, am_k_i, am_k_r, am_k_u, am_k_l, am_sz_0, am_sz_i, am_sz_r, am_sz_u, am_sz_l, Option.toList_some, Option.toList_none, List.cons_append, List.nil_append, true_and, and_true, or_false, false_or, or_self, or_true, true_or, not_false_eq_true, not_true_eq_false, Classical.not_not, ne_eq, ps_e1, ps_em, ps_z, Nat.not_le, false_implies, true_implies, forall_const, ps_01, ps_1n, ps_0n, ps_m10, ps_m1n, lg_cmp_gt, lg_cmp_ge, lg_cmp_le, lg_cmp_lt, lg_cmp_eq, pu_rne, pu_req, pu_uro, RFc_n, Nat.reduceAdd, Nat.reduceMul, Nat.reduceLT, Nat.reduceLeDiff, Nat.reduceEqDiff, Nat.reduceSub]
  have h3 := hout _ (fun l1 l2 l3 => by
    simp only [↓r137_94, ↓r137_95, ↓r137_96, ↓r137_97, Bool.false_eq_true, hn, hn2, ht, hF, am_wt, am_wf, Option.isSome_some, am_rf_s, am_rf_n, ps_lit, nI_add, nI_1, pk_mul, ps_cl, ps_neg, ps_c0, ps_c1, ps_n01, ps_n11, ps_10, ps_b01, ps_e0, pu_Ine, pu_Ieq, pu_ne, pu_eq, am_k_n, am_k_i, am_k_r, am_k_u, am_k_l, am_sz_0, am_sz_i, am_sz_r, am_sz_u, am_sz_l, Option.toList_some, Option.toList_none, List.cons_append, List.nil_append, true_and, and_true, or_false, false_or, or_self, or_true, true_or, not_false_eq_true, not_true_eq_false, Classical.not_not, ne_eq, ps_e1, ps_em, ps_z, Nat.not_le, false_implies, true_implies, forall_const, ps_01, ps_1n, ps_0n, ps_m10, ps_m1n, lg_cmp_gt, lg_cmp_ge, lg_cmp_le, lg_cmp_lt, lg_cmp_eq, pu_rne, pu_req, pu_uro, RFc_n, Nat.reduceAdd, Nat.reduceMul, Nat.reduceLT, Nat.reduceLeDiff, Nat.reduceEqDiff, Nat.reduceSub]
    exact hbest _ _) none none
  have e4 := fun Q => c_fill (X := X) (d := d + 1) (Q := Q) (sl := sl) (J := J) (F := F) (I := I) (a := 39) (len := 24) hn2 (hn _ (by decide)) (ht _ (by decide)) (by decide)
  rw [← h3]
  simp only [↓r137_0, ↓r137_1, ↓r137_4, ↓r137_5, ↓r137_8, ↓r137_9, ↓e4, Bool.false_eq_true, hn, hn2, ht, hF, am_wt, am_wf, Option.isSome_some, am_rf_s, am_rf_n, ps_lit, nI_add, nI_1, pk_mul, ps_cl, ps_neg, ps_c0, ps_c1, ps_n01, ps_n11, ps_10, ps_b01, ps_e0, pu_Ine, pu_Ieq, pu_ne, pu_eq, am_k_n, am_k_i, am_k_r, am_k_u, am_k_l, am_sz_0, am_sz_i, am_sz_r, am_sz_u, am_sz_l, Option.toList_some, Option.toList_none, List.cons_append, List.nil_append, true_and, and_true, or_false, false_or, or_self, or_true, true_or, not_false_eq_true, not_true_eq_false, Classical.not_not, ne_eq, ps_e1, ps_em, ps_z, Nat.not_le, false_implies, true_implies, forall_const, ps_01, ps_1n, ps_0n, ps_m10, ps_m1n, lg_cmp_gt, lg_cmp_ge, lg_cmp_le, lg_cmp_lt, lg_cmp_eq, pu_rne, pu_req, pu_uro, RFc_n, Nat.reduceAdd, Nat.reduceMul, Nat.reduceLT, Nat.reduceLeDiff, Nat.reduceEqDiff, Nat.reduceSub]
  exact Iff.rfl
end SW
