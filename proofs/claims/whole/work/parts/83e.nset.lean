/-! the nearest set: the class -/
section NS
variable {X : am_X} {d : Nat} {Q : Option Value → am_H → Prop} {n sl : Nat} {t : Nat → Nat × Nat} {I : Nat → Nat → Int32} {J : Nat → Nat → Int64} {F : Nat → Nat → Option Nat} {h : am_H}
variable {K : Nat → Int32} {N T : Nat} {lw : Nat → List CL} {LL SS : List Nat} {th : Nat → Int32}
def rwN (M : Nat) (f s : Nat → Int32) : Nat → Int32 := fun w => if w < M then s w else f w
theorem rwN_at {M w : Nat} {f s : Nat → Int32} (h : w < M) : rwN M f s w = s w := if_pos h
theorem rwN_u {M : Nat} {f s : Nat → Int32} {v : Nat} {x : Int32} (hv : v < M) : upd (rwN M f s) v x = rwN M f (upd s v x) := by
  funext w
  unfold upd rwN
  by_cases e : w = v
  · rw [if_pos e, e, if_pos hv]
    exact (if_pos rfl).symm
  · rw [if_neg e]
    by_cases h : w < M
    · rw [if_pos h, if_pos h]
      exact (if_neg e).symm
    · rw [if_neg h, if_neg h]
theorem rwN_c {M : Nat} {f s s' : Nat → Int32} (h : ∀ w, w < M → s w = s' w) : rwN M f s = rwN M f s' := by
  funext w
  unfold rwN
  by_cases e : w < M
  · rw [if_pos e, if_pos e, h w e]
  · rw [if_neg e, if_neg e]
/-- two rows of 256 anew -/
def ns2 (a b : Nat) (I : Nat → Nat → Int32) (v w : Nat → Int32) : Nat → Nat → Int32 := am_ro (am_ro I a (rwN 256 (I a) v)) b (rwN 256 (I b) w)
theorem ns2_a {a b e : Nat} {v w : Nat → Int32} (h : a ≠ b) (he : e < 256) : ns2 a b I v w a e = v e := by
  unfold ns2
  rw [pu_rne h, pu_req, rwN_at he]
theorem ns2_b {a b e : Nat} {v w : Nat → Int32} (he : e < 256) : ns2 a b I v w b e = w e := by
  unfold ns2
  rw [pu_req, rwN_at he]
theorem ns2_n {a b c : Nat} {v w : Nat → Int32} (h : c ≠ a) (h2 : c ≠ b) : ns2 a b I v w c = I c := by
  unfold ns2
  rw [pu_rne h2, pu_rne h]
theorem ns2_ua {a b e : Nat} {v w : Nat → Int32} {x : Int32} (h : a ≠ b) (he : e < 256) : am_uI (ns2 a b I v w) a e x = ns2 a b I (upd v e x) w := by
  funext c
  by_cases h1 : c = a
  · subst h1
    rw [pu_Ieq]
    unfold ns2
    rw [pu_rne h, pu_req, pu_rne h, pu_req, rwN_u he]
  · rw [pu_Ine h1]
    unfold ns2
    by_cases h2 : c = b
    · subst h2
      rw [pu_req, pu_req]
    · rw [pu_rne h2, pu_rne h1, pu_rne h2, pu_rne h1]
theorem ns2_ub {a b e : Nat} {v w : Nat → Int32} {x : Int32} (he : e < 256) : am_uI (ns2 a b I v w) b e x = ns2 a b I v (upd w e x) := by
  funext c
  by_cases h1 : c = b
  · subst h1
    rw [pu_Ieq]
    unfold ns2
    rw [pu_req, pu_req, rwN_u he]
  · rw [pu_Ine h1]
    unfold ns2
    rw [pu_rne h1, pu_rne h1]
theorem ns2_c {a b : Nat} {v w v' w' : Nat → Int32} (h : ∀ e, e < 256 → v e = v' e) (h2 : ∀ e, e < 256 → w e = w' e) : ns2 a b I v w = ns2 a b I v' w' := by
  unfold ns2
  rw [rwN_c h, rwN_c h2]
def dcv (a b : Int32) : Int32 := if cmv a b = 0 then 0 else 1
def n1s (v : Nat → Nat → Int32) (e : Nat → Nat → Nat) (a : Nat) (SS : List Nat) (k s : Nat) : Int32 := smI (fun k => if e a (SS.getD k 0) = s then v a (SS.getD k 0) else 0) k
def n2s (v : Nat → Nat → Int32) (e : Nat → Nat → Nat) (LL SS : List Nat) (i s : Nat) : Int32 := smI (fun i => n1s v e (LL.getD i 0) SS SS.length s) i
/-- counted at its own set, as far as i, k -/
def nv (v : Nat → Nat → Int32) (e : Nat → Nat → Nat) (LL SS : List Nat) (i k : Nat) : Nat → Int32 := fun s => n2s v e LL SS i s + n1s v e (LL.getD i 0) SS k s
theorem nv_s {v : Nat → Nat → Int32} {e : Nat → Nat → Nat} {i k : Nat} : nv v e LL SS i (k + 1) = upd (nv v e LL SS i k) (e (LL.getD i 0) (SS.getD k 0)) (nv v e LL SS i k (e (LL.getD i 0) (SS.getD k 0)) + v (LL.getD i 0) (SS.getD k 0)) := by
  funext s
  have e1 : nv v e LL SS i (k + 1) s = nv v e LL SS i k s + (if e (LL.getD i 0) (SS.getD k 0) = s then v (LL.getD i 0) (SS.getD k 0) else 0) := (Int32.add_assoc _ _ _).symm
  rw [e1]
  unfold upd
  by_cases h : s = e (LL.getD i 0) (SS.getD k 0)
  · rw [if_pos h.symm, if_pos h, ← h]
  · rw [if_neg (fun q => h q.symm), if_neg h, Int32.add_zero]
theorem nv_z {v : Nat → Nat → Int32} {e : Nat → Nat → Nat} {i k : Nat} (h : v (LL.getD i 0) (SS.getD k 0) = 0) : nv v e LL SS i (k + 1) = nv v e LL SS i k := by
  funext s
  have e1 : nv v e LL SS i (k + 1) s = nv v e LL SS i k s + (if e (LL.getD i 0) (SS.getD k 0) = s then v (LL.getD i 0) (SS.getD k 0) else 0) := (Int32.add_assoc _ _ _).symm
  rw [e1, h, ite_self, Int32.add_zero]
theorem nv_e {v : Nat → Nat → Int32} {e : Nat → Nat → Nat} {i : Nat} : nv v e LL SS (i + 1) 0 = nv v e LL SS i SS.length := by
  funext s
  exact Int32.add_zero _
theorem nv_00 {v : Nat → Nat → Int32} {e : Nat → Nat → Nat} : nv v e LL SS 0 0 = fun _ => 0 := by
  funext s
  exact Int32.add_zero _
theorem nv_end {v : Nat → Nat → Int32} {e : Nat → Nat → Nat} (he : ∀ a b, e a b < 256) {s : Nat} (hs : s < 256) : nv v e LL SS LL.length 0 s = bal 0 (fun i k => v (LL.getD i 0) (SS.getD k 0)) (fun i k => e (LL.getD i 0) (SS.getD k 0)) LL.length SS.length s := by
  rw [bal_0 (fun i k => he _ _) hs]
  exact Int32.add_zero _
theorem SDH_ns {r : Nat} {v w : Nat → Int32} (h : SDH I F r LL SS th) : SDH (ns2 37 38 I v w) F r LL SS th := by
  unfold SDH at h ⊢
  rw [ns2_n (by decide) (by decide), ns2_n (by decide) (by decide), ns2_n (by decide) (by decide), ns2_n (by decide) (by decide), ns2_n (by decide) (by decide)]
  exact h
theorem cmv_d (a b : Int32) : dcv a b = 0 ↔ cmv a b = 0 := by
  unfold dcv
  by_cases h : cmv a b = 0
  · rw [if_pos h]; exact ⟨fun _ => h, fun _ => rfl⟩
  · rw [if_neg h]; exact ⟨fun q => absurd q (by decide), fun q => absurd q h⟩
theorem cl_cnt {r : Nat} {R : Prop} (hW : WS n t F) (hD : SDH I F r LL SS th) (hR : ∀ l1 l2 l3 l4 : Option Value, am_W X (d + 2) 133 114 [some (.ref 28), l1, l2, l3, l4] [] (n, sl, t, ns2 37 38 I (nv (fun a b => cmv (th a) (th b)) (fun a b => alk (I r) a b 8) LL SS LL.length 0) (nv (fun a b => dcv (th a) (th b)) (fun a b => alk (I r) a b 8) LL SS LL.length 0), J, F) Q ↔ R) : am_W X (d + 2) 133 0 [some (.ref 28), none, none, none, none] [] (n, sl, t, I, J, F) Q ↔ R := by
  obtain ⟨hn, hn2, ht, hF⟩ := id hW
  obtain ⟨f8, hr2, ⟨a1, a2, a3⟩, ⟨b1, b2, b3⟩, t1, t2⟩ := id hD
  have g1 : r < n := by rcases hr2 with e | e <;> rw [e] <;> exact hn _ (by decide)
  have er : ∀ v w, ns2 37 38 I v w r = I r := fun v w => ns2_n (by omega) (by omega)
  have hin : ∀ (i : Nat), i < LL.length → (∀ l2 l3 l4 : Option Value, am_W X (d + 2) 133 108 [some (.ref 28), some (.int (nI i)), l2, l3, l4] [] (n, sl, t, ns2 37 38 I (nv (fun a b => cmv (th a) (th b)) (fun a b => alk (I r) a b 8) LL SS i SS.length) (nv (fun a b => dcv (th a) (th b)) (fun a b => alk (I r) a b 8) LL SS i SS.length), J, F) Q ↔ R) → ∀ l3 l4 : Option Value, am_W X (d + 2) 133 31 [some (.ref 28), some (.int (nI i)), some (.int 0), l3, l4] [] (n, sl, t, ns2 37 38 I (nv (fun a b => cmv (th a) (th b)) (fun a b => alk (I r) a b 8) LL SS i 0) (nv (fun a b => dcv (th a) (th b)) (fun a b => alk (I r) a b 8) LL SS i 0), J, F) Q ↔ R := by
    intro i hi hR2
    obtain ⟨c1, c2⟩ := a3 i hi
    refine lp0 (A := fun k => ∀ l3 l4 : Option Value, am_W X (d + 2) 133 31 [some (.ref 28), some (.int (nI i)), some (.int (nI k)), l3, l4] [] (n, sl, t, ns2 37 38 I (nv (fun a b => cmv (th a) (th b)) (fun a b => alk (I r) a b 8) LL SS i k) (nv (fun a b => dcv (th a) (th b)) (fun a b => alk (I r) a b 8) LL SS i k), J, F) Q ↔ R) (N := SS.length) ?_ ?_
    · intro k hk ih l3 l4
      obtain ⟨c3, c4⟩ := b3 k hk
      have hal : alk (I r) (LL.getD i 0) (SS.getD k 0) 8 < 256 := bN_lt _ 8
      have z1 : k < 2000000 ∧ SS.length < 2000000 ∧ k < 120 ∧ i < 2000000 ∧ i < 120 ∧ alk (I r) (LL.getD i 0) (SS.getD k 0) 8 < 2000000 := by omega
      have z2 : ¬ SS.length ≤ k := by omega
      have e1 := fun v w Q => c_alikeFacts (X := X) (d := d) (Q := Q) (sl := sl) (J := J) (I := ns2 37 38 I v w) (r := r) (a := LL.getD i 0) (b := SS.getD k 0) hW hr2 c2 c4
      simp only [er] at e1
      have e2 := fun v w Q => c_scmp (X := X) (d := d) (Q := Q) (sl := sl) (J := J) (I := ns2 37 38 I v w) hW (SDH_ns (v := v) (w := w) hD) hi hk
      rw [r133_31]
      by_cases q : cmv (th (LL.getD i 0)) (th (SS.getD k 0)) = 0
      · have x1 := nv_z (LL := LL) (SS := SS) (v := fun a b => cmv (th a) (th b)) (e := fun a b => alk (I r) a b 8) (i := i) (k := k) q
        have x2 := nv_z (LL := LL) (SS := SS) (v := fun a b => dcv (th a) (th b)) (e := fun a b => alk (I r) a b 8) (i := i) (k := k) ((cmv_d _ _).mpr q)
        rw [x1, x2] at ih
        simp only [↓r133_32, ↓r133_33, ↓r133_36, ↓r133_39, ↓r133_42, ↓r133_43, ↓r133_44, ↓r133_45, ↓r133_48, ↓r133_49, ↓r133_50, ↓r133_102, ↓r133_105, ↓e2, q_le, q_lt, q_eq, q_e0, q_e1, q_0e, q_1e, ps_n0, q_0le, q_le0, q_0lt, q_m1e, q_em1, b1, z1, z2, q, ns2_n, Bool.false_eq_true, hn, hn2, ht, hF, am_wt, am_wf, Option.isSome_some, am_rf_s, am_rf_n, ps_lit, nI_add, nI_1, pk_mul, ps_cl, ps_neg, ps_c0, ps_c1, ps_n01, ps_n11, ps_10, ps_b01, ps_e0, pu_Ine, pu_Ieq, pu_ne, pu_eq, am_k_n, am_k_i, am_k_r, am_k_u, am_k_l, am_sz_0, am_sz_i, am_sz_r, am_sz_u, am_sz_l, Option.toList_some, Option.toList_none, List.cons_append, List.nil_append, true_and, and_true, or_false, false_or, or_self, or_true, true_or, not_false_eq_true, not_true_eq_false, Classical.not_not, ne_eq, ps_e1, ps_em, ps_z, Nat.not_le, false_implies, true_implies, forall_const, ps_01, ps_1n, ps_0n, ps_m10, ps_m1n, lg_cmp_gt, lg_cmp_ge, lg_cmp_le, lg_cmp_lt, lg_cmp_eq, pu_rne, pu_req, pu_uro, RFc_n, Nat.reduceAdd, Nat.reduceMul, Nat.reduceLT, Nat.reduceLeDiff, Nat.reduceEqDiff, Nat.reduceSub]
        exact ih _ _
      · have x1 := nv_s (LL := LL) (SS := SS) (v := fun a b => cmv (th a) (th b)) (e := fun a b => alk (I r) a b 8) (i := i) (k := k)
        have x2 := nv_s (LL := LL) (SS := SS) (v := fun a b => dcv (th a) (th b)) (e := fun a b => alk (I r) a b 8) (i := i) (k := k)
        have x3 : dcv (th (LL.getD i 0)) (th (SS.getD k 0)) = 1 := if_neg q
        rw [x3] at x2
        rw [x1, x2] at ih
        simp only [↓r133_32, ↓r133_33, ↓r133_36, ↓r133_39, ↓r133_42, ↓r133_43, ↓r133_44, ↓r133_45, ↓r133_48, ↓r133_49, ↓r133_50, ↓r133_53, ↓r133_54, ↓r133_57, ↓r133_58, ↓r133_61, ↓r133_64, ↓r133_65, ↓r133_65k, ↓r133_66, ↓r133_67, ↓r133_70, ↓r133_73, ↓r133_74, ↓r133_74k, ↓r133_75, ↓r133_78, ↓r133_80, ↓r133_81, ↓r133_84, ↓r133_86, ↓r133_87, ↓r133_87k, ↓r133_88, ↓r133_89, ↓r133_90, ↓r133_91, ↓r133_92, ↓r133_95, ↓r133_97, ↓r133_98, ↓r133_98k, ↓r133_99, ↓r133_100, ↓r133_101, ↓r133_102, ↓r133_105, ↓e1, ↓e2, q_le, q_lt, q_eq, q_e0, q_e1, q_0e, q_1e, ps_n0, q_0le, q_le0, q_0lt, q_m1e, q_em1, b1, c1, c3, f8, z1, z2, hal, q, ns2_a, ns2_b, ns2_ua, ns2_ub, ns2_n, Bool.false_eq_true, hn, hn2, ht, hF, am_wt, am_wf, Option.isSome_some, am_rf_s, am_rf_n, ps_lit, nI_add, nI_1, pk_mul, ps_cl, ps_neg, ps_c0, ps_c1, ps_n01, ps_n11, ps_10, ps_b01, ps_e0, pu_Ine, pu_Ieq, pu_ne, pu_eq, am_k_n, am_k_i, am_k_r, am_k_u, am_k_l, am_sz_0, am_sz_i, am_sz_r, am_sz_u, am_sz_l, Option.toList_some, Option.toList_none, List.cons_append, List.nil_append, true_and, and_true, or_false, false_or, or_self, or_true, true_or, not_false_eq_true, not_true_eq_false, Classical.not_not, ne_eq, ps_e1, ps_em, ps_z, Nat.not_le, false_implies, true_implies, forall_const, ps_01, ps_1n, ps_0n, ps_m10, ps_m1n, lg_cmp_gt, lg_cmp_ge, lg_cmp_le, lg_cmp_lt, lg_cmp_eq, pu_rne, pu_req, pu_uro, RFc_n, Nat.reduceAdd, Nat.reduceMul, Nat.reduceLT, Nat.reduceLeDiff, Nat.reduceEqDiff, Nat.reduceSub]
        exact ih _ _
    · intro l3 l4
      rw [r133_31]
      simp only [↓r133_32, ↓r133_33, ↓r133_36, ↓r133_39, b1, ns2_n, Int32.le_refl, Bool.false_eq_true, hn, hn2, ht, hF, am_wt, am_wf, Option.isSome_some, am_rf_s, am_rf_n, ps_lit, nI_add, nI_1, pk_mul, ps_cl, ps_neg, ps_c0, ps_c1, ps_n01, ps_n11, ps_10, ps_b01, ps_e0, pu_Ine, pu_Ieq, pu_ne, pu_eq, am_k_n, am_k_i, am_k_r, am_k_u, am_k_l, am_sz_0, am_sz_i, am_sz_r, am_sz_u, am_sz_l, Option.toList_some, Option.toList_none, List.cons_append, List.nil_append, true_and, and_true, or_false, false_or, or_self, or_true, true_or, not_false_eq_true, not_true_eq_false, Classical.not_not, ne_eq, ps_e1, ps_em, ps_z, Nat.not_le, false_implies, true_implies, forall_const, ps_01, ps_1n, ps_0n, ps_m10, ps_m1n, lg_cmp_gt, lg_cmp_ge, lg_cmp_le, lg_cmp_lt, lg_cmp_eq, pu_rne, pu_req, pu_uro, RFc_n, Nat.reduceAdd, Nat.reduceMul, Nat.reduceLT, Nat.reduceLeDiff, Nat.reduceEqDiff, Nat.reduceSub]
      exact hR2 _ _ _
  have hout : ∀ l2 l3 l4 : Option Value, am_W X (d + 2) 133 18 [some (.ref 28), some (.int 0), l2, l3, l4] [] (n, sl, t, ns2 37 38 I (nv (fun a b => cmv (th a) (th b)) (fun a b => alk (I r) a b 8) LL SS 0 0) (nv (fun a b => dcv (th a) (th b)) (fun a b => alk (I r) a b 8) LL SS 0 0), J, F) Q ↔ R := by
    refine lp0 (A := fun i => ∀ l2 l3 l4 : Option Value, am_W X (d + 2) 133 18 [some (.ref 28), some (.int (nI i)), l2, l3, l4] [] (n, sl, t, ns2 37 38 I (nv (fun a b => cmv (th a) (th b)) (fun a b => alk (I r) a b 8) LL SS i 0) (nv (fun a b => dcv (th a) (th b)) (fun a b => alk (I r) a b 8) LL SS i 0), J, F) Q ↔ R) (N := LL.length) ?_ ?_
    · intro i hi ih l2 l3 l4
      have z1 : i < 2000000 ∧ LL.length < 2000000 ∧ i < 120 := by omega
      have z2 : ¬ LL.length ≤ i := by omega
      rw [nv_e, nv_e] at ih
      rw [r133_18]
      simp only [↓r133_19, ↓r133_20, ↓r133_23, ↓r133_26, ↓r133_29, ↓r133_30, q_le, q_lt, q_eq, q_e0, q_e1, q_0e, q_1e, ps_n0, q_0le, q_le0, q_0lt, q_m1e, q_em1, a1, z1, z2, ns2_n, Bool.false_eq_true, hn, hn2, ht, hF, am_wt, am_wf, Option.isSome_some, am_rf_s, am_rf_n, ps_lit, nI_add, nI_1, pk_mul, ps_cl, ps_neg, ps_c0, ps_c1, ps_n01, ps_n11, ps_10, ps_b01, ps_e0, pu_Ine, pu_Ieq, pu_ne, pu_eq, am_k_n, am_k_i, am_k_r, am_k_u, am_k_l, am_sz_0, am_sz_i, am_sz_r, am_sz_u, am_sz_l, Option.toList_some, Option.toList_none, List.cons_append, List.nil_append, true_and, and_true, or_false, false_or, or_self, or_true, true_or, not_false_eq_true, not_true_eq_false, Classical.not_not, ne_eq, ps_e1, ps_em, ps_z, Nat.not_le, false_implies, true_implies, forall_const, ps_01, ps_1n, ps_0n, ps_m10, ps_m1n, lg_cmp_gt, lg_cmp_ge, lg_cmp_le, lg_cmp_lt, lg_cmp_eq, pu_rne, pu_req, pu_uro, RFc_n, Nat.reduceAdd, Nat.reduceMul, Nat.reduceLT, Nat.reduceLeDiff, Nat.reduceEqDiff, Nat.reduceSub]
      refine hin i hi (fun l2 l3 l4 => ?_) _ _
      simp only [↓r133_108, ↓r133_111, Bool.false_eq_true, hn, hn2, ht, hF, am_wt, am_wf, Option.isSome_some, am_rf_s, am_rf_n, ps_lit, nI_add, nI_1, pk_mul, ps_cl, ps_neg, ps_c0, ps_c1, ps_n01, ps_n11, ps_10, ps_b01, ps_e0, pu_Ine, pu_Ieq, pu_ne, pu_eq, am_k_n, am_k_i, am_k_r, am_k_u, am_k_l, am_sz_0, am_sz_i, am_sz_r, am_sz_u, am_sz_l, Option.toList_some, Option.toList_none, List.cons_append, List.nil_append, true_and, and_true, or_false, false_or, or_self, or_true, true_or, not_false_eq_true, not_true_eq_false, Classical.not_not, ne_eq, ps_e1, ps_em, ps_z, Nat.not_le, false_implies, true_implies, forall_const, ps_01, ps_1n, ps_0n, ps_m10, ps_m1n, lg_cmp_gt, lg_cmp_ge, lg_cmp_le, lg_cmp_lt, lg_cmp_eq, pu_rne, pu_req, pu_uro, RFc_n, Nat.reduceAdd, Nat.reduceMul, Nat.reduceLT, Nat.reduceLeDiff, Nat.reduceEqDiff, Nat.reduceSub]
      exact ih _ _ _
    · intro l2 l3 l4
      rw [r133_18]
      simp only [↓r133_19, ↓r133_20, ↓r133_23, ↓r133_26, a1, ns2_n, Int32.le_refl, Bool.false_eq_true, hn, hn2, ht, hF, am_wt, am_wf, Option.isSome_some, am_rf_s, am_rf_n, ps_lit, nI_add, nI_1, pk_mul, ps_cl, ps_neg, ps_c0, ps_c1, ps_n01, ps_n11, ps_10, ps_b01, ps_e0, pu_Ine, pu_Ieq, pu_ne, pu_eq, am_k_n, am_k_i, am_k_r, am_k_u, am_k_l, am_sz_0, am_sz_i, am_sz_r, am_sz_u, am_sz_l, Option.toList_some, Option.toList_none, List.cons_append, List.nil_append, true_and, and_true, or_false, false_or, or_self, or_true, true_or, not_false_eq_true, not_true_eq_false, Classical.not_not, ne_eq, ps_e1, ps_em, ps_z, Nat.not_le, false_implies, true_implies, forall_const, ps_01, ps_1n, ps_0n, ps_m10, ps_m1n, lg_cmp_gt, lg_cmp_ge, lg_cmp_le, lg_cmp_lt, lg_cmp_eq, pu_rne, pu_req, pu_uro, RFc_n, Nat.reduceAdd, Nat.reduceMul, Nat.reduceLT, Nat.reduceLeDiff, Nat.reduceEqDiff, Nat.reduceSub]
      exact hR _ _ _ _
  have e4 := fun (I : Nat → Nat → Int32) Q => c_fill (X := X) (d := d + 1) (Q := Q) (sl := sl) (J := J) (F := F) (I := I) (a := 37) (len := 256) hn2 (hn _ (by decide)) (ht _ (by decide)) (by decide)
  have e5 := fun (I : Nat → Nat → Int32) Q => c_fill (X := X) (d := d + 1) (Q := Q) (sl := sl) (J := J) (F := F) (I := I) (a := 38) (len := 256) hn2 (hn _ (by decide)) (ht _ (by decide)) (by decide)
  have h3 := hout none none none
  rw [nv_00, nv_00] at h3
  rw [← h3]
  simp only [↓r133_0, ↓r133_1, ↓r133_4, ↓r133_5, ↓r133_8, ↓r133_9, ↓r133_12, ↓r133_13, ↓r133_16, ↓r133_17, ↓e4, ↓e5, Bool.false_eq_true, hn, hn2, ht, hF, am_wt, am_wf, Option.isSome_some, am_rf_s, am_rf_n, ps_lit, nI_add, nI_1, pk_mul, ps_cl, ps_neg, ps_c0, ps_c1, ps_n01, ps_n11, ps_10, ps_b01, ps_e0, pu_Ine, pu_Ieq, pu_ne, pu_eq, am_k_n, am_k_i, am_k_r, am_k_u, am_k_l, am_sz_0, am_sz_i, am_sz_r, am_sz_u, am_sz_l, Option.toList_some, Option.toList_none, List.cons_append, List.nil_append, true_and, and_true, or_false, false_or, or_self, or_true, true_or, not_false_eq_true, not_true_eq_false, Classical.not_not, ne_eq, ps_e1, ps_em, ps_z, Nat.not_le, false_implies, true_implies, forall_const, ps_01, ps_1n, ps_0n, ps_m10, ps_m1n, lg_cmp_gt, lg_cmp_ge, lg_cmp_le, lg_cmp_lt, lg_cmp_eq, pu_rne, pu_req, pu_uro, RFc_n, Nat.reduceAdd, Nat.reduceMul, Nat.reduceLT, Nat.reduceLeDiff, Nat.reduceEqDiff, Nat.reduceSub]
  exact Iff.rfl
/-- a bit, as the class asks for it -/
theorem and_b (s b : Nat) : (s &&& 2 ^ b = 0) = (s.testBit b = false) := by
  apply propext
  constructor
  · intro h
    have := congrArg (fun x => x.testBit b) h
    simp only [Nat.testBit_and, Nat.testBit_two_pow_self, Bool.and_true, Nat.zero_testBit] at this
    exact this
  · intro h
    apply Nat.eq_of_testBit_eq
    intro i
    rw [Nat.testBit_and, Nat.testBit_two_pow, Nat.zero_testBit]
    by_cases e : b = i
    · subst e
      rw [h, Bool.false_and]
    · rw [decide_eq_false e, Bool.and_false]
noncomputable def bv (b : Nat) (v : Nat → Nat → Int32) (e : Nat → Nat → Nat) (A B s : Nat) : Nat → Int32 := fun x => if x < s then bal (b + 1) v e A B x else bal b v e A B x
theorem bv_t {b A B s : Nat} {v : Nat → Nat → Int32} {e : Nat → Nat → Nat} (h : s.testBit b = true) : bv b v e A B (s + 1) = bv b v e A B s := by
  funext x
  unfold bv
  by_cases q : x < s
  · rw [if_pos q, if_pos (by omega)]
  · rw [if_neg q]
    by_cases q2 : x = s
    · subst q2
      rw [if_pos (by omega), bal_t h]
    · rw [if_neg (by omega)]
theorem bv_f {b A B s : Nat} {v : Nat → Nat → Int32} {e : Nat → Nat → Nat} (hb : b < 8) (h : s.testBit b = false) : bv b v e A B (s + 1) = upd (bv b v e A B s) s (bv b v e A B s s + bv b v e A B s (s ||| 2 ^ b)) := by
  have hle : s ≤ s ||| 2 ^ b := Nat.left_le_or
  have e1 : bv b v e A B s s = bal b v e A B s := if_neg (by omega)
  have e2 : bv b v e A B s (s ||| 2 ^ b) = bal b v e A B (s ||| 2 ^ b) := if_neg (by omega)
  rw [e1, e2, ← bal_f hb h]
  funext x
  unfold upd bv
  by_cases q : x = s
  · rw [if_pos q, if_pos (by omega), q]
  · rw [if_neg q]
    by_cases q2 : x < s
    · rw [if_pos q2, if_pos (by omega)]
    · rw [if_neg q2, if_neg (by omega)]
theorem cl_bits {v w : Nat → Nat → Int32} {e : Nat → Nat → Nat} {A B : Nat} (hW : WS n t F) : ∀ l2 l3 l4 : Option Value, am_W X (d + 2) 133 116 [some (.ref 28), some (.int 0), l2, l3, l4] [] (n, sl, t, ns2 37 38 I (bal 0 v e A B) (bal 0 w e A B), J, F) Q ↔ Q none (n, sl, t, ns2 37 38 I (bal 8 v e A B) (bal 8 w e A B), J, F) := by
  obtain ⟨hn, hn2, ht, hF⟩ := id hW
  refine lp0 (A := fun b => ∀ l2 l3 l4 : Option Value, am_W X (d + 2) 133 116 [some (.ref 28), some (.int (nI b)), l2, l3, l4] [] (n, sl, t, ns2 37 38 I (bal b v e A B) (bal b w e A B), J, F) Q ↔ Q none (n, sl, t, ns2 37 38 I (bal 8 v e A B) (bal 8 w e A B), J, F)) (N := 8) ?_ ?_
  · intro b hb ih l2 l3 l4
    have z1 : b < 2000000 := by omega
    have z2 : ¬ 8 ≤ b := by omega
    have e1 := sh1 hb
    have hp : 2 ^ b < 2 ^ 8 := Nat.pow_lt_pow_right (by decide) hb
    have hin : am_W X (d + 2) 133 128 [some (.ref 28), some (.int (nI b)), some (.int (nI (2 ^ b))), some (.int 0), l4] [] (n, sl, t, ns2 37 38 I (bv b v e A B 0) (bv b w e A B 0), J, F) Q ↔ Q none (n, sl, t, ns2 37 38 I (bal 8 v e A B) (bal 8 w e A B), J, F) := by
      refine lp0 (A := fun s => am_W X (d + 2) 133 128 [some (.ref 28), some (.int (nI b)), some (.int (nI (2 ^ b))), some (.int (nI s)), l4] [] (n, sl, t, ns2 37 38 I (bv b v e A B s) (bv b w e A B s), J, F) Q ↔ Q none (n, sl, t, ns2 37 38 I (bal 8 v e A B) (bal 8 w e A B), J, F)) (N := 256) ?_ ?_
      · intro s hs ih2
        have hor : s ||| 2 ^ b < 2 ^ 8 := Nat.or_lt_two_pow hs hp
        have han : s &&& 2 ^ b ≤ s := Nat.and_le_left
        have y1 : s < 2000000 ∧ s < 256 ∧ s ||| 2 ^ b < 2000000 ∧ s ||| 2 ^ b < 256 ∧ s &&& 2 ^ b < 2000000 := by omega
        have y2 : ¬ 256 ≤ s := by omega
        have e2 := and_b s b
        rw [r133_128]
        cases hbit : s.testBit b
        · rw [bv_f hb hbit, bv_f hb hbit] at ih2
          rw [hbit] at e2
          simp only [eq_self_iff_true] at e2
          simp only [↓r133_129, ↓r133_132, ↓r133_135, ↓r133_136, ↓r133_137, ↓r133_138, ↓r133_141, ↓r133_142, ↓r133_145, ↓r133_146, ↓r133_147, ↓r133_147k, ↓r133_148, ↓r133_149, ↓r133_152, ↓r133_153, ↓r133_154, ↓r133_155, ↓r133_155k, ↓r133_156, ↓r133_157, ↓r133_158, ↓r133_159, ↓r133_162, ↓r133_163, ↓r133_164, ↓r133_164k, ↓r133_165, ↓r133_166, ↓r133_169, ↓r133_170, ↓r133_171, ↓r133_172, ↓r133_172k, ↓r133_173, ↓r133_174, ↓r133_175, ↓r133_178, q_le, q_lt, q_eq, q_e0, q_e1, q_0e, q_1e, ps_n0, q_0le, q_le0, q_0lt, q_m1e, q_em1, nI_and, nI_or, e2, y1, y2, ns2_a, ns2_b, ns2_ua, ns2_ub, ns2_n, Bool.false_eq_true, hn, hn2, ht, hF, am_wt, am_wf, Option.isSome_some, am_rf_s, am_rf_n, ps_lit, nI_add, nI_1, pk_mul, ps_cl, ps_neg, ps_c0, ps_c1, ps_n01, ps_n11, ps_10, ps_b01, ps_e0, pu_Ine, pu_Ieq, pu_ne, pu_eq, am_k_n, am_k_i, am_k_r, am_k_u, am_k_l, am_sz_0, am_sz_i, am_sz_r, am_sz_u, am_sz_l, Option.toList_some, Option.toList_none, List.cons_append, List.nil_append, true_and, and_true, or_false, false_or, or_self, or_true, true_or, not_false_eq_true, not_true_eq_false, Classical.not_not, ne_eq, ps_e1, ps_em, ps_z, Nat.not_le, false_implies, true_implies, forall_const, ps_01, ps_1n, ps_0n, ps_m10, ps_m1n, lg_cmp_gt, lg_cmp_ge, lg_cmp_le, lg_cmp_lt, lg_cmp_eq, pu_rne, pu_req, pu_uro, RFc_n, Nat.reduceAdd, Nat.reduceMul, Nat.reduceLT, Nat.reduceLeDiff, Nat.reduceEqDiff, Nat.reduceSub]
          exact ih2
        · rw [bv_t hbit, bv_t hbit] at ih2
          rw [hbit] at e2
          simp only [Bool.true_eq_false] at e2
          simp only [↓r133_129, ↓r133_132, ↓r133_135, ↓r133_136, ↓r133_137, ↓r133_138, ↓r133_141, ↓r133_142, ↓r133_145, ↓r133_146, ↓r133_147, ↓r133_147k, ↓r133_148, ↓r133_149, ↓r133_152, ↓r133_153, ↓r133_154, ↓r133_155, ↓r133_155k, ↓r133_156, ↓r133_157, ↓r133_158, ↓r133_159, ↓r133_162, ↓r133_163, ↓r133_164, ↓r133_164k, ↓r133_165, ↓r133_166, ↓r133_169, ↓r133_170, ↓r133_171, ↓r133_172, ↓r133_172k, ↓r133_173, ↓r133_174, ↓r133_175, ↓r133_178, q_le, q_lt, q_eq, q_e0, q_e1, q_0e, q_1e, ps_n0, q_0le, q_le0, q_0lt, q_m1e, q_em1, nI_and, nI_or, e2, y1, y2, Bool.false_eq_true, hn, hn2, ht, hF, am_wt, am_wf, Option.isSome_some, am_rf_s, am_rf_n, ps_lit, nI_add, nI_1, pk_mul, ps_cl, ps_neg, ps_c0, ps_c1, ps_n01, ps_n11, ps_10, ps_b01, ps_e0, pu_Ine, pu_Ieq, pu_ne, pu_eq, am_k_n, am_k_i, am_k_r, am_k_u, am_k_l, am_sz_0, am_sz_i, am_sz_r, am_sz_u, am_sz_l, Option.toList_some, Option.toList_none, List.cons_append, List.nil_append, true_and, and_true, or_false, false_or, or_self, or_true, true_or, not_false_eq_true, not_true_eq_false, Classical.not_not, ne_eq, ps_e1, ps_em, ps_z, Nat.not_le, false_implies, true_implies, forall_const, ps_01, ps_1n, ps_0n, ps_m10, ps_m1n, lg_cmp_gt, lg_cmp_ge, lg_cmp_le, lg_cmp_lt, lg_cmp_eq, pu_rne, pu_req, pu_uro, RFc_n, Nat.reduceAdd, Nat.reduceMul, Nat.reduceLT, Nat.reduceLeDiff, Nat.reduceEqDiff, Nat.reduceSub]
          exact ih2
      · have x1 : ns2 37 38 I (bv b v e A B 256) (bv b w e A B 256) = ns2 37 38 I (bal (b + 1) v e A B) (bal (b + 1) w e A B) := ns2_c (fun x hx => if_pos hx) (fun x hx => if_pos hx)
        rw [x1, r133_128]
        simp only [↓r133_129, ↓r133_132, ↓r133_181, ↓r133_184, q_le, q_lt, q_eq, q_e0, q_e1, q_0e, q_1e, ps_n0, q_0le, q_le0, q_0lt, q_m1e, q_em1, Bool.false_eq_true, hn, hn2, ht, hF, am_wt, am_wf, Option.isSome_some, am_rf_s, am_rf_n, ps_lit, nI_add, nI_1, pk_mul, ps_cl, ps_neg, ps_c0, ps_c1, ps_n01, ps_n11, ps_10, ps_b01, ps_e0, pu_Ine, pu_Ieq, pu_ne, pu_eq, am_k_n, am_k_i, am_k_r, am_k_u, am_k_l, am_sz_0, am_sz_i, am_sz_r, am_sz_u, am_sz_l, Option.toList_some, Option.toList_none, List.cons_append, List.nil_append, true_and, and_true, or_false, false_or, or_self, or_true, true_or, not_false_eq_true, not_true_eq_false, Classical.not_not, ne_eq, ps_e1, ps_em, ps_z, Nat.not_le, false_implies, true_implies, forall_const, ps_01, ps_1n, ps_0n, ps_m10, ps_m1n, lg_cmp_gt, lg_cmp_ge, lg_cmp_le, lg_cmp_lt, lg_cmp_eq, pu_rne, pu_req, pu_uro, RFc_n, Nat.reduceAdd, Nat.reduceMul, Nat.reduceLT, Nat.reduceLeDiff, Nat.reduceEqDiff, Nat.reduceSub]
        exact ih _ _ _
    rw [r133_116]
    simp only [↓r133_117, ↓r133_119, ↓r133_122, ↓r133_123, ↓r133_124, ↓r133_125, ↓r133_126, ↓r133_127, q_le, q_lt, q_eq, q_e0, q_e1, q_0e, q_1e, ps_n0, q_0le, q_le0, q_0lt, q_m1e, q_em1, e1, z1, z2, Bool.false_eq_true, hn, hn2, ht, hF, am_wt, am_wf, Option.isSome_some, am_rf_s, am_rf_n, ps_lit, nI_add, nI_1, pk_mul, ps_cl, ps_neg, ps_c0, ps_c1, ps_n01, ps_n11, ps_10, ps_b01, ps_e0, pu_Ine, pu_Ieq, pu_ne, pu_eq, am_k_n, am_k_i, am_k_r, am_k_u, am_k_l, am_sz_0, am_sz_i, am_sz_r, am_sz_u, am_sz_l, Option.toList_some, Option.toList_none, List.cons_append, List.nil_append, true_and, and_true, or_false, false_or, or_self, or_true, true_or, not_false_eq_true, not_true_eq_false, Classical.not_not, ne_eq, ps_e1, ps_em, ps_z, Nat.not_le, false_implies, true_implies, forall_const, ps_01, ps_1n, ps_0n, ps_m10, ps_m1n, lg_cmp_gt, lg_cmp_ge, lg_cmp_le, lg_cmp_lt, lg_cmp_eq, pu_rne, pu_req, pu_uro, RFc_n, Nat.reduceAdd, Nat.reduceMul, Nat.reduceLT, Nat.reduceLeDiff, Nat.reduceEqDiff, Nat.reduceSub]
    exact hin
  · intro l2 l3 l4
    rw [r133_116]
    simp only [↓r133_117, ↓r133_119, ↓r133_187, q_le, q_lt, q_eq, q_e0, q_e1, q_0e, q_1e, ps_n0, q_0le, q_le0, q_0lt, q_m1e, q_em1, Bool.false_eq_true, hn, hn2, ht, hF, am_wt, am_wf, Option.isSome_some, am_rf_s, am_rf_n, ps_lit, nI_add, nI_1, pk_mul, ps_cl, ps_neg, ps_c0, ps_c1, ps_n01, ps_n11, ps_10, ps_b01, ps_e0, pu_Ine, pu_Ieq, pu_ne, pu_eq, am_k_n, am_k_i, am_k_r, am_k_u, am_k_l, am_sz_0, am_sz_i, am_sz_r, am_sz_u, am_sz_l, Option.toList_some, Option.toList_none, List.cons_append, List.nil_append, true_and, and_true, or_false, false_or, or_self, or_true, true_or, not_false_eq_true, not_true_eq_false, Classical.not_not, ne_eq, ps_e1, ps_em, ps_z, Nat.not_le, false_implies, true_implies, forall_const, ps_01, ps_1n, ps_0n, ps_m10, ps_m1n, lg_cmp_gt, lg_cmp_ge, lg_cmp_le, lg_cmp_lt, lg_cmp_eq, pu_rne, pu_req, pu_uro, RFc_n, Nat.reduceAdd, Nat.reduceMul, Nat.reduceLT, Nat.reduceLeDiff, Nat.reduceEqDiff, Nat.reduceSub]
end NS
