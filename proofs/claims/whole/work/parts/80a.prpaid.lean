/-! calls, one on each side: paid -/
section PE
variable {X : am_X} {d : Nat} {Q : Option Value → am_H → Prop} {n sl : Nat} {t : Nat → Nat × Nat} {I : Nat → Nat → Int32} {J : Nat → Nat → Int64} {F : Nat → Nat → Option Nat} {h : am_H}
variable {K : Nat → Int32} {N T : Nat} {lw : Nat → List CL}
theorem flt_grp {p : Nat → Bool} {N : Nat} : ∀ k, k ≤ N → flt p (grp allG N) k = grp p k := by
  intro k
  induction k with
  | zero => intro _; rfl
  | succ k ih =>
    intro h
    rw [flt, grp, ih (by omega), grp_alln N k (by omega)]
theorem lk2_c {f g : Nat → Int32} {w : Nat} (h : ∀ c, c < N → fFo K c = true → f c = g c) : lk2 K f w N N = lk2 K g w N N := by
  unfold lk2 lk1
  refine smI_c N (fun a ha => ?_)
  by_cases h1 : pL K a = true ∧ wyN K a = w
  · rw [if_pos h1, if_pos h1]
    refine smI_c N (fun b hb => ?_)
    by_cases h2 : pS K b = true ∧ wyN K b = w
    · rw [if_pos h2, if_pos h2, h a ha (pL_e.mp h1.1).1, h b hb (pS_e.mp h2.1).1]
    · rw [if_neg h2, if_neg h2]
  · rw [if_neg h1, if_neg h1]
/-- the score of the best way -/
def mxs (K : Nat → Int32) (N : Nat) (th : Nat → Int32) : Int32 := lk2 K th (bst (fun w => lk2 K th w N N) 23) N N
theorem mxs_c {f g : Nat → Int32} (h : ∀ c, c < N → fFo K c = true → f c = g c) : mxs K N f = mxs K N g := by
  unfold mxs
  have e : (fun w => lk2 K f w N N) = fun w => lk2 K g w N N := by
    funext w
    exact lk2_c h
  rw [e, lk2_c h]
/-- shuffled so often -/
def stp (FF : List Nat) (q0 : Nat) (f0 : Nat → Int32) : Nat → Nat × (Nat → Int32)
  | 0 => (q0, f0)
  | s + 1 => shf FF (FF.length - 1) (stp FF q0 f0 s).1 (stp FF q0 f0 s).2
theorem stp_q {FF : List Nat} {q0 : Nat} {f0 : Nat → Int32} (h : q0 < 1000003) : ∀ s, (stp FF q0 f0 s).1 < 1000003 := by
  intro s
  induction s with
  | zero => exact h
  | succ s ih => exact shf_q FF _ _ _ ih
theorem shf_nil {q : Nat} {f : Nat → Int32} : shf [] 0 q f = (q, f) := rfl
theorem stp_c {FF : List Nat} {q0 : Nat} {f g : Nat → Int32} {p : Nat → Prop} (hp : ∀ c, c ∈ FF → p c) (h : ∀ c, p c → f c = g c) : ∀ s, (stp FF q0 f s).1 = (stp FF q0 g s).1 ∧ ∀ c, p c → (stp FF q0 f s).2 c = (stp FF q0 g s).2 c := by
  intro s
  induction s with
  | zero => exact ⟨rfl, h⟩
  | succ s ih =>
    unfold stp
    cases hl : FF.length with
    | zero => exact ⟨ih.1, ih.2⟩
    | succ m =>
      rw [Nat.add_sub_cancel, ih.1]
      exact shf_c hp m _ _ _ (by omega) ih.2
def pdc (K : Nat → Int32) (N : Nat) (FF : List Nat) (q0 : Nat) (f0 : Nat → Int32) (bar : Int32) (s : Nat) : Nat := cnt (fun s => decide (bar ≤ mxs K N (stp FF q0 f0 (s + 1)).2)) s
/-- the class's sides, whatever was shuffled -/
theorem cl_paid {q0 S : Nat} {seed bar : Int32} {f0 : Nat → Int32} {I0 : Nat → Nat → Int32} (hK : KW K N T) (hW : WS n t F) (hq : q0 < 1000003) (hS : S ≤ 100)
    (hD : ∀ f, SDH (am_ro (am_ro I0 35 f) 39 (I0 39)) F 2 (flt (pL K) (grp allG N) N) (flt (pS K) (grp allG N) N) f)
    (hG : GH (I0 33 1) (I0 34) (grp (fFo K) N) 120)
    (h36 : ∀ p, (∀ c, p c = true → fFo K c = true) → ∀ i, i < (flt p (grp allG N) N).length → I0 36 ((flt p (grp allG N) N).getD i 0) = nI (wyN K ((flt p (grp allG N) N).getD i 0)) ∧ wyN K ((flt p (grp allG N) N).getD i 0) < 24)
    (hQ : ∀ f35 f39 f44, Q (some (.int (nI (pdc K N (grp (fFo K) N) q0 f0 bar S)))) (n, sl, t, am_ro (am_ro (am_ro I0 35 f35) 39 f39) 44 f44, J, F)) :
    ∀ f39 f44, f44 0 = nI q0 → am_W X (d + 4) 139 50 [some (.ref 0), some (.int (nI S)), some (.int seed), some (.int bar), some (.int 0), some (.int 0)] [] (n, sl, t, am_ro (am_ro (am_ro I0 35 f0) 39 f39) 44 f44, J, F) Q := by
  obtain ⟨hn, hn2, ht, hF⟩ := id hW
  refine lp0 (A := fun s => ∀ f39 f44, f44 0 = nI (stp (grp (fFo K) N) q0 f0 s).1 → am_W X (d + 4) 139 50 [some (.ref 0), some (.int (nI S)), some (.int seed), some (.int bar), some (.int (nI (pdc K N (grp (fFo K) N) q0 f0 bar s))), some (.int (nI s))] [] (n, sl, t, am_ro (am_ro (am_ro I0 35 (stp (grp (fFo K) N) q0 f0 s).2) 39 f39) 44 f44, J, F) Q) (N := S) ?_ ?_
  · intro s hs ih f39 f44 hf
    have z1 : s < 2000000 ∧ S < 2000000 := by omega
    have z2 : ¬ S ≤ s := by omega
    have hqs := stp_q (FF := grp (fFo K) N) (f0 := f0) hq s
    have e1 := fun Q => cl_shuffle (X := X) (d := d + 2) (Q := Q) (sl := sl) (J := J) (F := F) (I := am_ro (am_ro (am_ro I0 35 (stp (grp (fFo K) N) q0 f0 s).2) 39 f39) 44 f44) (FF := grp (fFo K) N) hW hqs (by rw [pu_rne (by decide), pu_rne (by decide), pu_rne (by decide), pu_rne (by decide), pu_rne (by decide), pu_rne (by decide)]; exact hG) (by rw [pu_req]; exact hf)
    have est : stp (grp (fFo K) N) q0 f0 (s + 1) = shf (grp (fFo K) N) ((grp (fFo K) N).length - 1) (stp (grp (fFo K) N) q0 f0 s).1 (stp (grp (fFo K) N) q0 f0 s).2 := rfl
    have e35 : am_ro (am_ro (am_ro I0 35 (stp (grp (fFo K) N) q0 f0 s).2) 39 f39) 44 f44 35 = (stp (grp (fFo K) N) q0 f0 s).2 := by rw [pu_rne (by decide), pu_rne (by decide), pu_req]
    have e44 : am_ro (am_ro (am_ro I0 35 (stp (grp (fFo K) N) q0 f0 s).2) 39 f39) 44 f44 44 = f44 := by rw [pu_req]
    simp only [e35, e44, ← est, pu_rol, pu_ror, Nat.reduceAdd, Nat.reduceMul, Nat.reduceLT, Nat.reduceLeDiff, Nat.reduceEqDiff, Nat.reduceSub] at e1
    have hD2 : SDH (am_ro (am_ro (am_ro I0 35 (stp (grp (fFo K) N) q0 f0 (s + 1)).2) 39 f39) 44 (upd f44 0 (nI (stp (grp (fFo K) N) q0 f0 (s + 1)).1))) F 2 (flt (pL K) (grp allG N) N) (flt (pS K) (grp allG N) N) (stp (grp (fFo K) N) q0 f0 (s + 1)).2 := by
      have := hD (stp (grp (fFo K) N) q0 f0 (s + 1)).2
      unfold SDH at this ⊢
      simp only [pu_rne, pu_req, ne_eq, not_false_eq_true, Nat.reduceAdd, Nat.reduceMul, Nat.reduceLT, Nat.reduceLeDiff, Nat.reduceEqDiff, Nat.reduceSub] at this ⊢
      exact this
    have e2 := fun Q => cl_score (X := X) (d := d + 1) (Q := Q) (sl := sl) (J := J) (wy := wyN K) hW hD2 (by
      simp only [pu_rne, ne_eq, not_false_eq_true, Nat.reduceAdd, Nat.reduceMul, Nat.reduceLT, Nat.reduceLeDiff, Nat.reduceEqDiff, Nat.reduceSub]
      exact h36 (pL K) (fun c h => (pL_e.mp h).1)) (by
      simp only [pu_rne, ne_eq, not_false_eq_true, Nat.reduceAdd, Nat.reduceMul, Nat.reduceLT, Nat.reduceLeDiff, Nat.reduceEqDiff, Nat.reduceSub]
      exact h36 (pS K) (fun c h => (pS_e.mp h).1))
    simp only [u2_lk] at e2
    have hb := bst_le (fun w => lk2 K (stp (grp (fFo K) N) q0 f0 (s + 1)).2 w N N) 23
    have z3 : bst (fun w => lk2 K (stp (grp (fFo K) N) q0 f0 (s + 1)).2 w N N) 23 < 2000000 ∧ bst (fun w => lk2 K (stp (grp (fFo K) N) q0 f0 (s + 1)).2 w N N) 23 < 24 := by omega
    have e3 : ∀ f, rw39 f (fun w => lk2 K (stp (grp (fFo K) N) q0 f0 (s + 1)).2 w N N) (bst (fun w => lk2 K (stp (grp (fFo K) N) q0 f0 (s + 1)).2 w N N) 23) = mxs K N (stp (grp (fFo K) N) q0 f0 (s + 1)).2 := fun f => if_pos z3.2
    have ih' := ih (rw39 f39 (fun w => lk2 K (stp (grp (fFo K) N) q0 f0 (s + 1)).2 w N N)) (upd f44 0 (nI (stp (grp (fFo K) N) q0 f0 (s + 1)).1)) (by rw [pu_eq])
    have ep : pdc K N (grp (fFo K) N) q0 f0 bar (s + 1) = pdc K N (grp (fFo K) N) q0 f0 bar s + (if decide (bar ≤ mxs K N (stp (grp (fFo K) N) q0 f0 (s + 1)).2) then 1 else 0) := rfl
    rw [ep] at ih'
    rw [r139_50]
    simp only [↓r139_52, ↓r139_53, ↓r139_56, ↓r139_57, ↓r139_60, ↓r139_61, ↓r139_64, ↓e1, q_le, q_lt, q_eq, q_e0, q_e1, q_0e, q_1e, ps_n0, q_0le, q_le0, q_0lt, q_m1e, q_em1, z1, z2, Bool.false_eq_true, hn, hn2, ht, hF, am_wt, am_wf, Option.isSome_some, am_rf_s, am_rf_n, ps_lit, nI_add, nI_1, pk_mul, ps_cl, ps_neg, ps_c0, ps_c1, ps_n01, ps_n11, ps_10, ps_b01, ps_e0, pu_Ine, pu_Ieq, pu_ne, pu_eq, am_k_n, am_k_i, am_k_r, am_k_u, am_k_l, am_sz_0, am_sz_i, am_sz_r, am_sz_u, am_sz_l, Option.toList_some, Option.toList_none, List.cons_append, List.nil_append, true_and, and_true, or_false, false_or, or_self, or_true, true_or, not_false_eq_true, not_true_eq_false, Classical.not_not, ne_eq, ps_e1, ps_em, ps_z, Nat.not_le, false_implies, true_implies, forall_const, ps_01, ps_1n, ps_0n, ps_m10, ps_m1n, lg_cmp_gt, lg_cmp_ge, lg_cmp_le, lg_cmp_lt, lg_cmp_eq, pu_rne, pu_req, pu_uro, RFc_n, Nat.reduceAdd, Nat.reduceMul, Nat.reduceLT, Nat.reduceLeDiff, Nat.reduceEqDiff, Nat.reduceSub]
    simp only [↓r139_67, ↓r139_68, ↓r139_71, ↓r139_74, ↓r139_75, ↓r139_78, ↓e2, Bool.false_eq_true, hn, hn2, ht, hF, am_wt, am_wf, Option.isSome_some, am_rf_s, am_rf_n, ps_lit, nI_add, nI_1, pk_mul, ps_cl, ps_neg, ps_c0, ps_c1, ps_n01, ps_n11, ps_10, ps_b01, ps_e0, pu_Ine, pu_Ieq, pu_ne, pu_eq, am_k_n, am_k_i, am_k_r, am_k_u, am_k_l, am_sz_0, am_sz_i, am_sz_r, am_sz_u, am_sz_l, Option.toList_some, Option.toList_none, List.cons_append, List.nil_append, true_and, and_true, or_false, false_or, or_self, or_true, true_or, not_false_eq_true, not_true_eq_false, Classical.not_not, ne_eq, ps_e1, ps_em, ps_z, Nat.not_le, false_implies, true_implies, forall_const, ps_01, ps_1n, ps_0n, ps_m10, ps_m1n, lg_cmp_gt, lg_cmp_ge, lg_cmp_le, lg_cmp_lt, lg_cmp_eq, pu_rne, pu_req, pu_uro, RFc_n, Nat.reduceAdd, Nat.reduceMul, Nat.reduceLT, Nat.reduceLeDiff, Nat.reduceEqDiff, Nat.reduceSub]
    by_cases c : bar ≤ mxs K N (stp (grp (fFo K) N) q0 f0 (s + 1)).2
    · rw [if_pos (decide_eq_true c)] at ih'
      simp only [↓r139_81, ↓r139_81k, ↓r139_82, ↓r139_83, ↓r139_86, ↓r139_89, ↓r139_92, e3, z3, Int32.not_lt.mpr c, pu_rol, pu_ror, Bool.false_eq_true, hn, hn2, ht, hF, am_wt, am_wf, Option.isSome_some, am_rf_s, am_rf_n, ps_lit, nI_add, nI_1, pk_mul, ps_cl, ps_neg, ps_c0, ps_c1, ps_n01, ps_n11, ps_10, ps_b01, ps_e0, pu_Ine, pu_Ieq, pu_ne, pu_eq, am_k_n, am_k_i, am_k_r, am_k_u, am_k_l, am_sz_0, am_sz_i, am_sz_r, am_sz_u, am_sz_l, Option.toList_some, Option.toList_none, List.cons_append, List.nil_append, true_and, and_true, or_false, false_or, or_self, or_true, true_or, not_false_eq_true, not_true_eq_false, Classical.not_not, ne_eq, ps_e1, ps_em, ps_z, Nat.not_le, false_implies, true_implies, forall_const, ps_01, ps_1n, ps_0n, ps_m10, ps_m1n, lg_cmp_gt, lg_cmp_ge, lg_cmp_le, lg_cmp_lt, lg_cmp_eq, pu_rne, pu_req, pu_uro, RFc_n, Nat.reduceAdd, Nat.reduceMul, Nat.reduceLT, Nat.reduceLeDiff, Nat.reduceEqDiff, Nat.reduceSub]
      exact ih'
    · rw [if_neg (by simpa using c), Nat.add_zero] at ih'
      simp only [↓r139_81, ↓r139_81k, ↓r139_82, ↓r139_83, ↓r139_86, ↓r139_89, ↓r139_92, e3, z3, Int32.not_le.mp c, pu_rol, pu_ror, Bool.false_eq_true, hn, hn2, ht, hF, am_wt, am_wf, Option.isSome_some, am_rf_s, am_rf_n, ps_lit, nI_add, nI_1, pk_mul, ps_cl, ps_neg, ps_c0, ps_c1, ps_n01, ps_n11, ps_10, ps_b01, ps_e0, pu_Ine, pu_Ieq, pu_ne, pu_eq, am_k_n, am_k_i, am_k_r, am_k_u, am_k_l, am_sz_0, am_sz_i, am_sz_r, am_sz_u, am_sz_l, Option.toList_some, Option.toList_none, List.cons_append, List.nil_append, true_and, and_true, or_false, false_or, or_self, or_true, true_or, not_false_eq_true, not_true_eq_false, Classical.not_not, ne_eq, ps_e1, ps_em, ps_z, Nat.not_le, false_implies, true_implies, forall_const, ps_01, ps_1n, ps_0n, ps_m10, ps_m1n, lg_cmp_gt, lg_cmp_ge, lg_cmp_le, lg_cmp_lt, lg_cmp_eq, pu_rne, pu_req, pu_uro, RFc_n, Nat.reduceAdd, Nat.reduceMul, Nat.reduceLT, Nat.reduceLeDiff, Nat.reduceEqDiff, Nat.reduceSub]
      exact ih'
  · intro f39 f44 hf
    rw [r139_50]
    simp only [↓r139_52, ↓r139_53, ↓r139_95, ↓r139_97, Int32.le_refl, Bool.false_eq_true, hn, hn2, ht, hF, am_wt, am_wf, Option.isSome_some, am_rf_s, am_rf_n, ps_lit, nI_add, nI_1, pk_mul, ps_cl, ps_neg, ps_c0, ps_c1, ps_n01, ps_n11, ps_10, ps_b01, ps_e0, pu_Ine, pu_Ieq, pu_ne, pu_eq, am_k_n, am_k_i, am_k_r, am_k_u, am_k_l, am_sz_0, am_sz_i, am_sz_r, am_sz_u, am_sz_l, Option.toList_some, Option.toList_none, List.cons_append, List.nil_append, true_and, and_true, or_false, false_or, or_self, or_true, true_or, not_false_eq_true, not_true_eq_false, Classical.not_not, ne_eq, ps_e1, ps_em, ps_z, Nat.not_le, false_implies, true_implies, forall_const, ps_01, ps_1n, ps_0n, ps_m10, ps_m1n, lg_cmp_gt, lg_cmp_ge, lg_cmp_le, lg_cmp_lt, lg_cmp_eq, pu_rne, pu_req, pu_uro, RFc_n, Nat.reduceAdd, Nat.reduceMul, Nat.reduceLT, Nat.reduceLeDiff, Nat.reduceEqDiff, Nat.reduceSub]
    exact hQ _ _ _
end PE
