/-! calls, one on each side: drawn -/
section DR
variable {X : am_X} {d : Nat} {Q : Option Value → am_H → Prop} {n sl : Nat} {t : Nat → Nat × Nat} {I : Nat → Nat → Int32} {J : Nat → Nat → Int64} {F : Nat → Nat → Option Nat} {h : am_H}
variable {K : Nat → Int32} {N T : Nat} {lw : Nat → List CL} {LL SS FF : List Nat} {tf wf : Nat → Int32}
def nrs (x : Int32) : Int32 := if (0 : Int32) < (if x < nI 23 then x else nI 23) then (if x < nI 23 then x else nI 23) else 0
theorem c_saddg {c r : Nat} {sd th : Int32} (hW : WS n t F) (hr : F 28 8 = some r) (hr2 : r = 2 ∨ r = 42) (hc : c < 120) (hth : ¬ th = -1) (l1 : LL.length < 120) (l2 : SS.length < 120) (l3 : FF.length < 120) : am_W X (d + 1) 123 0 [some (.ref 28), some (.int (nI c)), some (.int sd), some (.int th), none] [] (n, sl, t, sdI I LL SS FF tf wf, J, F) Q ↔ Q none (n, sl, t, sdI I (LL ++ if sd = 1 then [c] else []) (SS ++ if sd = nI 2 then [c] else []) (FF ++ [c]) (upd tf c th) (upd wf c (nrs (I r (15 * c + 5)))), J, F) := by
  obtain ⟨hn, hn2, ht, hF⟩ := id hW
  have g1 : r < n := by rcases hr2 with e | e <;> rw [e] <;> exact hn _ (by decide)
  have g2 : r < 1000000 := by omega
  have g3 : t r = (20, 1800) := by rcases hr2 with e | e <;> rw [e] <;> exact ht _ (by decide)
  have g4 : ∀ f g, sdI I LL SS FF f g r = I r := fun f g => sd_n (by omega)
  have z1 : c < 2000000 ∧ c ≤ 119 ∧ c < 120 ∧ 15 * c + 5 < 2000000 ∧ 15 * c + 5 < 1800 := by omega
  have z2 : ¬ 1800 ≤ 15 * c + 5 := by omega
  have e0 : c * 15 = 15 * c := by omega
  generalize hx : I r (15 * c + 5) = x
  have e1 := fun Q => c_ad33 (X := X) (d := d) (Q := Q) (sl := sl) (J := J) (I := I) (LL := LL) (SS := SS) (FF := FF) (tf := upd tf c th) (wf := upd wf c (nrs x)) (c := c) hW l3
  have e2 := fun Q => c_ad29 (X := X) (d := d) (Q := Q) (sl := sl) (J := J) (I := I) (LL := LL) (SS := SS) (FF := FF ++ [c]) (tf := upd tf c th) (wf := upd wf c (nrs x)) (c := c) hW l1
  have e3 := fun Q => c_ad31 (X := X) (d := d) (Q := Q) (sl := sl) (J := J) (I := I) (LL := LL) (SS := SS) (FF := FF ++ [c]) (tf := upd tf c th) (wf := upd wf c (nrs x)) (c := c) hW l2
  have e4 : ∀ Q, am_W X d 97 0 [some (.int x), some (.int 0), some (.int (nI 23))] [] (n, sl, t, sdI I LL SS FF (upd tf c th) wf, J, F) Q ↔ Q (some (.int (nrs x))) (n, sl, t, sdI I LL SS FF (upd tf c th) wf, J, F) := fun Q => c_nearest
  by_cases s1 : sd = 1
  · have s2 : ¬ (1 : Int32) = nI 2 := by decide
    simp only [↓r123_0, ↓r123_1, ↓r123_3, ↓r123_4, ↓r123_5, ↓r123_6, ↓r123_8, ↓r123_9, ↓r123_10, ↓r123_13, ↓r123_14, ↓r123_15, ↓r123_17, ↓r123_20, ↓r123_23, ↓r123_25, ↓r123_26, ↓r123_29, ↓r123_29k, ↓r123_30, ↓r123_33, ↓r123_34, ↓r123_35, ↓r123_38, ↓r123_39, ↓r123_40, ↓r123_41, ↓r123_42, ↓r123_45, ↓r123_46, ↓r123_47, ↓r123_50, ↓r123_52, ↓r123_52k, ↓r123_53, ↓r123_54, ↓r123_56, ↓r123_59, ↓r123_60, ↓r123_61, ↓r123_64, ↓r123_65, ↓r123_68, ↓r123_69, ↓r123_70, ↓r123_73, ↓r123_74, ↓r123_77, ↓r123_78, ↓r123_81, ↓r123_84, ↓r123_85, ↓r123_86, ↓r123_89, ↓r123_90, ↓r123_93, ↓r123_94, ↓r123_97, ↓c_within, ↓e4, ↓e1, ↓e2, ↓e3, q_le, q_lt, q_eq, q_e0, q_e1, q_0e, q_1e, ps_n0, q_0le, q_le0, q_0lt, q_m1e, q_em1, hth, z1, z2, e0, hr, g1, g2, g3, g4, hx, s1, s2, pu_uI, sd_35, sd_36, sd_a35, sd_a36, and_self, if_true, if_false, List.append_nil, Bool.false_eq_true, hn, hn2, ht, hF, am_wt, am_wf, Option.isSome_some, am_rf_s, am_rf_n, ps_lit, nI_add, nI_1, pk_mul, ps_cl, ps_neg, ps_c0, ps_c1, ps_n01, ps_n11, ps_10, ps_b01, ps_e0, pu_Ine, pu_Ieq, pu_ne, pu_eq, am_k_n, am_k_i, am_k_r, am_k_u, am_k_l, am_sz_0, am_sz_i, am_sz_r, am_sz_u, am_sz_l, Option.toList_some, Option.toList_none, List.cons_append, List.nil_append, true_and, and_true, or_false, false_or, or_self, or_true, true_or, not_false_eq_true, not_true_eq_false, Classical.not_not, ne_eq, ps_e1, ps_em, ps_z, Nat.not_le, false_implies, true_implies, forall_const, ps_01, ps_1n, ps_0n, ps_m10, ps_m1n, lg_cmp_gt, lg_cmp_ge, lg_cmp_le, lg_cmp_lt, lg_cmp_eq, pu_rne, pu_req, pu_uro, RFc_n, Nat.reduceAdd, Nat.reduceMul, Nat.reduceLT, Nat.reduceLeDiff, Nat.reduceEqDiff, Nat.reduceSub]
  · by_cases s2 : sd = nI 2
    · have s3 : ¬ nI 2 = 1 := by decide
      simp only [↓r123_0, ↓r123_1, ↓r123_3, ↓r123_4, ↓r123_5, ↓r123_6, ↓r123_8, ↓r123_9, ↓r123_10, ↓r123_13, ↓r123_14, ↓r123_15, ↓r123_17, ↓r123_20, ↓r123_23, ↓r123_25, ↓r123_26, ↓r123_29, ↓r123_29k, ↓r123_30, ↓r123_33, ↓r123_34, ↓r123_35, ↓r123_38, ↓r123_39, ↓r123_40, ↓r123_41, ↓r123_42, ↓r123_45, ↓r123_46, ↓r123_47, ↓r123_50, ↓r123_52, ↓r123_52k, ↓r123_53, ↓r123_54, ↓r123_56, ↓r123_59, ↓r123_60, ↓r123_61, ↓r123_64, ↓r123_65, ↓r123_68, ↓r123_69, ↓r123_70, ↓r123_73, ↓r123_74, ↓r123_77, ↓r123_78, ↓r123_81, ↓r123_84, ↓r123_85, ↓r123_86, ↓r123_89, ↓r123_90, ↓r123_93, ↓r123_94, ↓r123_97, ↓c_within, ↓e4, ↓e1, ↓e2, ↓e3, q_le, q_lt, q_eq, q_e0, q_e1, q_0e, q_1e, ps_n0, q_0le, q_le0, q_0lt, q_m1e, q_em1, hth, z1, z2, e0, hr, g1, g2, g3, g4, hx, s2, s3, pu_uI, sd_35, sd_36, sd_a35, sd_a36, and_self, if_true, if_false, List.append_nil, Bool.false_eq_true, hn, hn2, ht, hF, am_wt, am_wf, Option.isSome_some, am_rf_s, am_rf_n, ps_lit, nI_add, nI_1, pk_mul, ps_cl, ps_neg, ps_c0, ps_c1, ps_n01, ps_n11, ps_10, ps_b01, ps_e0, pu_Ine, pu_Ieq, pu_ne, pu_eq, am_k_n, am_k_i, am_k_r, am_k_u, am_k_l, am_sz_0, am_sz_i, am_sz_r, am_sz_u, am_sz_l, Option.toList_some, Option.toList_none, List.cons_append, List.nil_append, true_and, and_true, or_false, false_or, or_self, or_true, true_or, not_false_eq_true, not_true_eq_false, Classical.not_not, ne_eq, ps_e1, ps_em, ps_z, Nat.not_le, false_implies, true_implies, forall_const, ps_01, ps_1n, ps_0n, ps_m10, ps_m1n, lg_cmp_gt, lg_cmp_ge, lg_cmp_le, lg_cmp_lt, lg_cmp_eq, pu_rne, pu_req, pu_uro, RFc_n, Nat.reduceAdd, Nat.reduceMul, Nat.reduceLT, Nat.reduceLeDiff, Nat.reduceEqDiff, Nat.reduceSub]
    · simp only [↓r123_0, ↓r123_1, ↓r123_3, ↓r123_4, ↓r123_5, ↓r123_6, ↓r123_8, ↓r123_9, ↓r123_10, ↓r123_13, ↓r123_14, ↓r123_15, ↓r123_17, ↓r123_20, ↓r123_23, ↓r123_25, ↓r123_26, ↓r123_29, ↓r123_29k, ↓r123_30, ↓r123_33, ↓r123_34, ↓r123_35, ↓r123_38, ↓r123_39, ↓r123_40, ↓r123_41, ↓r123_42, ↓r123_45, ↓r123_46, ↓r123_47, ↓r123_50, ↓r123_52, ↓r123_52k, ↓r123_53, ↓r123_54, ↓r123_56, ↓r123_59, ↓r123_60, ↓r123_61, ↓r123_64, ↓r123_65, ↓r123_68, ↓r123_69, ↓r123_70, ↓r123_73, ↓r123_74, ↓r123_77, ↓r123_78, ↓r123_81, ↓r123_84, ↓r123_85, ↓r123_86, ↓r123_89, ↓r123_90, ↓r123_93, ↓r123_94, ↓r123_97, ↓c_within, ↓e4, ↓e1, ↓e2, ↓e3, q_le, q_lt, q_eq, q_e0, q_e1, q_0e, q_1e, ps_n0, q_0le, q_le0, q_0lt, q_m1e, q_em1, hth, z1, z2, e0, hr, g1, g2, g3, g4, hx, s1, s2, pu_uI, sd_35, sd_36, sd_a35, sd_a36, and_self, if_true, if_false, List.append_nil, Bool.false_eq_true, hn, hn2, ht, hF, am_wt, am_wf, Option.isSome_some, am_rf_s, am_rf_n, ps_lit, nI_add, nI_1, pk_mul, ps_cl, ps_neg, ps_c0, ps_c1, ps_n01, ps_n11, ps_10, ps_b01, ps_e0, pu_Ine, pu_Ieq, pu_ne, pu_eq, am_k_n, am_k_i, am_k_r, am_k_u, am_k_l, am_sz_0, am_sz_i, am_sz_r, am_sz_u, am_sz_l, Option.toList_some, Option.toList_none, List.cons_append, List.nil_append, true_and, and_true, or_false, false_or, or_self, or_true, true_or, not_false_eq_true, not_true_eq_false, Classical.not_not, ne_eq, ps_e1, ps_em, ps_z, Nat.not_le, false_implies, true_implies, forall_const, ps_01, ps_1n, ps_0n, ps_m10, ps_m1n, lg_cmp_gt, lg_cmp_ge, lg_cmp_le, lg_cmp_lt, lg_cmp_eq, pu_rne, pu_req, pu_uro, RFc_n, Nat.reduceAdd, Nat.reduceMul, Nat.reduceLT, Nat.reduceLeDiff, Nat.reduceEqDiff, Nat.reduceSub]
def wTa (g : Nat → Int32) (c : Nat) : Bool := decide (g c = 0)
def wNo (g : Nat → Int32) (c : Nat) : Bool := !decide (g c = 0)
def dwI (I : Nat → Nat → Int32) (g h : Nat → Int32) (l : List Nat) (k : Nat) : Nat → Nat → Int32 := sdI I (flt (wTa g) l k) (flt (wNo g) l k) (flt allG l k) (twr (I 35) allG h l k) (twr (I 36) allG (fun c => nrs (I 42 (15 * c + 5))) l k)
theorem cl_drawn {x : Int32} {M : Nat} {g h : Nat → Int32} {R : Prop} (hW : WS n t F) (hM : M ≤ 120) (hs : I 41 2 = nI M) (h1 : ∀ c, c < M → I 43 (3 * c + 1) = g c) (h2 : ∀ c, c < M → I 43 (3 * c + 2) = h c ∧ ¬ h c = -1) (hR : ∀ l3 : Option Value, am_W X (d + 4) 156 94 [some (.ref 0), some (.int x), some (.int (nI M)), l3] [] (n, sl, t, dwI I g h (grp allG M) M, J, am_uF F 28 8 (some 42)) Q ↔ R) : ∀ l3 : Option Value, am_W X (d + 4) 156 41 [some (.ref 0), some (.int x), some (.int 0), l3] [] (n, sl, t, dwI I g h (grp allG M) 0, J, am_uF F 28 8 (some 42)) Q ↔ R := by
  have hW' := WS_28 (r := 42) hW
  obtain ⟨hn, hn2, ht, hF⟩ := id hW'
  have hr8 : am_uF F 28 8 (some 42) 28 8 = some 42 := by rw [pu_Feq, vu_eq]
  refine lp0 (A := fun c => ∀ l3 : Option Value, am_W X (d + 4) 156 41 [some (.ref 0), some (.int x), some (.int (nI c)), l3] [] (n, sl, t, dwI I g h (grp allG M) c, J, am_uF F 28 8 (some 42)) Q ↔ R) (N := M) ?_ ?_
  · intro c hc ih l3
    have z1 : c < 2000000 ∧ M < 2000000 ∧ c < 120 := by omega
    have z2 : ¬ M ≤ c := by omega
    have nn : ∀ a, a < 29 ∨ 36 < a → dwI I g h (grp allG M) c a = I a := fun a => sd_n
    have n41 := nn 41 (by decide)
    have n43 := nn 43 (by decide)
    have hl := grp_alln M c hc
    have e1 := fun w hw Q => c_wat (X := X) (d := d + 2) (Q := Q) (sl := sl) (J := J) (F := am_uF F 28 8 (some 42)) (I := dwI I g h (grp allG M) c) (c := c) (w := w) hW' (by omega) hw
    have e11 := e1 1 (by decide)
    have e12 := e1 2 (by decide)
    simp only [n43, h1 c hc, (h2 c hc).1, ps_n1] at e11 e12
    have e2 := fun sd Q => c_saddg (X := X) (d := d + 2) (Q := Q) (sl := sl) (J := J) (F := am_uF F 28 8 (some 42)) (I := I) (LL := flt (wTa g) (grp allG M) c) (SS := flt (wNo g) (grp allG M) c) (FF := flt allG (grp allG M) c) (tf := twr (I 35) allG h (grp allG M) c) (wf := twr (I 36) allG (fun c => nrs (I 42 (15 * c + 5))) (grp allG M) c) (c := c) (r := 42) (sd := sd) (th := h c) hW' hr8 (Or.inr rfl) (by omega) (h2 c hc).2 (by have := flt_le (wTa g) (grp allG M) c; omega) (by have := flt_le (wNo g) (grp allG M) c; omega) (by have := flt_le allG (grp allG M) c; omega)
    have x3 : dwI I g h (grp allG M) (c + 1) = sdI I (flt (wTa g) (grp allG M) c ++ if wTa g c = true then [c] else []) (flt (wNo g) (grp allG M) c ++ if wNo g c = true then [c] else []) (flt allG (grp allG M) c ++ [c]) (upd (twr (I 35) allG h (grp allG M) c) c (h c)) (upd (twr (I 36) allG (fun c => nrs (I 42 (15 * c + 5))) (grp allG M) c) c (nrs (I 42 (15 * c + 5)))) := by
      unfold dwI
      rw [flt, flt, flt, twr, twr, hl, if_pos (show allG c = true from rfl), if_pos (show allG c = true from rfl), if_pos (show allG c = true from rfl)]
    have ih' := ih (some (.int (if wTa g c = true then 1 else nI 2)))
    rw [x3] at ih'
    have s2 : ¬ (1 : Int32) = nI 2 := by decide
    have s3 : ¬ nI 2 = (1 : Int32) := by decide
    rw [r156_41]
    by_cases q : g c = 0
    · have q1 : wTa g c = true := decide_eq_true q
      have q2 : wNo g c = false := by unfold wNo; simp [q]
      rw [q1, q2] at ih'
      have e3 := e2 1
      rw [if_pos rfl, if_neg s2] at e3
      simp only [if_true, Bool.false_eq_true, if_false] at ih'
      unfold dwI at e11 e12 n41 ⊢
      simp only [↓r156_42, ↓r156_43, ↓r156_46, ↓r156_49, ↓r156_52, ↓r156_53, ↓r156_56, ↓r156_57, ↓r156_58, ↓r156_61, ↓r156_64, ↓r156_65, ↓r156_68, ↓r156_69, ↓r156_70, ↓r156_71, ↓r156_74, ↓r156_75, ↓r156_76, ↓r156_77, ↓r156_80, ↓r156_81, ↓r156_82, ↓r156_85, ↓r156_88, ↓r156_91, ↓e11, ↓e12, ↓e3, q_le, q_lt, q_eq, q_e0, q_e1, q_0e, q_1e, ps_n0, q_0le, q_le0, q_0lt, q_m1e, q_em1, n41, hs, z1, z2, q, Bool.false_eq_true, hn, hn2, ht, hF, am_wt, am_wf, Option.isSome_some, am_rf_s, am_rf_n, ps_lit, nI_add, nI_1, pk_mul, ps_cl, ps_neg, ps_c0, ps_c1, ps_n01, ps_n11, ps_10, ps_b01, ps_e0, pu_Ine, pu_Ieq, pu_ne, pu_eq, am_k_n, am_k_i, am_k_r, am_k_u, am_k_l, am_sz_0, am_sz_i, am_sz_r, am_sz_u, am_sz_l, Option.toList_some, Option.toList_none, List.cons_append, List.nil_append, true_and, and_true, or_false, false_or, or_self, or_true, true_or, not_false_eq_true, not_true_eq_false, Classical.not_not, ne_eq, ps_e1, ps_em, ps_z, Nat.not_le, false_implies, true_implies, forall_const, ps_01, ps_1n, ps_0n, ps_m10, ps_m1n, lg_cmp_gt, lg_cmp_ge, lg_cmp_le, lg_cmp_lt, lg_cmp_eq, pu_rne, pu_req, pu_uro, RFc_n, Nat.reduceAdd, Nat.reduceMul, Nat.reduceLT, Nat.reduceLeDiff, Nat.reduceEqDiff, Nat.reduceSub]
      exact ih'
    · have q1 : wTa g c = false := decide_eq_false q
      have q2 : wNo g c = true := by unfold wNo; simp [q]
      rw [q1, q2] at ih'
      have e3 := e2 (nI 2)
      rw [if_neg s3, if_pos rfl] at e3
      simp only [if_true, Bool.false_eq_true, if_false] at ih'
      unfold dwI at e11 e12 n41 ⊢
      simp only [↓r156_42, ↓r156_43, ↓r156_46, ↓r156_49, ↓r156_52, ↓r156_53, ↓r156_56, ↓r156_57, ↓r156_58, ↓r156_61, ↓r156_64, ↓r156_65, ↓r156_68, ↓r156_69, ↓r156_70, ↓r156_71, ↓r156_74, ↓r156_75, ↓r156_76, ↓r156_77, ↓r156_80, ↓r156_81, ↓r156_82, ↓r156_85, ↓r156_88, ↓r156_91, ↓e11, ↓e12, ↓e3, q_le, q_lt, q_eq, q_e0, q_e1, q_0e, q_1e, ps_n0, q_0le, q_le0, q_0lt, q_m1e, q_em1, n41, hs, z1, z2, q, Bool.false_eq_true, hn, hn2, ht, hF, am_wt, am_wf, Option.isSome_some, am_rf_s, am_rf_n, ps_lit, nI_add, nI_1, pk_mul, ps_cl, ps_neg, ps_c0, ps_c1, ps_n01, ps_n11, ps_10, ps_b01, ps_e0, pu_Ine, pu_Ieq, pu_ne, pu_eq, am_k_n, am_k_i, am_k_r, am_k_u, am_k_l, am_sz_0, am_sz_i, am_sz_r, am_sz_u, am_sz_l, Option.toList_some, Option.toList_none, List.cons_append, List.nil_append, true_and, and_true, or_false, false_or, or_self, or_true, true_or, not_false_eq_true, not_true_eq_false, Classical.not_not, ne_eq, ps_e1, ps_em, ps_z, Nat.not_le, false_implies, true_implies, forall_const, ps_01, ps_1n, ps_0n, ps_m10, ps_m1n, lg_cmp_gt, lg_cmp_ge, lg_cmp_le, lg_cmp_lt, lg_cmp_eq, pu_rne, pu_req, pu_uro, RFc_n, Nat.reduceAdd, Nat.reduceMul, Nat.reduceLT, Nat.reduceLeDiff, Nat.reduceEqDiff, Nat.reduceSub]
      exact ih'
  · intro l3
    have n41 : dwI I g h (grp allG M) M 41 = I 41 := sd_n (by decide)
    rw [r156_41]
    simp only [↓r156_42, ↓r156_43, ↓r156_46, ↓r156_49, n41, hs, Int32.le_refl, Bool.false_eq_true, hn, hn2, ht, hF, am_wt, am_wf, Option.isSome_some, am_rf_s, am_rf_n, ps_lit, nI_add, nI_1, pk_mul, ps_cl, ps_neg, ps_c0, ps_c1, ps_n01, ps_n11, ps_10, ps_b01, ps_e0, pu_Ine, pu_Ieq, pu_ne, pu_eq, am_k_n, am_k_i, am_k_r, am_k_u, am_k_l, am_sz_0, am_sz_i, am_sz_r, am_sz_u, am_sz_l, Option.toList_some, Option.toList_none, List.cons_append, List.nil_append, true_and, and_true, or_false, false_or, or_self, or_true, true_or, not_false_eq_true, not_true_eq_false, Classical.not_not, ne_eq, ps_e1, ps_em, ps_z, Nat.not_le, false_implies, true_implies, forall_const, ps_01, ps_1n, ps_0n, ps_m10, ps_m1n, lg_cmp_gt, lg_cmp_ge, lg_cmp_le, lg_cmp_lt, lg_cmp_eq, pu_rne, pu_req, pu_uro, RFc_n, Nat.reduceAdd, Nat.reduceMul, Nat.reduceLT, Nat.reduceLeDiff, Nat.reduceEqDiff, Nat.reduceSub]
    exact hR _
theorem sh_r {m f : Nat} (hm : m < 256) (hf : f < 8) : nI m >>> (nI f &&& nI 31) &&& 1 = nI (m / 2 ^ f % 2) := by
  have e : nI m >>> (nI f &&& nI 31) = nI (m / 2 ^ f) := by
    match f, hf with
    | 0, _ => exact pk_shrN (by omega) _ 0 (by decide)
    | 1, _ => exact pk_shrN (by omega) _ 1 (by decide)
    | 2, _ => exact pk_shrN (by omega) _ 2 (by decide)
    | 3, _ => exact pk_shrN (by omega) _ 3 (by decide)
    | 4, _ => exact pk_shrN (by omega) _ 4 (by decide)
    | 5, _ => exact pk_shrN (by omega) _ 5 (by decide)
    | 6, _ => exact pk_shrN (by omega) _ 6 (by decide)
    | 7, _ => exact pk_shrN (by omega) _ 7 (by decide)
  rw [e]
  show nI (m / 2 ^ f) &&& nI 1 = _
  rw [nI_and, Nat.and_one_is_mod]
/-- alike in the facts below j -/
def awk (wf : Nat → Int32) (m a b : Nat) : Nat → Bool
  | 0 => true
  | j + 1 => awk wf m a b j && (decide (m / 2 ^ j % 2 = 0) || decide (wf (8 * a + j) = wf (8 * b + j)))
theorem awk_e {wf : Nat → Int32} {m a b : Nat} : ∀ j, awk wf m a b j = true ↔ ∀ i, i < j → m.testBit i = true → wf (8 * a + i) = wf (8 * b + i) := by
  intro j
  induction j with
  | zero => simp [awk]
  | succ j ih =>
    rw [awk, Bool.and_eq_true, ih, Bool.or_eq_true, decide_eq_true_eq, decide_eq_true_eq]
    constructor
    · intro h i hi ht
      by_cases e : i = j
      · subst e
        rcases h.2 with q | q
        · rw [Nat.testBit_eq_decide_div_mod_eq, q] at ht
          simp at ht
        · exact q
      · exact h.1 i (by omega) ht
    · intro h
      refine ⟨fun i hi => h i (by omega), ?_⟩
      by_cases q : m / 2 ^ j % 2 = 0
      · exact Or.inl q
      · refine Or.inr (h j (by omega) ?_)
        rw [Nat.testBit_eq_decide_div_mod_eq, decide_eq_true_eq]
        omega
theorem alq_e {f : Nat → Int32} {m a b : Nat} (hm : m < 256) : alq f m a b = true ↔ ∀ i, i < 8 → m.testBit i = true → f (15 * a + i) = f (15 * b + i) := by
  have hm' : ∀ i, 8 ≤ i → m.testBit i = false := fun i hi => Nat.testBit_lt_two_pow (Nat.lt_of_lt_of_le hm (by rw [show (256 : Nat) = 2 ^ 8 from rfl]; exact Nat.pow_le_pow_right (by decide) hi))
  unfold alq alk
  rw [decide_eq_true_eq]
  constructor
  · intro h i hi ht
    have := congrArg (fun x => x.testBit i) h
    simp only [Nat.testBit_and, bN_t, ht, hi, decide_true, Bool.true_and, Bool.and_true, decide_eq_true_eq] at this
    exact this
  · intro h
    apply Nat.eq_of_testBit_eq
    intro i
    rw [Nat.testBit_and, bN_t]
    by_cases hi : i < 8
    · cases ht : m.testBit i with
      | false => rw [Bool.and_false]
      | true => simp [hi, h i hi ht]
    · rw [hm' i (by omega), Bool.and_false]
theorem m_were {m a b : Nat} (hW : WS n t F) (hm : m < 256) (ha : a < 120) (hb : b < 120) : am_W X d 290 0 [some (.ref 47), some (.int (nI a)), some (.int (nI b)), some (.int (nI m)), none, none] [] (n, sl, t, I, J, F) Q ↔ Q (some (.int (if awk (I 72) m a b 8 = true then 1 else 0))) (n, sl, t, I, J, F) := by
  obtain ⟨hn, hn2, ht, hF⟩ := id hW
  have hx : am_W X d 290 6 [some (.ref 47), some (.int (nI a)), some (.int (nI b)), some (.int (nI m)), some (.int (if awk (I 72) m a b 0 = true then 1 else 0)), some (.int 0)] [] (n, sl, t, I, J, F) Q ↔ Q (some (.int (if awk (I 72) m a b 8 = true then 1 else 0))) (n, sl, t, I, J, F) := by
    refine lp0 (A := fun j => am_W X d 290 6 [some (.ref 47), some (.int (nI a)), some (.int (nI b)), some (.int (nI m)), some (.int (if awk (I 72) m a b j = true then 1 else 0)), some (.int (nI j))] [] (n, sl, t, I, J, F) Q ↔ Q (some (.int (if awk (I 72) m a b 8 = true then 1 else 0))) (n, sl, t, I, J, F)) (N := 8) ?_ ?_
    · intro j hj ih
      have z1 : j < 2000000 ∧ 8 * a + j < 2000000 ∧ 8 * b + j < 2000000 ∧ 8 * a + j < 960 ∧ 8 * b + j < 960 := by omega
      have z2 : ¬ 8 ≤ j := by omega
      have e1 := sh_r hm hj
      have z3 : m / 2 ^ j % 2 < 2000000 := by have := Nat.mod_lt (m / 2 ^ j) (show 2 > 0 by decide); omega
      rw [awk] at ih
      rw [r290_6]
      by_cases q0 : awk (I 72) m a b j = true
      · by_cases q1 : m / 2 ^ j % 2 = 0
        · rw [q0, Bool.true_and, decide_eq_true q1, Bool.true_or] at ih
          simp only [↓r290_8, ↓r290_10, ↓r290_13, ↓r290_15, ↓r290_18, ↓r290_19, ↓r290_21, ↓r290_22, ↓r290_23, ↓r290_24, ↓r290_27, ↓r290_28, ↓r290_31, ↓r290_33, ↓r290_34, ↓r290_35, ↓r290_37, ↓r290_38, ↓r290_38k, ↓r290_39, ↓r290_40, ↓r290_43, ↓r290_45, ↓r290_46, ↓r290_47, ↓r290_49, ↓r290_50, ↓r290_50k, ↓r290_51, ↓r290_54, ↓r290_55, ↓r290_58, ↓r290_59, ↓r290_61, ↓r290_64, q_le, q_lt, q_eq, q_e0, q_e1, q_0e, q_1e, ps_n0, q_0le, q_le0, q_0lt, q_m1e, q_em1, e1, q0, q1, z1, z2, z3, if_true, Bool.false_eq_true, hn, hn2, ht, hF, am_wt, am_wf, Option.isSome_some, am_rf_s, am_rf_n, ps_lit, nI_add, nI_1, pk_mul, ps_cl, ps_neg, ps_c0, ps_c1, ps_n01, ps_n11, ps_10, ps_b01, ps_e0, pu_Ine, pu_Ieq, pu_ne, pu_eq, am_k_n, am_k_i, am_k_r, am_k_u, am_k_l, am_sz_0, am_sz_i, am_sz_r, am_sz_u, am_sz_l, Option.toList_some, Option.toList_none, List.cons_append, List.nil_append, true_and, and_true, or_false, false_or, or_self, or_true, true_or, not_false_eq_true, not_true_eq_false, Classical.not_not, ne_eq, ps_e1, ps_em, ps_z, Nat.not_le, false_implies, true_implies, forall_const, ps_01, ps_1n, ps_0n, ps_m10, ps_m1n, lg_cmp_gt, lg_cmp_ge, lg_cmp_le, lg_cmp_lt, lg_cmp_eq, pu_rne, pu_req, pu_uro, RFc_n, Nat.reduceAdd, Nat.reduceMul, Nat.reduceLT, Nat.reduceLeDiff, Nat.reduceEqDiff, Nat.reduceSub]
          simp only [if_true] at ih
          exact ih
        · by_cases q2 : I 72 (8 * a + j) = I 72 (8 * b + j)
          · rw [q0, Bool.true_and, decide_eq_true q2, Bool.or_true] at ih
            simp only [↓r290_8, ↓r290_10, ↓r290_13, ↓r290_15, ↓r290_18, ↓r290_19, ↓r290_21, ↓r290_22, ↓r290_23, ↓r290_24, ↓r290_27, ↓r290_28, ↓r290_31, ↓r290_33, ↓r290_34, ↓r290_35, ↓r290_37, ↓r290_38, ↓r290_38k, ↓r290_39, ↓r290_40, ↓r290_43, ↓r290_45, ↓r290_46, ↓r290_47, ↓r290_49, ↓r290_50, ↓r290_50k, ↓r290_51, ↓r290_54, ↓r290_55, ↓r290_58, ↓r290_59, ↓r290_61, ↓r290_64, q_le, q_lt, q_eq, q_e0, q_e1, q_0e, q_1e, ps_n0, q_0le, q_le0, q_0lt, q_m1e, q_em1, e1, q0, q1, q2, z1, z2, z3, if_true, Bool.false_eq_true, hn, hn2, ht, hF, am_wt, am_wf, Option.isSome_some, am_rf_s, am_rf_n, ps_lit, nI_add, nI_1, pk_mul, ps_cl, ps_neg, ps_c0, ps_c1, ps_n01, ps_n11, ps_10, ps_b01, ps_e0, pu_Ine, pu_Ieq, pu_ne, pu_eq, am_k_n, am_k_i, am_k_r, am_k_u, am_k_l, am_sz_0, am_sz_i, am_sz_r, am_sz_u, am_sz_l, Option.toList_some, Option.toList_none, List.cons_append, List.nil_append, true_and, and_true, or_false, false_or, or_self, or_true, true_or, not_false_eq_true, not_true_eq_false, Classical.not_not, ne_eq, ps_e1, ps_em, ps_z, Nat.not_le, false_implies, true_implies, forall_const, ps_01, ps_1n, ps_0n, ps_m10, ps_m1n, lg_cmp_gt, lg_cmp_ge, lg_cmp_le, lg_cmp_lt, lg_cmp_eq, pu_rne, pu_req, pu_uro, RFc_n, Nat.reduceAdd, Nat.reduceMul, Nat.reduceLT, Nat.reduceLeDiff, Nat.reduceEqDiff, Nat.reduceSub]
            simp only [if_true] at ih
            exact ih
          · rw [q0, Bool.true_and, decide_eq_false q1, decide_eq_false q2, Bool.false_or] at ih
            simp only [↓r290_8, ↓r290_10, ↓r290_13, ↓r290_15, ↓r290_18, ↓r290_19, ↓r290_21, ↓r290_22, ↓r290_23, ↓r290_24, ↓r290_27, ↓r290_28, ↓r290_31, ↓r290_33, ↓r290_34, ↓r290_35, ↓r290_37, ↓r290_38, ↓r290_38k, ↓r290_39, ↓r290_40, ↓r290_43, ↓r290_45, ↓r290_46, ↓r290_47, ↓r290_49, ↓r290_50, ↓r290_50k, ↓r290_51, ↓r290_54, ↓r290_55, ↓r290_58, ↓r290_59, ↓r290_61, ↓r290_64, q_le, q_lt, q_eq, q_e0, q_e1, q_0e, q_1e, ps_n0, q_0le, q_le0, q_0lt, q_m1e, q_em1, e1, q0, q1, q2, z1, z2, z3, if_true, Bool.false_eq_true, hn, hn2, ht, hF, am_wt, am_wf, Option.isSome_some, am_rf_s, am_rf_n, ps_lit, nI_add, nI_1, pk_mul, ps_cl, ps_neg, ps_c0, ps_c1, ps_n01, ps_n11, ps_10, ps_b01, ps_e0, pu_Ine, pu_Ieq, pu_ne, pu_eq, am_k_n, am_k_i, am_k_r, am_k_u, am_k_l, am_sz_0, am_sz_i, am_sz_r, am_sz_u, am_sz_l, Option.toList_some, Option.toList_none, List.cons_append, List.nil_append, true_and, and_true, or_false, false_or, or_self, or_true, true_or, not_false_eq_true, not_true_eq_false, Classical.not_not, ne_eq, ps_e1, ps_em, ps_z, Nat.not_le, false_implies, true_implies, forall_const, ps_01, ps_1n, ps_0n, ps_m10, ps_m1n, lg_cmp_gt, lg_cmp_ge, lg_cmp_le, lg_cmp_lt, lg_cmp_eq, pu_rne, pu_req, pu_uro, RFc_n, Nat.reduceAdd, Nat.reduceMul, Nat.reduceLT, Nat.reduceLeDiff, Nat.reduceEqDiff, Nat.reduceSub]
            simp only [Bool.false_eq_true, if_false] at ih
            exact ih
      · have q0' : awk (I 72) m a b j = false := by simpa using q0
        rw [q0', Bool.false_and] at ih
        simp only [↓r290_8, ↓r290_10, ↓r290_13, ↓r290_15, ↓r290_18, ↓r290_19, ↓r290_21, ↓r290_22, ↓r290_23, ↓r290_24, ↓r290_27, ↓r290_28, ↓r290_31, ↓r290_33, ↓r290_34, ↓r290_35, ↓r290_37, ↓r290_38, ↓r290_38k, ↓r290_39, ↓r290_40, ↓r290_43, ↓r290_45, ↓r290_46, ↓r290_47, ↓r290_49, ↓r290_50, ↓r290_50k, ↓r290_51, ↓r290_54, ↓r290_55, ↓r290_58, ↓r290_59, ↓r290_61, ↓r290_64, q_le, q_lt, q_eq, q_e0, q_e1, q_0e, q_1e, ps_n0, q_0le, q_le0, q_0lt, q_m1e, q_em1, q0, z1, z2, if_false, Bool.false_eq_true, hn, hn2, ht, hF, am_wt, am_wf, Option.isSome_some, am_rf_s, am_rf_n, ps_lit, nI_add, nI_1, pk_mul, ps_cl, ps_neg, ps_c0, ps_c1, ps_n01, ps_n11, ps_10, ps_b01, ps_e0, pu_Ine, pu_Ieq, pu_ne, pu_eq, am_k_n, am_k_i, am_k_r, am_k_u, am_k_l, am_sz_0, am_sz_i, am_sz_r, am_sz_u, am_sz_l, Option.toList_some, Option.toList_none, List.cons_append, List.nil_append, true_and, and_true, or_false, false_or, or_self, or_true, true_or, not_false_eq_true, not_true_eq_false, Classical.not_not, ne_eq, ps_e1, ps_em, ps_z, Nat.not_le, false_implies, true_implies, forall_const, ps_01, ps_1n, ps_0n, ps_m10, ps_m1n, lg_cmp_gt, lg_cmp_ge, lg_cmp_le, lg_cmp_lt, lg_cmp_eq, pu_rne, pu_req, pu_uro, RFc_n, Nat.reduceAdd, Nat.reduceMul, Nat.reduceLT, Nat.reduceLeDiff, Nat.reduceEqDiff, Nat.reduceSub]
        simp only [Bool.false_eq_true, if_false] at ih
        exact ih
    · rw [r290_6]
      simp only [↓r290_8, ↓r290_10, ↓r290_67, ↓r290_69, Int32.le_refl, Bool.false_eq_true, hn, hn2, ht, hF, am_wt, am_wf, Option.isSome_some, am_rf_s, am_rf_n, ps_lit, nI_add, nI_1, pk_mul, ps_cl, ps_neg, ps_c0, ps_c1, ps_n01, ps_n11, ps_10, ps_b01, ps_e0, pu_Ine, pu_Ieq, pu_ne, pu_eq, am_k_n, am_k_i, am_k_r, am_k_u, am_k_l, am_sz_0, am_sz_i, am_sz_r, am_sz_u, am_sz_l, Option.toList_some, Option.toList_none, List.cons_append, List.nil_append, true_and, and_true, or_false, false_or, or_self, or_true, true_or, not_false_eq_true, not_true_eq_false, Classical.not_not, ne_eq, ps_e1, ps_em, ps_z, Nat.not_le, false_implies, true_implies, forall_const, ps_01, ps_1n, ps_0n, ps_m10, ps_m1n, lg_cmp_gt, lg_cmp_ge, lg_cmp_le, lg_cmp_lt, lg_cmp_eq, pu_rne, pu_req, pu_uro, RFc_n, Nat.reduceAdd, Nat.reduceMul, Nat.reduceLT, Nat.reduceLeDiff, Nat.reduceEqDiff, Nat.reduceSub]
  rw [← hx]
  simp only [↓r290_0, ↓r290_1, ↓r290_3, ↓r290_4, am_k_i, awk, if_true]
end DR
