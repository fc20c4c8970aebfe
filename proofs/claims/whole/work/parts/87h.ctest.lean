/-! TEXTS: the class reads tests -/
section CU
variable {X : am_X} {d : Nat} {Q : Option Value → am_H → Prop} {n sl : Nat} {t : Nat → Nat × Nat} {I : Nat → Nat → Int32} {J : Nat → Nat → Int64} {F : Nat → Nat → Option Nat} {h : am_H}
variable {tk tv pl kT en nm : Nat → Nat} {NT dp : Nat} {i sc q cc : Nat} {S C : Nat → Int32}
theorem c_aimE {j : Nat} (hW : WS n t F) (hj : j < 400) : am_W X (d + 1) 57 0 [some (.ref 9), some (.int (nI j))] [] (n, sl, t, cR I kT pl en nm i sc q cc S C, J, F) Q ↔ Q none (n, sl, t, cR I kT pl en nm i sc q cc (upd S j (S j + nI sc)) C, J, F) := by
  obtain ⟨hn, hn2, ht, hF⟩ := id hW
  have z : j < 2000000 := by omega
  have y : nI 400 - 1 = nI 399 := by decide
  have y2 : (0 ≤ nI j ∧ nI j ≤ nI 399) = True := ps_rngT (by omega) (by decide)
  simp only [↓r57_0, ↓r57_1, ↓r57_2, ↓r57_3, ↓r57_6, ↓r57_6k, ↓r57_7, ↓r57_8, ↓r57_9, ↓r57_12, ↓r57_15, ↓r57_16, ↓r57_19, ↓r57_20, ↓r57_21, ↓r57_21k, ↓r57_22, ↓r57_23, ↓r57_26, ↓r57_27, ↓r57_28, ↓c_within, cR_9, q9_2, cR_10, cR_s, hj, z, y, y2, if_true, Bool.false_eq_true, hn, hn2, ht, hF, am_wt, am_wf, Option.isSome_some, am_rf_s, am_rf_n, ps_lit, nI_add, nI_1, pk_mul, ps_cl, ps_neg, ps_c0, ps_c1, ps_n01, ps_n11, ps_10, ps_b01, ps_e0, pu_Ine, pu_Ieq, pu_ne, pu_eq, am_k_n, am_k_i, am_k_r, am_k_u, am_k_l, am_sz_0, am_sz_i, am_sz_r, am_sz_u, am_sz_l, Option.toList_some, Option.toList_none, List.cons_append, List.nil_append, true_and, and_true, or_false, false_or, or_self, or_true, true_or, not_false_eq_true, not_true_eq_false, Classical.not_not, ne_eq, ps_e1, ps_em, ps_z, Nat.not_le, false_implies, true_implies, forall_const, ps_01, ps_1n, ps_0n, ps_m10, ps_m1n, lg_cmp_gt, lg_cmp_ge, lg_cmp_le, lg_cmp_lt, lg_cmp_eq, pu_rne, pu_req, pu_uro, RFc_n, Nat.reduceAdd, Nat.reduceMul, Nat.reduceLT, Nat.reduceLeDiff, Nat.reduceEqDiff, Nat.reduceSub]
/-- a comparison -/
def pCmp (tk : Nat → Nat) (P : Nat → Nat → RD DI) (i q : Nat) : RD DB := match P i q with
    | .error x => .error x
    | .ok s => if tk s.1 = 160 ∨ tk s.1 = 162 ∨ tk s.1 = 161 then (match P (s.1 + 1) s.2.1 with
      | .error x => .error x
      | .ok u => .ok (u.1, u.2.1, cmD (tk s.1) s.2.2 u.2.2)) else .error s.1
def pNt (b : Bool) (r : RD DB) : RD DB := match r with
  | .error x => .error x
  | .ok r => .ok (r.1, r.2.1, ntD b r.2.2)
theorem pPlain_e {P : Nat → Nat → RD DI} {T : Option (Nat → Nat → RD DB)} : pPlain tk P T i q = pNt (pNots tk 400 i false).2 (if tk (pNots tk 400 i false).1 = 140 then pBrk tk 141 T (pNots tk 400 i false).1 q else pCmp tk P (pNots tk 400 i false).1 q) := by
  unfold pPlain pNt
  generalize (pNots tk 400 i false).1 = i
  generalize (pNots tk 400 i false).2 = b
  by_cases c : tk i = 140
  · rw [if_pos c, if_pos c]
    unfold pBrk
    cases T with
    | none => rfl
    | some T =>
      dsimp only
      cases T (i + 1) q with
      | error x => rfl
      | ok r =>
        dsimp only
        by_cases c2 : tk r.1 = 141
        · rw [if_pos c2, if_pos c2]
        · rw [if_neg c2, if_neg c2]
  · rw [if_neg c, if_neg c]
    unfold pCmp
    cases P i q with
    | error x => rfl
    | ok s =>
      dsimp only
      by_cases c2 : tk s.1 = 160 ∨ tk s.1 = 162 ∨ tk s.1 = 161
      · rw [if_pos c2, if_pos c2]
        cases P (s.1 + 1) s.2.1 <;> rfl
      · rw [if_neg c2, if_neg c2]
theorem nots_m : ∀ g i b, i ≤ (pNots tk g i b).1 := by
  intro g
  induction g with
  | zero => intro i b; exact Nat.le_refl _
  | succ g ih =>
    intro i b
    rw [pNots]
    by_cases h : tk i = 8
    · rw [if_pos h]
      have := ih (i + 1) (!b)
      omega
    · rw [if_neg h]
      exact Nat.le_refl _
theorem nots_t : ∀ g i b, (pNots tk g i b).2 = b ∨ i < (pNots tk g i b).1 := by
  intro g i b
  cases g with
  | zero => exact Or.inl rfl
  | succ g =>
    rw [pNots]
    by_cases h : tk i = 8
    · rw [if_pos h]
      have := nots_m (tk := tk) g (i + 1) (!b)
      exact Or.inr this
    · rw [if_neg h]
      exact Or.inl rfl
theorem c_cmpR {k e : Nat} (h : TKC X n sl t I J F tk tv pl kT en nm NT) (hS : KRd X (k + 6) n sl t I J F pl kT en nm NT 47 [some (.ref 9), some (.int (nI dp)), none, none, none] (pSum tk tv e) CI) : KRd X (k + 7) n sl t I J F pl kT en nm NT 55 [some (.ref 9), some (.int (nI dp)), none] (pCmp tk (pSum tk tv e)) CB := by
  intro d Q i sc q cc S C hi1 hi hq hsc hok her
  have hW := h.1
  obtain ⟨hn, hn2, ht, hF⟩ := id hW
  show am_W X (d + k + 7) 55 0 [some (.ref 9), some (.int (nI dp)), none] [] (n, sl, t, cR I kT pl en nm i sc q cc S C, J, F) Q
  obtain ⟨h1, h2⟩ := h.2.1
  have hB := BD_sum (tk := tk) (tv := tv) h2 e
  unfold pCmp at hok her
  simp only [↓r55_0, ↓r55_1, ↓r55_2, Bool.false_eq_true, hn, hn2, ht, hF, am_wt, am_wf, Option.isSome_some, am_rf_s, am_rf_n, ps_lit, nI_add, nI_1, pk_mul, ps_cl, ps_neg, ps_c0, ps_c1, ps_n01, ps_n11, ps_10, ps_b01, ps_e0, pu_Ine, pu_Ieq, pu_ne, pu_eq, am_k_n, am_k_i, am_k_r, am_k_u, am_k_l, am_sz_0, am_sz_i, am_sz_r, am_sz_u, am_sz_l, Option.toList_some, Option.toList_none, List.cons_append, List.nil_append, true_and, and_true, or_false, false_or, or_self, or_true, true_or, not_false_eq_true, not_true_eq_false, Classical.not_not, ne_eq, ps_e1, ps_em, ps_z, Nat.not_le, false_implies, true_implies, forall_const, ps_01, ps_1n, ps_0n, ps_m10, ps_m1n, lg_cmp_gt, lg_cmp_ge, lg_cmp_le, lg_cmp_lt, lg_cmp_eq, pu_rne, pu_req, pu_uro, RFc_n, Nat.reduceAdd, Nat.reduceMul, Nat.reduceLT, Nat.reduceLeDiff, Nat.reduceEqDiff, Nat.reduceSub]
  refine hS d _ i sc q cc S C hi1 hi hq hsc (fun s sc1 S1 hs he1 hl1 hc1 => ?_) (fun x sc' q' S' hx hl' => ?_)
  · obtain ⟨b1, b2, b3, b4⟩ := (hB i q hi hq).1 s hs
    rw [hs] at hok her
    dsimp only at hok her
    have hlt1 := hc1.1.1
    have go : ∀ op, (op = 1104 ∧ tk s.1 = 160) ∨ (op = 1105 ∧ tk s.1 = 162) ∨ (op = 1106 ∧ tk s.1 = 161) → am_W X (d + k + 7) 55 64 [some (.ref 9), some (.int (nI dp)), some (.int (nI op))] [] (n, sl, t, cR I kT pl en nm s.1 sc1 s.2.1 cc S1 C, J, F) Q := by
      intro op ho
      have hc : tk s.1 = 160 ∨ tk s.1 = 162 ∨ tk s.1 = 161 := by omega
      rw [if_pos hc] at hok her
      have hlt : s.1 < NT := tok_lt h2 b2 (by omega)
      simp only [↓r55_64, ↓r55_65, ↓r55_68, ↓r55_69, ↓r55_70, ↓c_goOn h hlt, Bool.false_eq_true, hn, hn2, ht, hF, am_wt, am_wf, Option.isSome_some, am_rf_s, am_rf_n, ps_lit, nI_add, nI_1, pk_mul, ps_cl, ps_neg, ps_c0, ps_c1, ps_n01, ps_n11, ps_10, ps_b01, ps_e0, pu_Ine, pu_Ieq, pu_ne, pu_eq, am_k_n, am_k_i, am_k_r, am_k_u, am_k_l, am_sz_0, am_sz_i, am_sz_r, am_sz_u, am_sz_l, Option.toList_some, Option.toList_none, List.cons_append, List.nil_append, true_and, and_true, or_false, false_or, or_self, or_true, true_or, not_false_eq_true, not_true_eq_false, Classical.not_not, ne_eq, ps_e1, ps_em, ps_z, Nat.not_le, false_implies, true_implies, forall_const, ps_01, ps_1n, ps_0n, ps_m10, ps_m1n, lg_cmp_gt, lg_cmp_ge, lg_cmp_le, lg_cmp_lt, lg_cmp_eq, pu_rne, pu_req, pu_uro, RFc_n, Nat.reduceAdd, Nat.reduceMul, Nat.reduceLT, Nat.reduceLeDiff, Nat.reduceEqDiff, Nat.reduceSub]
      refine hS d _ (s.1 + 1) sc1 s.2.1 cc S1 C (by omega) hlt b4 (by omega) (fun r sc' S' hr hs' hl' hc' => ?_) (fun x sc' q' S' hx hl' => ?_)
      · obtain ⟨d1, d2, d3, d4⟩ := (hB (s.1 + 1) s.2.1 hlt b4).1 r hr
        rw [hr] at hok
        dsimp only at hok
        have hlt2 : sc1 < sc' := hc'.1.1
        have hs2 : ∀ j, j < sc1 → upd S' sc' (nI op) j = S1 j := fun j hj => by rw [pu_ne (by omega)]; exact hs' j hj
        have hn' := CB_cmp (CI_s hc1 (fun j _ hj => hs2 j hj)) (CI_s (S2 := upd S' sc' (nI op)) hc' (fun j _ hj => pu_ne (by omega))) ho pu_eq
        have ek : s.2.1 - q + (r.2.1 - s.2.1) = r.2.1 - q := by omega
        rw [ek] at hn'
        have := hok _ (sc' + 1) (upd S' sc' (nI op)) rfl (fun j hj => by rw [hs2 j (by omega)]; exact he1 j hj) (by dsimp only; omega) hn'
        simp only [↓r55_73, ↓r55_76, ↓r55_77, ↓r55_78, ↓r55_79, ↓r55_80, ↓r55_83, ↓r55_84, ↓c_putS hW (show sc' < 400 by omega), Bool.false_eq_true, hn, hn2, ht, hF, am_wt, am_wf, Option.isSome_some, am_rf_s, am_rf_n, ps_lit, nI_add, nI_1, pk_mul, ps_cl, ps_neg, ps_c0, ps_c1, ps_n01, ps_n11, ps_10, ps_b01, ps_e0, pu_Ine, pu_Ieq, pu_ne, pu_eq, am_k_n, am_k_i, am_k_r, am_k_u, am_k_l, am_sz_0, am_sz_i, am_sz_r, am_sz_u, am_sz_l, Option.toList_some, Option.toList_none, List.cons_append, List.nil_append, true_and, and_true, or_false, false_or, or_self, or_true, true_or, not_false_eq_true, not_true_eq_false, Classical.not_not, ne_eq, ps_e1, ps_em, ps_z, Nat.not_le, false_implies, true_implies, forall_const, ps_01, ps_1n, ps_0n, ps_m10, ps_m1n, lg_cmp_gt, lg_cmp_ge, lg_cmp_le, lg_cmp_lt, lg_cmp_eq, pu_rne, pu_req, pu_uro, RFc_n, Nat.reduceAdd, Nat.reduceMul, Nat.reduceLT, Nat.reduceLeDiff, Nat.reduceEqDiff, Nat.reduceSub]
        exact this
      · rw [hx] at her
        have := her x sc' q' S' rfl hl'
        simp only [↓r55_73, ↓r55_76, ↓r55_77, ↓r55_78, ↓r55_79, ↓r55_80, ↓r55_83, ↓r55_84, Bool.false_eq_true, hn, hn2, ht, hF, am_wt, am_wf, Option.isSome_some, am_rf_s, am_rf_n, ps_lit, nI_add, nI_1, pk_mul, ps_cl, ps_neg, ps_c0, ps_c1, ps_n01, ps_n11, ps_10, ps_b01, ps_e0, pu_Ine, pu_Ieq, pu_ne, pu_eq, am_k_n, am_k_i, am_k_r, am_k_u, am_k_l, am_sz_0, am_sz_i, am_sz_r, am_sz_u, am_sz_l, Option.toList_some, Option.toList_none, List.cons_append, List.nil_append, true_and, and_true, or_false, false_or, or_self, or_true, true_or, not_false_eq_true, not_true_eq_false, Classical.not_not, ne_eq, ps_e1, ps_em, ps_z, Nat.not_le, false_implies, true_implies, forall_const, ps_01, ps_1n, ps_0n, ps_m10, ps_m1n, lg_cmp_gt, lg_cmp_ge, lg_cmp_le, lg_cmp_lt, lg_cmp_eq, pu_rne, pu_req, pu_uro, RFc_n, Nat.reduceAdd, Nat.reduceMul, Nat.reduceLT, Nat.reduceLeDiff, Nat.reduceEqDiff, Nat.reduceSub]
        exact this
    by_cases c1 : tk s.1 = 160
    · have := go 1104 (Or.inl ⟨rfl, c1⟩)
      simp only [↓r55_5, ↓r55_8, ↓r55_9, ↓r55_10, ↓r55_11, ↓r55_13, ↓r55_16, ↓r55_19, ↓r55_22, ↓r55_25, ↓r55_26, ↓r55_28, ↓r55_31, ↓r55_34, ↓r55_37, ↓r55_40, ↓r55_41, ↓r55_43, ↓r55_46, ↓r55_49, ↓r55_52, ↓r55_55, ↓r55_56, ↓r55_57, ↓r55_58, ↓r55_59, ↓c_sign1 h b2 (show 60 < 200 by decide) c1, q_le, q_lt, q_eq, q_e0, q_e1, q_0e, q_1e, ps_n0, q_0le, q_le0, q_0lt, q_m1e, q_em1, Bool.false_eq_true, hn, hn2, ht, hF, am_wt, am_wf, Option.isSome_some, am_rf_s, am_rf_n, ps_lit, nI_add, nI_1, pk_mul, ps_cl, ps_neg, ps_c0, ps_c1, ps_n01, ps_n11, ps_10, ps_b01, ps_e0, pu_Ine, pu_Ieq, pu_ne, pu_eq, am_k_n, am_k_i, am_k_r, am_k_u, am_k_l, am_sz_0, am_sz_i, am_sz_r, am_sz_u, am_sz_l, Option.toList_some, Option.toList_none, List.cons_append, List.nil_append, true_and, and_true, or_false, false_or, or_self, or_true, true_or, not_false_eq_true, not_true_eq_false, Classical.not_not, ne_eq, ps_e1, ps_em, ps_z, Nat.not_le, false_implies, true_implies, forall_const, ps_01, ps_1n, ps_0n, ps_m10, ps_m1n, lg_cmp_gt, lg_cmp_ge, lg_cmp_le, lg_cmp_lt, lg_cmp_eq, pu_rne, pu_req, pu_uro, RFc_n, Nat.reduceAdd, Nat.reduceMul, Nat.reduceLT, Nat.reduceLeDiff, Nat.reduceEqDiff, Nat.reduceSub]
      exact this
    · by_cases c2 : tk s.1 = 162
      · have := go 1105 (Or.inr (Or.inl ⟨rfl, c2⟩))
        simp only [↓r55_5, ↓r55_8, ↓r55_9, ↓r55_10, ↓r55_11, ↓r55_13, ↓r55_16, ↓r55_19, ↓r55_22, ↓r55_25, ↓r55_26, ↓r55_28, ↓r55_31, ↓r55_34, ↓r55_37, ↓r55_40, ↓r55_41, ↓r55_43, ↓r55_46, ↓r55_49, ↓r55_52, ↓r55_55, ↓r55_56, ↓r55_57, ↓r55_58, ↓r55_59, ↓c_sign0 h b2 (show 60 < 200 by decide) c1, ↓c_sign1 h b2 (show 62 < 200 by decide) c2, q_le, q_lt, q_eq, q_e0, q_e1, q_0e, q_1e, ps_n0, q_0le, q_le0, q_0lt, q_m1e, q_em1, Bool.false_eq_true, hn, hn2, ht, hF, am_wt, am_wf, Option.isSome_some, am_rf_s, am_rf_n, ps_lit, nI_add, nI_1, pk_mul, ps_cl, ps_neg, ps_c0, ps_c1, ps_n01, ps_n11, ps_10, ps_b01, ps_e0, pu_Ine, pu_Ieq, pu_ne, pu_eq, am_k_n, am_k_i, am_k_r, am_k_u, am_k_l, am_sz_0, am_sz_i, am_sz_r, am_sz_u, am_sz_l, Option.toList_some, Option.toList_none, List.cons_append, List.nil_append, true_and, and_true, or_false, false_or, or_self, or_true, true_or, not_false_eq_true, not_true_eq_false, Classical.not_not, ne_eq, ps_e1, ps_em, ps_z, Nat.not_le, false_implies, true_implies, forall_const, ps_01, ps_1n, ps_0n, ps_m10, ps_m1n, lg_cmp_gt, lg_cmp_ge, lg_cmp_le, lg_cmp_lt, lg_cmp_eq, pu_rne, pu_req, pu_uro, RFc_n, Nat.reduceAdd, Nat.reduceMul, Nat.reduceLT, Nat.reduceLeDiff, Nat.reduceEqDiff, Nat.reduceSub]
        exact this
      · by_cases c3 : tk s.1 = 161
        · have := go 1106 (Or.inr (Or.inr ⟨rfl, c3⟩))
          simp only [↓r55_5, ↓r55_8, ↓r55_9, ↓r55_10, ↓r55_11, ↓r55_13, ↓r55_16, ↓r55_19, ↓r55_22, ↓r55_25, ↓r55_26, ↓r55_28, ↓r55_31, ↓r55_34, ↓r55_37, ↓r55_40, ↓r55_41, ↓r55_43, ↓r55_46, ↓r55_49, ↓r55_52, ↓r55_55, ↓r55_56, ↓r55_57, ↓r55_58, ↓r55_59, ↓c_sign0 h b2 (show 60 < 200 by decide) c1, ↓c_sign0 h b2 (show 62 < 200 by decide) c2, ↓c_sign1 h b2 (show 61 < 200 by decide) c3, q_le, q_lt, q_eq, q_e0, q_e1, q_0e, q_1e, ps_n0, q_0le, q_le0, q_0lt, q_m1e, q_em1, Bool.false_eq_true, hn, hn2, ht, hF, am_wt, am_wf, Option.isSome_some, am_rf_s, am_rf_n, ps_lit, nI_add, nI_1, pk_mul, ps_cl, ps_neg, ps_c0, ps_c1, ps_n01, ps_n11, ps_10, ps_b01, ps_e0, pu_Ine, pu_Ieq, pu_ne, pu_eq, am_k_n, am_k_i, am_k_r, am_k_u, am_k_l, am_sz_0, am_sz_i, am_sz_r, am_sz_u, am_sz_l, Option.toList_some, Option.toList_none, List.cons_append, List.nil_append, true_and, and_true, or_false, false_or, or_self, or_true, true_or, not_false_eq_true, not_true_eq_false, Classical.not_not, ne_eq, ps_e1, ps_em, ps_z, Nat.not_le, false_implies, true_implies, forall_const, ps_01, ps_1n, ps_0n, ps_m10, ps_m1n, lg_cmp_gt, lg_cmp_ge, lg_cmp_le, lg_cmp_lt, lg_cmp_eq, pu_rne, pu_req, pu_uro, RFc_n, Nat.reduceAdd, Nat.reduceMul, Nat.reduceLT, Nat.reduceLeDiff, Nat.reduceEqDiff, Nat.reduceSub]
          exact this
        · have hc : ¬ (tk s.1 = 160 ∨ tk s.1 = 162 ∨ tk s.1 = 161) := by omega
          rw [if_neg hc] at her
          have := her _ sc1 s.2.1 S1 rfl (by omega)
          simp only [↓r55_5, ↓r55_8, ↓r55_9, ↓r55_10, ↓r55_11, ↓r55_13, ↓r55_16, ↓r55_19, ↓r55_22, ↓r55_25, ↓r55_26, ↓r55_28, ↓r55_31, ↓r55_34, ↓r55_37, ↓r55_40, ↓r55_41, ↓r55_43, ↓r55_46, ↓r55_49, ↓r55_52, ↓r55_55, ↓r55_56, ↓r55_57, ↓r55_58, ↓r55_59, ↓r55_62, ↓r55_63, ↓c_sign0 h b2 (show 60 < 200 by decide) c1, ↓c_sign0 h b2 (show 62 < 200 by decide) c2, ↓c_sign0 h b2 (show 61 < 200 by decide) c3, q_le, q_lt, q_eq, q_e0, q_e1, q_0e, q_1e, ps_n0, q_0le, q_le0, q_0lt, q_m1e, q_em1, Bool.false_eq_true, hn, hn2, ht, hF, am_wt, am_wf, Option.isSome_some, am_rf_s, am_rf_n, ps_lit, nI_add, nI_1, pk_mul, ps_cl, ps_neg, ps_c0, ps_c1, ps_n01, ps_n11, ps_10, ps_b01, ps_e0, pu_Ine, pu_Ieq, pu_ne, pu_eq, am_k_n, am_k_i, am_k_r, am_k_u, am_k_l, am_sz_0, am_sz_i, am_sz_r, am_sz_u, am_sz_l, Option.toList_some, Option.toList_none, List.cons_append, List.nil_append, true_and, and_true, or_false, false_or, or_self, or_true, true_or, not_false_eq_true, not_true_eq_false, Classical.not_not, ne_eq, ps_e1, ps_em, ps_z, Nat.not_le, false_implies, true_implies, forall_const, ps_01, ps_1n, ps_0n, ps_m10, ps_m1n, lg_cmp_gt, lg_cmp_ge, lg_cmp_le, lg_cmp_lt, lg_cmp_eq, pu_rne, pu_req, pu_uro, RFc_n, Nat.reduceAdd, Nat.reduceMul, Nat.reduceLT, Nat.reduceLeDiff, Nat.reduceEqDiff, Nat.reduceSub]
          exact this
  · rw [hx] at her
    have := her x sc' q' S' rfl hl'
    simp only [↓r55_5, ↓r55_8, ↓r55_9, Bool.false_eq_true, hn, hn2, ht, hF, am_wt, am_wf, Option.isSome_some, am_rf_s, am_rf_n, ps_lit, nI_add, nI_1, pk_mul, ps_cl, ps_neg, ps_c0, ps_c1, ps_n01, ps_n11, ps_10, ps_b01, ps_e0, pu_Ine, pu_Ieq, pu_ne, pu_eq, am_k_n, am_k_i, am_k_r, am_k_u, am_k_l, am_sz_0, am_sz_i, am_sz_r, am_sz_u, am_sz_l, Option.toList_some, Option.toList_none, List.cons_append, List.nil_append, true_and, and_true, or_false, false_or, or_self, or_true, true_or, not_false_eq_true, not_true_eq_false, Classical.not_not, ne_eq, ps_e1, ps_em, ps_z, Nat.not_le, false_implies, true_implies, forall_const, ps_01, ps_1n, ps_0n, ps_m10, ps_m1n, lg_cmp_gt, lg_cmp_ge, lg_cmp_le, lg_cmp_lt, lg_cmp_eq, pu_rne, pu_req, pu_uro, RFc_n, Nat.reduceAdd, Nat.reduceMul, Nat.reduceLT, Nat.reduceLeDiff, Nat.reduceEqDiff, Nat.reduceSub]
    exact this
theorem c_brT {k e : Nat} (h : TKC X n sl t I J F tk tv pl kT en nm NT) (he : dp + e = 8) (hS : ∀ e', e = e' + 1 → KRd X (k + 6) n sl t I J F pl kT en nm NT 52 [some (.ref 9), some (.int (nI (dp + 1))), none, none, none] (pTest tk tv e') CB) (hi1 : 1 ≤ i) (hi : i < NT) (hq : q ≤ 50) (hsc : sc ≤ i) (hok : ∀ r sc' S', pBrk tk 141 (tPr tk tv e) i q = .ok r → (∀ j, j < sc → S' j = S j) → sc' + i ≤ sc + r.1 → r.1 ≤ NT → CB S' sc sc' (r.2.1 - q) r.2.2 → Q (some (.int 1)) (n, sl, t, cR I kT pl en nm r.1 sc' r.2.1 cc S' C, J, F)) (her : ∀ x sc' q' S', pBrk tk 141 (tPr tk tv e) i q = .error x → sc' ≤ 400 → Q (some (.int 0)) (n, sl, t, cR I kT pl en nm x sc' q' cc S' C, J, F)) : am_W X (d + k + 7) 51 0 [some (.ref 9), some (.int (nI dp)), some (.int (nI 41)), none] [] (n, sl, t, cR I kT pl en nm i sc q cc S C, J, F) Q := by
  have hW := h.1
  obtain ⟨hn, hn2, ht, hF⟩ := id hW
  obtain ⟨h1, h2⟩ := h.2.1
  have z : dp < 2000000 := by omega
  cases e with
  | zero =>
    have ed : dp = 8 := by omega
    subst ed
    have := her i sc q S rfl (by omega)
    simp only [↓r51_0, ↓r51_1, ↓r51_3, ↓r51_6, ↓r51_7, ↓r51_8, ↓r51_9, ↓r51_12, ↓r51_13, ↓r51_15, ↓r51_18, ↓r51_19, ↓r51_20, ↓r51_21, ↓r51_22, ↓r51_25, ↓r51_28, ↓r51_29, ↓r51_30, ↓r51_31, ↓r51_32, ↓r51_35, ↓r51_36, ↓r51_37, ↓r51_40, ↓r51_41, ↓r51_42, ↓r51_45, ↓r51_48, ↓r51_49, ↓r51_50, ↓r51_51, ↓r51_54, ↓r51_55, q_le, q_lt, q_eq, q_e0, q_e1, q_0e, q_1e, ps_n0, q_0le, q_le0, q_0lt, q_m1e, q_em1, Bool.false_eq_true, hn, hn2, ht, hF, am_wt, am_wf, Option.isSome_some, am_rf_s, am_rf_n, ps_lit, nI_add, nI_1, pk_mul, ps_cl, ps_neg, ps_c0, ps_c1, ps_n01, ps_n11, ps_10, ps_b01, ps_e0, pu_Ine, pu_Ieq, pu_ne, pu_eq, am_k_n, am_k_i, am_k_r, am_k_u, am_k_l, am_sz_0, am_sz_i, am_sz_r, am_sz_u, am_sz_l, Option.toList_some, Option.toList_none, List.cons_append, List.nil_append, true_and, and_true, or_false, false_or, or_self, or_true, true_or, not_false_eq_true, not_true_eq_false, Classical.not_not, ne_eq, ps_e1, ps_em, ps_z, Nat.not_le, false_implies, true_implies, forall_const, ps_01, ps_1n, ps_0n, ps_m10, ps_m1n, lg_cmp_gt, lg_cmp_ge, lg_cmp_le, lg_cmp_lt, lg_cmp_eq, pu_rne, pu_req, pu_uro, RFc_n, Nat.reduceAdd, Nat.reduceMul, Nat.reduceLT, Nat.reduceLeDiff, Nat.reduceEqDiff, Nat.reduceSub]
    exact this
  | succ e =>
    have ed : dp < 8 := by omega
    simp only [↓r51_0, ↓r51_1, ↓r51_3, ↓r51_6, ↓r51_7, ↓r51_8, ↓r51_9, ↓r51_12, ↓r51_13, ↓r51_15, ↓r51_18, ↓r51_19, ↓r51_20, ↓r51_21, ↓r51_22, ↓r51_25, ↓r51_28, ↓r51_29, ↓r51_30, ↓r51_31, ↓r51_32, ↓c_goOn h hi, q_le, q_lt, q_eq, q_e0, q_e1, q_0e, q_1e, ps_n0, q_0le, q_le0, q_0lt, q_m1e, q_em1, z, ed, Bool.false_eq_true, hn, hn2, ht, hF, am_wt, am_wf, Option.isSome_some, am_rf_s, am_rf_n, ps_lit, nI_add, nI_1, pk_mul, ps_cl, ps_neg, ps_c0, ps_c1, ps_n01, ps_n11, ps_10, ps_b01, ps_e0, pu_Ine, pu_Ieq, pu_ne, pu_eq, am_k_n, am_k_i, am_k_r, am_k_u, am_k_l, am_sz_0, am_sz_i, am_sz_r, am_sz_u, am_sz_l, Option.toList_some, Option.toList_none, List.cons_append, List.nil_append, true_and, and_true, or_false, false_or, or_self, or_true, true_or, not_false_eq_true, not_true_eq_false, Classical.not_not, ne_eq, ps_e1, ps_em, ps_z, Nat.not_le, false_implies, true_implies, forall_const, ps_01, ps_1n, ps_0n, ps_m10, ps_m1n, lg_cmp_gt, lg_cmp_ge, lg_cmp_le, lg_cmp_lt, lg_cmp_eq, pu_rne, pu_req, pu_uro, RFc_n, Nat.reduceAdd, Nat.reduceMul, Nat.reduceLT, Nat.reduceLeDiff, Nat.reduceEqDiff, Nat.reduceSub]
    refine hS e rfl d _ (i + 1) sc q cc S C (by omega) hi hq (by omega) (fun r sc' S' hr hs hl hc => ?_) (fun x sc' q' S' hx hl => ?_)
    · have hb := (BD_test (tk := tk) (tv := tv) h2 e (i + 1) q hi hq).1 r hr
      dsimp only [tPr, pBrk] at hok her
      rw [hr] at hok her
      dsimp only at hok her
      by_cases c2 : tk r.1 = 141
      · rw [if_pos c2] at hok
        have hl2 : r.1 < NT := tok_lt h2 hb.2.1 (by omega)
        have := hok _ sc' S' rfl hs (by dsimp only; omega) hl2 hc
        simp only [↓r51_25, ↓r51_35, ↓r51_36, ↓r51_37, ↓r51_40, ↓r51_41, ↓r51_42, ↓r51_45, ↓r51_48, ↓r51_49, ↓r51_50, ↓r51_51, ↓r51_54, ↓r51_55, ↓c_sign1 h hb.2.1 (show 41 < 200 by decide) c2, ↓c_goOn h hl2, Bool.false_eq_true, hn, hn2, ht, hF, am_wt, am_wf, Option.isSome_some, am_rf_s, am_rf_n, ps_lit, nI_add, nI_1, pk_mul, ps_cl, ps_neg, ps_c0, ps_c1, ps_n01, ps_n11, ps_10, ps_b01, ps_e0, pu_Ine, pu_Ieq, pu_ne, pu_eq, am_k_n, am_k_i, am_k_r, am_k_u, am_k_l, am_sz_0, am_sz_i, am_sz_r, am_sz_u, am_sz_l, Option.toList_some, Option.toList_none, List.cons_append, List.nil_append, true_and, and_true, or_false, false_or, or_self, or_true, true_or, not_false_eq_true, not_true_eq_false, Classical.not_not, ne_eq, ps_e1, ps_em, ps_z, Nat.not_le, false_implies, true_implies, forall_const, ps_01, ps_1n, ps_0n, ps_m10, ps_m1n, lg_cmp_gt, lg_cmp_ge, lg_cmp_le, lg_cmp_lt, lg_cmp_eq, pu_rne, pu_req, pu_uro, RFc_n, Nat.reduceAdd, Nat.reduceMul, Nat.reduceLT, Nat.reduceLeDiff, Nat.reduceEqDiff, Nat.reduceSub]
        exact this
      · rw [if_neg c2] at her
        have := her _ sc' r.2.1 S' rfl (by omega)
        simp only [↓r51_25, ↓r51_35, ↓r51_36, ↓r51_37, ↓r51_40, ↓r51_41, ↓r51_42, ↓r51_45, ↓r51_48, ↓r51_49, ↓r51_50, ↓r51_51, ↓r51_54, ↓r51_55, ↓c_sign0 h hb.2.1 (show 41 < 200 by decide) c2, Bool.false_eq_true, hn, hn2, ht, hF, am_wt, am_wf, Option.isSome_some, am_rf_s, am_rf_n, ps_lit, nI_add, nI_1, pk_mul, ps_cl, ps_neg, ps_c0, ps_c1, ps_n01, ps_n11, ps_10, ps_b01, ps_e0, pu_Ine, pu_Ieq, pu_ne, pu_eq, am_k_n, am_k_i, am_k_r, am_k_u, am_k_l, am_sz_0, am_sz_i, am_sz_r, am_sz_u, am_sz_l, Option.toList_some, Option.toList_none, List.cons_append, List.nil_append, true_and, and_true, or_false, false_or, or_self, or_true, true_or, not_false_eq_true, not_true_eq_false, Classical.not_not, ne_eq, ps_e1, ps_em, ps_z, Nat.not_le, false_implies, true_implies, forall_const, ps_01, ps_1n, ps_0n, ps_m10, ps_m1n, lg_cmp_gt, lg_cmp_ge, lg_cmp_le, lg_cmp_lt, lg_cmp_eq, pu_rne, pu_req, pu_uro, RFc_n, Nat.reduceAdd, Nat.reduceMul, Nat.reduceLT, Nat.reduceLeDiff, Nat.reduceEqDiff, Nat.reduceSub]
        exact this
    · dsimp only [tPr, pBrk] at her
      rw [hx] at her
      have := her x sc' q' S' rfl hl
      simp only [↓r51_25, ↓r51_35, ↓r51_36, ↓r51_37, ↓r51_40, ↓r51_41, ↓r51_42, ↓r51_45, ↓r51_48, ↓r51_49, ↓r51_50, ↓r51_51, ↓r51_54, ↓r51_55, Bool.false_eq_true, hn, hn2, ht, hF, am_wt, am_wf, Option.isSome_some, am_rf_s, am_rf_n, ps_lit, nI_add, nI_1, pk_mul, ps_cl, ps_neg, ps_c0, ps_c1, ps_n01, ps_n11, ps_10, ps_b01, ps_e0, pu_Ine, pu_Ieq, pu_ne, pu_eq, am_k_n, am_k_i, am_k_r, am_k_u, am_k_l, am_sz_0, am_sz_i, am_sz_r, am_sz_u, am_sz_l, Option.toList_some, Option.toList_none, List.cons_append, List.nil_append, true_and, and_true, or_false, false_or, or_self, or_true, true_or, not_false_eq_true, not_true_eq_false, Classical.not_not, ne_eq, ps_e1, ps_em, ps_z, Nat.not_le, false_implies, true_implies, forall_const, ps_01, ps_1n, ps_0n, ps_m10, ps_m1n, lg_cmp_gt, lg_cmp_ge, lg_cmp_le, lg_cmp_lt, lg_cmp_eq, pu_rne, pu_req, pu_uro, RFc_n, Nat.reduceAdd, Nat.reduceMul, Nat.reduceLT, Nat.reduceLeDiff, Nat.reduceEqDiff, Nat.reduceSub]
      exact this
theorem c_plainR {k e : Nat} (h : TKC X n sl t I J F tk tv pl kT en nm NT) (he : dp + e = 8) (hS : KRd X (k + 6) n sl t I J F pl kT en nm NT 47 [some (.ref 9), some (.int (nI dp)), none, none, none] (pSum tk tv e) CI) (hT : ∀ e', e = e' + 1 → KRd X (k + 6) n sl t I J F pl kT en nm NT 52 [some (.ref 9), some (.int (nI (dp + 1))), none, none, none] (pTest tk tv e') CB) : KRd X (k + 8) n sl t I J F pl kT en nm NT 54 [some (.ref 9), some (.int (nI dp)), none, none] (pPlain tk (pSum tk tv e) (tPr tk tv e)) CB := by
  intro d Q i0 sc q cc S C hi1 hi0 hq hsc hok her
  have hW := h.1
  obtain ⟨hn, hn2, ht, hF⟩ := id hW
  show am_W X (d + k + 8) 54 0 [some (.ref 9), some (.int (nI dp)), none, none] [] (n, sl, t, cR I kT pl en nm i0 sc q cc S C, J, F) Q
  obtain ⟨h1, h2⟩ := h.2.1
  have hB := BD_sum (tk := tk) (tv := tv) h2 e
  obtain ⟨nb1, nb2⟩ := nots_b h2 400 i0 false hi0
  have nt := nots_t (tk := tk) 400 i0 false
  rw [pPlain_e] at hok her
  have main : ∀ l3 : Option Value, am_W X (d + k + 8) 54 40 [some (.ref 9), some (.int (nI dp)), some (.int (if (pNots tk 400 i0 false).2 = true then 1 else 0)), l3] [] (n, sl, t, cR I kT pl en nm (pNots tk 400 i0 false).1 sc q cc S C, J, F) Q := by
    intro l3
    generalize (pNots tk 400 i0 false).1 = i at *
    generalize (pNots tk 400 i0 false).2 = b at *
    have fin0 : ∀ x sc' q' S', (if tk i = 140 then pBrk tk 141 (tPr tk tv e) i q else pCmp tk (pSum tk tv e) i q) = .error x → sc' ≤ 400 → am_W X (d + k + 8) 54 65 [some (.ref 9), some (.int (nI dp)), some (.int (if b = true then 1 else 0)), some (.int 0)] [] (n, sl, t, cR I kT pl en nm x sc' q' cc S' C, J, F) Q := by
      intro x sc' q' S' hx hl'
      rw [hx] at her
      have := her x sc' q' S' rfl hl'
      simp only [↓r54_65, ↓r54_66, ↓r54_69, ↓r54_70, ↓r54_73, ↓r54_74, ↓r54_77, ↓r54_80, ↓r54_81, Bool.false_eq_true, hn, hn2, ht, hF, am_wt, am_wf, Option.isSome_some, am_rf_s, am_rf_n, ps_lit, nI_add, nI_1, pk_mul, ps_cl, ps_neg, ps_c0, ps_c1, ps_n01, ps_n11, ps_10, ps_b01, ps_e0, pu_Ine, pu_Ieq, pu_ne, pu_eq, am_k_n, am_k_i, am_k_r, am_k_u, am_k_l, am_sz_0, am_sz_i, am_sz_r, am_sz_u, am_sz_l, Option.toList_some, Option.toList_none, List.cons_append, List.nil_append, true_and, and_true, or_false, false_or, or_self, or_true, true_or, not_false_eq_true, not_true_eq_false, Classical.not_not, ne_eq, ps_e1, ps_em, ps_z, Nat.not_le, false_implies, true_implies, forall_const, ps_01, ps_1n, ps_0n, ps_m10, ps_m1n, lg_cmp_gt, lg_cmp_ge, lg_cmp_le, lg_cmp_lt, lg_cmp_eq, pu_rne, pu_req, pu_uro, RFc_n, Nat.reduceAdd, Nat.reduceMul, Nat.reduceLT, Nat.reduceLeDiff, Nat.reduceEqDiff, Nat.reduceSub]
      exact this
    have fin1 : ∀ r sc' S', (if tk i = 140 then pBrk tk 141 (tPr tk tv e) i q else pCmp tk (pSum tk tv e) i q) = .ok r → (∀ j, j < sc → S' j = S j) → sc' + i ≤ sc + r.1 → r.1 ≤ NT → CB S' sc sc' (r.2.1 - q) r.2.2 → am_W X (d + k + 8) 54 65 [some (.ref 9), some (.int (nI dp)), some (.int (if b = true then 1 else 0)), some (.int 1)] [] (n, sl, t, cR I kT pl en nm r.1 sc' r.2.1 cc S' C, J, F) Q := by
      intro r sc' S' hr hs' hl' hrn hc'
      rw [hr] at hok
      have hlt := hc'.1.1
      cases b with
      | false =>
        have := hok _ sc' S' rfl hs' (by dsimp only; omega) (by dsimp only; rw [ntD_f]; exact hc')
        simp only [↓r54_65, ↓r54_66, ↓r54_69, ↓r54_70, ↓r54_73, ↓r54_74, ↓r54_77, ↓r54_80, ↓r54_81, Bool.false_eq_true, if_false, Bool.false_eq_true, hn, hn2, ht, hF, am_wt, am_wf, Option.isSome_some, am_rf_s, am_rf_n, ps_lit, nI_add, nI_1, pk_mul, ps_cl, ps_neg, ps_c0, ps_c1, ps_n01, ps_n11, ps_10, ps_b01, ps_e0, pu_Ine, pu_Ieq, pu_ne, pu_eq, am_k_n, am_k_i, am_k_r, am_k_u, am_k_l, am_sz_0, am_sz_i, am_sz_r, am_sz_u, am_sz_l, Option.toList_some, Option.toList_none, List.cons_append, List.nil_append, true_and, and_true, or_false, false_or, or_self, or_true, true_or, not_false_eq_true, not_true_eq_false, Classical.not_not, ne_eq, ps_e1, ps_em, ps_z, Nat.not_le, false_implies, true_implies, forall_const, ps_01, ps_1n, ps_0n, ps_m10, ps_m1n, lg_cmp_gt, lg_cmp_ge, lg_cmp_le, lg_cmp_lt, lg_cmp_eq, pu_rne, pu_req, pu_uro, RFc_n, Nat.reduceAdd, Nat.reduceMul, Nat.reduceLT, Nat.reduceLeDiff, Nat.reduceEqDiff, Nat.reduceSub]
        exact this
      | true =>
        have nt2 : i0 < i := by
          rcases nt with c | c
          · cases c
          · exact c
        have hs2 : ∀ j, j < sc' → upd S' sc' (nI 1107) j = S' j := fun j hj => pu_ne (by omega)
        have := hok _ (sc' + 1) (upd S' sc' (nI 1107)) rfl (fun j hj => by rw [hs2 j (by omega)]; exact hs' j hj) (by dsimp only; omega) (CB_not (CB_s hc' (fun j _ hj => hs2 j hj)) pu_eq)
        simp only [↓r54_65, ↓r54_66, ↓r54_69, ↓r54_70, ↓r54_73, ↓r54_74, ↓r54_77, ↓r54_80, ↓r54_81, ↓c_putS hW (show sc' < 400 by omega), if_true, Bool.false_eq_true, hn, hn2, ht, hF, am_wt, am_wf, Option.isSome_some, am_rf_s, am_rf_n, ps_lit, nI_add, nI_1, pk_mul, ps_cl, ps_neg, ps_c0, ps_c1, ps_n01, ps_n11, ps_10, ps_b01, ps_e0, pu_Ine, pu_Ieq, pu_ne, pu_eq, am_k_n, am_k_i, am_k_r, am_k_u, am_k_l, am_sz_0, am_sz_i, am_sz_r, am_sz_u, am_sz_l, Option.toList_some, Option.toList_none, List.cons_append, List.nil_append, true_and, and_true, or_false, false_or, or_self, or_true, true_or, not_false_eq_true, not_true_eq_false, Classical.not_not, ne_eq, ps_e1, ps_em, ps_z, Nat.not_le, false_implies, true_implies, forall_const, ps_01, ps_1n, ps_0n, ps_m10, ps_m1n, lg_cmp_gt, lg_cmp_ge, lg_cmp_le, lg_cmp_lt, lg_cmp_eq, pu_rne, pu_req, pu_uro, RFc_n, Nat.reduceAdd, Nat.reduceMul, Nat.reduceLT, Nat.reduceLeDiff, Nat.reduceEqDiff, Nat.reduceSub]
        exact this
    by_cases c1 : tk i = 140
    · rw [if_pos c1] at fin0 fin1
      have hlt : i < NT := tok_lt h2 nb2 (by omega)
      simp only [↓r54_40, ↓r54_41, ↓r54_43, ↓r54_46, ↓r54_49, ↓r54_50, ↓r54_51, ↓r54_53, ↓c_sign1 h nb2 (show 40 < 200 by decide) c1, Bool.false_eq_true, hn, hn2, ht, hF, am_wt, am_wf, Option.isSome_some, am_rf_s, am_rf_n, ps_lit, nI_add, nI_1, pk_mul, ps_cl, ps_neg, ps_c0, ps_c1, ps_n01, ps_n11, ps_10, ps_b01, ps_e0, pu_Ine, pu_Ieq, pu_ne, pu_eq, am_k_n, am_k_i, am_k_r, am_k_u, am_k_l, am_sz_0, am_sz_i, am_sz_r, am_sz_u, am_sz_l, Option.toList_some, Option.toList_none, List.cons_append, List.nil_append, true_and, and_true, or_false, false_or, or_self, or_true, true_or, not_false_eq_true, not_true_eq_false, Classical.not_not, ne_eq, ps_e1, ps_em, ps_z, Nat.not_le, false_implies, true_implies, forall_const, ps_01, ps_1n, ps_0n, ps_m10, ps_m1n, lg_cmp_gt, lg_cmp_ge, lg_cmp_le, lg_cmp_lt, lg_cmp_eq, pu_rne, pu_req, pu_uro, RFc_n, Nat.reduceAdd, Nat.reduceMul, Nat.reduceLT, Nat.reduceLeDiff, Nat.reduceEqDiff, Nat.reduceSub]
      refine c_brT h he hT (by omega) hlt hq (by omega) (fun r sc' S' hr hs' hl' hrn hc' => ?_) (fun x sc' q' S' hx hl' => ?_)
      · have := fin1 r sc' S' hr hs' hl' hrn hc'
        simp only [↓r54_56, ↓r54_64, Bool.false_eq_true, hn, hn2, ht, hF, am_wt, am_wf, Option.isSome_some, am_rf_s, am_rf_n, ps_lit, nI_add, nI_1, pk_mul, ps_cl, ps_neg, ps_c0, ps_c1, ps_n01, ps_n11, ps_10, ps_b01, ps_e0, pu_Ine, pu_Ieq, pu_ne, pu_eq, am_k_n, am_k_i, am_k_r, am_k_u, am_k_l, am_sz_0, am_sz_i, am_sz_r, am_sz_u, am_sz_l, Option.toList_some, Option.toList_none, List.cons_append, List.nil_append, true_and, and_true, or_false, false_or, or_self, or_true, true_or, not_false_eq_true, not_true_eq_false, Classical.not_not, ne_eq, ps_e1, ps_em, ps_z, Nat.not_le, false_implies, true_implies, forall_const, ps_01, ps_1n, ps_0n, ps_m10, ps_m1n, lg_cmp_gt, lg_cmp_ge, lg_cmp_le, lg_cmp_lt, lg_cmp_eq, pu_rne, pu_req, pu_uro, RFc_n, Nat.reduceAdd, Nat.reduceMul, Nat.reduceLT, Nat.reduceLeDiff, Nat.reduceEqDiff, Nat.reduceSub]
        exact this
      · have := fin0 x sc' q' S' hx hl'
        simp only [↓r54_56, ↓r54_64, Bool.false_eq_true, hn, hn2, ht, hF, am_wt, am_wf, Option.isSome_some, am_rf_s, am_rf_n, ps_lit, nI_add, nI_1, pk_mul, ps_cl, ps_neg, ps_c0, ps_c1, ps_n01, ps_n11, ps_10, ps_b01, ps_e0, pu_Ine, pu_Ieq, pu_ne, pu_eq, am_k_n, am_k_i, am_k_r, am_k_u, am_k_l, am_sz_0, am_sz_i, am_sz_r, am_sz_u, am_sz_l, Option.toList_some, Option.toList_none, List.cons_append, List.nil_append, true_and, and_true, or_false, false_or, or_self, or_true, true_or, not_false_eq_true, not_true_eq_false, Classical.not_not, ne_eq, ps_e1, ps_em, ps_z, Nat.not_le, false_implies, true_implies, forall_const, ps_01, ps_1n, ps_0n, ps_m10, ps_m1n, lg_cmp_gt, lg_cmp_ge, lg_cmp_le, lg_cmp_lt, lg_cmp_eq, pu_rne, pu_req, pu_uro, RFc_n, Nat.reduceAdd, Nat.reduceMul, Nat.reduceLT, Nat.reduceLeDiff, Nat.reduceEqDiff, Nat.reduceSub]
        exact this
    · rw [if_neg c1] at fin0 fin1
      simp only [↓r54_40, ↓r54_41, ↓r54_43, ↓r54_46, ↓r54_59, ↓r54_60, ↓r54_61, ↓c_sign0 h nb2 (show 40 < 200 by decide) c1, Bool.false_eq_true, hn, hn2, ht, hF, am_wt, am_wf, Option.isSome_some, am_rf_s, am_rf_n, ps_lit, nI_add, nI_1, pk_mul, ps_cl, ps_neg, ps_c0, ps_c1, ps_n01, ps_n11, ps_10, ps_b01, ps_e0, pu_Ine, pu_Ieq, pu_ne, pu_eq, am_k_n, am_k_i, am_k_r, am_k_u, am_k_l, am_sz_0, am_sz_i, am_sz_r, am_sz_u, am_sz_l, Option.toList_some, Option.toList_none, List.cons_append, List.nil_append, true_and, and_true, or_false, false_or, or_self, or_true, true_or, not_false_eq_true, not_true_eq_false, Classical.not_not, ne_eq, ps_e1, ps_em, ps_z, Nat.not_le, false_implies, true_implies, forall_const, ps_01, ps_1n, ps_0n, ps_m10, ps_m1n, lg_cmp_gt, lg_cmp_ge, lg_cmp_le, lg_cmp_lt, lg_cmp_eq, pu_rne, pu_req, pu_uro, RFc_n, Nat.reduceAdd, Nat.reduceMul, Nat.reduceLT, Nat.reduceLeDiff, Nat.reduceEqDiff, Nat.reduceSub]
      refine c_cmpR h hS d _ i sc q cc S C (by omega) nb2 hq (by omega) (fun r sc' S' hr hs' hl' hc' => ?_) (fun x sc' q' S' hx hl' => ?_)
      · have hrn : r.1 ≤ NT := by
          have hr0 := hr
          unfold pCmp at hr0
          cases e1 : pSum tk tv e i q with
          | error x => rw [e1] at hr0; cases hr0
          | ok s =>
            obtain ⟨b1, b2, b3, b4⟩ := (hB i q nb2 hq).1 s e1
            rw [e1] at hr0
            dsimp only at hr0
            by_cases c2 : tk s.1 = 160 ∨ tk s.1 = 162 ∨ tk s.1 = 161
            · have hlt : s.1 < NT := tok_lt h2 b2 (by omega)
              rw [if_pos c2] at hr0
              cases e2 : pSum tk tv e (s.1 + 1) s.2.1 with
              | error x => rw [e2] at hr0; cases hr0
              | ok u =>
                have := (hB (s.1 + 1) s.2.1 hlt b4).1 u e2
                rw [e2] at hr0
                cases hr0
                exact this.2.1
            · rw [if_neg c2] at hr0
              cases hr0
        have := fin1 r sc' S' hr hs' hl' hrn hc'
        simp only [↓r54_64, Bool.false_eq_true, hn, hn2, ht, hF, am_wt, am_wf, Option.isSome_some, am_rf_s, am_rf_n, ps_lit, nI_add, nI_1, pk_mul, ps_cl, ps_neg, ps_c0, ps_c1, ps_n01, ps_n11, ps_10, ps_b01, ps_e0, pu_Ine, pu_Ieq, pu_ne, pu_eq, am_k_n, am_k_i, am_k_r, am_k_u, am_k_l, am_sz_0, am_sz_i, am_sz_r, am_sz_u, am_sz_l, Option.toList_some, Option.toList_none, List.cons_append, List.nil_append, true_and, and_true, or_false, false_or, or_self, or_true, true_or, not_false_eq_true, not_true_eq_false, Classical.not_not, ne_eq, ps_e1, ps_em, ps_z, Nat.not_le, false_implies, true_implies, forall_const, ps_01, ps_1n, ps_0n, ps_m10, ps_m1n, lg_cmp_gt, lg_cmp_ge, lg_cmp_le, lg_cmp_lt, lg_cmp_eq, pu_rne, pu_req, pu_uro, RFc_n, Nat.reduceAdd, Nat.reduceMul, Nat.reduceLT, Nat.reduceLeDiff, Nat.reduceEqDiff, Nat.reduceSub]
        exact this
      · have := fin0 x sc' q' S' hx hl'
        simp only [↓r54_64, Bool.false_eq_true, hn, hn2, ht, hF, am_wt, am_wf, Option.isSome_some, am_rf_s, am_rf_n, ps_lit, nI_add, nI_1, pk_mul, ps_cl, ps_neg, ps_c0, ps_c1, ps_n01, ps_n11, ps_10, ps_b01, ps_e0, pu_Ine, pu_Ieq, pu_ne, pu_eq, am_k_n, am_k_i, am_k_r, am_k_u, am_k_l, am_sz_0, am_sz_i, am_sz_r, am_sz_u, am_sz_l, Option.toList_some, Option.toList_none, List.cons_append, List.nil_append, true_and, and_true, or_false, false_or, or_self, or_true, true_or, not_false_eq_true, not_true_eq_false, Classical.not_not, ne_eq, ps_e1, ps_em, ps_z, Nat.not_le, false_implies, true_implies, forall_const, ps_01, ps_1n, ps_0n, ps_m10, ps_m1n, lg_cmp_gt, lg_cmp_ge, lg_cmp_le, lg_cmp_lt, lg_cmp_eq, pu_rne, pu_req, pu_uro, RFc_n, Nat.reduceAdd, Nat.reduceMul, Nat.reduceLT, Nat.reduceLeDiff, Nat.reduceEqDiff, Nat.reduceSub]
        exact this
  have hl : ∀ g u i b, u + g = 400 → i ≤ NT → NT < i + g → (∀ l3 : Option Value, am_W X (d + k + 8) 54 40 [some (.ref 9), some (.int (nI dp)), some (.int (if (pNots tk g i b).2 = true then 1 else 0)), l3] [] (n, sl, t, cR I kT pl en nm (pNots tk g i b).1 sc q cc S C, J, F) Q) → am_W X (d + k + 8) 54 4 [some (.ref 9), some (.int (nI dp)), some (.int (if b = true then 1 else 0)), some (.int (nI u))] [] (n, sl, t, cR I kT pl en nm i sc q cc S C, J, F) Q := by
    intro g
    induction g with
    | zero => intro u i b hu hi hg; omega
    | succ g ih =>
      intro u i b hu hi hg hM
      rw [pNots] at hM
      have zu : u < 2000000 := by omega
      have zu2 : ¬ 400 ≤ u := by omega
      rw [r54_4]
      by_cases c1 : tk i = 8
      · rw [if_pos c1] at hM
        have hlt : i < NT := tok_lt h2 hi (by omega)
        have := ih (u + 1) (i + 1) (!b) (by omega) hlt (by omega) hM
        cases b <;> simp only [Bool.not_true, Bool.not_false, Bool.false_eq_true, if_true, if_false] at this <;> simp only [↓r54_5, ↓r54_8, ↓r54_11, ↓r54_12, ↓r54_14, ↓r54_17, ↓r54_20, ↓r54_21, ↓r54_24, ↓r54_25, ↓r54_28, ↓r54_29, ↓r54_30, ↓r54_31, ↓r54_34, ↓r54_37, ↓c_word1 (k := 4) h hi (by decide) c1, ↓c_goOn h hlt, Bool.false_eq_true, if_true, if_false, q_le, q_lt, q_eq, q_e0, q_e1, q_0e, q_1e, ps_n0, q_0le, q_le0, q_0lt, q_m1e, q_em1, zu, zu2, Bool.false_eq_true, hn, hn2, ht, hF, am_wt, am_wf, Option.isSome_some, am_rf_s, am_rf_n, ps_lit, nI_add, nI_1, pk_mul, ps_cl, ps_neg, ps_c0, ps_c1, ps_n01, ps_n11, ps_10, ps_b01, ps_e0, pu_Ine, pu_Ieq, pu_ne, pu_eq, am_k_n, am_k_i, am_k_r, am_k_u, am_k_l, am_sz_0, am_sz_i, am_sz_r, am_sz_u, am_sz_l, Option.toList_some, Option.toList_none, List.cons_append, List.nil_append, true_and, and_true, or_false, false_or, or_self, or_true, true_or, not_false_eq_true, not_true_eq_false, Classical.not_not, ne_eq, ps_e1, ps_em, ps_z, Nat.not_le, false_implies, true_implies, forall_const, ps_01, ps_1n, ps_0n, ps_m10, ps_m1n, lg_cmp_gt, lg_cmp_ge, lg_cmp_le, lg_cmp_lt, lg_cmp_eq, pu_rne, pu_req, pu_uro, RFc_n, Nat.reduceAdd, Nat.reduceMul, Nat.reduceLT, Nat.reduceLeDiff, Nat.reduceEqDiff, Nat.reduceSub] <;> exact this
      · rw [if_neg c1] at hM
        have := hM (some (.int (nI u)))
        simp only [↓r54_5, ↓r54_8, ↓r54_11, ↓r54_12, ↓r54_14, ↓r54_17, ↓c_word0 (k := 4) h hi (by decide) c1, q_le, q_lt, q_eq, q_e0, q_e1, q_0e, q_1e, ps_n0, q_0le, q_le0, q_0lt, q_m1e, q_em1, zu, zu2, Bool.false_eq_true, hn, hn2, ht, hF, am_wt, am_wf, Option.isSome_some, am_rf_s, am_rf_n, ps_lit, nI_add, nI_1, pk_mul, ps_cl, ps_neg, ps_c0, ps_c1, ps_n01, ps_n11, ps_10, ps_b01, ps_e0, pu_Ine, pu_Ieq, pu_ne, pu_eq, am_k_n, am_k_i, am_k_r, am_k_u, am_k_l, am_sz_0, am_sz_i, am_sz_r, am_sz_u, am_sz_l, Option.toList_some, Option.toList_none, List.cons_append, List.nil_append, true_and, and_true, or_false, false_or, or_self, or_true, true_or, not_false_eq_true, not_true_eq_false, Classical.not_not, ne_eq, ps_e1, ps_em, ps_z, Nat.not_le, false_implies, true_implies, forall_const, ps_01, ps_1n, ps_0n, ps_m10, ps_m1n, lg_cmp_gt, lg_cmp_ge, lg_cmp_le, lg_cmp_lt, lg_cmp_eq, pu_rne, pu_req, pu_uro, RFc_n, Nat.reduceAdd, Nat.reduceMul, Nat.reduceLT, Nat.reduceLeDiff, Nat.reduceEqDiff, Nat.reduceSub]
        exact this
  have := hl 400 0 i0 false (by omega) hi0 (by omega) main
  simp only [↓r54_0, ↓r54_1, ↓r54_2, ↓r54_3, Bool.false_eq_true, hn, hn2, ht, hF, am_wt, am_wf, Option.isSome_some, am_rf_s, am_rf_n, ps_lit, nI_add, nI_1, pk_mul, ps_cl, ps_neg, ps_c0, ps_c1, ps_n01, ps_n11, ps_10, ps_b01, ps_e0, pu_Ine, pu_Ieq, pu_ne, pu_eq, am_k_n, am_k_i, am_k_r, am_k_u, am_k_l, am_sz_0, am_sz_i, am_sz_r, am_sz_u, am_sz_l, Option.toList_some, Option.toList_none, List.cons_append, List.nil_append, true_and, and_true, or_false, false_or, or_self, or_true, true_or, not_false_eq_true, not_true_eq_false, Classical.not_not, ne_eq, ps_e1, ps_em, ps_z, Nat.not_le, false_implies, true_implies, forall_const, ps_01, ps_1n, ps_0n, ps_m10, ps_m1n, lg_cmp_gt, lg_cmp_ge, lg_cmp_le, lg_cmp_lt, lg_cmp_eq, pu_rne, pu_req, pu_uro, RFc_n, Nat.reduceAdd, Nat.reduceMul, Nat.reduceLT, Nat.reduceLeDiff, Nat.reduceEqDiff, Nat.reduceSub]
  exact this
theorem c_bothR {k e : Nat} (h : TKC X n sl t I J F tk tv pl kT en nm NT) (hP : KRd X (k + 8) n sl t I J F pl kT en nm NT 54 [some (.ref 9), some (.int (nI dp)), none, none] (pPlain tk (pSum tk tv e) (tPr tk tv e)) CB) (hB : BD NT (pPlain tk (pSum tk tv e) (tPr tk tv e))) : KRd X (k + 9) n sl t I J F pl kT en nm NT 53 [some (.ref 9), some (.int (nI dp)), none, none, none] (pThen tk seN (pPlain tk (pSum tk tv e) (tPr tk tv e)) (fun _ a b => anD a b)) CB := by
  intro d Q i0 sc0 q0 cc S0 C hi1 hi0 hq0 hsc0 hok0 her0
  have hW := h.1
  obtain ⟨hn, hn2, ht, hF⟩ := id hW
  obtain ⟨h1, h2⟩ := h.2.1
  show am_W X (d + k + 9) 53 0 [some (.ref 9), some (.int (nI dp)), none, none, none] [] (n, sl, t, cR I kT pl en nm i0 sc0 q0 cc S0 C, J, F) Q
  have bad : ∀ (x sc q u : Nat) (S : Nat → Int32) (l4 : Option Value), u ≤ 400 → Q (some (.int 0)) (n, sl, t, cR I kT pl en nm x sc q cc S C, J, F) → am_W X (d + k + 9) 53 8 [some (.ref 9), some (.int (nI dp)), some (.int 0), some (.int (nI u)), l4] [] (n, sl, t, cR I kT pl en nm x sc q cc S C, J, F) Q := by
    intro x sc q u S l4 hu hQ
    have z : u < 2000000 := by omega
    rw [r53_8]
    by_cases c : 400 ≤ u
    · simp only [↓r53_9, ↓r53_12, ↓r53_15, ↓r53_16, ↓r53_63, ↓r53_64, q_le, q_lt, q_eq, q_e0, q_e1, q_0e, q_1e, ps_n0, q_0le, q_le0, q_0lt, q_m1e, q_em1, z, c, Bool.false_eq_true, hn, hn2, ht, hF, am_wt, am_wf, Option.isSome_some, am_rf_s, am_rf_n, ps_lit, nI_add, nI_1, pk_mul, ps_cl, ps_neg, ps_c0, ps_c1, ps_n01, ps_n11, ps_10, ps_b01, ps_e0, pu_Ine, pu_Ieq, pu_ne, pu_eq, am_k_n, am_k_i, am_k_r, am_k_u, am_k_l, am_sz_0, am_sz_i, am_sz_r, am_sz_u, am_sz_l, Option.toList_some, Option.toList_none, List.cons_append, List.nil_append, true_and, and_true, or_false, false_or, or_self, or_true, true_or, not_false_eq_true, not_true_eq_false, Classical.not_not, ne_eq, ps_e1, ps_em, ps_z, Nat.not_le, false_implies, true_implies, forall_const, ps_01, ps_1n, ps_0n, ps_m10, ps_m1n, lg_cmp_gt, lg_cmp_ge, lg_cmp_le, lg_cmp_lt, lg_cmp_eq, pu_rne, pu_req, pu_uro, RFc_n, Nat.reduceAdd, Nat.reduceMul, Nat.reduceLT, Nat.reduceLeDiff, Nat.reduceEqDiff, Nat.reduceSub]
      exact hQ
    · simp only [↓r53_9, ↓r53_12, ↓r53_15, ↓r53_16, ↓r53_63, ↓r53_64, q_le, q_lt, q_eq, q_e0, q_e1, q_0e, q_1e, ps_n0, q_0le, q_le0, q_0lt, q_m1e, q_em1, z, c, Bool.false_eq_true, hn, hn2, ht, hF, am_wt, am_wf, Option.isSome_some, am_rf_s, am_rf_n, ps_lit, nI_add, nI_1, pk_mul, ps_cl, ps_neg, ps_c0, ps_c1, ps_n01, ps_n11, ps_10, ps_b01, ps_e0, pu_Ine, pu_Ieq, pu_ne, pu_eq, am_k_n, am_k_i, am_k_r, am_k_u, am_k_l, am_sz_0, am_sz_i, am_sz_r, am_sz_u, am_sz_l, Option.toList_some, Option.toList_none, List.cons_append, List.nil_append, true_and, and_true, or_false, false_or, or_self, or_true, true_or, not_false_eq_true, not_true_eq_false, Classical.not_not, ne_eq, ps_e1, ps_em, ps_z, Nat.not_le, false_implies, true_implies, forall_const, ps_01, ps_1n, ps_0n, ps_m10, ps_m1n, lg_cmp_gt, lg_cmp_ge, lg_cmp_le, lg_cmp_lt, lg_cmp_eq, pu_rne, pu_req, pu_uro, RFc_n, Nat.reduceAdd, Nat.reduceMul, Nat.reduceLT, Nat.reduceLeDiff, Nat.reduceEqDiff, Nat.reduceSub]
      exact hQ
  have hl : ∀ g u i q sc (S : Nat → Int32) D (l4 : Option Value), u + g = 400 → 1 ≤ i → i ≤ NT → NT < i + g → q0 ≤ q → q ≤ 50 → (∀ j, j < sc0 → S j = S0 j) → sc + i0 ≤ sc0 + i → CB S sc0 sc (q - q0) D → (∀ r sc' S', pMore tk seN (pPlain tk (pSum tk tv e) (tPr tk tv e)) (fun _ a b => anD a b) g i q D = .ok r → (∀ j, j < sc0 → S' j = S0 j) → sc' + i0 ≤ sc0 + r.1 → CB S' sc0 sc' (r.2.1 - q0) r.2.2 → Q (some (.int 1)) (n, sl, t, cR I kT pl en nm r.1 sc' r.2.1 cc S' C, J, F)) → (∀ x sc' q' S', pMore tk seN (pPlain tk (pSum tk tv e) (tPr tk tv e)) (fun _ a b => anD a b) g i q D = .error x → sc' ≤ 400 → Q (some (.int 0)) (n, sl, t, cR I kT pl en nm x sc' q' cc S' C, J, F)) → am_W X (d + k + 9) 53 8 [some (.ref 9), some (.int (nI dp)), some (.int 1), some (.int (nI u)), l4] [] (n, sl, t, cR I kT pl en nm i sc q cc S C, J, F) Q := by
    intro g
    induction g with
    | zero => intro u i q sc S D l4 hu hi1 hi hg; omega
    | succ g ih =>
      intro u i q sc S D l4 hu hi1 hi hg hq1 hq hs hsc hCI hok her
      have hsi : sc ≤ i := by omega
      rw [pMore] at hok her
      have zu : u < 2000000 := by omega
      have zu2 : ¬ 400 ≤ u := by omega
      rw [r53_8]
      by_cases c1 : tk i = 7
      · have hc : seN (tk i) = true := by rw [c1]; rfl
        rw [if_pos hc] at hok her
        have hlt : i < NT := tok_lt h2 hi (by omega)
        simp only [↓r53_9, ↓r53_12, ↓r53_15, ↓r53_16, ↓r53_19, ↓r53_20, ↓r53_22, ↓r53_25, ↓r53_28, ↓r53_29, ↓r53_32, ↓r53_34, ↓r53_35, ↓r53_38, ↓r53_41, ↓r53_42, ↓r53_45, ↓r53_46, ↓r53_47, ↓c_word1 (k := 5) h hi (by decide) c1, ↓c_putS hW (show sc < 400 by omega), ↓c_goOn h hlt, cR_9, q9_2, q_le, q_lt, q_eq, q_e0, q_e1, q_0e, q_1e, ps_n0, q_0le, q_le0, q_0lt, q_m1e, q_em1, zu, zu2, Bool.false_eq_true, hn, hn2, ht, hF, am_wt, am_wf, Option.isSome_some, am_rf_s, am_rf_n, ps_lit, nI_add, nI_1, pk_mul, ps_cl, ps_neg, ps_c0, ps_c1, ps_n01, ps_n11, ps_10, ps_b01, ps_e0, pu_Ine, pu_Ieq, pu_ne, pu_eq, am_k_n, am_k_i, am_k_r, am_k_u, am_k_l, am_sz_0, am_sz_i, am_sz_r, am_sz_u, am_sz_l, Option.toList_some, Option.toList_none, List.cons_append, List.nil_append, true_and, and_true, or_false, false_or, or_self, or_true, true_or, not_false_eq_true, not_true_eq_false, Classical.not_not, ne_eq, ps_e1, ps_em, ps_z, Nat.not_le, false_implies, true_implies, forall_const, ps_01, ps_1n, ps_0n, ps_m10, ps_m1n, lg_cmp_gt, lg_cmp_ge, lg_cmp_le, lg_cmp_lt, lg_cmp_eq, pu_rne, pu_req, pu_uro, RFc_n, Nat.reduceAdd, Nat.reduceMul, Nat.reduceLT, Nat.reduceLeDiff, Nat.reduceEqDiff, Nat.reduceSub]
        refine hP d _ (i + 1) (sc + 1) q cc _ C (by omega) hlt hq (by omega) (fun r sc' S' hr hs' hl' hc' => ?_) (fun x sc' q' S' hx hl' => ?_)
        · obtain ⟨b1, b2, b3, b4⟩ := (hB (i + 1) q hlt hq).1 r hr
          rw [hr] at hok her
          dsimp only at hok her
          have hlt2 : sc + 1 < sc' := hc'.1.1
          have ej : S' sc = nI 2000 := by rw [hs' sc (by omega), pu_eq]
          have hs2 : ∀ j, j < sc → upd S' sc (nI (2000 + sc')) j = S j := fun j hj => by rw [pu_ne (by omega), hs' j (by omega), pu_ne (by omega)]
          have hn' := CB_and (CB_s hCI (fun j _ hj => hs2 j hj)) (CB_s (S2 := upd S' sc (nI (2000 + sc'))) hc' (fun j hj _ => pu_ne (by omega))) (by omega) pu_eq
          have ek : q - q0 + (r.2.1 - q) = r.2.1 - q0 := by omega
          rw [ek] at hn'
          have hsc00 : sc0 ≤ sc := by have := hCI.1.1; omega
          have := ih (u + 1) r.1 r.2.1 sc' (upd S' sc (nI (2000 + sc'))) _ (some (.int (nI sc))) (by omega) (by omega) b2 (by omega) (by omega) b4 (fun j hj => by rw [hs2 j (by omega)]; exact hs j hj) (by omega) hn' hok her
          simp only [↓r53_50, ↓r53_51, ↓r53_52, ↓r53_54, ↓r53_57, ↓r53_60, ↓c_aim hW (show sc < 400 by omega) ej, Bool.false_eq_true, hn, hn2, ht, hF, am_wt, am_wf, Option.isSome_some, am_rf_s, am_rf_n, ps_lit, nI_add, nI_1, pk_mul, ps_cl, ps_neg, ps_c0, ps_c1, ps_n01, ps_n11, ps_10, ps_b01, ps_e0, pu_Ine, pu_Ieq, pu_ne, pu_eq, am_k_n, am_k_i, am_k_r, am_k_u, am_k_l, am_sz_0, am_sz_i, am_sz_r, am_sz_u, am_sz_l, Option.toList_some, Option.toList_none, List.cons_append, List.nil_append, true_and, and_true, or_false, false_or, or_self, or_true, true_or, not_false_eq_true, not_true_eq_false, Classical.not_not, ne_eq, ps_e1, ps_em, ps_z, Nat.not_le, false_implies, true_implies, forall_const, ps_01, ps_1n, ps_0n, ps_m10, ps_m1n, lg_cmp_gt, lg_cmp_ge, lg_cmp_le, lg_cmp_lt, lg_cmp_eq, pu_rne, pu_req, pu_uro, RFc_n, Nat.reduceAdd, Nat.reduceMul, Nat.reduceLT, Nat.reduceLeDiff, Nat.reduceEqDiff, Nat.reduceSub]
          exact this
        · rw [hx] at her
          have := bad x sc' q' (u + 1) (upd S' sc (S' sc + nI sc')) (some (.int (nI sc))) (by omega) (her x sc' q' _ rfl hl')
          simp only [↓r53_50, ↓r53_51, ↓r53_52, ↓r53_54, ↓r53_57, ↓r53_60, ↓c_aimE hW (show sc < 400 by omega), Bool.false_eq_true, hn, hn2, ht, hF, am_wt, am_wf, Option.isSome_some, am_rf_s, am_rf_n, ps_lit, nI_add, nI_1, pk_mul, ps_cl, ps_neg, ps_c0, ps_c1, ps_n01, ps_n11, ps_10, ps_b01, ps_e0, pu_Ine, pu_Ieq, pu_ne, pu_eq, am_k_n, am_k_i, am_k_r, am_k_u, am_k_l, am_sz_0, am_sz_i, am_sz_r, am_sz_u, am_sz_l, Option.toList_some, Option.toList_none, List.cons_append, List.nil_append, true_and, and_true, or_false, false_or, or_self, or_true, true_or, not_false_eq_true, not_true_eq_false, Classical.not_not, ne_eq, ps_e1, ps_em, ps_z, Nat.not_le, false_implies, true_implies, forall_const, ps_01, ps_1n, ps_0n, ps_m10, ps_m1n, lg_cmp_gt, lg_cmp_ge, lg_cmp_le, lg_cmp_lt, lg_cmp_eq, pu_rne, pu_req, pu_uro, RFc_n, Nat.reduceAdd, Nat.reduceMul, Nat.reduceLT, Nat.reduceLeDiff, Nat.reduceEqDiff, Nat.reduceSub]
          exact this
      · have hc : ¬ seN (tk i) = true := by
          unfold seN
          simp only [beq_iff_eq]
          exact c1
        rw [if_neg hc] at hok
        have := hok _ sc S rfl hs hsc hCI
        simp only [↓r53_9, ↓r53_12, ↓r53_15, ↓r53_16, ↓r53_19, ↓r53_20, ↓r53_22, ↓r53_25, ↓r53_63, ↓r53_64, ↓c_word0 (k := 5) h hi (by decide) c1, q_le, q_lt, q_eq, q_e0, q_e1, q_0e, q_1e, ps_n0, q_0le, q_le0, q_0lt, q_m1e, q_em1, zu, zu2, Bool.false_eq_true, hn, hn2, ht, hF, am_wt, am_wf, Option.isSome_some, am_rf_s, am_rf_n, ps_lit, nI_add, nI_1, pk_mul, ps_cl, ps_neg, ps_c0, ps_c1, ps_n01, ps_n11, ps_10, ps_b01, ps_e0, pu_Ine, pu_Ieq, pu_ne, pu_eq, am_k_n, am_k_i, am_k_r, am_k_u, am_k_l, am_sz_0, am_sz_i, am_sz_r, am_sz_u, am_sz_l, Option.toList_some, Option.toList_none, List.cons_append, List.nil_append, true_and, and_true, or_false, false_or, or_self, or_true, true_or, not_false_eq_true, not_true_eq_false, Classical.not_not, ne_eq, ps_e1, ps_em, ps_z, Nat.not_le, false_implies, true_implies, forall_const, ps_01, ps_1n, ps_0n, ps_m10, ps_m1n, lg_cmp_gt, lg_cmp_ge, lg_cmp_le, lg_cmp_lt, lg_cmp_eq, pu_rne, pu_req, pu_uro, RFc_n, Nat.reduceAdd, Nat.reduceMul, Nat.reduceLT, Nat.reduceLeDiff, Nat.reduceEqDiff, Nat.reduceSub]
        exact this
  unfold pThen at hok0 her0
  simp only [↓r53_0, ↓r53_1, ↓r53_2, Bool.false_eq_true, hn, hn2, ht, hF, am_wt, am_wf, Option.isSome_some, am_rf_s, am_rf_n, ps_lit, nI_add, nI_1, pk_mul, ps_cl, ps_neg, ps_c0, ps_c1, ps_n01, ps_n11, ps_10, ps_b01, ps_e0, pu_Ine, pu_Ieq, pu_ne, pu_eq, am_k_n, am_k_i, am_k_r, am_k_u, am_k_l, am_sz_0, am_sz_i, am_sz_r, am_sz_u, am_sz_l, Option.toList_some, Option.toList_none, List.cons_append, List.nil_append, true_and, and_true, or_false, false_or, or_self, or_true, true_or, not_false_eq_true, not_true_eq_false, Classical.not_not, ne_eq, ps_e1, ps_em, ps_z, Nat.not_le, false_implies, true_implies, forall_const, ps_01, ps_1n, ps_0n, ps_m10, ps_m1n, lg_cmp_gt, lg_cmp_ge, lg_cmp_le, lg_cmp_lt, lg_cmp_eq, pu_rne, pu_req, pu_uro, RFc_n, Nat.reduceAdd, Nat.reduceMul, Nat.reduceLT, Nat.reduceLeDiff, Nat.reduceEqDiff, Nat.reduceSub]
  refine hP d _ i0 sc0 q0 cc S0 C hi1 hi0 hq0 hsc0 (fun r sc' S' hr hs' hl' hc' => ?_) (fun x sc' q' S' hx hl' => ?_)
  · obtain ⟨b1, b2, b3, b4⟩ := (hB i0 q0 hi0 hq0).1 r hr
    rw [hr] at hok0 her0
    have := hl 400 0 r.1 r.2.1 sc' S' r.2.2 none (by omega) (by omega) b2 (by omega) (by omega) b4 hs' hl' hc' hok0 her0
    simp only [↓r53_5, ↓r53_6, ↓r53_7, Bool.false_eq_true, hn, hn2, ht, hF, am_wt, am_wf, Option.isSome_some, am_rf_s, am_rf_n, ps_lit, nI_add, nI_1, pk_mul, ps_cl, ps_neg, ps_c0, ps_c1, ps_n01, ps_n11, ps_10, ps_b01, ps_e0, pu_Ine, pu_Ieq, pu_ne, pu_eq, am_k_n, am_k_i, am_k_r, am_k_u, am_k_l, am_sz_0, am_sz_i, am_sz_r, am_sz_u, am_sz_l, Option.toList_some, Option.toList_none, List.cons_append, List.nil_append, true_and, and_true, or_false, false_or, or_self, or_true, true_or, not_false_eq_true, not_true_eq_false, Classical.not_not, ne_eq, ps_e1, ps_em, ps_z, Nat.not_le, false_implies, true_implies, forall_const, ps_01, ps_1n, ps_0n, ps_m10, ps_m1n, lg_cmp_gt, lg_cmp_ge, lg_cmp_le, lg_cmp_lt, lg_cmp_eq, pu_rne, pu_req, pu_uro, RFc_n, Nat.reduceAdd, Nat.reduceMul, Nat.reduceLT, Nat.reduceLeDiff, Nat.reduceEqDiff, Nat.reduceSub]
    exact this
  · have hx1 := (hB i0 q0 hi0 hq0).2 x hx
    rw [hx] at her0
    have := bad x sc' q' 0 S' none (by omega) (her0 x sc' q' S' rfl hl')
    simp only [↓r53_5, ↓r53_6, ↓r53_7, Bool.false_eq_true, hn, hn2, ht, hF, am_wt, am_wf, Option.isSome_some, am_rf_s, am_rf_n, ps_lit, nI_add, nI_1, pk_mul, ps_cl, ps_neg, ps_c0, ps_c1, ps_n01, ps_n11, ps_10, ps_b01, ps_e0, pu_Ine, pu_Ieq, pu_ne, pu_eq, am_k_n, am_k_i, am_k_r, am_k_u, am_k_l, am_sz_0, am_sz_i, am_sz_r, am_sz_u, am_sz_l, Option.toList_some, Option.toList_none, List.cons_append, List.nil_append, true_and, and_true, or_false, false_or, or_self, or_true, true_or, not_false_eq_true, not_true_eq_false, Classical.not_not, ne_eq, ps_e1, ps_em, ps_z, Nat.not_le, false_implies, true_implies, forall_const, ps_01, ps_1n, ps_0n, ps_m10, ps_m1n, lg_cmp_gt, lg_cmp_ge, lg_cmp_le, lg_cmp_lt, lg_cmp_eq, pu_rne, pu_req, pu_uro, RFc_n, Nat.reduceAdd, Nat.reduceMul, Nat.reduceLT, Nat.reduceLeDiff, Nat.reduceEqDiff, Nat.reduceSub]
    exact this
theorem c_testR0 {k e : Nat} (h : TKC X n sl t I J F tk tv pl kT en nm NT) (hP : KRd X (k + 9) n sl t I J F pl kT en nm NT 53 [some (.ref 9), some (.int (nI dp)), none, none, none] (pBoth tk (pSum tk tv e) (tPr tk tv e)) CB) (hB : BD NT (pBoth tk (pSum tk tv e) (tPr tk tv e))) : KRd X (k + 10) n sl t I J F pl kT en nm NT 52 [some (.ref 9), some (.int (nI dp)), none, none, none] (pThen tk seO (pBoth tk (pSum tk tv e) (tPr tk tv e)) (fun _ a b => orD a b)) CB := by
  intro d Q i0 sc0 q0 cc S0 C hi1 hi0 hq0 hsc0 hok0 her0
  have hW := h.1
  obtain ⟨hn, hn2, ht, hF⟩ := id hW
  obtain ⟨h1, h2⟩ := h.2.1
  show am_W X (d + k + 10) 52 0 [some (.ref 9), some (.int (nI dp)), none, none, none] [] (n, sl, t, cR I kT pl en nm i0 sc0 q0 cc S0 C, J, F) Q
  have bad : ∀ (x sc q u : Nat) (S : Nat → Int32) (l4 : Option Value), u ≤ 400 → Q (some (.int 0)) (n, sl, t, cR I kT pl en nm x sc q cc S C, J, F) → am_W X (d + k + 10) 52 8 [some (.ref 9), some (.int (nI dp)), some (.int 0), some (.int (nI u)), l4] [] (n, sl, t, cR I kT pl en nm x sc q cc S C, J, F) Q := by
    intro x sc q u S l4 hu hQ
    have z : u < 2000000 := by omega
    rw [r52_8]
    by_cases c : 400 ≤ u
    · simp only [↓r52_9, ↓r52_12, ↓r52_15, ↓r52_16, ↓r52_63, ↓r52_64, q_le, q_lt, q_eq, q_e0, q_e1, q_0e, q_1e, ps_n0, q_0le, q_le0, q_0lt, q_m1e, q_em1, z, c, Bool.false_eq_true, hn, hn2, ht, hF, am_wt, am_wf, Option.isSome_some, am_rf_s, am_rf_n, ps_lit, nI_add, nI_1, pk_mul, ps_cl, ps_neg, ps_c0, ps_c1, ps_n01, ps_n11, ps_10, ps_b01, ps_e0, pu_Ine, pu_Ieq, pu_ne, pu_eq, am_k_n, am_k_i, am_k_r, am_k_u, am_k_l, am_sz_0, am_sz_i, am_sz_r, am_sz_u, am_sz_l, Option.toList_some, Option.toList_none, List.cons_append, List.nil_append, true_and, and_true, or_false, false_or, or_self, or_true, true_or, not_false_eq_true, not_true_eq_false, Classical.not_not, ne_eq, ps_e1, ps_em, ps_z, Nat.not_le, false_implies, true_implies, forall_const, ps_01, ps_1n, ps_0n, ps_m10, ps_m1n, lg_cmp_gt, lg_cmp_ge, lg_cmp_le, lg_cmp_lt, lg_cmp_eq, pu_rne, pu_req, pu_uro, RFc_n, Nat.reduceAdd, Nat.reduceMul, Nat.reduceLT, Nat.reduceLeDiff, Nat.reduceEqDiff, Nat.reduceSub]
      exact hQ
    · simp only [↓r52_9, ↓r52_12, ↓r52_15, ↓r52_16, ↓r52_63, ↓r52_64, q_le, q_lt, q_eq, q_e0, q_e1, q_0e, q_1e, ps_n0, q_0le, q_le0, q_0lt, q_m1e, q_em1, z, c, Bool.false_eq_true, hn, hn2, ht, hF, am_wt, am_wf, Option.isSome_some, am_rf_s, am_rf_n, ps_lit, nI_add, nI_1, pk_mul, ps_cl, ps_neg, ps_c0, ps_c1, ps_n01, ps_n11, ps_10, ps_b01, ps_e0, pu_Ine, pu_Ieq, pu_ne, pu_eq, am_k_n, am_k_i, am_k_r, am_k_u, am_k_l, am_sz_0, am_sz_i, am_sz_r, am_sz_u, am_sz_l, Option.toList_some, Option.toList_none, List.cons_append, List.nil_append, true_and, and_true, or_false, false_or, or_self, or_true, true_or, not_false_eq_true, not_true_eq_false, Classical.not_not, ne_eq, ps_e1, ps_em, ps_z, Nat.not_le, false_implies, true_implies, forall_const, ps_01, ps_1n, ps_0n, ps_m10, ps_m1n, lg_cmp_gt, lg_cmp_ge, lg_cmp_le, lg_cmp_lt, lg_cmp_eq, pu_rne, pu_req, pu_uro, RFc_n, Nat.reduceAdd, Nat.reduceMul, Nat.reduceLT, Nat.reduceLeDiff, Nat.reduceEqDiff, Nat.reduceSub]
      exact hQ
  have hl : ∀ g u i q sc (S : Nat → Int32) D (l4 : Option Value), u + g = 400 → 1 ≤ i → i ≤ NT → NT < i + g → q0 ≤ q → q ≤ 50 → (∀ j, j < sc0 → S j = S0 j) → sc + i0 ≤ sc0 + i → CB S sc0 sc (q - q0) D → (∀ r sc' S', pMore tk seO (pBoth tk (pSum tk tv e) (tPr tk tv e)) (fun _ a b => orD a b) g i q D = .ok r → (∀ j, j < sc0 → S' j = S0 j) → sc' + i0 ≤ sc0 + r.1 → CB S' sc0 sc' (r.2.1 - q0) r.2.2 → Q (some (.int 1)) (n, sl, t, cR I kT pl en nm r.1 sc' r.2.1 cc S' C, J, F)) → (∀ x sc' q' S', pMore tk seO (pBoth tk (pSum tk tv e) (tPr tk tv e)) (fun _ a b => orD a b) g i q D = .error x → sc' ≤ 400 → Q (some (.int 0)) (n, sl, t, cR I kT pl en nm x sc' q' cc S' C, J, F)) → am_W X (d + k + 10) 52 8 [some (.ref 9), some (.int (nI dp)), some (.int 1), some (.int (nI u)), l4] [] (n, sl, t, cR I kT pl en nm i sc q cc S C, J, F) Q := by
    intro g
    induction g with
    | zero => intro u i q sc S D l4 hu hi1 hi hg; omega
    | succ g ih =>
      intro u i q sc S D l4 hu hi1 hi hg hq1 hq hs hsc hCI hok her
      have hsi : sc ≤ i := by omega
      rw [pMore] at hok her
      have zu : u < 2000000 := by omega
      have zu2 : ¬ 400 ≤ u := by omega
      rw [r52_8]
      by_cases c1 : tk i = 6
      · have hc : seO (tk i) = true := by rw [c1]; rfl
        rw [if_pos hc] at hok her
        have hlt : i < NT := tok_lt h2 hi (by omega)
        simp only [↓r52_9, ↓r52_12, ↓r52_15, ↓r52_16, ↓r52_19, ↓r52_20, ↓r52_22, ↓r52_25, ↓r52_28, ↓r52_29, ↓r52_32, ↓r52_34, ↓r52_35, ↓r52_38, ↓r52_41, ↓r52_42, ↓r52_45, ↓r52_46, ↓r52_47, ↓c_word1 (k := 6) h hi (by decide) c1, ↓c_putS hW (show sc < 400 by omega), ↓c_goOn h hlt, cR_9, q9_2, q_le, q_lt, q_eq, q_e0, q_e1, q_0e, q_1e, ps_n0, q_0le, q_le0, q_0lt, q_m1e, q_em1, zu, zu2, Bool.false_eq_true, hn, hn2, ht, hF, am_wt, am_wf, Option.isSome_some, am_rf_s, am_rf_n, ps_lit, nI_add, nI_1, pk_mul, ps_cl, ps_neg, ps_c0, ps_c1, ps_n01, ps_n11, ps_10, ps_b01, ps_e0, pu_Ine, pu_Ieq, pu_ne, pu_eq, am_k_n, am_k_i, am_k_r, am_k_u, am_k_l, am_sz_0, am_sz_i, am_sz_r, am_sz_u, am_sz_l, Option.toList_some, Option.toList_none, List.cons_append, List.nil_append, true_and, and_true, or_false, false_or, or_self, or_true, true_or, not_false_eq_true, not_true_eq_false, Classical.not_not, ne_eq, ps_e1, ps_em, ps_z, Nat.not_le, false_implies, true_implies, forall_const, ps_01, ps_1n, ps_0n, ps_m10, ps_m1n, lg_cmp_gt, lg_cmp_ge, lg_cmp_le, lg_cmp_lt, lg_cmp_eq, pu_rne, pu_req, pu_uro, RFc_n, Nat.reduceAdd, Nat.reduceMul, Nat.reduceLT, Nat.reduceLeDiff, Nat.reduceEqDiff, Nat.reduceSub]
        refine hP d _ (i + 1) (sc + 1) q cc _ C (by omega) hlt hq (by omega) (fun r sc' S' hr hs' hl' hc' => ?_) (fun x sc' q' S' hx hl' => ?_)
        · obtain ⟨b1, b2, b3, b4⟩ := (hB (i + 1) q hlt hq).1 r hr
          rw [hr] at hok her
          dsimp only at hok her
          have hlt2 : sc + 1 < sc' := hc'.1.1
          have ej : S' sc = nI 3000 := by rw [hs' sc (by omega), pu_eq]
          have hs2 : ∀ j, j < sc → upd S' sc (nI (3000 + sc')) j = S j := fun j hj => by rw [pu_ne (by omega), hs' j (by omega), pu_ne (by omega)]
          have hn' := CB_or (CB_s hCI (fun j _ hj => hs2 j hj)) (CB_s (S2 := upd S' sc (nI (3000 + sc'))) hc' (fun j hj _ => pu_ne (by omega))) (by omega) pu_eq
          have ek : q - q0 + (r.2.1 - q) = r.2.1 - q0 := by omega
          rw [ek] at hn'
          have hsc00 : sc0 ≤ sc := by have := hCI.1.1; omega
          have := ih (u + 1) r.1 r.2.1 sc' (upd S' sc (nI (3000 + sc'))) _ (some (.int (nI sc))) (by omega) (by omega) b2 (by omega) (by omega) b4 (fun j hj => by rw [hs2 j (by omega)]; exact hs j hj) (by omega) hn' hok her
          simp only [↓r52_50, ↓r52_51, ↓r52_52, ↓r52_54, ↓r52_57, ↓r52_60, ↓c_aim hW (show sc < 400 by omega) ej, Bool.false_eq_true, hn, hn2, ht, hF, am_wt, am_wf, Option.isSome_some, am_rf_s, am_rf_n, ps_lit, nI_add, nI_1, pk_mul, ps_cl, ps_neg, ps_c0, ps_c1, ps_n01, ps_n11, ps_10, ps_b01, ps_e0, pu_Ine, pu_Ieq, pu_ne, pu_eq, am_k_n, am_k_i, am_k_r, am_k_u, am_k_l, am_sz_0, am_sz_i, am_sz_r, am_sz_u, am_sz_l, Option.toList_some, Option.toList_none, List.cons_append, List.nil_append, true_and, and_true, or_false, false_or, or_self, or_true, true_or, not_false_eq_true, not_true_eq_false, Classical.not_not, ne_eq, ps_e1, ps_em, ps_z, Nat.not_le, false_implies, true_implies, forall_const, ps_01, ps_1n, ps_0n, ps_m10, ps_m1n, lg_cmp_gt, lg_cmp_ge, lg_cmp_le, lg_cmp_lt, lg_cmp_eq, pu_rne, pu_req, pu_uro, RFc_n, Nat.reduceAdd, Nat.reduceMul, Nat.reduceLT, Nat.reduceLeDiff, Nat.reduceEqDiff, Nat.reduceSub]
          exact this
        · rw [hx] at her
          have := bad x sc' q' (u + 1) (upd S' sc (S' sc + nI sc')) (some (.int (nI sc))) (by omega) (her x sc' q' _ rfl hl')
          simp only [↓r52_50, ↓r52_51, ↓r52_52, ↓r52_54, ↓r52_57, ↓r52_60, ↓c_aimE hW (show sc < 400 by omega), Bool.false_eq_true, hn, hn2, ht, hF, am_wt, am_wf, Option.isSome_some, am_rf_s, am_rf_n, ps_lit, nI_add, nI_1, pk_mul, ps_cl, ps_neg, ps_c0, ps_c1, ps_n01, ps_n11, ps_10, ps_b01, ps_e0, pu_Ine, pu_Ieq, pu_ne, pu_eq, am_k_n, am_k_i, am_k_r, am_k_u, am_k_l, am_sz_0, am_sz_i, am_sz_r, am_sz_u, am_sz_l, Option.toList_some, Option.toList_none, List.cons_append, List.nil_append, true_and, and_true, or_false, false_or, or_self, or_true, true_or, not_false_eq_true, not_true_eq_false, Classical.not_not, ne_eq, ps_e1, ps_em, ps_z, Nat.not_le, false_implies, true_implies, forall_const, ps_01, ps_1n, ps_0n, ps_m10, ps_m1n, lg_cmp_gt, lg_cmp_ge, lg_cmp_le, lg_cmp_lt, lg_cmp_eq, pu_rne, pu_req, pu_uro, RFc_n, Nat.reduceAdd, Nat.reduceMul, Nat.reduceLT, Nat.reduceLeDiff, Nat.reduceEqDiff, Nat.reduceSub]
          exact this
      · have hc : ¬ seO (tk i) = true := by
          unfold seO
          simp only [beq_iff_eq]
          exact c1
        rw [if_neg hc] at hok
        have := hok _ sc S rfl hs hsc hCI
        simp only [↓r52_9, ↓r52_12, ↓r52_15, ↓r52_16, ↓r52_19, ↓r52_20, ↓r52_22, ↓r52_25, ↓r52_63, ↓r52_64, ↓c_word0 (k := 6) h hi (by decide) c1, q_le, q_lt, q_eq, q_e0, q_e1, q_0e, q_1e, ps_n0, q_0le, q_le0, q_0lt, q_m1e, q_em1, zu, zu2, Bool.false_eq_true, hn, hn2, ht, hF, am_wt, am_wf, Option.isSome_some, am_rf_s, am_rf_n, ps_lit, nI_add, nI_1, pk_mul, ps_cl, ps_neg, ps_c0, ps_c1, ps_n01, ps_n11, ps_10, ps_b01, ps_e0, pu_Ine, pu_Ieq, pu_ne, pu_eq, am_k_n, am_k_i, am_k_r, am_k_u, am_k_l, am_sz_0, am_sz_i, am_sz_r, am_sz_u, am_sz_l, Option.toList_some, Option.toList_none, List.cons_append, List.nil_append, true_and, and_true, or_false, false_or, or_self, or_true, true_or, not_false_eq_true, not_true_eq_false, Classical.not_not, ne_eq, ps_e1, ps_em, ps_z, Nat.not_le, false_implies, true_implies, forall_const, ps_01, ps_1n, ps_0n, ps_m10, ps_m1n, lg_cmp_gt, lg_cmp_ge, lg_cmp_le, lg_cmp_lt, lg_cmp_eq, pu_rne, pu_req, pu_uro, RFc_n, Nat.reduceAdd, Nat.reduceMul, Nat.reduceLT, Nat.reduceLeDiff, Nat.reduceEqDiff, Nat.reduceSub]
        exact this
  unfold pThen at hok0 her0
  simp only [↓r52_0, ↓r52_1, ↓r52_2, Bool.false_eq_true, hn, hn2, ht, hF, am_wt, am_wf, Option.isSome_some, am_rf_s, am_rf_n, ps_lit, nI_add, nI_1, pk_mul, ps_cl, ps_neg, ps_c0, ps_c1, ps_n01, ps_n11, ps_10, ps_b01, ps_e0, pu_Ine, pu_Ieq, pu_ne, pu_eq, am_k_n, am_k_i, am_k_r, am_k_u, am_k_l, am_sz_0, am_sz_i, am_sz_r, am_sz_u, am_sz_l, Option.toList_some, Option.toList_none, List.cons_append, List.nil_append, true_and, and_true, or_false, false_or, or_self, or_true, true_or, not_false_eq_true, not_true_eq_false, Classical.not_not, ne_eq, ps_e1, ps_em, ps_z, Nat.not_le, false_implies, true_implies, forall_const, ps_01, ps_1n, ps_0n, ps_m10, ps_m1n, lg_cmp_gt, lg_cmp_ge, lg_cmp_le, lg_cmp_lt, lg_cmp_eq, pu_rne, pu_req, pu_uro, RFc_n, Nat.reduceAdd, Nat.reduceMul, Nat.reduceLT, Nat.reduceLeDiff, Nat.reduceEqDiff, Nat.reduceSub]
  refine hP d _ i0 sc0 q0 cc S0 C hi1 hi0 hq0 hsc0 (fun r sc' S' hr hs' hl' hc' => ?_) (fun x sc' q' S' hx hl' => ?_)
  · obtain ⟨b1, b2, b3, b4⟩ := (hB i0 q0 hi0 hq0).1 r hr
    rw [hr] at hok0 her0
    have := hl 400 0 r.1 r.2.1 sc' S' r.2.2 none (by omega) (by omega) b2 (by omega) (by omega) b4 hs' hl' hc' hok0 her0
    simp only [↓r52_5, ↓r52_6, ↓r52_7, Bool.false_eq_true, hn, hn2, ht, hF, am_wt, am_wf, Option.isSome_some, am_rf_s, am_rf_n, ps_lit, nI_add, nI_1, pk_mul, ps_cl, ps_neg, ps_c0, ps_c1, ps_n01, ps_n11, ps_10, ps_b01, ps_e0, pu_Ine, pu_Ieq, pu_ne, pu_eq, am_k_n, am_k_i, am_k_r, am_k_u, am_k_l, am_sz_0, am_sz_i, am_sz_r, am_sz_u, am_sz_l, Option.toList_some, Option.toList_none, List.cons_append, List.nil_append, true_and, and_true, or_false, false_or, or_self, or_true, true_or, not_false_eq_true, not_true_eq_false, Classical.not_not, ne_eq, ps_e1, ps_em, ps_z, Nat.not_le, false_implies, true_implies, forall_const, ps_01, ps_1n, ps_0n, ps_m10, ps_m1n, lg_cmp_gt, lg_cmp_ge, lg_cmp_le, lg_cmp_lt, lg_cmp_eq, pu_rne, pu_req, pu_uro, RFc_n, Nat.reduceAdd, Nat.reduceMul, Nat.reduceLT, Nat.reduceLeDiff, Nat.reduceEqDiff, Nat.reduceSub]
    exact this
  · have hx1 := (hB i0 q0 hi0 hq0).2 x hx
    rw [hx] at her0
    have := bad x sc' q' 0 S' none (by omega) (her0 x sc' q' S' rfl hl')
    simp only [↓r52_5, ↓r52_6, ↓r52_7, Bool.false_eq_true, hn, hn2, ht, hF, am_wt, am_wf, Option.isSome_some, am_rf_s, am_rf_n, ps_lit, nI_add, nI_1, pk_mul, ps_cl, ps_neg, ps_c0, ps_c1, ps_n01, ps_n11, ps_10, ps_b01, ps_e0, pu_Ine, pu_Ieq, pu_ne, pu_eq, am_k_n, am_k_i, am_k_r, am_k_u, am_k_l, am_sz_0, am_sz_i, am_sz_r, am_sz_u, am_sz_l, Option.toList_some, Option.toList_none, List.cons_append, List.nil_append, true_and, and_true, or_false, false_or, or_self, or_true, true_or, not_false_eq_true, not_true_eq_false, Classical.not_not, ne_eq, ps_e1, ps_em, ps_z, Nat.not_le, false_implies, true_implies, forall_const, ps_01, ps_1n, ps_0n, ps_m10, ps_m1n, lg_cmp_gt, lg_cmp_ge, lg_cmp_le, lg_cmp_lt, lg_cmp_eq, pu_rne, pu_req, pu_uro, RFc_n, Nat.reduceAdd, Nat.reduceMul, Nat.reduceLT, Nat.reduceLeDiff, Nat.reduceEqDiff, Nat.reduceSub]
    exact this
theorem c_testR (h : TKC X n sl t I J F tk tv pl kT en nm NT) : ∀ e dp, dp + e = 8 → KRd X (4 * e + 10) n sl t I J F pl kT en nm NT 52 [some (.ref 9), some (.int (nI dp)), none, none, none] (pTest tk tv e) CB := by
  have h0 := h.2.1.2
  have hBT : ∀ e P, tPr tk tv e = some P → BD NT P := fun e P hP => by
    cases e with
    | zero => cases hP
    | succ e => cases hP; exact BD_test h0 e
  have st : ∀ e dp, dp + e = 8 → (∀ e', e = e' + 1 → KRd X (4 * e + 6) n sl t I J F pl kT en nm NT 52 [some (.ref 9), some (.int (nI (dp + 1))), none, none, none] (pTest tk tv e') CB) → KRd X (4 * e + 10) n sl t I J F pl kT en nm NT 52 [some (.ref 9), some (.int (nI dp)), none, none, none] (pTest tk tv e) CB := by
    intro e dp he hS
    rw [pTest_e]
    have hBp : BD NT (pPlain tk (pSum tk tv e) (tPr tk tv e)) := BD_plain h0 (BD_sum h0 e) (hBT e)
    exact c_testR0 h (c_bothR h (c_plainR h he (c_sumR h e dp he) hS) hBp) (BD_then h0 rfl hBp)
  intro e
  induction e with
  | zero => intro dp he; exact st 0 dp he (fun e' h => by cases h)
  | succ e ih => intro dp he; exact st (e + 1) dp he (fun e' h => by cases h; exact ih (dp + 1) (by omega))
end CU
