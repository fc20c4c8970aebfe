/-! TEXTS: the class reads a part -/
section CQ
variable {X : am_X} {d : Nat} {Q : Option Value → am_H → Prop} {n sl : Nat} {t : Nat → Nat × Nat} {I : Nat → Nat → Int32} {J : Nat → Nat → Int64} {F : Nat → Nat → Option Nat} {h : am_H}
variable {tk tv pl kT en nm : Nat → Nat} {NT dp : Nat} {i sc q cc : Nat} {S C : Nat → Int32}
theorem c_goOn (h : TKC X n sl t I J F tk tv pl kT en nm NT) (hi : i < NT) : am_W X (d + 2) 41 0 [some (.ref 9), none, none] [] (n, sl, t, cR I kT pl en nm i sc q cc S C, J, F) Q ↔ Q none (n, sl, t, cR I kT pl en nm (i + 1) sc q cc S C, J, F) := h.2.2.2.1 d Q i sc q cc S C hi
theorem c_sign1 {c : Nat} (h : TKC X n sl t I J F tk tv pl kT en nm NT) (hi : i ≤ NT) (hc : c < 200) (e : tk i = 100 + c) : am_W X (d + 1) 50 0 [some (.ref 9), some (.int (nI c))] [] (n, sl, t, cR I kT pl en nm i sc q cc S C, J, F) Q ↔ Q (some (.int 1)) (n, sl, t, cR I kT pl en nm i sc q cc S C, J, F) := by
  have := h.2.2.2.2.1 d Q i sc q cc S C c hi hc
  rw [if_pos e] at this
  exact this
theorem c_sign0 {c : Nat} (h : TKC X n sl t I J F tk tv pl kT en nm NT) (hi : i ≤ NT) (hc : c < 200) (e : ¬ tk i = 100 + c) : am_W X (d + 1) 50 0 [some (.ref 9), some (.int (nI c))] [] (n, sl, t, cR I kT pl en nm i sc q cc S C, J, F) Q ↔ Q (some (.int 0)) (n, sl, t, cR I kT pl en nm i sc q cc S C, J, F) := by
  have := h.2.2.2.2.1 d Q i sc q cc S C c hi hc
  rw [if_neg e] at this
  exact this
theorem c_word1 {k : Nat} (h : TKC X n sl t I J F tk tv pl kT en nm NT) (hi : i ≤ NT) (hk : k < 19) (e : tk i = tcd k) : am_W X (d + 1) 46 0 [some (.ref 9), some (.ref (am_K0 + 10 + k)), none, none] [] (n, sl, t, cR I kT pl en nm i sc q cc S C, J, F) Q ↔ Q (some (.int 1)) (n, sl, t, cR I kT pl en nm i sc q cc S C, J, F) := by
  have := h.2.2.2.2.2 d Q i sc q cc S C k hi hk
  rw [if_pos e] at this
  exact this
theorem c_word0 {k : Nat} (h : TKC X n sl t I J F tk tv pl kT en nm NT) (hi : i ≤ NT) (hk : k < 19) (e : ¬ tk i = tcd k) : am_W X (d + 1) 46 0 [some (.ref 9), some (.ref (am_K0 + 10 + k)), none, none] [] (n, sl, t, cR I kT pl en nm i sc q cc S C, J, F) Q ↔ Q (some (.int 0)) (n, sl, t, cR I kT pl en nm i sc q cc S C, J, F) := by
  have := h.2.2.2.2.2 d Q i sc q cc S C k hi hk
  rw [if_neg e] at this
  exact this
/-- a reader of the class's -/
def KRd (X : am_X) (k n sl : Nat) (t : Nat → Nat × Nat) (I : Nat → Nat → Int32) (J : Nat → Nat → Int64) (F : Nat → Nat → Option Nat) (pl kT en nm : Nat → Nat) (NT m : Nat) (L : am_L) {α : Type} (P : Nat → Nat → RD α) (K : (Nat → Int32) → Nat → Nat → Nat → α → Prop) : Prop := ∀ (d : Nat) (Q : Option Value → am_H → Prop) (i sc q cc : Nat) (S C : Nat → Int32), 1 ≤ i → i ≤ NT → q ≤ 50 → sc ≤ i → (∀ r sc' S', P i q = .ok r → (∀ j, j < sc → S' j = S j) → sc' + i ≤ sc + r.1 → K S' sc sc' (r.2.1 - q) r.2.2 → Q (some (.int 1)) (n, sl, t, cR I kT pl en nm r.1 sc' r.2.1 cc S' C, J, F)) → (∀ x sc' q' S', P i q = .error x → sc' ≤ 400 → Q (some (.int 0)) (n, sl, t, cR I kT pl en nm x sc' q' cc S' C, J, F)) → am_W X (d + k) m 0 L [] (n, sl, t, cR I kT pl en nm i sc q cc S C, J, F) Q
/-- what stands in brackets -/
def pBrk {α : Type} (tk : Nat → Nat) (c : Nat) (P : Option (Nat → Nat → RD α)) (i q : Nat) : RD α := match P with
    | none => .error i
    | some P => match P (i + 1) q with
      | .error x => .error x
      | .ok r => if tk r.1 = c then .ok (r.1 + 1, r.2.1, r.2.2) else .error r.1
theorem pPart_brk {P : Option (Nat → Nat → RD DI)} (c : tk i = 191) : pPart tk tv P i q = pBrk tk 193 P i q := by
  unfold pPart pBrk
  rw [if_pos c]
  cases P with
  | none => rfl
  | some P =>
    dsimp only
    cases P (i + 1) q <;> rfl
theorem c_brS {k e : Nat} (h : TKC X n sl t I J F tk tv pl kT en nm NT) (he : dp + e = 8) (hS : ∀ e', e = e' + 1 → KRd X (k + 2) n sl t I J F pl kT en nm NT 47 [some (.ref 9), some (.int (nI (dp + 1))), none, none, none] (pSum tk tv e') CI) (hi1 : 1 ≤ i) (hi : i < NT) (hq : q ≤ 50) (hsc : sc ≤ i) (hok : ∀ r sc' S', pBrk tk 193 (sPr tk tv e) i q = .ok r → (∀ j, j < sc → S' j = S j) → sc' + i ≤ sc + r.1 → CI S' sc sc' (r.2.1 - q) r.2.2 → Q (some (.int 1)) (n, sl, t, cR I kT pl en nm r.1 sc' r.2.1 cc S' C, J, F)) (her : ∀ x sc' q' S', pBrk tk 193 (sPr tk tv e) i q = .error x → sc' ≤ 400 → Q (some (.int 0)) (n, sl, t, cR I kT pl en nm x sc' q' cc S' C, J, F)) : am_W X (d + k + 3) 51 0 [some (.ref 9), some (.int (nI dp)), some (.int (nI 93)), none] [] (n, sl, t, cR I kT pl en nm i sc q cc S C, J, F) Q := by
  have hW := h.1
  obtain ⟨hn, hn2, ht, hF⟩ := id hW
  obtain ⟨h1, h2⟩ := h.2.1
  have z : dp < 2000000 := by omega
  cases e with
  | zero =>
    have ed : dp = 8 := by omega
    subst ed
    have := her i sc q S rfl (by omega)
    simp only [↓r51_0, ↓r51_1, ↓r51_3, ↓r51_6, ↓r51_7, ↓r51_8, ↓r51_9, ↓r51_12, ↓r51_13, ↓r51_15, ↓r51_18, ↓r51_19, ↓r51_20, ↓r51_21, ↓r51_22, ↓r51_25, ↓r51_28, ↓r51_29, ↓r51_30, ↓r51_31, ↓r51_32, ↓r51_35, ↓r51_36, ↓r51_37, ↓r51_40, ↓r51_41, ↓r51_42, ↓r51_45, ↓r51_48, ↓r51_49, ↓r51_50, ↓r51_51, ↓r51_54, ↓r51_55, q_le, q_lt, q_eq, q_e0, q_e1, q_0e, q_1e, ps_n0, q_0le, q_le0, q_0lt, q_m1e, q_em1, Bool.false_eq_true, hn, hn2, ht, hF, am_wt, am_wf, Option.isSome_some, am_rf_s, am_rf_n, ps_lit, nI_add, nI_1, pk_mul, ps_cl, ps_neg, ps_c0, ps_c1, ps_n01, ps_n11, ps_10, ps_b01, ps_e0, pu_Ine, pu_Ieq, pu_ne, pu_eq, am_k_n, am_k_i, am_k_r, am_k_u, am_k_l, am_sz_0, am_sz_i, am_sz_r, am_sz_u, am_sz_l, Option.toList_some, Option.toList_none, List.cons_append, List.nil_append, true_and, and_true, or_false, false_or, or_self, or_true, true_or, not_false_eq_true, not_true_eq_false, Classical.not_not, ne_eq, ps_e1, ps_em, ps_z, Nat.not_le, false_implies, true_implies, forall_const, ps_01, ps_1n, ps_0n, ps_m10, ps_m1n, lg_cmp_gt, lg_cmp_ge, lg_cmp_le, lg_cmp_lt, lg_cmp_eq, pu_rne, pu_req, pu_uro, RFc_n, Nat.reduceAdd, Nat.reduceMul, Nat.reduceLT, Nat.reduceLeDiff, Nat.reduceEqDiff, Nat.reduceSub]
    exact this
  | succ e =>
    have ed : dp < 8 := by omega
    simp only [↓r51_0, ↓r51_1, ↓r51_3, ↓r51_6, ↓r51_7, ↓r51_8, ↓r51_9, ↓r51_12, ↓r51_13, ↓r51_15, ↓r51_18, ↓r51_19, ↓r51_20, ↓r51_21, ↓r51_22, ↓r51_25, ↓r51_28, ↓r51_29, ↓r51_30, ↓r51_31, ↓r51_32, ↓c_goOn h hi, q_le, q_lt, q_eq, q_e0, q_e1, q_0e, q_1e, ps_n0, q_0le, q_le0, q_0lt, q_m1e, q_em1, z, ed, Bool.false_eq_true, hn, hn2, ht, hF, am_wt, am_wf, Option.isSome_some, am_rf_s, am_rf_n, ps_lit, nI_add, nI_1, pk_mul, ps_cl, ps_neg, ps_c0, ps_c1, ps_n01, ps_n11, ps_10, ps_b01, ps_e0, pu_Ine, pu_Ieq, pu_ne, pu_eq, am_k_n, am_k_i, am_k_r, am_k_u, am_k_l, am_sz_0, am_sz_i, am_sz_r, am_sz_u, am_sz_l, Option.toList_some, Option.toList_none, List.cons_append, List.nil_append, true_and, and_true, or_false, false_or, or_self, or_true, true_or, not_false_eq_true, not_true_eq_false, Classical.not_not, ne_eq, ps_e1, ps_em, ps_z, Nat.not_le, false_implies, true_implies, forall_const, ps_01, ps_1n, ps_0n, ps_m10, ps_m1n, lg_cmp_gt, lg_cmp_ge, lg_cmp_le, lg_cmp_lt, lg_cmp_eq, pu_rne, pu_req, pu_uro, RFc_n, Nat.reduceAdd, Nat.reduceMul, Nat.reduceLT, Nat.reduceLeDiff, Nat.reduceEqDiff, Nat.reduceSub]
    refine hS e rfl d _ (i + 1) sc q cc S C (by omega) hi hq (by omega) (fun r sc' S' hr hs hl hc => ?_) (fun x sc' q' S' hx hl => ?_)
    · have hb := (BD_sum (tk := tk) (tv := tv) h2 e (i + 1) q hi hq).1 r hr
      dsimp only [sPr, pBrk] at hok her
      rw [hr] at hok her
      dsimp only at hok her
      by_cases c2 : tk r.1 = 193
      · rw [if_pos c2] at hok
        have hl2 : r.1 < NT := tok_lt h2 hb.2.1 (by omega)
        have := hok _ sc' S' rfl hs (by dsimp only; omega) hc
        simp only [↓r51_35, ↓r51_36, ↓r51_37, ↓r51_40, ↓r51_41, ↓r51_42, ↓r51_45, ↓r51_48, ↓r51_49, ↓r51_50, ↓r51_51, ↓r51_54, ↓r51_55, ↓c_sign1 h hb.2.1 (show 93 < 200 by decide) c2, ↓c_goOn h hl2, Bool.false_eq_true, hn, hn2, ht, hF, am_wt, am_wf, Option.isSome_some, am_rf_s, am_rf_n, ps_lit, nI_add, nI_1, pk_mul, ps_cl, ps_neg, ps_c0, ps_c1, ps_n01, ps_n11, ps_10, ps_b01, ps_e0, pu_Ine, pu_Ieq, pu_ne, pu_eq, am_k_n, am_k_i, am_k_r, am_k_u, am_k_l, am_sz_0, am_sz_i, am_sz_r, am_sz_u, am_sz_l, Option.toList_some, Option.toList_none, List.cons_append, List.nil_append, true_and, and_true, or_false, false_or, or_self, or_true, true_or, not_false_eq_true, not_true_eq_false, Classical.not_not, ne_eq, ps_e1, ps_em, ps_z, Nat.not_le, false_implies, true_implies, forall_const, ps_01, ps_1n, ps_0n, ps_m10, ps_m1n, lg_cmp_gt, lg_cmp_ge, lg_cmp_le, lg_cmp_lt, lg_cmp_eq, pu_rne, pu_req, pu_uro, RFc_n, Nat.reduceAdd, Nat.reduceMul, Nat.reduceLT, Nat.reduceLeDiff, Nat.reduceEqDiff, Nat.reduceSub]
        exact this
      · rw [if_neg c2] at her
        have := her _ sc' r.2.1 S' rfl (by omega)
        simp only [↓r51_35, ↓r51_36, ↓r51_37, ↓r51_40, ↓r51_41, ↓r51_42, ↓r51_45, ↓r51_48, ↓r51_49, ↓r51_50, ↓r51_51, ↓r51_54, ↓r51_55, ↓c_sign0 h hb.2.1 (show 93 < 200 by decide) c2, Bool.false_eq_true, hn, hn2, ht, hF, am_wt, am_wf, Option.isSome_some, am_rf_s, am_rf_n, ps_lit, nI_add, nI_1, pk_mul, ps_cl, ps_neg, ps_c0, ps_c1, ps_n01, ps_n11, ps_10, ps_b01, ps_e0, pu_Ine, pu_Ieq, pu_ne, pu_eq, am_k_n, am_k_i, am_k_r, am_k_u, am_k_l, am_sz_0, am_sz_i, am_sz_r, am_sz_u, am_sz_l, Option.toList_some, Option.toList_none, List.cons_append, List.nil_append, true_and, and_true, or_false, false_or, or_self, or_true, true_or, not_false_eq_true, not_true_eq_false, Classical.not_not, ne_eq, ps_e1, ps_em, ps_z, Nat.not_le, false_implies, true_implies, forall_const, ps_01, ps_1n, ps_0n, ps_m10, ps_m1n, lg_cmp_gt, lg_cmp_ge, lg_cmp_le, lg_cmp_lt, lg_cmp_eq, pu_rne, pu_req, pu_uro, RFc_n, Nat.reduceAdd, Nat.reduceMul, Nat.reduceLT, Nat.reduceLeDiff, Nat.reduceEqDiff, Nat.reduceSub]
        exact this
    · dsimp only [sPr, pBrk] at her
      rw [hx] at her
      have := her x sc' q' S' rfl hl
      simp only [↓r51_35, ↓r51_36, ↓r51_37, ↓r51_40, ↓r51_41, ↓r51_42, ↓r51_45, ↓r51_48, ↓r51_49, ↓r51_50, ↓r51_51, ↓r51_54, ↓r51_55, Bool.false_eq_true, hn, hn2, ht, hF, am_wt, am_wf, Option.isSome_some, am_rf_s, am_rf_n, ps_lit, nI_add, nI_1, pk_mul, ps_cl, ps_neg, ps_c0, ps_c1, ps_n01, ps_n11, ps_10, ps_b01, ps_e0, pu_Ine, pu_Ieq, pu_ne, pu_eq, am_k_n, am_k_i, am_k_r, am_k_u, am_k_l, am_sz_0, am_sz_i, am_sz_r, am_sz_u, am_sz_l, Option.toList_some, Option.toList_none, List.cons_append, List.nil_append, true_and, and_true, or_false, false_or, or_self, or_true, true_or, not_false_eq_true, not_true_eq_false, Classical.not_not, ne_eq, ps_e1, ps_em, ps_z, Nat.not_le, false_implies, true_implies, forall_const, ps_01, ps_1n, ps_0n, ps_m10, ps_m1n, lg_cmp_gt, lg_cmp_ge, lg_cmp_le, lg_cmp_lt, lg_cmp_eq, pu_rne, pu_req, pu_uro, RFc_n, Nat.reduceAdd, Nat.reduceMul, Nat.reduceLT, Nat.reduceLeDiff, Nat.reduceEqDiff, Nat.reduceSub]
      exact this
theorem c_part {k e : Nat} (h : TKC X n sl t I J F tk tv pl kT en nm NT) (he : dp + e = 8) (hS : ∀ e', e = e' + 1 → KRd X (k + 2) n sl t I J F pl kT en nm NT 47 [some (.ref 9), some (.int (nI (dp + 1))), none, none, none] (pSum tk tv e') CI) : KRd X (k + 4) n sl t I J F pl kT en nm NT 49 [some (.ref 9), some (.int (nI dp)), none] (pPart tk tv (sPr tk tv e)) CI := by
  intro d Q i sc q cc S C hi1 hi hq hsc hok her
  have hW := h.1
  obtain ⟨hn, hn2, ht, hF⟩ := id hW
  show am_W X (d + k + 4) 49 0 [some (.ref 9), some (.int (nI dp)), none] [] (n, sl, t, cR I kT pl en nm i sc q cc S C, J, F) Q
  obtain ⟨h1, h2⟩ := h.2.1
  obtain ⟨k1, k2, k3, k4, k5, k6, k7, k8⟩ := h.2.2.1 i hi
  have z : q < 2000000 ∧ kT i < 2000000 := by omega
  by_cases c1 : tk i = 191
  · rw [pPart_brk c1] at hok her
    have hl : i < NT := tok_lt h2 hi (by omega)
    simp only [↓r49_0, ↓r49_1, ↓r49_3, ↓r49_6, ↓r49_9, ↓r49_10, ↓r49_11, ↓r49_13, ↓c_sign1 h hi (show 91 < 200 by decide) c1, Bool.false_eq_true, hn, hn2, ht, hF, am_wt, am_wf, Option.isSome_some, am_rf_s, am_rf_n, ps_lit, nI_add, nI_1, pk_mul, ps_cl, ps_neg, ps_c0, ps_c1, ps_n01, ps_n11, ps_10, ps_b01, ps_e0, pu_Ine, pu_Ieq, pu_ne, pu_eq, am_k_n, am_k_i, am_k_r, am_k_u, am_k_l, am_sz_0, am_sz_i, am_sz_r, am_sz_u, am_sz_l, Option.toList_some, Option.toList_none, List.cons_append, List.nil_append, true_and, and_true, or_false, false_or, or_self, or_true, true_or, not_false_eq_true, not_true_eq_false, Classical.not_not, ne_eq, ps_e1, ps_em, ps_z, Nat.not_le, false_implies, true_implies, forall_const, ps_01, ps_1n, ps_0n, ps_m10, ps_m1n, lg_cmp_gt, lg_cmp_ge, lg_cmp_le, lg_cmp_lt, lg_cmp_eq, pu_rne, pu_req, pu_uro, RFc_n, Nat.reduceAdd, Nat.reduceMul, Nat.reduceLT, Nat.reduceLeDiff, Nat.reduceEqDiff, Nat.reduceSub]
    refine c_brS h he hS hi1 hl hq hsc (fun r sc' S' hr hs hl hc => ?_) (fun x sc' q' S' hx hl => ?_)
    · have := hok r sc' S' hr hs hl hc
      simp only [↓r49_16, Bool.false_eq_true, hn, hn2, ht, hF, am_wt, am_wf, Option.isSome_some, am_rf_s, am_rf_n, ps_lit, nI_add, nI_1, pk_mul, ps_cl, ps_neg, ps_c0, ps_c1, ps_n01, ps_n11, ps_10, ps_b01, ps_e0, pu_Ine, pu_Ieq, pu_ne, pu_eq, am_k_n, am_k_i, am_k_r, am_k_u, am_k_l, am_sz_0, am_sz_i, am_sz_r, am_sz_u, am_sz_l, Option.toList_some, Option.toList_none, List.cons_append, List.nil_append, true_and, and_true, or_false, false_or, or_self, or_true, true_or, not_false_eq_true, not_true_eq_false, Classical.not_not, ne_eq, ps_e1, ps_em, ps_z, Nat.not_le, false_implies, true_implies, forall_const, ps_01, ps_1n, ps_0n, ps_m10, ps_m1n, lg_cmp_gt, lg_cmp_ge, lg_cmp_le, lg_cmp_lt, lg_cmp_eq, pu_rne, pu_req, pu_uro, RFc_n, Nat.reduceAdd, Nat.reduceMul, Nat.reduceLT, Nat.reduceLeDiff, Nat.reduceEqDiff, Nat.reduceSub]
      exact this
    · have := her x sc' q' S' hx hl
      simp only [↓r49_16, Bool.false_eq_true, hn, hn2, ht, hF, am_wt, am_wf, Option.isSome_some, am_rf_s, am_rf_n, ps_lit, nI_add, nI_1, pk_mul, ps_cl, ps_neg, ps_c0, ps_c1, ps_n01, ps_n11, ps_10, ps_b01, ps_e0, pu_Ine, pu_Ieq, pu_ne, pu_eq, am_k_n, am_k_i, am_k_r, am_k_u, am_k_l, am_sz_0, am_sz_i, am_sz_r, am_sz_u, am_sz_l, Option.toList_some, Option.toList_none, List.cons_append, List.nil_append, true_and, and_true, or_false, false_or, or_self, or_true, true_or, not_false_eq_true, not_true_eq_false, Classical.not_not, ne_eq, ps_e1, ps_em, ps_z, Nat.not_le, false_implies, true_implies, forall_const, ps_01, ps_1n, ps_0n, ps_m10, ps_m1n, lg_cmp_gt, lg_cmp_ge, lg_cmp_le, lg_cmp_lt, lg_cmp_eq, pu_rne, pu_req, pu_uro, RFc_n, Nat.reduceAdd, Nat.reduceMul, Nat.reduceLT, Nat.reduceLeDiff, Nat.reduceEqDiff, Nat.reduceSub]
      exact this
  · unfold pPart at hok her
    rw [if_neg c1] at hok her
    have no : ¬ ((tk i = 50 ∧ tv i ≤ 1000) ∨ (9 ≤ tk i ∧ tk i ≤ 19)) → am_W X (d + k + 4) 49 70 [some (.ref 9), some (.int (nI dp)), some (.int (-1))] [] (n, sl, t, cR I kT pl en nm i sc q cc S C, J, F) Q := by
      intro hc
      rw [if_neg hc] at her
      have := her i sc q S rfl (by omega)
      simp only [↓r49_70, ↓r49_71, ↓r49_72, ↓r49_75, ↓r49_76, ↓r49_79, ↓r49_81, ↓r49_84, ↓r49_85, Bool.false_eq_true, hn, hn2, ht, hF, am_wt, am_wf, Option.isSome_some, am_rf_s, am_rf_n, ps_lit, nI_add, nI_1, pk_mul, ps_cl, ps_neg, ps_c0, ps_c1, ps_n01, ps_n11, ps_10, ps_b01, ps_e0, pu_Ine, pu_Ieq, pu_ne, pu_eq, am_k_n, am_k_i, am_k_r, am_k_u, am_k_l, am_sz_0, am_sz_i, am_sz_r, am_sz_u, am_sz_l, Option.toList_some, Option.toList_none, List.cons_append, List.nil_append, true_and, and_true, or_false, false_or, or_self, or_true, true_or, not_false_eq_true, not_true_eq_false, Classical.not_not, ne_eq, ps_e1, ps_em, ps_z, Nat.not_le, false_implies, true_implies, forall_const, ps_01, ps_1n, ps_0n, ps_m10, ps_m1n, lg_cmp_gt, lg_cmp_ge, lg_cmp_le, lg_cmp_lt, lg_cmp_eq, pu_rne, pu_req, pu_uro, RFc_n, Nat.reduceAdd, Nat.reduceMul, Nat.reduceLT, Nat.reduceLeDiff, Nat.reduceEqDiff, Nat.reduceSub]
      exact this
    have yes : ∀ v : Nat, v ≤ 2000 → (tk i = 50 ∧ tv i ≤ 1000) ∨ (9 ≤ tk i ∧ tk i ≤ 19) → (∀ S' : Nat → Int32, S' sc = nI v → CI S' sc (sc + 1) 1 (leafD tk tv i)) → am_W X (d + k + 4) 49 70 [some (.ref 9), some (.int (nI dp)), some (.int (nI v))] [] (n, sl, t, cR I kT pl en nm i sc q cc S C, J, F) Q := by
      intro v hv hc hCI
      have hl : i < NT := tok_lt h2 hi (by omega)
      have zv : v < 2000000 := by omega
      rw [if_pos hc] at hok her
      by_cases c3 : q = 50
      · subst c3
        rw [if_pos rfl] at her
        have := her i sc 50 S rfl (by omega)
        simp only [↓r49_70, ↓r49_71, ↓r49_72, ↓r49_75, ↓r49_76, ↓r49_79, ↓r49_81, ↓r49_84, ↓r49_85, q_le, q_lt, q_eq, q_e0, q_e1, q_0e, q_1e, ps_n0, q_0le, q_le0, q_0lt, q_m1e, q_em1, cR_9, q9_4, zv, Bool.false_eq_true, hn, hn2, ht, hF, am_wt, am_wf, Option.isSome_some, am_rf_s, am_rf_n, ps_lit, nI_add, nI_1, pk_mul, ps_cl, ps_neg, ps_c0, ps_c1, ps_n01, ps_n11, ps_10, ps_b01, ps_e0, pu_Ine, pu_Ieq, pu_ne, pu_eq, am_k_n, am_k_i, am_k_r, am_k_u, am_k_l, am_sz_0, am_sz_i, am_sz_r, am_sz_u, am_sz_l, Option.toList_some, Option.toList_none, List.cons_append, List.nil_append, true_and, and_true, or_false, false_or, or_self, or_true, true_or, not_false_eq_true, not_true_eq_false, Classical.not_not, ne_eq, ps_e1, ps_em, ps_z, Nat.not_le, false_implies, true_implies, forall_const, ps_01, ps_1n, ps_0n, ps_m10, ps_m1n, lg_cmp_gt, lg_cmp_ge, lg_cmp_le, lg_cmp_lt, lg_cmp_eq, pu_rne, pu_req, pu_uro, RFc_n, Nat.reduceAdd, Nat.reduceMul, Nat.reduceLT, Nat.reduceLeDiff, Nat.reduceEqDiff, Nat.reduceSub]
        exact this
      · rw [if_neg c3] at hok
        have c4 : q < 50 := by omega
        have := hok _ (sc + 1) (upd S sc (nI v)) rfl (fun j hj => pu_ne (by omega)) (by dsimp only; omega) (by
          have := hCI (upd S sc (nI v)) pu_eq
          have e : q + 1 - q = 1 := by omega
          dsimp only
          rw [e]
          exact this)
        simp only [↓r49_70, ↓r49_71, ↓r49_72, ↓r49_75, ↓r49_76, ↓r49_79, ↓r49_81, ↓r49_84, ↓r49_85, ↓r49_86, ↓r49_87, ↓r49_87r, ↓r49_88, ↓r49_91, ↓r49_92, ↓r49_93, ↓r49_96, ↓r49_97, ↓r49_98, ↓r49_101, ↓r49_102, ↓r49_105, ↓r49_106, ↓c_putS hW (show sc < 400 by omega), ↓c_goOn h hl, q_le, q_lt, q_eq, q_e0, q_e1, q_0e, q_1e, ps_n0, q_0le, q_le0, q_0lt, q_m1e, q_em1, cR_9, q9_4, cR_u4, zv, z, c4, Bool.false_eq_true, hn, hn2, ht, hF, am_wt, am_wf, Option.isSome_some, am_rf_s, am_rf_n, ps_lit, nI_add, nI_1, pk_mul, ps_cl, ps_neg, ps_c0, ps_c1, ps_n01, ps_n11, ps_10, ps_b01, ps_e0, pu_Ine, pu_Ieq, pu_ne, pu_eq, am_k_n, am_k_i, am_k_r, am_k_u, am_k_l, am_sz_0, am_sz_i, am_sz_r, am_sz_u, am_sz_l, Option.toList_some, Option.toList_none, List.cons_append, List.nil_append, true_and, and_true, or_false, false_or, or_self, or_true, true_or, not_false_eq_true, not_true_eq_false, Classical.not_not, ne_eq, ps_e1, ps_em, ps_z, Nat.not_le, false_implies, true_implies, forall_const, ps_01, ps_1n, ps_0n, ps_m10, ps_m1n, lg_cmp_gt, lg_cmp_ge, lg_cmp_le, lg_cmp_lt, lg_cmp_eq, pu_rne, pu_req, pu_uro, RFc_n, Nat.reduceAdd, Nat.reduceMul, Nat.reduceLT, Nat.reduceLeDiff, Nat.reduceEqDiff, Nat.reduceSub]
        exact this
    have word : kT i = 1 ∨ ¬ (9 ≤ tk i ∧ tk i ≤ 19) → ¬ (tk i = 50 ∧ tv i ≤ 1000) → am_W X (d + k + 4) 49 45 [some (.ref 9), some (.int (nI dp)), some (.int (-1))] [] (n, sl, t, cR I kT pl en nm i sc q cc S C, J, F) Q := by
      intro hk hnn
      by_cases c5 : kT i = 1
      · by_cases c4 : 9 ≤ tk i ∧ tk i ≤ 19
        · have hp := pw_le (show tk i - 9 < 11 by omega)
          have zp : pw (tk i - 9) < 2000000 := by omega
          have c6 : ¬ tk i = 50 := by omega
          have := yes (1001 + pw (tk i - 9)) (by omega) (Or.inr c4) (fun S' hS' => by
            unfold leafD
            rw [if_neg c6]
            exact CI_word (by omega) hS')
          have ea : nI 1001 + nI (pw (tk i - 9)) = nI (1001 + pw (tk i - 9)) := by rw [nI_add]
          simp only [↓r49_45, ↓r49_46, ↓r49_49, ↓r49_50, ↓r49_53, ↓r49_54, ↓r49_57, ↓r49_58, ↓r49_61, ↓r49_64, ↓r49_65, ↓r49_68, ↓r49_69, ↓c_wordHere h hi, cR_9, q9_6, q_le, q_lt, q_eq, q_e0, q_e1, q_0e, q_1e, ps_n0, q_0le, q_le0, q_0lt, q_m1e, q_em1, c5, c4, zp, ea, if_true, Bool.false_eq_true, hn, hn2, ht, hF, am_wt, am_wf, Option.isSome_some, am_rf_s, am_rf_n, ps_lit, nI_add, nI_1, pk_mul, ps_cl, ps_neg, ps_c0, ps_c1, ps_n01, ps_n11, ps_10, ps_b01, ps_e0, pu_Ine, pu_Ieq, pu_ne, pu_eq, am_k_n, am_k_i, am_k_r, am_k_u, am_k_l, am_sz_0, am_sz_i, am_sz_r, am_sz_u, am_sz_l, Option.toList_some, Option.toList_none, List.cons_append, List.nil_append, true_and, and_true, or_false, false_or, or_self, or_true, true_or, not_false_eq_true, not_true_eq_false, Classical.not_not, ne_eq, ps_e1, ps_em, ps_z, Nat.not_le, false_implies, true_implies, forall_const, ps_01, ps_1n, ps_0n, ps_m10, ps_m1n, lg_cmp_gt, lg_cmp_ge, lg_cmp_le, lg_cmp_lt, lg_cmp_eq, pu_rne, pu_req, pu_uro, RFc_n, Nat.reduceAdd, Nat.reduceMul, Nat.reduceLT, Nat.reduceLeDiff, Nat.reduceEqDiff, Nat.reduceSub]
          exact this
        · have := no (by omega)
          simp only [↓r49_45, ↓r49_46, ↓r49_49, ↓r49_50, ↓r49_53, ↓r49_54, ↓r49_57, ↓r49_58, ↓r49_61, ↓r49_64, ↓r49_65, ↓r49_68, ↓r49_69, ↓c_wordHere h hi, cR_9, q9_6, q_le, q_lt, q_eq, q_e0, q_e1, q_0e, q_1e, ps_n0, q_0le, q_le0, q_0lt, q_m1e, q_em1, c5, c4, if_false, Bool.false_eq_true, hn, hn2, ht, hF, am_wt, am_wf, Option.isSome_some, am_rf_s, am_rf_n, ps_lit, nI_add, nI_1, pk_mul, ps_cl, ps_neg, ps_c0, ps_c1, ps_n01, ps_n11, ps_10, ps_b01, ps_e0, pu_Ine, pu_Ieq, pu_ne, pu_eq, am_k_n, am_k_i, am_k_r, am_k_u, am_k_l, am_sz_0, am_sz_i, am_sz_r, am_sz_u, am_sz_l, Option.toList_some, Option.toList_none, List.cons_append, List.nil_append, true_and, and_true, or_false, false_or, or_self, or_true, true_or, not_false_eq_true, not_true_eq_false, Classical.not_not, ne_eq, ps_e1, ps_em, ps_z, Nat.not_le, false_implies, true_implies, forall_const, ps_01, ps_1n, ps_0n, ps_m10, ps_m1n, lg_cmp_gt, lg_cmp_ge, lg_cmp_le, lg_cmp_lt, lg_cmp_eq, pu_rne, pu_req, pu_uro, RFc_n, Nat.reduceAdd, Nat.reduceMul, Nat.reduceLT, Nat.reduceLeDiff, Nat.reduceEqDiff, Nat.reduceSub]
          exact this
      · have := no (by omega)
        simp only [↓r49_45, ↓r49_46, ↓r49_49, ↓r49_50, ↓r49_53, ↓r49_54, ↓r49_57, ↓r49_58, ↓r49_61, ↓r49_64, ↓r49_65, ↓r49_68, ↓r49_69, cR_9, q9_6, q_le, q_lt, q_eq, q_e0, q_e1, q_0e, q_1e, ps_n0, q_0le, q_le0, q_0lt, q_m1e, q_em1, z, c5, Bool.false_eq_true, hn, hn2, ht, hF, am_wt, am_wf, Option.isSome_some, am_rf_s, am_rf_n, ps_lit, nI_add, nI_1, pk_mul, ps_cl, ps_neg, ps_c0, ps_c1, ps_n01, ps_n11, ps_10, ps_b01, ps_e0, pu_Ine, pu_Ieq, pu_ne, pu_eq, am_k_n, am_k_i, am_k_r, am_k_u, am_k_l, am_sz_0, am_sz_i, am_sz_r, am_sz_u, am_sz_l, Option.toList_some, Option.toList_none, List.cons_append, List.nil_append, true_and, and_true, or_false, false_or, or_self, or_true, true_or, not_false_eq_true, not_true_eq_false, Classical.not_not, ne_eq, ps_e1, ps_em, ps_z, Nat.not_le, false_implies, true_implies, forall_const, ps_01, ps_1n, ps_0n, ps_m10, ps_m1n, lg_cmp_gt, lg_cmp_ge, lg_cmp_le, lg_cmp_lt, lg_cmp_eq, pu_rne, pu_req, pu_uro, RFc_n, Nat.reduceAdd, Nat.reduceMul, Nat.reduceLT, Nat.reduceLeDiff, Nat.reduceEqDiff, Nat.reduceSub]
        exact this
    by_cases c2 : tk i = 50
    · have c7 : kT i = 2 := k1.2 c2
      by_cases c3 : tv i ≤ 1000
      · have em := k5 c3
        have := yes (tv i) (by omega) (Or.inl ⟨c2, c3⟩) (fun S' hS' => by
          unfold leafD
          rw [if_pos c2]
          exact CI_num c3 hS')
        have zt : tv i < 2000000 := by omega
        have zt2 : ¬ 1000 < tv i := by omega
        simp only [↓r49_0, ↓r49_1, ↓r49_3, ↓r49_6, ↓r49_9, ↓r49_10, ↓r49_11, ↓r49_13, ↓r49_16, ↓r49_17, ↓r49_18, ↓r49_19, ↓r49_20, ↓r49_23, ↓r49_24, ↓r49_27, ↓r49_28, ↓r49_31, ↓r49_34, ↓r49_37, ↓r49_38, ↓r49_41, ↓r49_42, ↓c_sign0 h hi (show 91 < 200 by decide) c1, cR_9, q9_6, q9_9, q_le, q_lt, q_eq, q_e0, q_e1, q_0e, q_1e, ps_n0, q_0le, q_le0, q_0lt, q_m1e, q_em1, c7, em, zt, zt2, Bool.false_eq_true, hn, hn2, ht, hF, am_wt, am_wf, Option.isSome_some, am_rf_s, am_rf_n, ps_lit, nI_add, nI_1, pk_mul, ps_cl, ps_neg, ps_c0, ps_c1, ps_n01, ps_n11, ps_10, ps_b01, ps_e0, pu_Ine, pu_Ieq, pu_ne, pu_eq, am_k_n, am_k_i, am_k_r, am_k_u, am_k_l, am_sz_0, am_sz_i, am_sz_r, am_sz_u, am_sz_l, Option.toList_some, Option.toList_none, List.cons_append, List.nil_append, true_and, and_true, or_false, false_or, or_self, or_true, true_or, not_false_eq_true, not_true_eq_false, Classical.not_not, ne_eq, ps_e1, ps_em, ps_z, Nat.not_le, false_implies, true_implies, forall_const, ps_01, ps_1n, ps_0n, ps_m10, ps_m1n, lg_cmp_gt, lg_cmp_ge, lg_cmp_le, lg_cmp_lt, lg_cmp_eq, pu_rne, pu_req, pu_uro, RFc_n, Nat.reduceAdd, Nat.reduceMul, Nat.reduceLT, Nat.reduceLeDiff, Nat.reduceEqDiff, Nat.reduceSub]
        exact this
      · have em := k6 c3
        have := word (Or.inr (by omega)) (by omega)
        simp only [↓r49_0, ↓r49_1, ↓r49_3, ↓r49_6, ↓r49_9, ↓r49_10, ↓r49_11, ↓r49_13, ↓r49_16, ↓r49_17, ↓r49_18, ↓r49_19, ↓r49_20, ↓r49_23, ↓r49_24, ↓r49_27, ↓r49_28, ↓r49_31, ↓r49_34, ↓r49_37, ↓r49_38, ↓r49_41, ↓r49_42, ↓c_sign0 h hi (show 91 < 200 by decide) c1, cR_9, q9_6, q9_9, q_le, q_lt, q_eq, q_e0, q_e1, q_0e, q_1e, ps_n0, q_0le, q_le0, q_0lt, q_m1e, q_em1, c7, em, Bool.false_eq_true, hn, hn2, ht, hF, am_wt, am_wf, Option.isSome_some, am_rf_s, am_rf_n, ps_lit, nI_add, nI_1, pk_mul, ps_cl, ps_neg, ps_c0, ps_c1, ps_n01, ps_n11, ps_10, ps_b01, ps_e0, pu_Ine, pu_Ieq, pu_ne, pu_eq, am_k_n, am_k_i, am_k_r, am_k_u, am_k_l, am_sz_0, am_sz_i, am_sz_r, am_sz_u, am_sz_l, Option.toList_some, Option.toList_none, List.cons_append, List.nil_append, true_and, and_true, or_false, false_or, or_self, or_true, true_or, not_false_eq_true, not_true_eq_false, Classical.not_not, ne_eq, ps_e1, ps_em, ps_z, Nat.not_le, false_implies, true_implies, forall_const, ps_01, ps_1n, ps_0n, ps_m10, ps_m1n, lg_cmp_gt, lg_cmp_ge, lg_cmp_le, lg_cmp_lt, lg_cmp_eq, pu_rne, pu_req, pu_uro, RFc_n, Nat.reduceAdd, Nat.reduceMul, Nat.reduceLT, Nat.reduceLeDiff, Nat.reduceEqDiff, Nat.reduceSub]
        exact this
    · have c7 : ¬ kT i = 2 := fun e => c2 (k1.1 e)
      have := word (by
        by_cases c8 : 9 ≤ tk i ∧ tk i ≤ 19
        · exact Or.inl (k3 c8.1 c8.2)
        · exact Or.inr c8) (by omega)
      simp only [↓r49_0, ↓r49_1, ↓r49_3, ↓r49_6, ↓r49_9, ↓r49_10, ↓r49_11, ↓r49_13, ↓r49_16, ↓r49_17, ↓r49_18, ↓r49_19, ↓r49_20, ↓r49_23, ↓r49_24, ↓r49_27, ↓r49_28, ↓r49_31, ↓r49_34, ↓r49_37, ↓r49_38, ↓r49_41, ↓r49_42, ↓c_sign0 h hi (show 91 < 200 by decide) c1, cR_9, q9_6, q_le, q_lt, q_eq, q_e0, q_e1, q_0e, q_1e, ps_n0, q_0le, q_le0, q_0lt, q_m1e, q_em1, z, c7, Bool.false_eq_true, hn, hn2, ht, hF, am_wt, am_wf, Option.isSome_some, am_rf_s, am_rf_n, ps_lit, nI_add, nI_1, pk_mul, ps_cl, ps_neg, ps_c0, ps_c1, ps_n01, ps_n11, ps_10, ps_b01, ps_e0, pu_Ine, pu_Ieq, pu_ne, pu_eq, am_k_n, am_k_i, am_k_r, am_k_u, am_k_l, am_sz_0, am_sz_i, am_sz_r, am_sz_u, am_sz_l, Option.toList_some, Option.toList_none, List.cons_append, List.nil_append, true_and, and_true, or_false, false_or, or_self, or_true, true_or, not_false_eq_true, not_true_eq_false, Classical.not_not, ne_eq, ps_e1, ps_em, ps_z, Nat.not_le, false_implies, true_implies, forall_const, ps_01, ps_1n, ps_0n, ps_m10, ps_m1n, lg_cmp_gt, lg_cmp_ge, lg_cmp_le, lg_cmp_lt, lg_cmp_eq, pu_rne, pu_req, pu_uro, RFc_n, Nat.reduceAdd, Nat.reduceMul, Nat.reduceLT, Nat.reduceLeDiff, Nat.reduceEqDiff, Nat.reduceSub]
      exact this
end CQ
