/-! DRAWS; calls, one on each side: paid -/
section PD
variable {X : am_X} {d : Nat} {Q : Option Value → am_H → Prop} {n sl : Nat} {t : Nat → Nat × Nat} {I : Nat → Nat → Int32} {J : Nat → Nat → Int64} {F : Nat → Nat → Option Nat} {h : am_H}
variable {K : Nat → Int32} {N T : Nat} {lw : Nat → List CL} {LL SS FF : List Nat}
def nx (q : Nat) : Nat := (1103 * q + 12345) % 1000003
theorem nx_lt (q : Nat) : nx q < 1000003 := Nat.mod_lt _ (by decide)
theorem lN_div {a b : Nat} (ha : a < 2 ^ 31) (h0 : 0 < b) (hb : b < 2 ^ 31) : lN a / lN b = lN (a / b) := by
  apply Int64.toInt_inj.mp
  have hne : lN b ≠ -1 := by
    intro q
    have e := congrArg Int64.toInt q
    rw [lN_toInt hb] at e
    have e2 : (-1 : Int64).toInt = -1 := by decide
    omega
  rw [Int64.toInt_div_of_ne_right _ _ hne, lN_toInt ha, lN_toInt hb, lN_toInt (Nat.lt_of_le_of_lt (Nat.div_le_self a b) ha)]
  rfl
theorem md {A B : Nat} : A - A / B * B = A % B := by
  have := Nat.div_add_mod' A B
  omega
theorem c_draw {q m : Nat} (hW : WS n t F) (hq : q < 1000003) (hm1 : 1 ≤ m) (hm : m ≤ 200) (h44 : I 44 0 = nI q) : am_W X d 142 0 [some (.ref 44), some (.int (nI m))] [] (n, sl, t, I, J, F) Q ↔ Q (some (.int (nI (nx q % m)))) (n, sl, t, am_uI I 44 0 (nI (nx q)), J, F) := by
  obtain ⟨hn, hn2, ht, hF⟩ := id hW
  have hb := nx_lt q
  have e1 : ¬ nI 1000003 = 0 := by decide
  have e2 : ¬ nI m = 0 := nI_ne0 (by omega) (by omega)
  have e3 : nI (q * 1103 + 12345) / nI 1000003 = nI ((q * 1103 + 12345) / 1000003) := pk_div (by omega) (by decide) (by decide)
  have e4 : nI (q * 1103 + 12345) - nI ((q * 1103 + 12345) / 1000003 * 1000003) = nI (nx q) := by
    rw [pk_sub (Nat.div_mul_le_self _ _), md]
    unfold nx
    rw [Nat.mul_comm q 1103]
  have e5 : nI (nx q) / nI m = nI (nx q / m) := pk_div (by omega) (by omega) (by omega)
  have e6 : nI (nx q) - nI (nx q / m * m) = nI (nx q % m) := by rw [pk_sub (Nat.div_mul_le_self _ _), md]
  have e7 : (1 : Int32) ≤ nI m := nI_le (a := 1) hm1 (by omega)
  simp only [↓r142_0, ↓r142_1, ↓r142_2, ↓r142_5, ↓r142_8, ↓r142_9, ↓r142_12, ↓r142_13, ↓r142_15, ↓r142_16, ↓r142_19, ↓r142_20, ↓r142_21, ↓r142_24, ↓r142_25, ↓r142_28, ↓r142_29, ↓r142_32, ↓r142_33, ↓r142_34, h44, e1, e2, e3, e4, e5, e6, e7, Bool.false_eq_true, hn, hn2, ht, hF, am_wt, am_wf, Option.isSome_some, am_rf_s, am_rf_n, ps_lit, nI_add, nI_1, pk_mul, ps_cl, ps_neg, ps_c0, ps_c1, ps_n01, ps_n11, ps_10, ps_b01, ps_e0, pu_Ine, pu_Ieq, pu_ne, pu_eq, am_k_n, am_k_i, am_k_r, am_k_u, am_k_l, am_sz_0, am_sz_i, am_sz_r, am_sz_u, am_sz_l, Option.toList_some, Option.toList_none, List.cons_append, List.nil_append, true_and, and_true, or_false, false_or, or_self, or_true, true_or, not_false_eq_true, not_true_eq_false, Classical.not_not, ne_eq, ps_e1, ps_em, ps_z, Nat.not_le, false_implies, true_implies, forall_const, ps_01, ps_1n, ps_0n, ps_m10, ps_m1n, lg_cmp_gt, lg_cmp_ge, lg_cmp_le, lg_cmp_lt, lg_cmp_eq, pu_rne, pu_req, pu_uro, RFc_n, Nat.reduceAdd, Nat.reduceMul, Nat.reduceLT, Nat.reduceLeDiff, Nat.reduceEqDiff, Nat.reduceSub]
theorem m_draws {q m : Nat} (hW : WS n t F) (hq : q < 1000003) (hm1 : 1 ≤ m) (hm : m ≤ 200) (h35 : I 47 35 = nI q) : am_W X d 281 0 [some (.ref 47), some (.int (nI m))] [] (n, sl, t, I, J, F) Q ↔ Q (some (.int (nI (nx q % m)))) (n, sl, t, am_uI I 47 35 (nI (nx q)), J, F) := by
  obtain ⟨hn, hn2, ht, hF⟩ := id hW
  have hb := nx_lt q
  have l1 : (1103 : Int64) = lN 1103 := rfl
  have l2 : (12345 : Int64) = lN 12345 := rfl
  have l3 : (1000003 : Int64) = lN 1000003 := rfl
  have l4 : (nI q).toInt64 = lN q := nI_l (by omega)
  have e1 : ¬ lN 1000003 = 0 := by decide
  have e2 : ¬ nI m = 0 := nI_ne0 (by omega) (by omega)
  have e3 : lN (1103 * q + 12345) / lN 1000003 = lN ((1103 * q + 12345) / 1000003) := lN_div (by omega) (by decide) (by decide)
  have e4 : lN (1103 * q + 12345) - lN ((1103 * q + 12345) / 1000003 * 1000003) = lN (nx q) := by
    rw [lN_sub (Nat.div_mul_le_self _ _), md]
    rfl
  have e5 : nI (nx q) / nI m = nI (nx q / m) := pk_div (by omega) (by omega) (by omega)
  have e6 : nI (nx q) - nI (nx q / m * m) = nI (nx q % m) := by rw [pk_sub (Nat.div_mul_le_self _ _), md]
  simp only [↓r281_0, ↓r281_1, ↓r281_4, ↓r281_5, ↓r281_8, ↓r281_9, ↓r281_10, ↓r281_13, ↓r281_14, ↓r281_17, ↓r281_18, ↓r281_19, ↓r281_22, ↓r281_23, ↓r281_26, ↓r281_27, ↓r281_28, h35, l1, l2, l3, l4, lN_mul, lN_add, lN_i, e1, e2, e3, e4, e5, e6, Bool.false_eq_true, hn, hn2, ht, hF, am_wt, am_wf, Option.isSome_some, am_rf_s, am_rf_n, ps_lit, nI_add, nI_1, pk_mul, ps_cl, ps_neg, ps_c0, ps_c1, ps_n01, ps_n11, ps_10, ps_b01, ps_e0, pu_Ine, pu_Ieq, pu_ne, pu_eq, am_k_n, am_k_i, am_k_r, am_k_u, am_k_l, am_sz_0, am_sz_i, am_sz_r, am_sz_u, am_sz_l, Option.toList_some, Option.toList_none, List.cons_append, List.nil_append, true_and, and_true, or_false, false_or, or_self, or_true, true_or, not_false_eq_true, not_true_eq_false, Classical.not_not, ne_eq, ps_e1, ps_em, ps_z, Nat.not_le, false_implies, true_implies, forall_const, ps_01, ps_1n, ps_0n, ps_m10, ps_m1n, lg_cmp_gt, lg_cmp_ge, lg_cmp_le, lg_cmp_lt, lg_cmp_eq, pu_rne, pu_req, pu_uro, RFc_n, Nat.reduceAdd, Nat.reduceMul, Nat.reduceLT, Nat.reduceLeDiff, Nat.reduceEqDiff, Nat.reduceSub]
/-- two are put in each other's place -/
def swp (f : Nat → Int32) (a b : Nat) : Nat → Int32 := upd (upd f a (f b)) b (f a)
def shf (FF : List Nat) : Nat → Nat → (Nat → Int32) → Nat × (Nat → Int32)
  | 0, q, f => (q, f)
  | i + 1, q, f => shf FF i (nx q) (swp f (FF.getD (i + 1) 0) (FF.getD (nx q % (i + 2)) 0))
theorem shf_q (FF : List Nat) : ∀ i q f, q < 1000003 → (shf FF i q f).1 < 1000003 := by
  intro i
  induction i with
  | zero => intro q f h; exact h
  | succ i ih => intro q f _; exact ih _ _ (nx_lt q)
theorem swp_c {f g : Nat → Int32} {p : Nat → Prop} {a b : Nat} (ha : p a) (hb : p b) (h : ∀ c, p c → f c = g c) : ∀ c, p c → swp f a b c = swp g a b c := fun c hc => by
  unfold swp upd
  by_cases h1 : c = b
  · rw [if_pos h1, if_pos h1]; exact h a ha
  · rw [if_neg h1, if_neg h1]
    by_cases h2 : c = a
    · rw [if_pos h2, if_pos h2]; exact h b hb
    · rw [if_neg h2, if_neg h2]; exact h c hc
theorem shf_c {p : Nat → Prop} (hp : ∀ c, c ∈ FF → p c) : ∀ i q f g, i < FF.length → (∀ c, p c → f c = g c) → (shf FF i q f).1 = (shf FF i q g).1 ∧ ∀ c, p c → (shf FF i q f).2 c = (shf FF i q g).2 c := by
  intro i
  induction i with
  | zero => intro q f g _ h; exact ⟨rfl, h⟩
  | succ i ih =>
    intro q f g hi h
    have hk : nx q % (i + 2) < i + 2 := Nat.mod_lt _ (by omega)
    exact ih _ _ _ (by omega) (swp_c (hp _ (getD_mem hi)) (hp _ (getD_mem (by omega))) h)
theorem cl_shuffle {q : Nat} (hW : WS n t F) (hq : q < 1000003) (hG : GH (I 33 1) (I 34) FF 120) (h44 : I 44 0 = nI q) : am_W X (d + 1) 141 0 [some (.ref 28), some (.ref 44), none, none, none, none, none] [] (n, sl, t, I, J, F) Q ↔ Q none (n, sl, t, am_ro (am_ro I 35 (shf FF (FF.length - 1) q (I 35)).2) 44 (upd (I 44) 0 (nI (shf FF (FF.length - 1) q (I 35)).1)), J, F) := by
  obtain ⟨hn, hn2, ht, hF⟩ := id hW
  obtain ⟨g1, g2, g3⟩ := hG
  have hx : ∀ i, i < FF.length ∨ i = 0 → ∀ q f, q < 1000003 → ∀ l3 l4 l5 l6 : Option Value, am_W X (d + 1) 141 10 [some (.ref 28), some (.ref 44), some (.int (nI i)), l3, l4, l5, l6] [] (n, sl, t, am_ro (am_ro I 35 f) 44 (upd (I 44) 0 (nI q)), J, F) Q ↔ Q none (n, sl, t, am_ro (am_ro I 35 (shf FF i q f).2) 44 (upd (I 44) 0 (nI (shf FF i q f).1)), J, F) := by
    intro i
    induction i with
    | zero =>
      intro _ q f hq l3 l4 l5 l6
      rw [r141_10]
      simp only [↓r141_11, ↓r141_82, q_le, q_lt, q_eq, q_e0, q_e1, q_0e, q_1e, ps_n0, q_0le, q_le0, q_0lt, q_m1e, q_em1, ps_n0, Int32.le_refl, shf, Bool.false_eq_true, hn, hn2, ht, hF, am_wt, am_wf, Option.isSome_some, am_rf_s, am_rf_n, ps_lit, nI_add, nI_1, pk_mul, ps_cl, ps_neg, ps_c0, ps_c1, ps_n01, ps_n11, ps_10, ps_b01, ps_e0, pu_Ine, pu_Ieq, pu_ne, pu_eq, am_k_n, am_k_i, am_k_r, am_k_u, am_k_l, am_sz_0, am_sz_i, am_sz_r, am_sz_u, am_sz_l, Option.toList_some, Option.toList_none, List.cons_append, List.nil_append, true_and, and_true, or_false, false_or, or_self, or_true, true_or, not_false_eq_true, not_true_eq_false, Classical.not_not, ne_eq, ps_e1, ps_em, ps_z, Nat.not_le, false_implies, true_implies, forall_const, ps_01, ps_1n, ps_0n, ps_m10, ps_m1n, lg_cmp_gt, lg_cmp_ge, lg_cmp_le, lg_cmp_lt, lg_cmp_eq, pu_rne, pu_req, pu_uro, RFc_n, Nat.reduceAdd, Nat.reduceMul, Nat.reduceLT, Nat.reduceLeDiff, Nat.reduceEqDiff, Nat.reduceSub]
    | succ i ih =>
      intro hi q f hq l3 l4 l5 l6
      have hi' : i + 1 < FF.length := by omega
      have hk : nx q % (i + 2) < i + 2 := Nat.mod_lt _ (by omega)
      obtain ⟨c1, c2⟩ := g3 (i + 1) hi'
      obtain ⟨c3, c4⟩ := g3 (nx q % (i + 2)) (by omega)
      have z1 : i + 1 < 2000000 ∧ i + 1 < 120 ∧ nx q % (i + 2) < 2000000 ∧ nx q % (i + 2) < 120 ∧ FF.getD (i + 1) 0 < 2000000 ∧ FF.getD (nx q % (i + 2)) 0 < 2000000 ∧ i < 119 ∧ i < 1999999 := by omega
      have z2 : ¬ i + 1 ≤ 0 := by omega
      have e1 := fun Q => c_draw (X := X) (d := d) (Q := Q) (sl := sl) (J := J) (I := am_ro (am_ro I 35 f) 44 (upd (I 44) 0 (nI q))) (m := i + 2) hW hq (by omega) (by omega) (by rw [pu_req, pu_eq])
      have e3 : nI (i + 1) + Int32.ofInt (-1) = nI i := by
        rw [show Int32.ofInt (-1) = -1 by decide, ← Int32.sub_eq_add_neg, nI_pred]
      have ih' := fun l3 l4 l5 l6 => ih (by omega) (nx q) (swp f (FF.getD (i + 1) 0) (FF.getD (nx q % (i + 2)) 0)) (nx_lt q) l3 l4 l5 l6
      rw [r141_10]
      simp only [↓r141_11, ↓r141_14, ↓r141_14n, ↓r141_15, ↓r141_16, ↓r141_17, ↓r141_18, ↓r141_21, ↓r141_22, ↓r141_23, ↓r141_26, ↓r141_29, ↓r141_30, ↓r141_30k, ↓r141_31, ↓r141_33, ↓r141_34, ↓r141_37, ↓r141_40, ↓r141_41, ↓r141_41k, ↓r141_42, ↓r141_44, ↓r141_45, ↓r141_48, ↓r141_50, ↓r141_50k, ↓r141_51, ↓r141_53, ↓r141_54, ↓r141_57, ↓r141_59, ↓r141_60, ↓r141_63, ↓r141_65, ↓r141_65k, ↓r141_66, ↓r141_67, ↓r141_68, ↓r141_71, ↓r141_73, ↓r141_75, ↓r141_76, ↓r141_79, ↓e1, q_le, q_lt, q_eq, q_e0, q_e1, q_0e, q_1e, ps_n0, q_0le, q_le0, q_0lt, q_m1e, q_em1, c1, c2, c3, c4, e3, z1, z2, pu_uI, pu_rol, pu_ror, pu_uu, Bool.false_eq_true, hn, hn2, ht, hF, am_wt, am_wf, Option.isSome_some, am_rf_s, am_rf_n, ps_lit, nI_add, nI_1, pk_mul, ps_cl, ps_neg, ps_c0, ps_c1, ps_n01, ps_n11, ps_10, ps_b01, ps_e0, pu_Ine, pu_Ieq, pu_ne, pu_eq, am_k_n, am_k_i, am_k_r, am_k_u, am_k_l, am_sz_0, am_sz_i, am_sz_r, am_sz_u, am_sz_l, Option.toList_some, Option.toList_none, List.cons_append, List.nil_append, true_and, and_true, or_false, false_or, or_self, or_true, true_or, not_false_eq_true, not_true_eq_false, Classical.not_not, ne_eq, ps_e1, ps_em, ps_z, Nat.not_le, false_implies, true_implies, forall_const, ps_01, ps_1n, ps_0n, ps_m10, ps_m1n, lg_cmp_gt, lg_cmp_ge, lg_cmp_le, lg_cmp_lt, lg_cmp_eq, pu_rne, pu_req, pu_uro, RFc_n, Nat.reduceAdd, Nat.reduceMul, Nat.reduceLT, Nat.reduceLeDiff, Nat.reduceEqDiff, Nat.reduceSub]
      exact ih' _ _ _ _
  have e0 : am_ro (am_ro I 35 (I 35)) 44 (upd (I 44) 0 (nI q)) = I := by
    rw [pu_roI]
    have : upd (I 44) 0 (nI q) = I 44 := by
      funext k
      unfold upd
      by_cases h : k = 0
      · rw [if_pos h, h, h44]
      · rw [if_neg h]
    rw [this, pu_roI]
  cases hl : FF.length with
  | zero =>
    have h3 := hx 0 (Or.inr rfl) q (I 35) hq none none none none
    have m1 : (-1 : Int32) ≤ 0 := by decide
    have m2 : nI 0 - 1 = -1 := by decide
    rw [hl] at g1
    show _ ↔ Q none (n, sl, t, am_ro (am_ro I 35 (I 35)) 44 (upd (I 44) 0 (nI q)), J, F)
    rw [e0]
    simp only [↓r141_0, ↓r141_1, ↓r141_4, ↓r141_7, ↓r141_8, ↓r141_9, g1, m2, Bool.false_eq_true, hn, hn2, ht, hF, am_wt, am_wf, Option.isSome_some, am_rf_s, am_rf_n, ps_lit, nI_add, nI_1, pk_mul, ps_cl, ps_neg, ps_c0, ps_c1, ps_n01, ps_n11, ps_10, ps_b01, ps_e0, pu_Ine, pu_Ieq, pu_ne, pu_eq, am_k_n, am_k_i, am_k_r, am_k_u, am_k_l, am_sz_0, am_sz_i, am_sz_r, am_sz_u, am_sz_l, Option.toList_some, Option.toList_none, List.cons_append, List.nil_append, true_and, and_true, or_false, false_or, or_self, or_true, true_or, not_false_eq_true, not_true_eq_false, Classical.not_not, ne_eq, ps_e1, ps_em, ps_z, Nat.not_le, false_implies, true_implies, forall_const, ps_01, ps_1n, ps_0n, ps_m10, ps_m1n, lg_cmp_gt, lg_cmp_ge, lg_cmp_le, lg_cmp_lt, lg_cmp_eq, pu_rne, pu_req, pu_uro, RFc_n, Nat.reduceAdd, Nat.reduceMul, Nat.reduceLT, Nat.reduceLeDiff, Nat.reduceEqDiff, Nat.reduceSub]
    rw [r141_10]
    simp only [↓r141_11, ↓r141_82, m1, Bool.false_eq_true, hn, hn2, ht, hF, am_wt, am_wf, Option.isSome_some, am_rf_s, am_rf_n, ps_lit, nI_add, nI_1, pk_mul, ps_cl, ps_neg, ps_c0, ps_c1, ps_n01, ps_n11, ps_10, ps_b01, ps_e0, pu_Ine, pu_Ieq, pu_ne, pu_eq, am_k_n, am_k_i, am_k_r, am_k_u, am_k_l, am_sz_0, am_sz_i, am_sz_r, am_sz_u, am_sz_l, Option.toList_some, Option.toList_none, List.cons_append, List.nil_append, true_and, and_true, or_false, false_or, or_self, or_true, true_or, not_false_eq_true, not_true_eq_false, Classical.not_not, ne_eq, ps_e1, ps_em, ps_z, Nat.not_le, false_implies, true_implies, forall_const, ps_01, ps_1n, ps_0n, ps_m10, ps_m1n, lg_cmp_gt, lg_cmp_ge, lg_cmp_le, lg_cmp_lt, lg_cmp_eq, pu_rne, pu_req, pu_uro, RFc_n, Nat.reduceAdd, Nat.reduceMul, Nat.reduceLT, Nat.reduceLeDiff, Nat.reduceEqDiff, Nat.reduceSub]
  | succ m =>
    have h3 := hx m (Or.inl (by omega)) q (I 35) hq none none none none
    rw [e0] at h3
    rw [hl] at g1
    rw [Nat.add_sub_cancel, ← h3]
    simp only [↓r141_0, ↓r141_1, ↓r141_4, ↓r141_7, ↓r141_8, ↓r141_9, g1, nI_pred, Bool.false_eq_true, hn, hn2, ht, hF, am_wt, am_wf, Option.isSome_some, am_rf_s, am_rf_n, ps_lit, nI_add, nI_1, pk_mul, ps_cl, ps_neg, ps_c0, ps_c1, ps_n01, ps_n11, ps_10, ps_b01, ps_e0, pu_Ine, pu_Ieq, pu_ne, pu_eq, am_k_n, am_k_i, am_k_r, am_k_u, am_k_l, am_sz_0, am_sz_i, am_sz_r, am_sz_u, am_sz_l, Option.toList_some, Option.toList_none, List.cons_append, List.nil_append, true_and, and_true, or_false, false_or, or_self, or_true, true_or, not_false_eq_true, not_true_eq_false, Classical.not_not, ne_eq, ps_e1, ps_em, ps_z, Nat.not_le, false_implies, true_implies, forall_const, ps_01, ps_1n, ps_0n, ps_m10, ps_m1n, lg_cmp_gt, lg_cmp_ge, lg_cmp_le, lg_cmp_lt, lg_cmp_eq, pu_rne, pu_req, pu_uro, RFc_n, Nat.reduceAdd, Nat.reduceMul, Nat.reduceLT, Nat.reduceLeDiff, Nat.reduceEqDiff, Nat.reduceSub]
end PD
