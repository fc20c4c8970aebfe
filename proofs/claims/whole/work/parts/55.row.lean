/-! calls, one on each side: row -/
section RO
variable {X : am_X} {d : Nat} {Q : Option Value → am_H → Prop} {n sl : Nat} {t : Nat → Nat × Nat} {I : Nat → Nat → Int32} {J : Nat → Nat → Int64} {F : Nat → Nat → Option Nat} {h : am_H}
/-- an int told by four bytes -/
def it4 (b : Nat → Int32) (p : Nat) : Nat → Int32
  | 0 => 0
  | j + 1 => (it4 b p j <<< (nI 8 &&& nI 31)) ||| (b (p + j) &&& nI 255)
theorem it4_c {b b' : Nat → Int32} {p : Nat} : ∀ j, (∀ i, i < j → b (p + i) = b' (p + i)) → it4 b p j = it4 b' p j := by
  intro j
  induction j with
  | zero => intro _; rfl
  | succ j ih =>
    intro h
    unfold it4
    rw [ih (fun i hi => h i (by omega)), h j (by omega)]
def rtv (b : Nat → Int32) (m k : Nat) : Int32 := if 4 * k + 4 ≤ m then it4 b (4 * k) 4 else nI 201
def rhw (v : Int32) : Int32 := if 0 ≤ v ∧ v ≤ nI 200 then 0 else if -nI 201 ≤ v ∧ v ≤ -1 then 1 else nI 2
def rtn (v : Int32) : Int32 := if 0 ≤ v ∧ v ≤ nI 200 then v else if -nI 201 ≤ v ∧ v ≤ -1 then -v - 1 else 0
def rwF (r : Nat → Int32) (c : Nat) (b : Nat → Int32) (m k : Nat) : Nat → Int32 := fun i => if c ≤ i / 15 ∧ i / 15 < c + k ∧ i % 15 = 10 then rhw (rtv b m (i / 15 - c)) else if c ≤ i / 15 ∧ i / 15 < c + k ∧ i % 15 = 9 then rtn (rtv b m (i / 15 - c)) else r i
theorem rwF_s (r : Nat → Int32) (c : Nat) (b : Nat → Int32) (m k : Nat) : upd (upd (rwF r c b m k) (15 * (c + k) + 10) (rhw (rtv b m k))) (15 * (c + k) + 9) (rtn (rtv b m k)) = rwF r c b m (k + 1) := by
  funext i
  unfold upd rwF
  by_cases h1 : i = 15 * (c + k) + 9
  · have e1 : i / 15 = c + k := by omega
    have e2 : i % 15 = 9 := by omega
    rw [if_pos h1, if_neg (by omega), if_pos (by omega), e1, Nat.add_sub_cancel_left]
  · rw [if_neg h1]
    by_cases h2 : i = 15 * (c + k) + 10
    · have e1 : i / 15 = c + k := by omega
      rw [if_pos h2, if_pos (by omega), e1, Nat.add_sub_cancel_left]
    · rw [if_neg h2]
      by_cases h3 : c ≤ i / 15 ∧ i / 15 < c + k ∧ i % 15 = 10
      · rw [if_pos h3, if_pos (by omega)]
      · rw [if_neg h3]
        by_cases h4 : c ≤ i / 15 ∧ i / 15 < c + k ∧ i % 15 = 9
        · rw [if_pos h4, if_neg (by omega), if_pos (by omega)]
        · rw [if_neg h4, if_neg (by omega), if_neg (by omega)]
theorem rwF_0 (r : Nat → Int32) (c : Nat) (b : Nat → Int32) (m : Nat) : rwF r c b m 0 = r := by
  funext i
  unfold rwF
  rw [if_neg (by omega), if_neg (by omega)]
theorem ps_255 (x : Int32) : x &&& nI 255 &&& nI 255 = x &&& nI 255 := by rw [Int32.and_assoc, Int32.and_self]
theorem c_byteAt {m k : Nat} (hW : WS n t F) (hm : m ≤ 400) (hl : I 7 1 = nI m) (hk : k < m) : am_W X d 38 0 [some (.ref 7), some (.int (nI k))] [] (n, sl, t, I, J, F) Q ↔ Q (some (.int (I 8 k &&& nI 255))) (n, sl, t, I, J, F) := by
  obtain ⟨hn, hn2, ht, hF⟩ := id hW
  have e1 : ¬ nI m ≤ nI k := nI_ge hk (by omega)
  have e2 : ¬ nI 400 ≤ nI k := nI_ge (by omega) (by decide)
  have z1 : k < 2000000 := by omega
  have z2 : k < 400 := by omega
  simp only [↓r38_0, ↓r38_1, ↓r38_4, ↓r38_5, ↓r38_6, ↓r38_9, ↓r38_12, ↓r38_13, ↓r38_16, ↓r38_19, ↓r38_20, ↓r38_23, ↓r38_24, ↓r38_25, ↓r38_28, ↓r38_29, ↓r38_32, ↓r38_33, hl, e1, e2, z1, z2, Bool.false_eq_true, hn, hn2, ht, hF, am_wt, am_wf, Option.isSome_some, am_rf_s, am_rf_n, ps_lit, nI_add, nI_1, pk_mul, ps_cl, ps_neg, ps_c0, ps_c1, ps_n01, ps_n11, ps_10, ps_b01, ps_e0, pu_Ine, pu_Ieq, pu_ne, pu_eq, am_k_n, am_k_i, am_k_r, am_k_u, am_k_l, am_sz_0, am_sz_i, am_sz_r, am_sz_u, am_sz_l, Option.toList_some, Option.toList_none, List.cons_append, List.nil_append, true_and, and_true, or_false, false_or, or_self, or_true, true_or, not_false_eq_true, not_true_eq_false, Classical.not_not, ne_eq, ps_e1, ps_em, ps_z, Nat.not_le, false_implies, true_implies, forall_const, ps_01, ps_1n, ps_0n, ps_m10, ps_m1n, lg_cmp_gt, lg_cmp_ge, lg_cmp_le, lg_cmp_lt, lg_cmp_eq, pu_rne, pu_req, pu_uro, RFc_n, Nat.reduceAdd, Nat.reduceMul, Nat.reduceLT, Nat.reduceLeDiff, Nat.reduceEqDiff, Nat.reduceSub]
theorem l_intAt {m p : Nat} (hW : WS n t F) (hm : m ≤ 400) (hl : I 7 1 = nI m) (hk : p + 4 ≤ m) : ∀ k j, j + k = 4 → (am_W X (d + 1) 37 4 [some (.ref 7), some (.int (nI p)), some (.int (it4 (I 8) p j)), some (.int (nI j))] [] (n, sl, t, I, J, F) Q ↔ Q (some (.int (it4 (I 8) p 4))) (n, sl, t, I, J, F)) := by
  obtain ⟨hn, hn2, ht, hF⟩ := id hW
  intro k
  induction k with
  | zero =>
    intro j hj
    obtain rfl : j = 4 := by omega
    rw [r37_4]
    simp only [↓r37_0, ↓r37_1, ↓r37_2, ↓r37_3, ↓r37_5, ↓r37_6, ↓r37_9, ↓r37_10, ↓r37_12, ↓r37_13, ↓r37_14, ↓r37_15, ↓r37_16, ↓r37_17, ↓r37_20, ↓r37_23, ↓r37_24, ↓r37_25, ↓r37_26, ↓r37_29, ↓r37_32, ↓r37_33, Int32.le_refl, Bool.false_eq_true, hn, hn2, ht, hF, am_wt, am_wf, Option.isSome_some, am_rf_s, am_rf_n, ps_lit, nI_add, nI_1, pk_mul, ps_cl, ps_neg, ps_c0, ps_c1, ps_n01, ps_n11, ps_10, ps_b01, ps_e0, pu_Ine, pu_Ieq, pu_ne, pu_eq, am_k_n, am_k_i, am_k_r, am_k_u, am_k_l, am_sz_0, am_sz_i, am_sz_r, am_sz_u, am_sz_l, Option.toList_some, Option.toList_none, List.cons_append, List.nil_append, true_and, and_true, or_false, false_or, or_self, or_true, true_or, not_false_eq_true, not_true_eq_false, Classical.not_not, ne_eq, ps_e1, ps_em, ps_z, Nat.not_le, false_implies, true_implies, forall_const, ps_01, ps_1n, ps_0n, ps_m10, ps_m1n, lg_cmp_gt, lg_cmp_ge, lg_cmp_le, lg_cmp_lt, lg_cmp_eq, pu_rne, pu_req, pu_uro, RFc_n, Nat.reduceAdd, Nat.reduceMul, Nat.reduceLT, Nat.reduceLeDiff, Nat.reduceEqDiff, Nat.reduceSub]
  | succ k ih =>
    intro j hj
    rw [r37_4]
    have e1 : ¬ nI 4 ≤ nI j := nI_ge (by omega) (by decide)
    have e7 := ih (j + 1) (by omega)
    rw [it4] at e7
    simp only [↓r37_0, ↓r37_1, ↓r37_2, ↓r37_3, ↓r37_5, ↓r37_6, ↓r37_9, ↓r37_10, ↓r37_12, ↓r37_13, ↓r37_14, ↓r37_15, ↓r37_16, ↓r37_17, ↓r37_20, ↓r37_23, ↓r37_24, ↓r37_25, ↓r37_26, ↓r37_29, ↓r37_32, ↓r37_33, ↓c_byteAt hW hm hl (show p + j < m by omega), e1, ps_255, Bool.false_eq_true, hn, hn2, ht, hF, am_wt, am_wf, Option.isSome_some, am_rf_s, am_rf_n, ps_lit, nI_add, nI_1, pk_mul, ps_cl, ps_neg, ps_c0, ps_c1, ps_n01, ps_n11, ps_10, ps_b01, ps_e0, pu_Ine, pu_Ieq, pu_ne, pu_eq, am_k_n, am_k_i, am_k_r, am_k_u, am_k_l, am_sz_0, am_sz_i, am_sz_r, am_sz_u, am_sz_l, Option.toList_some, Option.toList_none, List.cons_append, List.nil_append, true_and, and_true, or_false, false_or, or_self, or_true, true_or, not_false_eq_true, not_true_eq_false, Classical.not_not, ne_eq, ps_e1, ps_em, ps_z, Nat.not_le, false_implies, true_implies, forall_const, ps_01, ps_1n, ps_0n, ps_m10, ps_m1n, lg_cmp_gt, lg_cmp_ge, lg_cmp_le, lg_cmp_lt, lg_cmp_eq, pu_rne, pu_req, pu_uro, RFc_n, Nat.reduceAdd, Nat.reduceMul, Nat.reduceLT, Nat.reduceLeDiff, Nat.reduceEqDiff, Nat.reduceSub]
    exact e7
theorem c_intAt {m p : Nat} (hW : WS n t F) (hm : m ≤ 400) (hl : I 7 1 = nI m) (hk : p + 4 ≤ m) : am_W X (d + 1) 37 0 [some (.ref 7), some (.int (nI p)), none, none] [] (n, sl, t, I, J, F) Q ↔ Q (some (.int (it4 (I 8) p 4))) (n, sl, t, I, J, F) := by
  rw [← l_intAt (X := X) (d := d) (Q := Q) (sl := sl) (J := J) hW hm hl hk 4 0 rfl]
  simp only [↓r37_0, ↓r37_1, ↓r37_2, ↓r37_3, am_k_i]
  exact Iff.rfl
theorem c_putWait {m c k : Nat} (hW : WS n t F) (hm : m ≤ 400) (hl : I 7 1 = nI m) (hk : 4 * k < m) (hc : c < 120) (h1 : nI c < I 1 4) (h2 : I 1 4 ≤ nI 120) : am_W X (d + 3) 36 0 [some (.ref 0), some (.int (nI c)), some (.int (nI (4 * k))), none, none, none, none] [] (n, sl, t, I, J, F) Q ↔ Q (some (.int (if rhw (rtv (I 8) m k) = nI 2 then 1 else 0))) (n, sl, t, am_ro I 2 (upd (upd (I 2) (15 * c + 10) (rhw (rtv (I 8) m k))) (15 * c + 9) (rtn (rtv (I 8) m k))), J, F) := by
  obtain ⟨hn, hn2, ht, hF⟩ := id hW
  have w1 : ¬ nI 2 = 0 := by decide
  have w2 : ¬ (0 : Int32) = nI 2 := by decide
  have w3 : ¬ (1 : Int32) = nI 2 := by decide
  by_cases h4 : 4 * k + 4 ≤ m
  · have e1 : ¬ nI m < nI (4 * k + 4) := nI_nlt h4 (by omega)
    have e3 : rtv (I 8) m k = it4 (I 8) (4 * k) 4 := if_pos h4
    rw [e3]
    generalize hv : it4 (I 8) (4 * k) 4 = v
    by_cases a1 : 0 ≤ v ∧ v ≤ nI 200
    · simp only [↓r36_0, ↓r36_1, ↓r36_2, ↓r36_3, ↓r36_4, ↓r36_7, ↓r36_10, ↓r36_13, ↓r36_14, ↓r36_17, ↓r36_18, ↓r36_19, ↓r36_20, ↓r36_23, ↓r36_24, ↓r36_27, ↓r36_28, ↓r36_31, ↓r36_34, ↓r36_37, ↓r36_39, ↓r36_40, ↓r36_42, ↓r36_43, ↓r36_45, ↓r36_47, ↓r36_48, ↓r36_51, ↓r36_54, ↓r36_57, ↓r36_58, ↓r36_60, ↓r36_62, ↓r36_64, ↓r36_67, ↓r36_69, ↓r36_72, ↓r36_73, ↓r36_76, ↓r36_79, ↓r36_80, ↓r36_82, ↓r36_84, ↓r36_85, ↓r36_86, ↓r36_87, ↓r36_89, ↓r36_90, ↓r36_93, ↓r36_94, ↓r36_96, ↓r36_98, ↓r36_101, ↓r36_101r, ↓r36_102, ↓r36_103, ↓r36_106, ↓r36_107, ↓r36_109, ↓r36_111, ↓r36_114, ↓r36_114r, ↓r36_115, ↓r36_117, ↓r36_118, ↓r36_121, ↓r36_122, ↓r36_125, ↓r36_126, ↓c_intAt hW hm hl h4, ↓c_within, ↓c_meansTried, ↓c_nearest, ↓c_accept, ↓c_rf1, ↓c_rf2, ↓c_rf3, ↓c_rf5, ↓c_rf6, ↓c_has, ↓c_atx, ↓c_putx, ↓c_put0, ↓c_put1, ↓s_at0, ↓s_at1, ↓c_isTriedx, ↓c_sidex, ↓c_thingx, ↓c_isFoundx, ↓s_lies, ↓s_rf1, ↓s_rf2, ↓s_rf3, ↓s_rf5, ↓s_rf6, ↓s_good, ↓s_many, ↓s_at, ↓s_isChild, ↓s_replacesx, ↓s_factOfx, ↓s_isTried, ↓s_took, ↓s_waited, ↓s_term0, ↓s_term1, ↓s_term2, ↓s_isLong, ↓s_isShort, ↓s_thingOfx, ↓s_isFoundx, ↓s_isText, ↓s_isGroup, hW, rhw, rtn, hv, hl, e1, a1, hc, h1, h2, w1, w2, w3, and_self, if_true, if_false, pu_uI, pu_ror, Bool.false_eq_true, hn, hn2, ht, hF, am_wt, am_wf, Option.isSome_some, am_rf_s, am_rf_n, ps_lit, nI_add, nI_1, pk_mul, ps_cl, ps_neg, ps_c0, ps_c1, ps_n01, ps_n11, ps_10, ps_b01, ps_e0, pu_Ine, pu_Ieq, pu_ne, pu_eq, am_k_n, am_k_i, am_k_r, am_k_u, am_k_l, am_sz_0, am_sz_i, am_sz_r, am_sz_u, am_sz_l, Option.toList_some, Option.toList_none, List.cons_append, List.nil_append, true_and, and_true, or_false, false_or, or_self, or_true, true_or, not_false_eq_true, not_true_eq_false, Classical.not_not, ne_eq, ps_e1, ps_em, ps_z, Nat.not_le, false_implies, true_implies, forall_const, ps_01, ps_1n, ps_0n, ps_m10, ps_m1n, lg_cmp_gt, lg_cmp_ge, lg_cmp_le, lg_cmp_lt, lg_cmp_eq, pu_rne, pu_req, pu_uro, RFc_n, Nat.reduceAdd, Nat.reduceMul, Nat.reduceLT, Nat.reduceLeDiff, Nat.reduceEqDiff, Nat.reduceSub]
    · by_cases a2 : -nI 201 ≤ v ∧ v ≤ -1
      · simp only [↓r36_0, ↓r36_1, ↓r36_2, ↓r36_3, ↓r36_4, ↓r36_7, ↓r36_10, ↓r36_13, ↓r36_14, ↓r36_17, ↓r36_18, ↓r36_19, ↓r36_20, ↓r36_23, ↓r36_24, ↓r36_27, ↓r36_28, ↓r36_31, ↓r36_34, ↓r36_37, ↓r36_39, ↓r36_40, ↓r36_42, ↓r36_43, ↓r36_45, ↓r36_47, ↓r36_48, ↓r36_51, ↓r36_54, ↓r36_57, ↓r36_58, ↓r36_60, ↓r36_62, ↓r36_64, ↓r36_67, ↓r36_69, ↓r36_72, ↓r36_73, ↓r36_76, ↓r36_79, ↓r36_80, ↓r36_82, ↓r36_84, ↓r36_85, ↓r36_86, ↓r36_87, ↓r36_89, ↓r36_90, ↓r36_93, ↓r36_94, ↓r36_96, ↓r36_98, ↓r36_101, ↓r36_101r, ↓r36_102, ↓r36_103, ↓r36_106, ↓r36_107, ↓r36_109, ↓r36_111, ↓r36_114, ↓r36_114r, ↓r36_115, ↓r36_117, ↓r36_118, ↓r36_121, ↓r36_122, ↓r36_125, ↓r36_126, ↓c_intAt hW hm hl h4, ↓c_within, ↓c_meansTried, ↓c_nearest, ↓c_accept, ↓c_rf1, ↓c_rf2, ↓c_rf3, ↓c_rf5, ↓c_rf6, ↓c_has, ↓c_atx, ↓c_putx, ↓c_put0, ↓c_put1, ↓s_at0, ↓s_at1, ↓c_isTriedx, ↓c_sidex, ↓c_thingx, ↓c_isFoundx, ↓s_lies, ↓s_rf1, ↓s_rf2, ↓s_rf3, ↓s_rf5, ↓s_rf6, ↓s_good, ↓s_many, ↓s_at, ↓s_isChild, ↓s_replacesx, ↓s_factOfx, ↓s_isTried, ↓s_took, ↓s_waited, ↓s_term0, ↓s_term1, ↓s_term2, ↓s_isLong, ↓s_isShort, ↓s_thingOfx, ↓s_isFoundx, ↓s_isText, ↓s_isGroup, hW, rhw, rtn, hv, hl, e1, a1, a2, hc, h1, h2, w1, w2, w3, and_self, if_true, if_false, pu_uI, pu_ror, Bool.false_eq_true, hn, hn2, ht, hF, am_wt, am_wf, Option.isSome_some, am_rf_s, am_rf_n, ps_lit, nI_add, nI_1, pk_mul, ps_cl, ps_neg, ps_c0, ps_c1, ps_n01, ps_n11, ps_10, ps_b01, ps_e0, pu_Ine, pu_Ieq, pu_ne, pu_eq, am_k_n, am_k_i, am_k_r, am_k_u, am_k_l, am_sz_0, am_sz_i, am_sz_r, am_sz_u, am_sz_l, Option.toList_some, Option.toList_none, List.cons_append, List.nil_append, true_and, and_true, or_false, false_or, or_self, or_true, true_or, not_false_eq_true, not_true_eq_false, Classical.not_not, ne_eq, ps_e1, ps_em, ps_z, Nat.not_le, false_implies, true_implies, forall_const, ps_01, ps_1n, ps_0n, ps_m10, ps_m1n, lg_cmp_gt, lg_cmp_ge, lg_cmp_le, lg_cmp_lt, lg_cmp_eq, pu_rne, pu_req, pu_uro, RFc_n, Nat.reduceAdd, Nat.reduceMul, Nat.reduceLT, Nat.reduceLeDiff, Nat.reduceEqDiff, Nat.reduceSub]
      · simp only [↓r36_0, ↓r36_1, ↓r36_2, ↓r36_3, ↓r36_4, ↓r36_7, ↓r36_10, ↓r36_13, ↓r36_14, ↓r36_17, ↓r36_18, ↓r36_19, ↓r36_20, ↓r36_23, ↓r36_24, ↓r36_27, ↓r36_28, ↓r36_31, ↓r36_34, ↓r36_37, ↓r36_39, ↓r36_40, ↓r36_42, ↓r36_43, ↓r36_45, ↓r36_47, ↓r36_48, ↓r36_51, ↓r36_54, ↓r36_57, ↓r36_58, ↓r36_60, ↓r36_62, ↓r36_64, ↓r36_67, ↓r36_69, ↓r36_72, ↓r36_73, ↓r36_76, ↓r36_79, ↓r36_80, ↓r36_82, ↓r36_84, ↓r36_85, ↓r36_86, ↓r36_87, ↓r36_89, ↓r36_90, ↓r36_93, ↓r36_94, ↓r36_96, ↓r36_98, ↓r36_101, ↓r36_101r, ↓r36_102, ↓r36_103, ↓r36_106, ↓r36_107, ↓r36_109, ↓r36_111, ↓r36_114, ↓r36_114r, ↓r36_115, ↓r36_117, ↓r36_118, ↓r36_121, ↓r36_122, ↓r36_125, ↓r36_126, ↓c_intAt hW hm hl h4, ↓c_within, ↓c_meansTried, ↓c_nearest, ↓c_accept, ↓c_rf1, ↓c_rf2, ↓c_rf3, ↓c_rf5, ↓c_rf6, ↓c_has, ↓c_atx, ↓c_putx, ↓c_put0, ↓c_put1, ↓s_at0, ↓s_at1, ↓c_isTriedx, ↓c_sidex, ↓c_thingx, ↓c_isFoundx, ↓s_lies, ↓s_rf1, ↓s_rf2, ↓s_rf3, ↓s_rf5, ↓s_rf6, ↓s_good, ↓s_many, ↓s_at, ↓s_isChild, ↓s_replacesx, ↓s_factOfx, ↓s_isTried, ↓s_took, ↓s_waited, ↓s_term0, ↓s_term1, ↓s_term2, ↓s_isLong, ↓s_isShort, ↓s_thingOfx, ↓s_isFoundx, ↓s_isText, ↓s_isGroup, hW, rhw, rtn, hv, hl, e1, a1, a2, hc, h1, h2, w1, w2, w3, and_self, if_true, if_false, pu_uI, pu_ror, Bool.false_eq_true, hn, hn2, ht, hF, am_wt, am_wf, Option.isSome_some, am_rf_s, am_rf_n, ps_lit, nI_add, nI_1, pk_mul, ps_cl, ps_neg, ps_c0, ps_c1, ps_n01, ps_n11, ps_10, ps_b01, ps_e0, pu_Ine, pu_Ieq, pu_ne, pu_eq, am_k_n, am_k_i, am_k_r, am_k_u, am_k_l, am_sz_0, am_sz_i, am_sz_r, am_sz_u, am_sz_l, Option.toList_some, Option.toList_none, List.cons_append, List.nil_append, true_and, and_true, or_false, false_or, or_self, or_true, true_or, not_false_eq_true, not_true_eq_false, Classical.not_not, ne_eq, ps_e1, ps_em, ps_z, Nat.not_le, false_implies, true_implies, forall_const, ps_01, ps_1n, ps_0n, ps_m10, ps_m1n, lg_cmp_gt, lg_cmp_ge, lg_cmp_le, lg_cmp_lt, lg_cmp_eq, pu_rne, pu_req, pu_uro, RFc_n, Nat.reduceAdd, Nat.reduceMul, Nat.reduceLT, Nat.reduceLeDiff, Nat.reduceEqDiff, Nat.reduceSub]
  · have e1 : nI m < nI (4 * k + 4) := nI_lt (by omega) (by omega)
    have e3 : rtv (I 8) m k = nI 201 := if_neg h4
    rw [e3]
    have a1 : ¬ ((0 : Int32) ≤ nI 201 ∧ nI 201 ≤ nI 200) := by decide
    have a2 : ¬ (-nI 201 ≤ nI 201 ∧ nI 201 ≤ -1) := by decide
    simp only [↓r36_0, ↓r36_1, ↓r36_2, ↓r36_3, ↓r36_4, ↓r36_7, ↓r36_10, ↓r36_13, ↓r36_14, ↓r36_17, ↓r36_18, ↓r36_19, ↓r36_20, ↓r36_23, ↓r36_24, ↓r36_27, ↓r36_28, ↓r36_31, ↓r36_34, ↓r36_37, ↓r36_39, ↓r36_40, ↓r36_42, ↓r36_43, ↓r36_45, ↓r36_47, ↓r36_48, ↓r36_51, ↓r36_54, ↓r36_57, ↓r36_58, ↓r36_60, ↓r36_62, ↓r36_64, ↓r36_67, ↓r36_69, ↓r36_72, ↓r36_73, ↓r36_76, ↓r36_79, ↓r36_80, ↓r36_82, ↓r36_84, ↓r36_85, ↓r36_86, ↓r36_87, ↓r36_89, ↓r36_90, ↓r36_93, ↓r36_94, ↓r36_96, ↓r36_98, ↓r36_101, ↓r36_101r, ↓r36_102, ↓r36_103, ↓r36_106, ↓r36_107, ↓r36_109, ↓r36_111, ↓r36_114, ↓r36_114r, ↓r36_115, ↓r36_117, ↓r36_118, ↓r36_121, ↓r36_122, ↓r36_125, ↓r36_126, ↓c_within, ↓c_meansTried, ↓c_nearest, ↓c_accept, ↓c_rf1, ↓c_rf2, ↓c_rf3, ↓c_rf5, ↓c_rf6, ↓c_has, ↓c_atx, ↓c_putx, ↓c_put0, ↓c_put1, ↓s_at0, ↓s_at1, ↓c_isTriedx, ↓c_sidex, ↓c_thingx, ↓c_isFoundx, ↓s_lies, ↓s_rf1, ↓s_rf2, ↓s_rf3, ↓s_rf5, ↓s_rf6, ↓s_good, ↓s_many, ↓s_at, ↓s_isChild, ↓s_replacesx, ↓s_factOfx, ↓s_isTried, ↓s_took, ↓s_waited, ↓s_term0, ↓s_term1, ↓s_term2, ↓s_isLong, ↓s_isShort, ↓s_thingOfx, ↓s_isFoundx, ↓s_isText, ↓s_isGroup, hW, rhw, rtn, hl, e1, a1, a2, hc, h1, h2, w1, w2, w3, and_self, if_true, if_false, pu_uI, pu_ror, Bool.false_eq_true, hn, hn2, ht, hF, am_wt, am_wf, Option.isSome_some, am_rf_s, am_rf_n, ps_lit, nI_add, nI_1, pk_mul, ps_cl, ps_neg, ps_c0, ps_c1, ps_n01, ps_n11, ps_10, ps_b01, ps_e0, pu_Ine, pu_Ieq, pu_ne, pu_eq, am_k_n, am_k_i, am_k_r, am_k_u, am_k_l, am_sz_0, am_sz_i, am_sz_r, am_sz_u, am_sz_l, Option.toList_some, Option.toList_none, List.cons_append, List.nil_append, true_and, and_true, or_false, false_or, or_self, or_true, true_or, not_false_eq_true, not_true_eq_false, Classical.not_not, ne_eq, ps_e1, ps_em, ps_z, Nat.not_le, false_implies, true_implies, forall_const, ps_01, ps_1n, ps_0n, ps_m10, ps_m1n, lg_cmp_gt, lg_cmp_ge, lg_cmp_le, lg_cmp_lt, lg_cmp_eq, pu_rne, pu_req, pu_uro, RFc_n, Nat.reduceAdd, Nat.reduceMul, Nat.reduceLT, Nat.reduceLeDiff, Nat.reduceEqDiff, Nat.reduceSub]
theorem l_row {m c N z : Nat} (hW : WS n t F) (hm : m ≤ 400) (hl : I 7 1 = nI m) (hN : N ≤ 120) (hs : I 1 4 = nI N) (hc : c ≤ N) (hz : z = min (N - c) ((m + 3) / 4)) : ∀ q k, k + q = z → (am_W X (d + 4) 35 42 [some (.ref 0), some (.int (nI c)), some (.int (nI (cnt (fun j => decide (rhw (rtv (I 8) m j) = nI 2)) k))), some (.int (nI (c + k))), some (.int (nI (4 * k)))] [] (n, sl, t, am_ro I 2 (rwF (I 2) c (I 8) m k), J, F) Q ↔ Q (some (.int (nI (cnt (fun j => decide (rhw (rtv (I 8) m j) = nI 2)) z)))) (n, sl, t, am_uI (am_uI (am_ro I 2 (rwF (I 2) c (I 8) m z)) 7 1 0) 0 14 0, J, F)) := by
  obtain ⟨hn, hn2, ht, hF⟩ := id hW
  have hb : nI N ≤ nI 120 := nI_le hN (by decide)
  intro q
  induction q with
  | zero =>
    intro k hk
    obtain rfl : k = z := by omega
    rw [r35_42]
    by_cases h4 : m ≤ 4 * k
    · have e1 : nI m ≤ nI (4 * k) := nI_le h4 (by omega)
      simp only [↓r35_0, ↓r35_1, ↓r35_4, ↓r35_5, ↓r35_8, ↓r35_11, ↓r35_12, ↓r35_14, ↓r35_17, ↓r35_18, ↓r35_19, ↓r35_22, ↓r35_25, ↓r35_28, ↓r35_29, ↓r35_31, ↓r35_34, ↓r35_35, ↓r35_36, ↓r35_37, ↓r35_38, ↓r35_39, ↓r35_40, ↓r35_44, ↓r35_45, ↓r35_48, ↓r35_51, ↓r35_54, ↓r35_55, ↓r35_56, ↓r35_59, ↓r35_62, ↓r35_65, ↓r35_66, ↓r35_67, ↓r35_69, ↓r35_72, ↓r35_75, ↓r35_78, ↓r35_81, ↓r35_84, ↓r35_87, ↓r35_88, ↓r35_91, ↓r35_92, ↓r35_95, ↓r35_96, ↓r35_97, ↓r35_100, ↓c_within, ↓c_meansTried, ↓c_nearest, ↓c_accept, ↓c_rf1, ↓c_rf2, ↓c_rf3, ↓c_rf5, ↓c_rf6, ↓c_has, ↓c_atx, ↓c_putx, ↓c_put0, ↓c_put1, ↓s_at0, ↓s_at1, ↓c_isTriedx, ↓c_sidex, ↓c_thingx, ↓c_isFoundx, ↓s_lies, ↓s_rf1, ↓s_rf2, ↓s_rf3, ↓s_rf5, ↓s_rf6, ↓s_good, ↓s_many, ↓s_at, ↓s_isChild, ↓s_replacesx, ↓s_factOfx, ↓s_isTried, ↓s_took, ↓s_waited, ↓s_term0, ↓s_term1, ↓s_term2, ↓s_isLong, ↓s_isShort, ↓s_thingOfx, ↓s_isFoundx, ↓s_isText, ↓s_isGroup, hW, hl, hs, e1, Bool.false_eq_true, hn, hn2, ht, hF, am_wt, am_wf, Option.isSome_some, am_rf_s, am_rf_n, ps_lit, nI_add, nI_1, pk_mul, ps_cl, ps_neg, ps_c0, ps_c1, ps_n01, ps_n11, ps_10, ps_b01, ps_e0, pu_Ine, pu_Ieq, pu_ne, pu_eq, am_k_n, am_k_i, am_k_r, am_k_u, am_k_l, am_sz_0, am_sz_i, am_sz_r, am_sz_u, am_sz_l, Option.toList_some, Option.toList_none, List.cons_append, List.nil_append, true_and, and_true, or_false, false_or, or_self, or_true, true_or, not_false_eq_true, not_true_eq_false, Classical.not_not, ne_eq, ps_e1, ps_em, ps_z, Nat.not_le, false_implies, true_implies, forall_const, ps_01, ps_1n, ps_0n, ps_m10, ps_m1n, lg_cmp_gt, lg_cmp_ge, lg_cmp_le, lg_cmp_lt, lg_cmp_eq, pu_rne, pu_req, pu_uro, RFc_n, Nat.reduceAdd, Nat.reduceMul, Nat.reduceLT, Nat.reduceLeDiff, Nat.reduceEqDiff, Nat.reduceSub]
    · have e1 : ¬ nI m ≤ nI (4 * k) := nI_ge (by omega) (by omega)
      have e2 : nI N ≤ nI (c + k) := nI_le (by omega) (by omega)
      simp only [↓r35_0, ↓r35_1, ↓r35_4, ↓r35_5, ↓r35_8, ↓r35_11, ↓r35_12, ↓r35_14, ↓r35_17, ↓r35_18, ↓r35_19, ↓r35_22, ↓r35_25, ↓r35_28, ↓r35_29, ↓r35_31, ↓r35_34, ↓r35_35, ↓r35_36, ↓r35_37, ↓r35_38, ↓r35_39, ↓r35_40, ↓r35_44, ↓r35_45, ↓r35_48, ↓r35_51, ↓r35_54, ↓r35_55, ↓r35_56, ↓r35_59, ↓r35_62, ↓r35_65, ↓r35_66, ↓r35_67, ↓r35_69, ↓r35_72, ↓r35_75, ↓r35_78, ↓r35_81, ↓r35_84, ↓r35_87, ↓r35_88, ↓r35_91, ↓r35_92, ↓r35_95, ↓r35_96, ↓r35_97, ↓r35_100, ↓c_within, ↓c_meansTried, ↓c_nearest, ↓c_accept, ↓c_rf1, ↓c_rf2, ↓c_rf3, ↓c_rf5, ↓c_rf6, ↓c_has, ↓c_atx, ↓c_putx, ↓c_put0, ↓c_put1, ↓s_at0, ↓s_at1, ↓c_isTriedx, ↓c_sidex, ↓c_thingx, ↓c_isFoundx, ↓s_lies, ↓s_rf1, ↓s_rf2, ↓s_rf3, ↓s_rf5, ↓s_rf6, ↓s_good, ↓s_many, ↓s_at, ↓s_isChild, ↓s_replacesx, ↓s_factOfx, ↓s_isTried, ↓s_took, ↓s_waited, ↓s_term0, ↓s_term1, ↓s_term2, ↓s_isLong, ↓s_isShort, ↓s_thingOfx, ↓s_isFoundx, ↓s_isText, ↓s_isGroup, hW, hl, hs, e1, e2, Bool.false_eq_true, hn, hn2, ht, hF, am_wt, am_wf, Option.isSome_some, am_rf_s, am_rf_n, ps_lit, nI_add, nI_1, pk_mul, ps_cl, ps_neg, ps_c0, ps_c1, ps_n01, ps_n11, ps_10, ps_b01, ps_e0, pu_Ine, pu_Ieq, pu_ne, pu_eq, am_k_n, am_k_i, am_k_r, am_k_u, am_k_l, am_sz_0, am_sz_i, am_sz_r, am_sz_u, am_sz_l, Option.toList_some, Option.toList_none, List.cons_append, List.nil_append, true_and, and_true, or_false, false_or, or_self, or_true, true_or, not_false_eq_true, not_true_eq_false, Classical.not_not, ne_eq, ps_e1, ps_em, ps_z, Nat.not_le, false_implies, true_implies, forall_const, ps_01, ps_1n, ps_0n, ps_m10, ps_m1n, lg_cmp_gt, lg_cmp_ge, lg_cmp_le, lg_cmp_lt, lg_cmp_eq, pu_rne, pu_req, pu_uro, RFc_n, Nat.reduceAdd, Nat.reduceMul, Nat.reduceLT, Nat.reduceLeDiff, Nat.reduceEqDiff, Nat.reduceSub]
  | succ q ih =>
    intro k hk
    rw [r35_42]
    have e1 : ¬ nI m ≤ nI (4 * k) := nI_ge (by omega) (by omega)
    have e2 : ¬ nI N ≤ nI (c + k) := nI_ge (by omega) (by omega)
    have e3 := fun Q => c_putWait (X := X) (d := d) (Q := Q) (sl := sl) (J := J) (I := am_ro I 2 (rwF (I 2) c (I 8) m k)) (m := m) (c := c + k) (k := k) hW hm (by rw [pu_rne (by decide)]; exact hl) (by omega) (by omega) (by rw [pu_rne (by decide), hs]; exact nI_lt (by omega) (by omega)) (by rw [pu_rne (by decide), hs]; exact hb)
    have e4 := ih (k + 1) (by omega)
    rw [← rwF_s, show c + (k + 1) = c + k + 1 by omega, show 4 * (k + 1) = 4 * k + 4 by omega] at e4
    simp only [pu_rne, pu_req, pu_ror, ne_eq, not_false_eq_true, Nat.reduceAdd, Nat.reduceMul, Nat.reduceLT, Nat.reduceLeDiff, Nat.reduceEqDiff, Nat.reduceSub] at e3
    by_cases h2 : rhw (rtv (I 8) m k) = nI 2
    · rw [cnt_s1 (by simp [h2])] at e4
      simp only [↓r35_0, ↓r35_1, ↓r35_4, ↓r35_5, ↓r35_8, ↓r35_11, ↓r35_12, ↓r35_14, ↓r35_17, ↓r35_18, ↓r35_19, ↓r35_22, ↓r35_25, ↓r35_28, ↓r35_29, ↓r35_31, ↓r35_34, ↓r35_35, ↓r35_36, ↓r35_37, ↓r35_38, ↓r35_39, ↓r35_40, ↓r35_44, ↓r35_45, ↓r35_48, ↓r35_51, ↓r35_54, ↓r35_55, ↓r35_56, ↓r35_59, ↓r35_62, ↓r35_65, ↓r35_66, ↓r35_67, ↓r35_69, ↓r35_72, ↓r35_75, ↓r35_78, ↓r35_81, ↓r35_84, ↓r35_87, ↓r35_88, ↓r35_91, ↓r35_92, ↓r35_95, ↓r35_96, ↓r35_97, ↓r35_100, ↓e3, hl, hs, e1, e2, h2, if_true, Bool.false_eq_true, hn, hn2, ht, hF, am_wt, am_wf, Option.isSome_some, am_rf_s, am_rf_n, ps_lit, nI_add, nI_1, pk_mul, ps_cl, ps_neg, ps_c0, ps_c1, ps_n01, ps_n11, ps_10, ps_b01, ps_e0, pu_Ine, pu_Ieq, pu_ne, pu_eq, am_k_n, am_k_i, am_k_r, am_k_u, am_k_l, am_sz_0, am_sz_i, am_sz_r, am_sz_u, am_sz_l, Option.toList_some, Option.toList_none, List.cons_append, List.nil_append, true_and, and_true, or_false, false_or, or_self, or_true, true_or, not_false_eq_true, not_true_eq_false, Classical.not_not, ne_eq, ps_e1, ps_em, ps_z, Nat.not_le, false_implies, true_implies, forall_const, ps_01, ps_1n, ps_0n, ps_m10, ps_m1n, lg_cmp_gt, lg_cmp_ge, lg_cmp_le, lg_cmp_lt, lg_cmp_eq, pu_rne, pu_req, pu_uro, RFc_n, Nat.reduceAdd, Nat.reduceMul, Nat.reduceLT, Nat.reduceLeDiff, Nat.reduceEqDiff, Nat.reduceSub]
      rw [h2] at e4
      exact e4
    · rw [cnt_s0 (by simp [h2])] at e4
      simp only [↓r35_0, ↓r35_1, ↓r35_4, ↓r35_5, ↓r35_8, ↓r35_11, ↓r35_12, ↓r35_14, ↓r35_17, ↓r35_18, ↓r35_19, ↓r35_22, ↓r35_25, ↓r35_28, ↓r35_29, ↓r35_31, ↓r35_34, ↓r35_35, ↓r35_36, ↓r35_37, ↓r35_38, ↓r35_39, ↓r35_40, ↓r35_44, ↓r35_45, ↓r35_48, ↓r35_51, ↓r35_54, ↓r35_55, ↓r35_56, ↓r35_59, ↓r35_62, ↓r35_65, ↓r35_66, ↓r35_67, ↓r35_69, ↓r35_72, ↓r35_75, ↓r35_78, ↓r35_81, ↓r35_84, ↓r35_87, ↓r35_88, ↓r35_91, ↓r35_92, ↓r35_95, ↓r35_96, ↓r35_97, ↓r35_100, ↓e3, hl, hs, e1, e2, h2, if_false, Bool.false_eq_true, hn, hn2, ht, hF, am_wt, am_wf, Option.isSome_some, am_rf_s, am_rf_n, ps_lit, nI_add, nI_1, pk_mul, ps_cl, ps_neg, ps_c0, ps_c1, ps_n01, ps_n11, ps_10, ps_b01, ps_e0, pu_Ine, pu_Ieq, pu_ne, pu_eq, am_k_n, am_k_i, am_k_r, am_k_u, am_k_l, am_sz_0, am_sz_i, am_sz_r, am_sz_u, am_sz_l, Option.toList_some, Option.toList_none, List.cons_append, List.nil_append, true_and, and_true, or_false, false_or, or_self, or_true, true_or, not_false_eq_true, not_true_eq_false, Classical.not_not, ne_eq, ps_e1, ps_em, ps_z, Nat.not_le, false_implies, true_implies, forall_const, ps_01, ps_1n, ps_0n, ps_m10, ps_m1n, lg_cmp_gt, lg_cmp_ge, lg_cmp_le, lg_cmp_lt, lg_cmp_eq, pu_rne, pu_req, pu_uro, RFc_n, Nat.reduceAdd, Nat.reduceMul, Nat.reduceLT, Nat.reduceLeDiff, Nat.reduceEqDiff, Nat.reduceSub]
      exact e4
theorem l_rowI {m c k : Nat} {g : Int32} (hW : WS n t F) (hm : m ≤ 400) (hk : 4 * k + 4 ≤ m) : ∀ q j, j + q = 4 → ∀ l5 : Int32, l5 = it4 (I 53) (4 * k) j → (am_W X (d + 1) 192 81 [some (.ref 47), some (.int (nI c)), some (.int (nI m)), some (.int g), some (.int (nI k)), some (.int l5), some (.int (nI j))] [] (n, sl, t, I, J, F) Q ↔ am_W X (d + 1) 192 117 [some (.ref 47), some (.int (nI c)), some (.int (nI m)), some (.int g), some (.int (nI k)), some (.int (it4 (I 53) (4 * k) 4)), some (.int (nI 4))] [] (n, sl, t, I, J, F) Q) := by
  obtain ⟨hn, hn2, ht, hF⟩ := id hW
  intro q
  induction q with
  | zero =>
    intro j hj l5 h5
    obtain rfl : j = 4 := by omega
    rw [r192_81, h5]
    simp only [↓r192_83, ↓r192_84, Int32.le_refl, Bool.false_eq_true, hn, hn2, ht, hF, am_wt, am_wf, Option.isSome_some, am_rf_s, am_rf_n, ps_lit, nI_add, nI_1, pk_mul, ps_cl, ps_neg, ps_c0, ps_c1, ps_n01, ps_n11, ps_10, ps_b01, ps_e0, pu_Ine, pu_Ieq, pu_ne, pu_eq, am_k_n, am_k_i, am_k_r, am_k_u, am_k_l, am_sz_0, am_sz_i, am_sz_r, am_sz_u, am_sz_l, Option.toList_some, Option.toList_none, List.cons_append, List.nil_append, true_and, and_true, or_false, false_or, or_self, or_true, true_or, not_false_eq_true, not_true_eq_false, Classical.not_not, ne_eq, ps_e1, ps_em, ps_z, Nat.not_le, false_implies, true_implies, forall_const, ps_01, ps_1n, ps_0n, ps_m10, ps_m1n, lg_cmp_gt, lg_cmp_ge, lg_cmp_le, lg_cmp_lt, lg_cmp_eq, pu_rne, pu_req, pu_uro, RFc_n, Nat.reduceAdd, Nat.reduceMul, Nat.reduceLT, Nat.reduceLeDiff, Nat.reduceEqDiff, Nat.reduceSub]
  | succ q ih =>
    intro j hj l5 h5
    rw [r192_81]
    have e1 : ¬ nI 4 ≤ nI j := nI_ge (by omega) (by decide)
    have z1 : 4 * k + j < 2000000 := by omega
    have z2 : 4 * k + j < 400 := by omega
    have e7 := ih (j + 1) (by omega) _ rfl
    rw [it4, ← h5] at e7
    simp only [↓r192_83, ↓r192_84, ↓r192_87, ↓r192_89, ↓r192_91, ↓r192_92, ↓r192_93, ↓r192_96, ↓r192_97, ↓r192_99, ↓r192_100, ↓r192_102, ↓r192_103, ↓r192_104, ↓r192_107, ↓r192_108, ↓r192_109, ↓r192_111, ↓r192_114, e1, z1, z2, Bool.false_eq_true, hn, hn2, ht, hF, am_wt, am_wf, Option.isSome_some, am_rf_s, am_rf_n, ps_lit, nI_add, nI_1, pk_mul, ps_cl, ps_neg, ps_c0, ps_c1, ps_n01, ps_n11, ps_10, ps_b01, ps_e0, pu_Ine, pu_Ieq, pu_ne, pu_eq, am_k_n, am_k_i, am_k_r, am_k_u, am_k_l, am_sz_0, am_sz_i, am_sz_r, am_sz_u, am_sz_l, Option.toList_some, Option.toList_none, List.cons_append, List.nil_append, true_and, and_true, or_false, false_or, or_self, or_true, true_or, not_false_eq_true, not_true_eq_false, Classical.not_not, ne_eq, ps_e1, ps_em, ps_z, Nat.not_le, false_implies, true_implies, forall_const, ps_01, ps_1n, ps_0n, ps_m10, ps_m1n, lg_cmp_gt, lg_cmp_ge, lg_cmp_le, lg_cmp_lt, lg_cmp_eq, pu_rne, pu_req, pu_uro, RFc_n, Nat.reduceAdd, Nat.reduceMul, Nat.reduceLT, Nat.reduceLeDiff, Nat.reduceEqDiff, Nat.reduceSub]
    exact e7
theorem l_rowR {m c N z : Nat} (hW : WS n t F) (hm : m ≤ 400) (hN : N ≤ 120) (hs : I 49 1811 = nI N) (hc : c ≤ N) (hz : z = min (N - c) ((m + 3) / 4)) : ∀ q k, k + q = z → ∀ l5 l6 : Option Value, (am_W X (d + 2) 192 41 [some (.ref 47), some (.int (nI c)), some (.int (nI m)), some (.int (nI (cnt (fun j => decide (rhw (rtv (I 53) m j) = nI 2)) k))), some (.int (nI k)), l5, l6] [] (n, sl, t, am_ro I 49 (rwF (I 49) c (I 53) m k), J, F) Q ↔ Q (some (.int (nI (cnt (fun j => decide (rhw (rtv (I 53) m j) = nI 2)) z)))) (n, sl, t, am_uI (am_ro I 49 (rwF (I 49) c (I 53) m z)) 47 0 0, J, F)) := by
  obtain ⟨hn, hn2, ht, hF⟩ := id hW
  have w1 : ¬ nI 2 = 0 := by decide
  have w4 : ¬ nI 2 = 1 := by decide
  have w2 : ¬ (0 : Int32) = nI 2 := by decide
  have w3 : ¬ (1 : Int32) = nI 2 := by decide
  have big : ∀ k, k ≤ z → rwF (I 49) c (I 53) m k 1811 = nI N := fun k hk => by
    rw [← hs]
    unfold rwF
    rw [if_neg (by omega), if_neg (by omega)]
  intro q
  induction q with
  | zero =>
    intro k hk l5 l6
    obtain rfl : k = z := by omega
    rw [r192_41]
    by_cases h4 : m ≤ 4 * k
    · have e1 : nI m ≤ nI (4 * k) := nI_le h4 (by omega)
      simp only [↓r192_42, ↓r192_44, ↓r192_45, ↓r192_46, ↓r192_229, ↓r192_230, ↓r192_231, ↓r192_234, ↓c_within, ↓c_meansTried, ↓c_nearest, ↓c_accept, ↓c_rf1, ↓c_rf2, ↓c_rf3, ↓c_rf5, ↓c_rf6, ↓c_has, ↓c_atx, ↓c_putx, ↓c_put0, ↓c_put1, ↓s_at0, ↓s_at1, ↓c_isTriedx, ↓c_sidex, ↓c_thingx, ↓c_isFoundx, ↓s_lies, ↓s_rf1, ↓s_rf2, ↓s_rf3, ↓s_rf5, ↓s_rf6, ↓s_good, ↓s_many, ↓s_at, ↓s_isChild, ↓s_replacesx, ↓s_factOfx, ↓s_isTried, ↓s_took, ↓s_waited, ↓s_term0, ↓s_term1, ↓s_term2, ↓s_isLong, ↓s_isShort, ↓s_thingOfx, ↓s_isFoundx, ↓s_isText, ↓s_isGroup, hW, e1, Bool.false_eq_true, hn, hn2, ht, hF, am_wt, am_wf, Option.isSome_some, am_rf_s, am_rf_n, ps_lit, nI_add, nI_1, pk_mul, ps_cl, ps_neg, ps_c0, ps_c1, ps_n01, ps_n11, ps_10, ps_b01, ps_e0, pu_Ine, pu_Ieq, pu_ne, pu_eq, am_k_n, am_k_i, am_k_r, am_k_u, am_k_l, am_sz_0, am_sz_i, am_sz_r, am_sz_u, am_sz_l, Option.toList_some, Option.toList_none, List.cons_append, List.nil_append, true_and, and_true, or_false, false_or, or_self, or_true, true_or, not_false_eq_true, not_true_eq_false, Classical.not_not, ne_eq, ps_e1, ps_em, ps_z, Nat.not_le, false_implies, true_implies, forall_const, ps_01, ps_1n, ps_0n, ps_m10, ps_m1n, lg_cmp_gt, lg_cmp_ge, lg_cmp_le, lg_cmp_lt, lg_cmp_eq, pu_rne, pu_req, pu_uro, RFc_n, Nat.reduceAdd, Nat.reduceMul, Nat.reduceLT, Nat.reduceLeDiff, Nat.reduceEqDiff, Nat.reduceSub]
    · have e1 : ¬ nI m ≤ nI (4 * k) := nI_ge (by omega) (by omega)
      have e2 : ¬ (0 ≤ nI (c + k) ∧ nI (c + k) ≤ nI N - 1) := fun q => by
        obtain ⟨y, hy, e⟩ := ps_chE (by omega) q
        have := (nI_eq (by omega) (by omega)).mp e
        omega
      simp only [↓r192_42, ↓r192_44, ↓r192_45, ↓r192_46, ↓r192_49, ↓r192_50, ↓r192_51, ↓r192_53, ↓r192_54, ↓r192_57, ↓r192_229, ↓r192_230, ↓r192_231, ↓r192_234, ↓c_within, ↓c_meansTried, ↓c_nearest, ↓c_accept, ↓c_rf1, ↓c_rf2, ↓c_rf3, ↓c_rf5, ↓c_rf6, ↓c_has, ↓c_atx, ↓c_putx, ↓c_put0, ↓c_put1, ↓s_at0, ↓s_at1, ↓c_isTriedx, ↓c_sidex, ↓c_thingx, ↓c_isFoundx, ↓s_lies, ↓s_rf1, ↓s_rf2, ↓s_rf3, ↓s_rf5, ↓s_rf6, ↓s_good, ↓s_many, ↓s_at, ↓s_isChild, ↓s_replacesx, ↓s_factOfx, ↓s_isTried, ↓s_took, ↓s_waited, ↓s_term0, ↓s_term1, ↓s_term2, ↓s_isLong, ↓s_isShort, ↓s_thingOfx, ↓s_isFoundx, ↓s_isText, ↓s_isGroup, hW, e1, e2, big k (Nat.le_refl k), if_false, Bool.false_eq_true, hn, hn2, ht, hF, am_wt, am_wf, Option.isSome_some, am_rf_s, am_rf_n, ps_lit, nI_add, nI_1, pk_mul, ps_cl, ps_neg, ps_c0, ps_c1, ps_n01, ps_n11, ps_10, ps_b01, ps_e0, pu_Ine, pu_Ieq, pu_ne, pu_eq, am_k_n, am_k_i, am_k_r, am_k_u, am_k_l, am_sz_0, am_sz_i, am_sz_r, am_sz_u, am_sz_l, Option.toList_some, Option.toList_none, List.cons_append, List.nil_append, true_and, and_true, or_false, false_or, or_self, or_true, true_or, not_false_eq_true, not_true_eq_false, Classical.not_not, ne_eq, ps_e1, ps_em, ps_z, Nat.not_le, false_implies, true_implies, forall_const, ps_01, ps_1n, ps_0n, ps_m10, ps_m1n, lg_cmp_gt, lg_cmp_ge, lg_cmp_le, lg_cmp_lt, lg_cmp_eq, pu_rne, pu_req, pu_uro, RFc_n, Nat.reduceAdd, Nat.reduceMul, Nat.reduceLT, Nat.reduceLeDiff, Nat.reduceEqDiff, Nat.reduceSub]
  | succ q ih =>
    intro k hk l5 l6
    rw [r192_41]
    have e1 : ¬ nI m ≤ nI (4 * k) := nI_ge (by omega) (by omega)
    have e2 := ps_chT (show c + k < N by omega) (by omega)
    have z1 : 15 * (c + k) + 10 < 2000000 ∧ 15 * (c + k) + 10 < 9823 ∧ 15 * (c + k) + 9 < 2000000 ∧ 15 * (c + k) + 9 < 9823 ∧ 15 * (c + k) < 9813 ∧ 15 * (c + k) < 9814 := by omega
    have e4 := ih (k + 1) (by omega)
    rw [← rwF_s] at e4
    have fin : ∀ v : Int32, v = rtv (I 53) m k → ∀ l6 : Option Value, (am_W X (d + 2) 192 117 [some (.ref 47), some (.int (nI c)), some (.int (nI m)), some (.int (nI (cnt (fun j => decide (rhw (rtv (I 53) m j) = nI 2)) k))), some (.int (nI k)), some (.int v), l6] [] (n, sl, t, am_ro I 49 (rwF (I 49) c (I 53) m k), J, F) Q ↔ Q (some (.int (nI (cnt (fun j => decide (rhw (rtv (I 53) m j) = nI 2)) z)))) (n, sl, t, am_uI (am_ro I 49 (rwF (I 49) c (I 53) m z)) 47 0 0, J, F)) := by
      intro v hv l6
      rw [← hv] at e4
      by_cases a1 : 0 ≤ v ∧ v ≤ nI 200
      · have h2 : ¬ rhw (rtv (I 53) m k) = nI 2 := by rw [← hv, rhw, if_pos a1]; exact w2
        rw [cnt_s0 (by simp [h2]), rhw, rtn, if_pos a1, if_pos a1] at e4
        simp only [↓r192_117, ↓r192_119, ↓r192_120, ↓r192_123, ↓r192_126, ↓r192_129, ↓r192_130, ↓r192_133, ↓r192_135, ↓r192_138, ↓r192_139, ↓r192_142, ↓r192_145, ↓r192_146, ↓r192_149, ↓r192_150, ↓r192_152, ↓r192_153, ↓r192_156, ↓r192_157, ↓r192_158, ↓r192_160, ↓r192_161, ↓r192_163, ↓r192_166, ↓r192_168, ↓r192_169, ↓r192_170, ↓r192_173, ↓r192_174, ↓r192_175, ↓r192_177, ↓r192_178, ↓r192_180, ↓r192_183, ↓r192_185, ↓r192_188, ↓r192_190, ↓r192_193, ↓r192_195, ↓r192_196, ↓r192_199, ↓r192_201, ↓r192_202, ↓r192_203, ↓r192_204, ↓r192_207, ↓r192_208, ↓r192_209, ↓r192_210, ↓r192_212, ↓r192_213, ↓r192_216, ↓r192_217, ↓r192_220, ↓r192_221, ↓r192_222, ↓r192_223, ↓r192_226, ↓c_within, ↓c_meansTried, ↓c_nearest, ↓c_accept, ↓c_rf1, ↓c_rf2, ↓c_rf3, ↓c_rf5, ↓c_rf6, ↓c_has, ↓c_atx, ↓c_putx, ↓c_put0, ↓c_put1, ↓s_at0, ↓s_at1, ↓c_isTriedx, ↓c_sidex, ↓c_thingx, ↓c_isFoundx, ↓s_lies, ↓s_rf1, ↓s_rf2, ↓s_rf3, ↓s_rf5, ↓s_rf6, ↓s_good, ↓s_many, ↓s_at, ↓s_isChild, ↓s_replacesx, ↓s_factOfx, ↓s_isTried, ↓s_took, ↓s_waited, ↓s_term0, ↓s_term1, ↓s_term2, ↓s_isLong, ↓s_isShort, ↓s_thingOfx, ↓s_isFoundx, ↓s_isText, ↓s_isGroup, hW, a1, z1, w1, w2, w3, w4, and_self, if_true, if_false, Int32.add_zero, Bool.false_eq_true, hn, hn2, ht, hF, am_wt, am_wf, Option.isSome_some, am_rf_s, am_rf_n, ps_lit, nI_add, nI_1, pk_mul, ps_cl, ps_neg, ps_c0, ps_c1, ps_n01, ps_n11, ps_10, ps_b01, ps_e0, pu_Ine, pu_Ieq, pu_ne, pu_eq, am_k_n, am_k_i, am_k_r, am_k_u, am_k_l, am_sz_0, am_sz_i, am_sz_r, am_sz_u, am_sz_l, Option.toList_some, Option.toList_none, List.cons_append, List.nil_append, true_and, and_true, or_false, false_or, or_self, or_true, true_or, not_false_eq_true, not_true_eq_false, Classical.not_not, ne_eq, ps_e1, ps_em, ps_z, Nat.not_le, false_implies, true_implies, forall_const, ps_01, ps_1n, ps_0n, ps_m10, ps_m1n, lg_cmp_gt, lg_cmp_ge, lg_cmp_le, lg_cmp_lt, lg_cmp_eq, pu_rne, pu_req, pu_uro, RFc_n, Nat.reduceAdd, Nat.reduceMul, Nat.reduceLT, Nat.reduceLeDiff, Nat.reduceEqDiff, Nat.reduceSub]
        exact e4 _ _
      · by_cases a2 : -nI 201 ≤ v ∧ v ≤ -1
        · have h2 : ¬ rhw (rtv (I 53) m k) = nI 2 := by rw [← hv, rhw, if_neg a1, if_pos a2]; exact w3
          rw [cnt_s0 (by simp [h2]), rhw, rtn, if_neg a1, if_neg a1, if_pos a2, if_pos a2] at e4
          simp only [↓r192_117, ↓r192_119, ↓r192_120, ↓r192_123, ↓r192_126, ↓r192_129, ↓r192_130, ↓r192_133, ↓r192_135, ↓r192_138, ↓r192_139, ↓r192_142, ↓r192_145, ↓r192_146, ↓r192_149, ↓r192_150, ↓r192_152, ↓r192_153, ↓r192_156, ↓r192_157, ↓r192_158, ↓r192_160, ↓r192_161, ↓r192_163, ↓r192_166, ↓r192_168, ↓r192_169, ↓r192_170, ↓r192_173, ↓r192_174, ↓r192_175, ↓r192_177, ↓r192_178, ↓r192_180, ↓r192_183, ↓r192_185, ↓r192_188, ↓r192_190, ↓r192_193, ↓r192_195, ↓r192_196, ↓r192_199, ↓r192_201, ↓r192_202, ↓r192_203, ↓r192_204, ↓r192_207, ↓r192_208, ↓r192_209, ↓r192_210, ↓r192_212, ↓r192_213, ↓r192_216, ↓r192_217, ↓r192_220, ↓r192_221, ↓r192_222, ↓r192_223, ↓r192_226, ↓c_within, ↓c_meansTried, ↓c_nearest, ↓c_accept, ↓c_rf1, ↓c_rf2, ↓c_rf3, ↓c_rf5, ↓c_rf6, ↓c_has, ↓c_atx, ↓c_putx, ↓c_put0, ↓c_put1, ↓s_at0, ↓s_at1, ↓c_isTriedx, ↓c_sidex, ↓c_thingx, ↓c_isFoundx, ↓s_lies, ↓s_rf1, ↓s_rf2, ↓s_rf3, ↓s_rf5, ↓s_rf6, ↓s_good, ↓s_many, ↓s_at, ↓s_isChild, ↓s_replacesx, ↓s_factOfx, ↓s_isTried, ↓s_took, ↓s_waited, ↓s_term0, ↓s_term1, ↓s_term2, ↓s_isLong, ↓s_isShort, ↓s_thingOfx, ↓s_isFoundx, ↓s_isText, ↓s_isGroup, hW, a1, a2, z1, w1, w2, w3, w4, and_self, if_true, if_false, Int32.add_zero, Bool.false_eq_true, hn, hn2, ht, hF, am_wt, am_wf, Option.isSome_some, am_rf_s, am_rf_n, ps_lit, nI_add, nI_1, pk_mul, ps_cl, ps_neg, ps_c0, ps_c1, ps_n01, ps_n11, ps_10, ps_b01, ps_e0, pu_Ine, pu_Ieq, pu_ne, pu_eq, am_k_n, am_k_i, am_k_r, am_k_u, am_k_l, am_sz_0, am_sz_i, am_sz_r, am_sz_u, am_sz_l, Option.toList_some, Option.toList_none, List.cons_append, List.nil_append, true_and, and_true, or_false, false_or, or_self, or_true, true_or, not_false_eq_true, not_true_eq_false, Classical.not_not, ne_eq, ps_e1, ps_em, ps_z, Nat.not_le, false_implies, true_implies, forall_const, ps_01, ps_1n, ps_0n, ps_m10, ps_m1n, lg_cmp_gt, lg_cmp_ge, lg_cmp_le, lg_cmp_lt, lg_cmp_eq, pu_rne, pu_req, pu_uro, RFc_n, Nat.reduceAdd, Nat.reduceMul, Nat.reduceLT, Nat.reduceLeDiff, Nat.reduceEqDiff, Nat.reduceSub]
          exact e4 _ _
        · have h2 : rhw (rtv (I 53) m k) = nI 2 := by rw [← hv, rhw, if_neg a1, if_neg a2]
          rw [cnt_s1 (by simp [h2]), rhw, rtn, if_neg a1, if_neg a1, if_neg a2, if_neg a2] at e4
          simp only [↓r192_117, ↓r192_119, ↓r192_120, ↓r192_123, ↓r192_126, ↓r192_129, ↓r192_130, ↓r192_133, ↓r192_135, ↓r192_138, ↓r192_139, ↓r192_142, ↓r192_145, ↓r192_146, ↓r192_149, ↓r192_150, ↓r192_152, ↓r192_153, ↓r192_156, ↓r192_157, ↓r192_158, ↓r192_160, ↓r192_161, ↓r192_163, ↓r192_166, ↓r192_168, ↓r192_169, ↓r192_170, ↓r192_173, ↓r192_174, ↓r192_175, ↓r192_177, ↓r192_178, ↓r192_180, ↓r192_183, ↓r192_185, ↓r192_188, ↓r192_190, ↓r192_193, ↓r192_195, ↓r192_196, ↓r192_199, ↓r192_201, ↓r192_202, ↓r192_203, ↓r192_204, ↓r192_207, ↓r192_208, ↓r192_209, ↓r192_210, ↓r192_212, ↓r192_213, ↓r192_216, ↓r192_217, ↓r192_220, ↓r192_221, ↓r192_222, ↓r192_223, ↓r192_226, ↓c_within, ↓c_meansTried, ↓c_nearest, ↓c_accept, ↓c_rf1, ↓c_rf2, ↓c_rf3, ↓c_rf5, ↓c_rf6, ↓c_has, ↓c_atx, ↓c_putx, ↓c_put0, ↓c_put1, ↓s_at0, ↓s_at1, ↓c_isTriedx, ↓c_sidex, ↓c_thingx, ↓c_isFoundx, ↓s_lies, ↓s_rf1, ↓s_rf2, ↓s_rf3, ↓s_rf5, ↓s_rf6, ↓s_good, ↓s_many, ↓s_at, ↓s_isChild, ↓s_replacesx, ↓s_factOfx, ↓s_isTried, ↓s_took, ↓s_waited, ↓s_term0, ↓s_term1, ↓s_term2, ↓s_isLong, ↓s_isShort, ↓s_thingOfx, ↓s_isFoundx, ↓s_isText, ↓s_isGroup, hW, a1, a2, z1, w1, w2, w3, w4, and_self, if_true, if_false, Bool.false_eq_true, hn, hn2, ht, hF, am_wt, am_wf, Option.isSome_some, am_rf_s, am_rf_n, ps_lit, nI_add, nI_1, pk_mul, ps_cl, ps_neg, ps_c0, ps_c1, ps_n01, ps_n11, ps_10, ps_b01, ps_e0, pu_Ine, pu_Ieq, pu_ne, pu_eq, am_k_n, am_k_i, am_k_r, am_k_u, am_k_l, am_sz_0, am_sz_i, am_sz_r, am_sz_u, am_sz_l, Option.toList_some, Option.toList_none, List.cons_append, List.nil_append, true_and, and_true, or_false, false_or, or_self, or_true, true_or, not_false_eq_true, not_true_eq_false, Classical.not_not, ne_eq, ps_e1, ps_em, ps_z, Nat.not_le, false_implies, true_implies, forall_const, ps_01, ps_1n, ps_0n, ps_m10, ps_m1n, lg_cmp_gt, lg_cmp_ge, lg_cmp_le, lg_cmp_lt, lg_cmp_eq, pu_rne, pu_req, pu_uro, RFc_n, Nat.reduceAdd, Nat.reduceMul, Nat.reduceLT, Nat.reduceLeDiff, Nat.reduceEqDiff, Nat.reduceSub]
          exact e4 _ _
    by_cases h4 : 4 * k + 4 ≤ m
    · have e5 : ¬ nI m < nI (4 * k + 4) := nI_nlt h4 (by omega)
      have e6 := l_rowI (X := X) (d := d + 1) (Q := Q) (sl := sl) (J := J) (I := am_ro I 49 (rwF (I 49) c (I 53) m k)) (g := nI (cnt (fun j => decide (rhw (rtv (I 53) m j) = nI 2)) k)) (c := c) hW hm h4 4 0 rfl 0 rfl
      rw [pu_rne (by decide)] at e6
      have e7 := fin _ (if_pos h4).symm (some (.int (nI 4)))
      rw [← e7, ← e6]
      simp only [↓r192_42, ↓r192_44, ↓r192_45, ↓r192_46, ↓r192_49, ↓r192_50, ↓r192_51, ↓r192_53, ↓r192_54, ↓r192_57, ↓r192_60, ↓r192_63, ↓r192_65, ↓r192_66, ↓r192_68, ↓r192_69, ↓r192_70, ↓r192_71, ↓r192_72, ↓r192_75, ↓r192_76, ↓r192_78, ↓r192_79, ↓c_within, ↓c_meansTried, ↓c_nearest, ↓c_accept, ↓c_rf1, ↓c_rf2, ↓c_rf3, ↓c_rf5, ↓c_rf6, ↓c_has, ↓c_atx, ↓c_putx, ↓c_put0, ↓c_put1, ↓s_at0, ↓s_at1, ↓c_isTriedx, ↓c_sidex, ↓c_thingx, ↓c_isFoundx, ↓s_lies, ↓s_rf1, ↓s_rf2, ↓s_rf3, ↓s_rf5, ↓s_rf6, ↓s_good, ↓s_many, ↓s_at, ↓s_isChild, ↓s_replacesx, ↓s_factOfx, ↓s_isTried, ↓s_took, ↓s_waited, ↓s_term0, ↓s_term1, ↓s_term2, ↓s_isLong, ↓s_isShort, ↓s_thingOfx, ↓s_isFoundx, ↓s_isText, ↓s_isGroup, hW, big k (by omega), e1, e2, e5, if_true, Bool.false_eq_true, hn, hn2, ht, hF, am_wt, am_wf, Option.isSome_some, am_rf_s, am_rf_n, ps_lit, nI_add, nI_1, pk_mul, ps_cl, ps_neg, ps_c0, ps_c1, ps_n01, ps_n11, ps_10, ps_b01, ps_e0, pu_Ine, pu_Ieq, pu_ne, pu_eq, am_k_n, am_k_i, am_k_r, am_k_u, am_k_l, am_sz_0, am_sz_i, am_sz_r, am_sz_u, am_sz_l, Option.toList_some, Option.toList_none, List.cons_append, List.nil_append, true_and, and_true, or_false, false_or, or_self, or_true, true_or, not_false_eq_true, not_true_eq_false, Classical.not_not, ne_eq, ps_e1, ps_em, ps_z, Nat.not_le, false_implies, true_implies, forall_const, ps_01, ps_1n, ps_0n, ps_m10, ps_m1n, lg_cmp_gt, lg_cmp_ge, lg_cmp_le, lg_cmp_lt, lg_cmp_eq, pu_rne, pu_req, pu_uro, RFc_n, Nat.reduceAdd, Nat.reduceMul, Nat.reduceLT, Nat.reduceLeDiff, Nat.reduceEqDiff, Nat.reduceSub]
      exact Iff.rfl
    · have e5 : nI m < nI (4 * k + 4) := nI_lt (by omega) (by omega)
      have e7 := fin _ (if_neg h4).symm l6
      rw [← e7]
      simp only [↓r192_42, ↓r192_44, ↓r192_45, ↓r192_46, ↓r192_49, ↓r192_50, ↓r192_51, ↓r192_53, ↓r192_54, ↓r192_57, ↓r192_60, ↓r192_63, ↓r192_65, ↓r192_66, ↓r192_68, ↓r192_69, ↓r192_70, ↓r192_71, ↓r192_72, ↓r192_75, ↓r192_76, ↓r192_78, ↓r192_79, ↓c_within, ↓c_meansTried, ↓c_nearest, ↓c_accept, ↓c_rf1, ↓c_rf2, ↓c_rf3, ↓c_rf5, ↓c_rf6, ↓c_has, ↓c_atx, ↓c_putx, ↓c_put0, ↓c_put1, ↓s_at0, ↓s_at1, ↓c_isTriedx, ↓c_sidex, ↓c_thingx, ↓c_isFoundx, ↓s_lies, ↓s_rf1, ↓s_rf2, ↓s_rf3, ↓s_rf5, ↓s_rf6, ↓s_good, ↓s_many, ↓s_at, ↓s_isChild, ↓s_replacesx, ↓s_factOfx, ↓s_isTried, ↓s_took, ↓s_waited, ↓s_term0, ↓s_term1, ↓s_term2, ↓s_isLong, ↓s_isShort, ↓s_thingOfx, ↓s_isFoundx, ↓s_isText, ↓s_isGroup, hW, big k (by omega), e1, e2, e5, if_true, Bool.false_eq_true, hn, hn2, ht, hF, am_wt, am_wf, Option.isSome_some, am_rf_s, am_rf_n, ps_lit, nI_add, nI_1, pk_mul, ps_cl, ps_neg, ps_c0, ps_c1, ps_n01, ps_n11, ps_10, ps_b01, ps_e0, pu_Ine, pu_Ieq, pu_ne, pu_eq, am_k_n, am_k_i, am_k_r, am_k_u, am_k_l, am_sz_0, am_sz_i, am_sz_r, am_sz_u, am_sz_l, Option.toList_some, Option.toList_none, List.cons_append, List.nil_append, true_and, and_true, or_false, false_or, or_self, or_true, true_or, not_false_eq_true, not_true_eq_false, Classical.not_not, ne_eq, ps_e1, ps_em, ps_z, Nat.not_le, false_implies, true_implies, forall_const, ps_01, ps_1n, ps_0n, ps_m10, ps_m1n, lg_cmp_gt, lg_cmp_ge, lg_cmp_le, lg_cmp_lt, lg_cmp_eq, pu_rne, pu_req, pu_uro, RFc_n, Nat.reduceAdd, Nat.reduceMul, Nat.reduceLT, Nat.reduceLeDiff, Nat.reduceEqDiff, Nat.reduceSub]
theorem rhw_RV (v : Int32) : RV 10 (rhw v) := by
  unfold rhw
  split
  · exact Or.inr ⟨0, by decide, rfl⟩
  · split
    · exact Or.inr ⟨1, by decide, rfl⟩
    · exact Or.inr ⟨2, by decide, rfl⟩
theorem rtn_RV (v : Int32) : RV 9 (rtn v) := by
  unfold rtn
  split
  · rename_i h
    obtain ⟨w, hw, rfl⟩ := ps_rng (by decide) h
    exact Or.inr ⟨w, hw, rfl⟩
  · split
    · rename_i h
      have h1 := Int32.le_iff_toInt_le.mp h.1
      have h2 := Int32.le_iff_toInt_le.mp h.2
      have c1 : (-nI 201).toInt = -201 := by decide
      have c2 : (-1 : Int32).toInt = -1 := by decide
      have c3 : (1 : Int32).toInt = 1 := by decide
      rw [c1] at h1
      rw [c2] at h2
      have e1 : (-v).toInt = -v.toInt := by
        rw [Int32.toInt_neg]
        exact Int.bmod_eq_of_le_mul_two (by omega) (by omega)
      have e2 : (-v - 1).toInt = -v.toInt - 1 := by
        rw [Int32.toInt_sub, e1, c3]
        exact Int.bmod_eq_of_le_mul_two (by omega) (by omega)
      have c4 : (nI 200).toInt = 200 := by decide
      have c5 : (0 : Int32).toInt = 0 := by decide
      obtain ⟨w, hw, q⟩ := ps_rng (M := 200) (v := -v - 1) (by decide) ⟨Int32.le_iff_toInt_le.mpr (by rw [e2, c5]; omega), Int32.le_iff_toInt_le.mpr (by rw [e2, c4]; omega)⟩
      exact Or.inr ⟨w, hw, q⟩
    · exact Or.inr ⟨0, by decide, rfl⟩
theorem rwF_o {r : Nat → Int32} {c : Nat} {b : Nat → Int32} {m k i : Nat} (h : 15 * (c + k) ≤ i) : rwF r c b m k i = r i := by
  unfold rwF
  rw [if_neg (by omega), if_neg (by omega)]
theorem rtv_c {b b' : Nat → Int32} {m k : Nat} (h : ∀ j, j < m → b j = b' j) : rtv b m k = rtv b' m k := by
  unfold rtv
  by_cases h4 : 4 * k + 4 ≤ m
  · rw [if_pos h4, if_pos h4]
    exact it4_c 4 (fun i hi => h _ (by omega))
  · rw [if_neg h4, if_neg h4]
theorem KR_rw {s c0 : Int32} {r u m K : Nat → Int32} {N T c z q : Nat} {b b' : Nat → Int32} (h : KW K N T) (hs : s = nI N) (hc : c0 = nI T) (hr : ∀ j, j < 15 * N → r j = K j) (hu : ∀ j, j < 3 → u j = K (1808 + j)) (hm : ∀ j, j < 8 → m j = K (1800 + j)) (hz : c + z ≤ N) (hb : ∀ j, j < q → b j = b' j) : KR s c0 (rwF r c b q z) u m (rwF K c b' q z) := by
  obtain ⟨h1, h2, h3, h4, h5, h6, h7, h8, h9⟩ := h
  refine ⟨N, T, ⟨h1, h2, ?_, ?_, fun c' hc' f' hf' => ?_, ?_, ?_, ?_, fun f' hf' => ?_⟩, hs, hc, fun j hj => ?_, fun j hj => ?_, fun j hj => ?_⟩
  · rw [rwF_o (by omega)]; exact h3
  · rw [rwF_o (by omega)]; exact h4
  · have e1 : (15 * c' + f') / 15 = c' := by omega
    have e2 : (15 * c' + f') % 15 = f' := by omega
    show RV f' (rwF K c b' q z (15 * c' + f'))
    unfold rwF
    rw [e1, e2]
    by_cases k1 : c ≤ c' ∧ c' < c + z ∧ f' = 10
    · rw [if_pos k1, k1.2.2]; exact rhw_RV _
    · rw [if_neg k1]
      by_cases k2 : c ≤ c' ∧ c' < c + z ∧ f' = 9
      · rw [if_pos k2, k2.2.2]; exact rtn_RV _
      · rw [if_neg k2]; exact h5 c' hc' f' hf'
  · rw [rwF_o (by omega)]; exact h6
  · rw [rwF_o (by omega)]; exact h7
  · rw [rwF_o (by omega)]; exact h8
  · rw [rwF_o (by omega)]; exact h9 f' hf'
  · unfold rwF
    rw [rtv_c hb, hr j hj]
  · rw [rwF_o (by omega)]; exact hu j hj
  · rw [rwF_o (by omega)]; exact hm j hj
theorem pu_same {T : Nat → Nat → Int32} {a k : Nat} {v : Int32} (h : T a k = v) : am_uI T a k v = T := by
  funext b
  unfold am_uI
  by_cases e : b = a
  · subst e
    rw [if_pos rfl]
    funext j
    unfold upd
    by_cases e2 : j = k
    · rw [if_pos e2, e2, h]
    · rw [if_neg e2]
  · rw [if_neg e]
theorem l_row0 {m c N : Nat} (hW : WS n t F) (hm : m ≤ 400) (hl : I 7 1 = nI m) (hN : N ≤ 120) (hs : I 1 4 = nI N) (hc : c ≤ N) : am_W X (d + 4) 35 42 [some (.ref 0), some (.int (nI c)), some (.int 0), some (.int (nI c)), some (.int 0)] [] (n, sl, t, I, J, F) Q ↔ Q (some (.int (nI (cnt (fun j => decide (rhw (rtv (I 8) m j) = nI 2)) (min (N - c) ((m + 3) / 4)))))) (n, sl, t, am_uI (am_uI (am_ro I 2 (rwF (I 2) c (I 8) m (min (N - c) ((m + 3) / 4)))) 7 1 0) 0 14 0, J, F) := by
  have h := l_row (X := X) (d := d) (Q := Q) (sl := sl) (J := J) hW hm hl hN hs hc rfl (min (N - c) ((m + 3) / 4)) 0 (by omega)
  rw [rwF_0, pu_roI] at h
  exact h
theorem l_rowR0 {m c N : Nat} (hW : WS n t F) (hm : m ≤ 400) (hN : N ≤ 120) (hs : I 49 1811 = nI N) (hc : c ≤ N) : am_W X (d + 2) 192 41 [some (.ref 47), some (.int (nI c)), some (.int (nI m)), some (.int 0), some (.int 0), none, none] [] (n, sl, t, I, J, F) Q ↔ Q (some (.int (nI (cnt (fun j => decide (rhw (rtv (I 53) m j) = nI 2)) (min (N - c) ((m + 3) / 4)))))) (n, sl, t, am_uI (am_ro I 49 (rwF (I 49) c (I 53) m (min (N - c) ((m + 3) / 4)))) 47 0 0, J, F) := by
  have h := l_rowR (X := X) (d := d) (Q := Q) (sl := sl) (J := J) hW hm hN hs hc rfl (min (N - c) ((m + 3) / 4)) 0 (by omega) none none
  rw [rwF_0, pu_roI] at h
  exact h
theorem pr_row {v : Int32} {i : Nat} (hX : XS X) (hi : i < 600) (hV : Inv i (n, sl, t, I, J, F)) : PR X i 35 192 [some (.ref 0), some (.int v), none, none, none] [some (.ref 47), some (.int v), none, none, none, none, none] (n, sl, t, I, J, F) := by
  unfold PR
  have hW : WS n t F := hV.1
  obtain ⟨hn, hn2, ht, hF⟩ := id hW
  have hKR : KR (I 1 4) (I 1 5) (I 2) (I 3) (I 4) (I 49) := hV.2.2.1
  obtain ⟨N, T, ⟨hN, hT, hKN, hKT, hRW, hTW⟩, hs, hc, hr, hu, hm⟩ := id hKR
  have hTP : TP (I 7 1) (I 8) (I 47 8) (I 53) := hV.2.2.2.2.2.1
  obtain ⟨m, hm4, e1, e2, e3⟩ := id hTP
  by_cases h2 : 0 ≤ v ∧ v ≤ nI N - 1
  · obtain ⟨c, hcN, rfl⟩ := ps_chE (by omega) h2
    have hch := ps_chT hcN (by omega)
    by_cases hm0 : m = 0
    · subst hm0
      have e1' : I 7 1 = 0 := e1
      have e2' : I 47 8 = 0 := e2
      have e3' : am_uI (RFc I 6) 47 8 0 = RFc I 6 := pu_same (by rw [RFc_n (by decide) (by decide)]; exact e2')
      simp only [↓r35_0, ↓r35_1, ↓r35_4, ↓r35_5, ↓r35_8, ↓r35_11, ↓r35_12, ↓r35_14, ↓r35_17, ↓r35_18, ↓r35_19, ↓r35_22, ↓r35_25, ↓r35_28, ↓r35_29, ↓r35_31, ↓r35_34, ↓r192_0, ↓r192_1, ↓r192_2, ↓r192_5, ↓r192_8, ↓r192_9, ↓r192_11, ↓r192_14, ↓r192_15, ↓r192_16, ↓r192_19, ↓r192_20, ↓r192_21, ↓r192_22, ↓r192_25, ↓r192_26, ↓r192_29, ↓r192_30, ↓r192_32, ↓r192_35, ↓c_within, ↓c_meansTried, ↓c_nearest, ↓c_accept, ↓c_rf1, ↓c_rf2, ↓c_rf3, ↓c_rf5, ↓c_rf6, ↓c_has, ↓c_atx, ↓c_putx, ↓c_put0, ↓c_put1, ↓s_at0, ↓s_at1, ↓c_isTriedx, ↓c_sidex, ↓c_thingx, ↓c_isFoundx, ↓s_lies, ↓s_rf1, ↓s_rf2, ↓s_rf3, ↓s_rf5, ↓s_rf6, ↓s_good, ↓s_many, ↓s_at, ↓s_isChild, ↓s_replacesx, ↓s_factOfx, ↓s_isTried, ↓s_took, ↓s_waited, ↓s_term0, ↓s_term1, ↓s_term2, ↓s_isLong, ↓s_isShort, ↓s_thingOfx, ↓s_isFoundx, ↓s_isText, ↓s_isGroup, hW, hch, hs, hKN, e1', e2', e3', if_true, Bool.false_eq_true, hn, hn2, ht, hF, am_wt, am_wf, Option.isSome_some, am_rf_s, am_rf_n, ps_lit, nI_add, nI_1, pk_mul, ps_cl, ps_neg, ps_c0, ps_c1, ps_n01, ps_n11, ps_10, ps_b01, ps_e0, pu_Ine, pu_Ieq, pu_ne, pu_eq, am_k_n, am_k_i, am_k_r, am_k_u, am_k_l, am_sz_0, am_sz_i, am_sz_r, am_sz_u, am_sz_l, Option.toList_some, Option.toList_none, List.cons_append, List.nil_append, true_and, and_true, or_false, false_or, or_self, or_true, true_or, not_false_eq_true, not_true_eq_false, Classical.not_not, ne_eq, ps_e1, ps_em, ps_z, Nat.not_le, false_implies, true_implies, forall_const, ps_01, ps_1n, ps_0n, ps_m10, ps_m1n, lg_cmp_gt, lg_cmp_ge, lg_cmp_le, lg_cmp_lt, lg_cmp_eq, pu_rne, pu_req, pu_uro, RFc_n, Nat.reduceAdd, Nat.reduceMul, Nat.reduceLT, Nat.reduceLeDiff, Nat.reduceEqDiff, Nat.reduceSub]
      exact ⟨_, rfl, rfl, Inv_rf hV hi 6⟩
    · have q1 : ¬ nI m = 0 := nI_ne0 (by omega) (by omega)
      simp only [↓r35_0, ↓r35_1, ↓r35_4, ↓r35_5, ↓r35_8, ↓r35_11, ↓r35_12, ↓r35_14, ↓r35_17, ↓r35_18, ↓r35_19, ↓r35_22, ↓r35_25, ↓r35_28, ↓r35_29, ↓r35_31, ↓r35_34, ↓r35_35, ↓r35_36, ↓r35_37, ↓r35_38, ↓r35_39, ↓r35_40, ↓c_within, ↓c_meansTried, ↓c_nearest, ↓c_accept, ↓c_rf1, ↓c_rf2, ↓c_rf3, ↓c_rf5, ↓c_rf6, ↓c_has, ↓c_atx, ↓c_putx, ↓c_put0, ↓c_put1, ↓s_at0, ↓s_at1, ↓c_isTriedx, ↓c_sidex, ↓c_thingx, ↓c_isFoundx, ↓s_lies, ↓s_rf1, ↓s_rf2, ↓s_rf3, ↓s_rf5, ↓s_rf6, ↓s_good, ↓s_many, ↓s_at, ↓s_isChild, ↓s_replacesx, ↓s_factOfx, ↓s_isTried, ↓s_took, ↓s_waited, ↓s_term0, ↓s_term1, ↓s_term2, ↓s_isLong, ↓s_isShort, ↓s_thingOfx, ↓s_isFoundx, ↓s_isText, ↓s_isGroup, hW, hch, hs, e1, q1, if_true, Bool.false_eq_true, hn, hn2, ht, hF, am_wt, am_wf, Option.isSome_some, am_rf_s, am_rf_n, ps_lit, nI_add, nI_1, pk_mul, ps_cl, ps_neg, ps_c0, ps_c1, ps_n01, ps_n11, ps_10, ps_b01, ps_e0, pu_Ine, pu_Ieq, pu_ne, pu_eq, am_k_n, am_k_i, am_k_r, am_k_u, am_k_l, am_sz_0, am_sz_i, am_sz_r, am_sz_u, am_sz_l, Option.toList_some, Option.toList_none, List.cons_append, List.nil_append, true_and, and_true, or_false, false_or, or_self, or_true, true_or, not_false_eq_true, not_true_eq_false, Classical.not_not, ne_eq, ps_e1, ps_em, ps_z, Nat.not_le, false_implies, true_implies, forall_const, ps_01, ps_1n, ps_0n, ps_m10, ps_m1n, lg_cmp_gt, lg_cmp_ge, lg_cmp_le, lg_cmp_lt, lg_cmp_eq, pu_rne, pu_req, pu_uro, RFc_n, Nat.reduceAdd, Nat.reduceMul, Nat.reduceLT, Nat.reduceLeDiff, Nat.reduceEqDiff, Nat.reduceSub]
      rw [l_row0 (m := m) (N := N) hW hm4 e1 hN hs (by omega)]
      refine ⟨_, rfl, ?_⟩
      simp only [↓r192_0, ↓r192_1, ↓r192_2, ↓r192_5, ↓r192_8, ↓r192_9, ↓r192_11, ↓r192_14, ↓r192_15, ↓r192_16, ↓r192_19, ↓r192_20, ↓r192_21, ↓r192_22, ↓r192_25, ↓r192_26, ↓r192_29, ↓r192_30, ↓r192_32, ↓r192_35, ↓r192_36, ↓r192_37, ↓r192_38, ↓r192_39, ↓c_within, ↓c_meansTried, ↓c_nearest, ↓c_accept, ↓c_rf1, ↓c_rf2, ↓c_rf3, ↓c_rf5, ↓c_rf6, ↓c_has, ↓c_atx, ↓c_putx, ↓c_put0, ↓c_put1, ↓s_at0, ↓s_at1, ↓c_isTriedx, ↓c_sidex, ↓c_thingx, ↓c_isFoundx, ↓s_lies, ↓s_rf1, ↓s_rf2, ↓s_rf3, ↓s_rf5, ↓s_rf6, ↓s_good, ↓s_many, ↓s_at, ↓s_isChild, ↓s_replacesx, ↓s_factOfx, ↓s_isTried, ↓s_took, ↓s_waited, ↓s_term0, ↓s_term1, ↓s_term2, ↓s_isLong, ↓s_isShort, ↓s_thingOfx, ↓s_isFoundx, ↓s_isText, ↓s_isGroup, hW, hch, hKN, e2, q1, if_true, Bool.false_eq_true, hn, hn2, ht, hF, am_wt, am_wf, Option.isSome_some, am_rf_s, am_rf_n, ps_lit, nI_add, nI_1, pk_mul, ps_cl, ps_neg, ps_c0, ps_c1, ps_n01, ps_n11, ps_10, ps_b01, ps_e0, pu_Ine, pu_Ieq, pu_ne, pu_eq, am_k_n, am_k_i, am_k_r, am_k_u, am_k_l, am_sz_0, am_sz_i, am_sz_r, am_sz_u, am_sz_l, Option.toList_some, Option.toList_none, List.cons_append, List.nil_append, true_and, and_true, or_false, false_or, or_self, or_true, true_or, not_false_eq_true, not_true_eq_false, Classical.not_not, ne_eq, ps_e1, ps_em, ps_z, Nat.not_le, false_implies, true_implies, forall_const, ps_01, ps_1n, ps_0n, ps_m10, ps_m1n, lg_cmp_gt, lg_cmp_ge, lg_cmp_le, lg_cmp_lt, lg_cmp_eq, pu_rne, pu_req, pu_uro, RFc_n, Nat.reduceAdd, Nat.reduceMul, Nat.reduceLT, Nat.reduceLeDiff, Nat.reduceEqDiff, Nat.reduceSub]
      rw [l_rowR0 (m := m) (N := N) hW hm4 hN (by exact hKN) (by omega)]
      refine ⟨?_, ?_⟩
      · rw [cnt_c (p := fun j => decide (rhw (rtv (I 8) m j) = nI 2)) (q := fun j => decide (rhw (rtv (I 53) m j) = nI 2)) _ (fun j _ => by rw [rtv_c (fun j hj => (e3 j hj).1)])]
        rfl
      · refine Inv_up hV hi (fun _ _ _ => rfl) ?_ (fun _ => ?_) (fun q => ⟨q.1, rfl⟩) id (fun _ => ⟨0, by omega, rfl, rfl, fun j hj => by omega⟩) rfl id (fun k hk => ?_) rfl rfl
        · exact FR_u (by decide) (FR_o (by decide) (FR_u (by decide) (FR_u (by decide) (FR_u (by decide) (FR_o (by decide) (FR_r I))))))
        · exact KR_rw ⟨hN, hT, hKN, hKT, hRW, hTW⟩ hs hc hr hu hm (by omega) (fun j hj => (e3 j hj).1)
        · exact rwF_o (by omega)
  · simp only [↓r35_0, ↓r35_1, ↓r35_4, ↓r35_5, ↓r35_8, ↓r35_11, ↓r35_12, ↓r35_14, ↓r35_17, ↓r192_0, ↓r192_1, ↓r192_2, ↓r192_5, ↓r192_8, ↓r192_9, ↓r192_11, ↓r192_14, ↓c_within, ↓c_meansTried, ↓c_nearest, ↓c_accept, ↓c_rf1, ↓c_rf2, ↓c_rf3, ↓c_rf5, ↓c_rf6, ↓c_has, ↓c_atx, ↓c_putx, ↓c_put0, ↓c_put1, ↓s_at0, ↓s_at1, ↓c_isTriedx, ↓c_sidex, ↓c_thingx, ↓c_isFoundx, ↓s_lies, ↓s_rf1, ↓s_rf2, ↓s_rf3, ↓s_rf5, ↓s_rf6, ↓s_good, ↓s_many, ↓s_at, ↓s_isChild, ↓s_replacesx, ↓s_factOfx, ↓s_isTried, ↓s_took, ↓s_waited, ↓s_term0, ↓s_term1, ↓s_term2, ↓s_isLong, ↓s_isShort, ↓s_thingOfx, ↓s_isFoundx, ↓s_isText, ↓s_isGroup, hW, h2, hs, hKN, if_false, Bool.false_eq_true, hn, hn2, ht, hF, am_wt, am_wf, Option.isSome_some, am_rf_s, am_rf_n, ps_lit, nI_add, nI_1, pk_mul, ps_cl, ps_neg, ps_c0, ps_c1, ps_n01, ps_n11, ps_10, ps_b01, ps_e0, pu_Ine, pu_Ieq, pu_ne, pu_eq, am_k_n, am_k_i, am_k_r, am_k_u, am_k_l, am_sz_0, am_sz_i, am_sz_r, am_sz_u, am_sz_l, Option.toList_some, Option.toList_none, List.cons_append, List.nil_append, true_and, and_true, or_false, false_or, or_self, or_true, true_or, not_false_eq_true, not_true_eq_false, Classical.not_not, ne_eq, ps_e1, ps_em, ps_z, Nat.not_le, false_implies, true_implies, forall_const, ps_01, ps_1n, ps_0n, ps_m10, ps_m1n, lg_cmp_gt, lg_cmp_ge, lg_cmp_le, lg_cmp_lt, lg_cmp_eq, pu_rne, pu_req, pu_uro, RFc_n, Nat.reduceAdd, Nat.reduceMul, Nat.reduceLT, Nat.reduceLeDiff, Nat.reduceEqDiff, Nat.reduceSub]
    exact ⟨_, rfl, rfl, Inv_rf hV hi 2⟩
end RO
