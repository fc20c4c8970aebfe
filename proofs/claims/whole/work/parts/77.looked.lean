/-! calls, one on each side: looked, best -/
section LK
variable {X : am_X} {d : Nat} {Q : Option Value → am_H → Prop} {n sl : Nat} {t : Nat → Nat × Nat} {I : Nat → Nat → Int32} {J : Nat → Nat → Int64} {F : Nat → Nat → Option Nat} {h : am_H}
variable {K : Nat → Int32} {N T : Nat} {lw : Nat → List CL} {th : Nat → Int32}
def wyN (K : Nat → Int32) (c : Nat) : Nat := (K (15 * c + 5)).toNatClampNeg
theorem wyN_e {c : Nat} (hK : KW K N T) (hc : c < N) : K (15 * c + 5) = nI (wyN K c) ∧ wyN K c < 24 := by
  obtain ⟨w, hw, e⟩ := RW_lt (hK.2.2.2.2.1 c hc) (f := 5) (by decide)
  have hw23 : w ≤ 23 := hw
  have e' : K (15 * c + 5) = nI w := e
  unfold wyN
  rw [e', nI_clamp (by omega)]
  exact ⟨rfl, by omega⟩
theorem grp_alln : ∀ N i, i < N → (grp allG N).getD i 0 = i := by
  intro N
  induction N with
  | zero => intro i hi; omega
  | succ N ih =>
    intro i hi
    rw [grp_all, List.getD_eq_getElem?_getD]
    by_cases h : i < N
    · rw [List.getElem?_append_left (by rw [grp_alen]; exact h), ← List.getD_eq_getElem?_getD]
      exact ih i h
    · have e : i = N := by omega
      rw [List.getElem?_append_right (by rw [grp_alen]; omega), grp_alen, e, Nat.sub_self]
      rfl
def lk1 (K : Nat → Int32) (th : Nat → Int32) (w a m : Nat) : Int32 := smI (fun b => if pS K b = true ∧ wyN K b = w then cmv (th a) (th b) else 0) m
def lk2 (K : Nat → Int32) (th : Nat → Int32) (w N m : Nat) : Int32 := smI (fun a => if pL K a = true ∧ wyN K a = w then lk1 K th w a N else 0) m
theorem u2_lk {w : Nat} : u2 (wyN K) th w (flt (pL K) (grp allG N) N) (flt (pS K) (grp allG N) N) (flt (pL K) (grp allG N) N).length = lk2 K th w N N := by
  unfold u2 lk2
  rw [smI_flt (pL K) (grp allG N) (fun a => u1 (wyN K) th w a (flt (pS K) (grp allG N) N) (flt (pS K) (grp allG N) N).length)]
  apply smI_c
  intro i hi
  rw [grp_alln N i hi]
  by_cases hp : pL K i = true
  · rw [if_pos hp]
    unfold u1
    rw [smI_flt (pS K) (grp allG N) (fun b => ctw (wyN K) th w i b)]
    by_cases hw : wyN K i = w
    · rw [if_pos ⟨hp, hw⟩]
      unfold lk1
      apply smI_c
      intro k hk
      rw [grp_alln N k hk]
      unfold ctw
      by_cases hs : pS K k = true
      · rw [if_pos hs]
        by_cases hk2 : wyN K k = w
        · rw [if_pos ⟨hw, hk2⟩, if_pos ⟨hs, hk2⟩]
        · rw [if_neg (fun q => hk2 q.2), if_neg (fun q => hk2 q.2)]
      · rw [if_neg hs, if_neg (fun q => hs q.1)]
    · rw [if_neg (fun q => hw q.2)]
      apply smI_0
      intro k hk
      split
      · unfold ctw
        rw [if_neg (fun q => hw q.1)]
      · rfl
  · rw [if_neg hp, if_neg (fun q => hp q.1)]
theorem m_lookedAt {w : Nat} (hCK : CK n t F (I 1 4) (I 2) (I 3) (I 49) K N) (hw : w < 24) (hth : ∀ c, c < N → I 66 c = th c) : am_W X (d + 3) 277 0 [some (.ref 47), some (.int (nI w)), none, none, none] [] (n, sl, t, I, J, F) Q ↔ Q (some (.int (lk2 K th w N N))) (n, sl, t, I, J, F) := by
  have hW : WS n t F := hCK.1
  obtain ⟨hn, hn2, ht, hF⟩ := id hW
  obtain ⟨_, ⟨T, hK⟩, _⟩ := id hCK
  have hN := hK.1
  have zw : w < 2000000 := by omega
  have hin : ∀ (R : Prop) (n0 : Int32) (a : Nat), a < N → (∀ l4 : Option Value, am_W X (d + 3) 277 135 [some (.ref 47), some (.int (nI w)), some (.int (n0 + lk1 K th w a N)), some (.int (nI a)), l4] [] (n, sl, t, I, J, F) Q ↔ R) → (am_W X (d + 3) 277 44 [some (.ref 47), some (.int (nI w)), some (.int (n0 + lk1 K th w a 0)), some (.int (nI a)), some (.int 0)] [] (n, sl, t, I, J, F) Q ↔ R) := by
    intro R n0 a ha hR
    refine lp0 (A := fun k => am_W X (d + 3) 277 44 [some (.ref 47), some (.int (nI w)), some (.int (n0 + lk1 K th w a k)), some (.int (nI a)), some (.int (nI k))] [] (n, sl, t, I, J, F) Q ↔ R) (N := N) ?_ ?_
    · intro k hk ih
      obtain ⟨y1, y2⟩ := wyN_e hK hk
      have z1 : k < 2000000 ∧ N < 2000000 ∧ k < 120 ∧ a < 2000000 ∧ a < 120 ∧ wyN K k < 2000000 := by omega
      have z2 : ¬ N ≤ k := by omega
      have x1 := hth a ha
      have x2 := hth k hk
      have es : lk1 K th w a (k + 1) = lk1 K th w a k + (if pS K k = true ∧ wyN K k = w then cmv (th a) (th k) else 0) := rfl
      rw [es] at ih
      rw [r277_44]
      by_cases q1 : fSh K k = true
      · by_cases q2 : fFo K k = true
        · have q3 : pS K k = true := pS_e.mpr ⟨q2, q1⟩
          by_cases q4 : wyN K k = w
          · rw [if_pos ⟨q3, q4⟩, ← Int32.add_assoc] at ih
            unfold cmv at ih
            simp only [↓r277_46, ↓r277_47, ↓r277_50, ↓r277_53, ↓r277_54, ↓r277_56, ↓r277_59, ↓r277_62, ↓r277_63, ↓r277_65, ↓r277_68, ↓r277_71, ↓r277_72, ↓r277_74, ↓r277_75, ↓r277_78, ↓r277_79, ↓k_at (K := K) (N := N), ↓k_isTried (K := K) (N := N), ↓k_side (K := K) (N := N), ↓k_thing (K := K) (N := N), ↓k_isFound (K := K) (N := N), ↓m_factOf (K := K) (N := N), ↓m_isTried (K := K) (N := N), ↓m_took (K := K) (N := N), ↓m_waited (K := K) (N := N), ↓m_isLong (K := K) (N := N), ↓m_isShort (K := K) (N := N), ↓m_thingOf (K := K) (N := N), ↓m_isFound (K := K) (N := N), ↓m_many (K := K) (N := N), ↓c_within, ↓s_lies, hCK, b01, b11, q_le, q_lt, q_eq, q_e0, q_e1, q_0e, q_1e, ps_n0, q_0le, q_le0, q_0lt, q_m1e, q_em1, hk, y1, z1, z2, zw, q1, q2, (show (wyN K k = w) = True from eq_true q4), if_true, Bool.false_eq_true, hn, hn2, ht, hF, am_wt, am_wf, Option.isSome_some, am_rf_s, am_rf_n, ps_lit, nI_add, nI_1, pk_mul, ps_cl, ps_neg, ps_c0, ps_c1, ps_n01, ps_n11, ps_10, ps_b01, ps_e0, pu_Ine, pu_Ieq, pu_ne, pu_eq, am_k_n, am_k_i, am_k_r, am_k_u, am_k_l, am_sz_0, am_sz_i, am_sz_r, am_sz_u, am_sz_l, Option.toList_some, Option.toList_none, List.cons_append, List.nil_append, true_and, and_true, or_false, false_or, or_self, or_true, true_or, not_false_eq_true, not_true_eq_false, Classical.not_not, ne_eq, ps_e1, ps_em, ps_z, Nat.not_le, false_implies, true_implies, forall_const, ps_01, ps_1n, ps_0n, ps_m10, ps_m1n, lg_cmp_gt, lg_cmp_ge, lg_cmp_le, lg_cmp_lt, lg_cmp_eq, pu_rne, pu_req, pu_uro, RFc_n, Nat.reduceAdd, Nat.reduceMul, Nat.reduceLT, Nat.reduceLeDiff, Nat.reduceEqDiff, Nat.reduceSub]
            by_cases c1 : th a < th k
            · have c2 : ¬ th k < th a := fun q => Int32.lt_irrefl (Int32.lt_trans c1 q)
              rw [if_pos c1] at ih
              simp only [↓r277_85, ↓r277_86, ↓r277_87, ↓r277_90, ↓r277_91, ↓r277_91k, ↓r277_92, ↓r277_93, ↓r277_96, ↓r277_98, ↓r277_98k, ↓r277_99, ↓r277_102, ↓r277_103, ↓r277_106, ↓r277_107, ↓r277_110, ↓r277_111, ↓r277_111k, ↓r277_112, ↓r277_113, ↓r277_116, ↓r277_118, ↓r277_118k, ↓r277_119, ↓r277_122, ↓r277_123, ↓r277_126, ↓r277_127, ↓r277_128, ↓r277_129, ↓r277_132, z1, x1, x2, Int32.not_lt.mp c2, Int32.not_le.mpr c1, Bool.false_eq_true, hn, hn2, ht, hF, am_wt, am_wf, Option.isSome_some, am_rf_s, am_rf_n, ps_lit, nI_add, nI_1, pk_mul, ps_cl, ps_neg, ps_c0, ps_c1, ps_n01, ps_n11, ps_10, ps_b01, ps_e0, pu_Ine, pu_Ieq, pu_ne, pu_eq, am_k_n, am_k_i, am_k_r, am_k_u, am_k_l, am_sz_0, am_sz_i, am_sz_r, am_sz_u, am_sz_l, Option.toList_some, Option.toList_none, List.cons_append, List.nil_append, true_and, and_true, or_false, false_or, or_self, or_true, true_or, not_false_eq_true, not_true_eq_false, Classical.not_not, ne_eq, ps_e1, ps_em, ps_z, Nat.not_le, false_implies, true_implies, forall_const, ps_01, ps_1n, ps_0n, ps_m10, ps_m1n, lg_cmp_gt, lg_cmp_ge, lg_cmp_le, lg_cmp_lt, lg_cmp_eq, pu_rne, pu_req, pu_uro, RFc_n, Nat.reduceAdd, Nat.reduceMul, Nat.reduceLT, Nat.reduceLeDiff, Nat.reduceEqDiff, Nat.reduceSub]
              exact ih
            · rw [if_neg c1] at ih
              by_cases c3 : th a = th k
              · rw [if_pos c3] at ih
                simp only [↓r277_85, ↓r277_86, ↓r277_87, ↓r277_90, ↓r277_91, ↓r277_91k, ↓r277_92, ↓r277_93, ↓r277_96, ↓r277_98, ↓r277_98k, ↓r277_99, ↓r277_102, ↓r277_103, ↓r277_106, ↓r277_107, ↓r277_110, ↓r277_111, ↓r277_111k, ↓r277_112, ↓r277_113, ↓r277_116, ↓r277_118, ↓r277_118k, ↓r277_119, ↓r277_122, ↓r277_123, ↓r277_126, ↓r277_127, ↓r277_128, ↓r277_129, ↓r277_132, z1, x1, x2, c3, Int32.le_refl, Int32.add_zero, Bool.false_eq_true, hn, hn2, ht, hF, am_wt, am_wf, Option.isSome_some, am_rf_s, am_rf_n, ps_lit, nI_add, nI_1, pk_mul, ps_cl, ps_neg, ps_c0, ps_c1, ps_n01, ps_n11, ps_10, ps_b01, ps_e0, pu_Ine, pu_Ieq, pu_ne, pu_eq, am_k_n, am_k_i, am_k_r, am_k_u, am_k_l, am_sz_0, am_sz_i, am_sz_r, am_sz_u, am_sz_l, Option.toList_some, Option.toList_none, List.cons_append, List.nil_append, true_and, and_true, or_false, false_or, or_self, or_true, true_or, not_false_eq_true, not_true_eq_false, Classical.not_not, ne_eq, ps_e1, ps_em, ps_z, Nat.not_le, false_implies, true_implies, forall_const, ps_01, ps_1n, ps_0n, ps_m10, ps_m1n, lg_cmp_gt, lg_cmp_ge, lg_cmp_le, lg_cmp_lt, lg_cmp_eq, pu_rne, pu_req, pu_uro, RFc_n, Nat.reduceAdd, Nat.reduceMul, Nat.reduceLT, Nat.reduceLeDiff, Nat.reduceEqDiff, Nat.reduceSub]
                rw [Int32.add_zero] at ih
                exact ih
              · have c2 : th k < th a := by
                  rcases Int32.lt_or_le (th k) (th a) with q | q
                  · exact q
                  · exact absurd (Int32.le_antisymm q (Int32.not_lt.mp c1)) c3
                rw [if_neg c3] at ih
                simp only [↓r277_85, ↓r277_86, ↓r277_87, ↓r277_90, ↓r277_91, ↓r277_91k, ↓r277_92, ↓r277_93, ↓r277_96, ↓r277_98, ↓r277_98k, ↓r277_99, ↓r277_102, ↓r277_103, ↓r277_106, ↓r277_107, ↓r277_110, ↓r277_111, ↓r277_111k, ↓r277_112, ↓r277_113, ↓r277_116, ↓r277_118, ↓r277_118k, ↓r277_119, ↓r277_122, ↓r277_123, ↓r277_126, ↓r277_127, ↓r277_128, ↓r277_129, ↓r277_132, z1, x1, x2, Int32.not_le.mpr c2, Bool.false_eq_true, hn, hn2, ht, hF, am_wt, am_wf, Option.isSome_some, am_rf_s, am_rf_n, ps_lit, nI_add, nI_1, pk_mul, ps_cl, ps_neg, ps_c0, ps_c1, ps_n01, ps_n11, ps_10, ps_b01, ps_e0, pu_Ine, pu_Ieq, pu_ne, pu_eq, am_k_n, am_k_i, am_k_r, am_k_u, am_k_l, am_sz_0, am_sz_i, am_sz_r, am_sz_u, am_sz_l, Option.toList_some, Option.toList_none, List.cons_append, List.nil_append, true_and, and_true, or_false, false_or, or_self, or_true, true_or, not_false_eq_true, not_true_eq_false, Classical.not_not, ne_eq, ps_e1, ps_em, ps_z, Nat.not_le, false_implies, true_implies, forall_const, ps_01, ps_1n, ps_0n, ps_m10, ps_m1n, lg_cmp_gt, lg_cmp_ge, lg_cmp_le, lg_cmp_lt, lg_cmp_eq, pu_rne, pu_req, pu_uro, RFc_n, Nat.reduceAdd, Nat.reduceMul, Nat.reduceLT, Nat.reduceLeDiff, Nat.reduceEqDiff, Nat.reduceSub]
                exact ih
          · rw [if_neg (fun q => q4 q.2), Int32.add_zero] at ih
            simp only [↓r277_46, ↓r277_47, ↓r277_50, ↓r277_53, ↓r277_54, ↓r277_56, ↓r277_59, ↓r277_62, ↓r277_63, ↓r277_65, ↓r277_68, ↓r277_71, ↓r277_72, ↓r277_74, ↓r277_75, ↓r277_78, ↓r277_79, ↓r277_82, ↓r277_129, ↓r277_132, ↓k_at (K := K) (N := N), ↓k_isTried (K := K) (N := N), ↓k_side (K := K) (N := N), ↓k_thing (K := K) (N := N), ↓k_isFound (K := K) (N := N), ↓m_factOf (K := K) (N := N), ↓m_isTried (K := K) (N := N), ↓m_took (K := K) (N := N), ↓m_waited (K := K) (N := N), ↓m_isLong (K := K) (N := N), ↓m_isShort (K := K) (N := N), ↓m_thingOf (K := K) (N := N), ↓m_isFound (K := K) (N := N), ↓m_many (K := K) (N := N), ↓c_within, ↓s_lies, hCK, b01, b11, q_le, q_lt, q_eq, q_e0, q_e1, q_0e, q_1e, ps_n0, q_0le, q_le0, q_0lt, q_m1e, q_em1, hk, y1, z1, z2, zw, q1, q2, q4, if_true, Bool.false_eq_true, hn, hn2, ht, hF, am_wt, am_wf, Option.isSome_some, am_rf_s, am_rf_n, ps_lit, nI_add, nI_1, pk_mul, ps_cl, ps_neg, ps_c0, ps_c1, ps_n01, ps_n11, ps_10, ps_b01, ps_e0, pu_Ine, pu_Ieq, pu_ne, pu_eq, am_k_n, am_k_i, am_k_r, am_k_u, am_k_l, am_sz_0, am_sz_i, am_sz_r, am_sz_u, am_sz_l, Option.toList_some, Option.toList_none, List.cons_append, List.nil_append, true_and, and_true, or_false, false_or, or_self, or_true, true_or, not_false_eq_true, not_true_eq_false, Classical.not_not, ne_eq, ps_e1, ps_em, ps_z, Nat.not_le, false_implies, true_implies, forall_const, ps_01, ps_1n, ps_0n, ps_m10, ps_m1n, lg_cmp_gt, lg_cmp_ge, lg_cmp_le, lg_cmp_lt, lg_cmp_eq, pu_rne, pu_req, pu_uro, RFc_n, Nat.reduceAdd, Nat.reduceMul, Nat.reduceLT, Nat.reduceLeDiff, Nat.reduceEqDiff, Nat.reduceSub]
            exact ih
        · rw [if_neg (fun q => q2 (pS_e.mp q.1).1), Int32.add_zero] at ih
          simp only [↓r277_46, ↓r277_47, ↓r277_50, ↓r277_53, ↓r277_54, ↓r277_56, ↓r277_59, ↓r277_62, ↓r277_63, ↓r277_65, ↓r277_68, ↓r277_71, ↓r277_72, ↓r277_74, ↓r277_75, ↓r277_78, ↓r277_79, ↓r277_82, ↓r277_129, ↓r277_132, ↓k_at (K := K) (N := N), ↓k_isTried (K := K) (N := N), ↓k_side (K := K) (N := N), ↓k_thing (K := K) (N := N), ↓k_isFound (K := K) (N := N), ↓m_factOf (K := K) (N := N), ↓m_isTried (K := K) (N := N), ↓m_took (K := K) (N := N), ↓m_waited (K := K) (N := N), ↓m_isLong (K := K) (N := N), ↓m_isShort (K := K) (N := N), ↓m_thingOf (K := K) (N := N), ↓m_isFound (K := K) (N := N), ↓m_many (K := K) (N := N), ↓c_within, ↓s_lies, hCK, b01, b11, q_le, q_lt, q_eq, q_e0, q_e1, q_0e, q_1e, ps_n0, q_0le, q_le0, q_0lt, q_m1e, q_em1, hk, z1, z2, q1, q2, if_true, if_false, Bool.false_eq_true, hn, hn2, ht, hF, am_wt, am_wf, Option.isSome_some, am_rf_s, am_rf_n, ps_lit, nI_add, nI_1, pk_mul, ps_cl, ps_neg, ps_c0, ps_c1, ps_n01, ps_n11, ps_10, ps_b01, ps_e0, pu_Ine, pu_Ieq, pu_ne, pu_eq, am_k_n, am_k_i, am_k_r, am_k_u, am_k_l, am_sz_0, am_sz_i, am_sz_r, am_sz_u, am_sz_l, Option.toList_some, Option.toList_none, List.cons_append, List.nil_append, true_and, and_true, or_false, false_or, or_self, or_true, true_or, not_false_eq_true, not_true_eq_false, Classical.not_not, ne_eq, ps_e1, ps_em, ps_z, Nat.not_le, false_implies, true_implies, forall_const, ps_01, ps_1n, ps_0n, ps_m10, ps_m1n, lg_cmp_gt, lg_cmp_ge, lg_cmp_le, lg_cmp_lt, lg_cmp_eq, pu_rne, pu_req, pu_uro, RFc_n, Nat.reduceAdd, Nat.reduceMul, Nat.reduceLT, Nat.reduceLeDiff, Nat.reduceEqDiff, Nat.reduceSub]
          exact ih
      · rw [if_neg (fun q => q1 (pS_e.mp q.1).2), Int32.add_zero] at ih
        simp only [↓r277_46, ↓r277_47, ↓r277_50, ↓r277_53, ↓r277_54, ↓r277_56, ↓r277_59, ↓r277_62, ↓r277_63, ↓r277_65, ↓r277_68, ↓r277_71, ↓r277_72, ↓r277_74, ↓r277_75, ↓r277_78, ↓r277_79, ↓r277_82, ↓r277_129, ↓r277_132, ↓k_at (K := K) (N := N), ↓k_isTried (K := K) (N := N), ↓k_side (K := K) (N := N), ↓k_thing (K := K) (N := N), ↓k_isFound (K := K) (N := N), ↓m_factOf (K := K) (N := N), ↓m_isTried (K := K) (N := N), ↓m_took (K := K) (N := N), ↓m_waited (K := K) (N := N), ↓m_isLong (K := K) (N := N), ↓m_isShort (K := K) (N := N), ↓m_thingOf (K := K) (N := N), ↓m_isFound (K := K) (N := N), ↓m_many (K := K) (N := N), ↓c_within, ↓s_lies, hCK, b01, b11, q_le, q_lt, q_eq, q_e0, q_e1, q_0e, q_1e, ps_n0, q_0le, q_le0, q_0lt, q_m1e, q_em1, hk, z1, z2, q1, if_false, Bool.false_eq_true, hn, hn2, ht, hF, am_wt, am_wf, Option.isSome_some, am_rf_s, am_rf_n, ps_lit, nI_add, nI_1, pk_mul, ps_cl, ps_neg, ps_c0, ps_c1, ps_n01, ps_n11, ps_10, ps_b01, ps_e0, pu_Ine, pu_Ieq, pu_ne, pu_eq, am_k_n, am_k_i, am_k_r, am_k_u, am_k_l, am_sz_0, am_sz_i, am_sz_r, am_sz_u, am_sz_l, Option.toList_some, Option.toList_none, List.cons_append, List.nil_append, true_and, and_true, or_false, false_or, or_self, or_true, true_or, not_false_eq_true, not_true_eq_false, Classical.not_not, ne_eq, ps_e1, ps_em, ps_z, Nat.not_le, false_implies, true_implies, forall_const, ps_01, ps_1n, ps_0n, ps_m10, ps_m1n, lg_cmp_gt, lg_cmp_ge, lg_cmp_le, lg_cmp_lt, lg_cmp_eq, pu_rne, pu_req, pu_uro, RFc_n, Nat.reduceAdd, Nat.reduceMul, Nat.reduceLT, Nat.reduceLeDiff, Nat.reduceEqDiff, Nat.reduceSub]
        exact ih
    · rw [r277_44]
      simp only [↓r277_46, ↓r277_47, ↓r277_50, ↓k_at (K := K) (N := N), ↓k_isTried (K := K) (N := N), ↓k_side (K := K) (N := N), ↓k_thing (K := K) (N := N), ↓k_isFound (K := K) (N := N), ↓m_factOf (K := K) (N := N), ↓m_isTried (K := K) (N := N), ↓m_took (K := K) (N := N), ↓m_waited (K := K) (N := N), ↓m_isLong (K := K) (N := N), ↓m_isShort (K := K) (N := N), ↓m_thingOf (K := K) (N := N), ↓m_isFound (K := K) (N := N), ↓m_many (K := K) (N := N), ↓c_within, ↓s_lies, hCK, b01, b11, Int32.le_refl, Bool.false_eq_true, hn, hn2, ht, hF, am_wt, am_wf, Option.isSome_some, am_rf_s, am_rf_n, ps_lit, nI_add, nI_1, pk_mul, ps_cl, ps_neg, ps_c0, ps_c1, ps_n01, ps_n11, ps_10, ps_b01, ps_e0, pu_Ine, pu_Ieq, pu_ne, pu_eq, am_k_n, am_k_i, am_k_r, am_k_u, am_k_l, am_sz_0, am_sz_i, am_sz_r, am_sz_u, am_sz_l, Option.toList_some, Option.toList_none, List.cons_append, List.nil_append, true_and, and_true, or_false, false_or, or_self, or_true, true_or, not_false_eq_true, not_true_eq_false, Classical.not_not, ne_eq, ps_e1, ps_em, ps_z, Nat.not_le, false_implies, true_implies, forall_const, ps_01, ps_1n, ps_0n, ps_m10, ps_m1n, lg_cmp_gt, lg_cmp_ge, lg_cmp_le, lg_cmp_lt, lg_cmp_eq, pu_rne, pu_req, pu_uro, RFc_n, Nat.reduceAdd, Nat.reduceMul, Nat.reduceLT, Nat.reduceLeDiff, Nat.reduceEqDiff, Nat.reduceSub]
      exact hR _
  have hout : ∀ l4 : Option Value, am_W X (d + 3) 277 4 [some (.ref 47), some (.int (nI w)), some (.int 0), some (.int 0), l4] [] (n, sl, t, I, J, F) Q ↔ Q (some (.int (lk2 K th w N N))) (n, sl, t, I, J, F) := by
    refine lp0 (A := fun a => ∀ l4 : Option Value, am_W X (d + 3) 277 4 [some (.ref 47), some (.int (nI w)), some (.int (lk2 K th w N a)), some (.int (nI a)), l4] [] (n, sl, t, I, J, F) Q ↔ Q (some (.int (lk2 K th w N N))) (n, sl, t, I, J, F)) (N := N) ?_ ?_
    · intro a ha ih l4
      obtain ⟨y1, y2⟩ := wyN_e hK ha
      have z1 : a < 2000000 ∧ N < 2000000 ∧ wyN K a < 2000000 := by omega
      have z2 : ¬ N ≤ a := by omega
      have es : lk2 K th w N (a + 1) = lk2 K th w N a + (if pL K a = true ∧ wyN K a = w then lk1 K th w a N else 0) := rfl
      rw [es] at ih
      rw [r277_4]
      by_cases q1 : fLo K a = true
      · by_cases q2 : fFo K a = true
        · have q3 : pL K a = true := pL_e.mpr ⟨q2, q1⟩
          by_cases q4 : wyN K a = w
          · rw [if_pos ⟨q3, q4⟩] at ih
            simp only [↓r277_5, ↓r277_6, ↓r277_9, ↓r277_12, ↓r277_13, ↓r277_14, ↓r277_17, ↓r277_20, ↓r277_21, ↓r277_22, ↓r277_25, ↓r277_28, ↓r277_29, ↓r277_30, ↓r277_31, ↓r277_34, ↓r277_35, ↓r277_38, ↓r277_41, ↓r277_42, ↓k_at (K := K) (N := N), ↓k_isTried (K := K) (N := N), ↓k_side (K := K) (N := N), ↓k_thing (K := K) (N := N), ↓k_isFound (K := K) (N := N), ↓m_factOf (K := K) (N := N), ↓m_isTried (K := K) (N := N), ↓m_took (K := K) (N := N), ↓m_waited (K := K) (N := N), ↓m_isLong (K := K) (N := N), ↓m_isShort (K := K) (N := N), ↓m_thingOf (K := K) (N := N), ↓m_isFound (K := K) (N := N), ↓m_many (K := K) (N := N), ↓c_within, ↓s_lies, hCK, b01, b11, q_le, q_lt, q_eq, q_e0, q_e1, q_0e, q_1e, ps_n0, q_0le, q_le0, q_0lt, q_m1e, q_em1, ha, y1, z1, z2, zw, q1, q2, (show (wyN K a = w) = True from eq_true q4), if_true, Bool.false_eq_true, hn, hn2, ht, hF, am_wt, am_wf, Option.isSome_some, am_rf_s, am_rf_n, ps_lit, nI_add, nI_1, pk_mul, ps_cl, ps_neg, ps_c0, ps_c1, ps_n01, ps_n11, ps_10, ps_b01, ps_e0, pu_Ine, pu_Ieq, pu_ne, pu_eq, am_k_n, am_k_i, am_k_r, am_k_u, am_k_l, am_sz_0, am_sz_i, am_sz_r, am_sz_u, am_sz_l, Option.toList_some, Option.toList_none, List.cons_append, List.nil_append, true_and, and_true, or_false, false_or, or_self, or_true, true_or, not_false_eq_true, not_true_eq_false, Classical.not_not, ne_eq, ps_e1, ps_em, ps_z, Nat.not_le, false_implies, true_implies, forall_const, ps_01, ps_1n, ps_0n, ps_m10, ps_m1n, lg_cmp_gt, lg_cmp_ge, lg_cmp_le, lg_cmp_lt, lg_cmp_eq, pu_rne, pu_req, pu_uro, RFc_n, Nat.reduceAdd, Nat.reduceMul, Nat.reduceLT, Nat.reduceLeDiff, Nat.reduceEqDiff, Nat.reduceSub]
            have := hin _ (lk2 K th w N a) a ha (fun l4 => by
              simp only [↓r277_135, ↓r277_138, Bool.false_eq_true, hn, hn2, ht, hF, am_wt, am_wf, Option.isSome_some, am_rf_s, am_rf_n, ps_lit, nI_add, nI_1, pk_mul, ps_cl, ps_neg, ps_c0, ps_c1, ps_n01, ps_n11, ps_10, ps_b01, ps_e0, pu_Ine, pu_Ieq, pu_ne, pu_eq, am_k_n, am_k_i, am_k_r, am_k_u, am_k_l, am_sz_0, am_sz_i, am_sz_r, am_sz_u, am_sz_l, Option.toList_some, Option.toList_none, List.cons_append, List.nil_append, true_and, and_true, or_false, false_or, or_self, or_true, true_or, not_false_eq_true, not_true_eq_false, Classical.not_not, ne_eq, ps_e1, ps_em, ps_z, Nat.not_le, false_implies, true_implies, forall_const, ps_01, ps_1n, ps_0n, ps_m10, ps_m1n, lg_cmp_gt, lg_cmp_ge, lg_cmp_le, lg_cmp_lt, lg_cmp_eq, pu_rne, pu_req, pu_uro, RFc_n, Nat.reduceAdd, Nat.reduceMul, Nat.reduceLT, Nat.reduceLeDiff, Nat.reduceEqDiff, Nat.reduceSub]
              exact ih _)
            rw [show lk1 K th w a 0 = 0 from rfl, Int32.add_zero] at this
            exact this
          · rw [if_neg (fun q => q4 q.2), Int32.add_zero] at ih
            simp only [↓r277_5, ↓r277_6, ↓r277_9, ↓r277_12, ↓r277_13, ↓r277_14, ↓r277_17, ↓r277_20, ↓r277_21, ↓r277_22, ↓r277_25, ↓r277_28, ↓r277_29, ↓r277_30, ↓r277_31, ↓r277_34, ↓r277_35, ↓r277_38, ↓r277_41, ↓r277_42, ↓r277_135, ↓r277_138, ↓k_at (K := K) (N := N), ↓k_isTried (K := K) (N := N), ↓k_side (K := K) (N := N), ↓k_thing (K := K) (N := N), ↓k_isFound (K := K) (N := N), ↓m_factOf (K := K) (N := N), ↓m_isTried (K := K) (N := N), ↓m_took (K := K) (N := N), ↓m_waited (K := K) (N := N), ↓m_isLong (K := K) (N := N), ↓m_isShort (K := K) (N := N), ↓m_thingOf (K := K) (N := N), ↓m_isFound (K := K) (N := N), ↓m_many (K := K) (N := N), ↓c_within, ↓s_lies, hCK, b01, b11, q_le, q_lt, q_eq, q_e0, q_e1, q_0e, q_1e, ps_n0, q_0le, q_le0, q_0lt, q_m1e, q_em1, ha, y1, z1, z2, zw, q1, q2, q4, if_true, Bool.false_eq_true, hn, hn2, ht, hF, am_wt, am_wf, Option.isSome_some, am_rf_s, am_rf_n, ps_lit, nI_add, nI_1, pk_mul, ps_cl, ps_neg, ps_c0, ps_c1, ps_n01, ps_n11, ps_10, ps_b01, ps_e0, pu_Ine, pu_Ieq, pu_ne, pu_eq, am_k_n, am_k_i, am_k_r, am_k_u, am_k_l, am_sz_0, am_sz_i, am_sz_r, am_sz_u, am_sz_l, Option.toList_some, Option.toList_none, List.cons_append, List.nil_append, true_and, and_true, or_false, false_or, or_self, or_true, true_or, not_false_eq_true, not_true_eq_false, Classical.not_not, ne_eq, ps_e1, ps_em, ps_z, Nat.not_le, false_implies, true_implies, forall_const, ps_01, ps_1n, ps_0n, ps_m10, ps_m1n, lg_cmp_gt, lg_cmp_ge, lg_cmp_le, lg_cmp_lt, lg_cmp_eq, pu_rne, pu_req, pu_uro, RFc_n, Nat.reduceAdd, Nat.reduceMul, Nat.reduceLT, Nat.reduceLeDiff, Nat.reduceEqDiff, Nat.reduceSub]
            exact ih _
        · rw [if_neg (fun q => q2 (pL_e.mp q.1).1), Int32.add_zero] at ih
          simp only [↓r277_5, ↓r277_6, ↓r277_9, ↓r277_12, ↓r277_13, ↓r277_14, ↓r277_17, ↓r277_20, ↓r277_21, ↓r277_22, ↓r277_25, ↓r277_28, ↓r277_29, ↓r277_30, ↓r277_31, ↓r277_34, ↓r277_35, ↓r277_38, ↓r277_41, ↓r277_42, ↓r277_135, ↓r277_138, ↓k_at (K := K) (N := N), ↓k_isTried (K := K) (N := N), ↓k_side (K := K) (N := N), ↓k_thing (K := K) (N := N), ↓k_isFound (K := K) (N := N), ↓m_factOf (K := K) (N := N), ↓m_isTried (K := K) (N := N), ↓m_took (K := K) (N := N), ↓m_waited (K := K) (N := N), ↓m_isLong (K := K) (N := N), ↓m_isShort (K := K) (N := N), ↓m_thingOf (K := K) (N := N), ↓m_isFound (K := K) (N := N), ↓m_many (K := K) (N := N), ↓c_within, ↓s_lies, hCK, b01, b11, q_le, q_lt, q_eq, q_e0, q_e1, q_0e, q_1e, ps_n0, q_0le, q_le0, q_0lt, q_m1e, q_em1, ha, z1, z2, q1, q2, if_true, if_false, Bool.false_eq_true, hn, hn2, ht, hF, am_wt, am_wf, Option.isSome_some, am_rf_s, am_rf_n, ps_lit, nI_add, nI_1, pk_mul, ps_cl, ps_neg, ps_c0, ps_c1, ps_n01, ps_n11, ps_10, ps_b01, ps_e0, pu_Ine, pu_Ieq, pu_ne, pu_eq, am_k_n, am_k_i, am_k_r, am_k_u, am_k_l, am_sz_0, am_sz_i, am_sz_r, am_sz_u, am_sz_l, Option.toList_some, Option.toList_none, List.cons_append, List.nil_append, true_and, and_true, or_false, false_or, or_self, or_true, true_or, not_false_eq_true, not_true_eq_false, Classical.not_not, ne_eq, ps_e1, ps_em, ps_z, Nat.not_le, false_implies, true_implies, forall_const, ps_01, ps_1n, ps_0n, ps_m10, ps_m1n, lg_cmp_gt, lg_cmp_ge, lg_cmp_le, lg_cmp_lt, lg_cmp_eq, pu_rne, pu_req, pu_uro, RFc_n, Nat.reduceAdd, Nat.reduceMul, Nat.reduceLT, Nat.reduceLeDiff, Nat.reduceEqDiff, Nat.reduceSub]
          exact ih _
      · rw [if_neg (fun q => q1 (pL_e.mp q.1).2), Int32.add_zero] at ih
        simp only [↓r277_5, ↓r277_6, ↓r277_9, ↓r277_12, ↓r277_13, ↓r277_14, ↓r277_17, ↓r277_20, ↓r277_21, ↓r277_22, ↓r277_25, ↓r277_28, ↓r277_29, ↓r277_30, ↓r277_31, ↓r277_34, ↓r277_35, ↓r277_38, ↓r277_41, ↓r277_42, ↓r277_135, ↓r277_138, ↓k_at (K := K) (N := N), ↓k_isTried (K := K) (N := N), ↓k_side (K := K) (N := N), ↓k_thing (K := K) (N := N), ↓k_isFound (K := K) (N := N), ↓m_factOf (K := K) (N := N), ↓m_isTried (K := K) (N := N), ↓m_took (K := K) (N := N), ↓m_waited (K := K) (N := N), ↓m_isLong (K := K) (N := N), ↓m_isShort (K := K) (N := N), ↓m_thingOf (K := K) (N := N), ↓m_isFound (K := K) (N := N), ↓m_many (K := K) (N := N), ↓c_within, ↓s_lies, hCK, b01, b11, q_le, q_lt, q_eq, q_e0, q_e1, q_0e, q_1e, ps_n0, q_0le, q_le0, q_0lt, q_m1e, q_em1, ha, z1, z2, q1, if_false, Bool.false_eq_true, hn, hn2, ht, hF, am_wt, am_wf, Option.isSome_some, am_rf_s, am_rf_n, ps_lit, nI_add, nI_1, pk_mul, ps_cl, ps_neg, ps_c0, ps_c1, ps_n01, ps_n11, ps_10, ps_b01, ps_e0, pu_Ine, pu_Ieq, pu_ne, pu_eq, am_k_n, am_k_i, am_k_r, am_k_u, am_k_l, am_sz_0, am_sz_i, am_sz_r, am_sz_u, am_sz_l, Option.toList_some, Option.toList_none, List.cons_append, List.nil_append, true_and, and_true, or_false, false_or, or_self, or_true, true_or, not_false_eq_true, not_true_eq_false, Classical.not_not, ne_eq, ps_e1, ps_em, ps_z, Nat.not_le, false_implies, true_implies, forall_const, ps_01, ps_1n, ps_0n, ps_m10, ps_m1n, lg_cmp_gt, lg_cmp_ge, lg_cmp_le, lg_cmp_lt, lg_cmp_eq, pu_rne, pu_req, pu_uro, RFc_n, Nat.reduceAdd, Nat.reduceMul, Nat.reduceLT, Nat.reduceLeDiff, Nat.reduceEqDiff, Nat.reduceSub]
        exact ih _
    · intro l4
      rw [r277_4]
      simp only [↓r277_5, ↓r277_6, ↓r277_9, ↓r277_141, ↓r277_142, ↓k_at (K := K) (N := N), ↓k_isTried (K := K) (N := N), ↓k_side (K := K) (N := N), ↓k_thing (K := K) (N := N), ↓k_isFound (K := K) (N := N), ↓m_factOf (K := K) (N := N), ↓m_isTried (K := K) (N := N), ↓m_took (K := K) (N := N), ↓m_waited (K := K) (N := N), ↓m_isLong (K := K) (N := N), ↓m_isShort (K := K) (N := N), ↓m_thingOf (K := K) (N := N), ↓m_isFound (K := K) (N := N), ↓m_many (K := K) (N := N), ↓c_within, ↓s_lies, hCK, b01, b11, Int32.le_refl, Bool.false_eq_true, hn, hn2, ht, hF, am_wt, am_wf, Option.isSome_some, am_rf_s, am_rf_n, ps_lit, nI_add, nI_1, pk_mul, ps_cl, ps_neg, ps_c0, ps_c1, ps_n01, ps_n11, ps_10, ps_b01, ps_e0, pu_Ine, pu_Ieq, pu_ne, pu_eq, am_k_n, am_k_i, am_k_r, am_k_u, am_k_l, am_sz_0, am_sz_i, am_sz_r, am_sz_u, am_sz_l, Option.toList_some, Option.toList_none, List.cons_append, List.nil_append, true_and, and_true, or_false, false_or, or_self, or_true, true_or, not_false_eq_true, not_true_eq_false, Classical.not_not, ne_eq, ps_e1, ps_em, ps_z, Nat.not_le, false_implies, true_implies, forall_const, ps_01, ps_1n, ps_0n, ps_m10, ps_m1n, lg_cmp_gt, lg_cmp_ge, lg_cmp_le, lg_cmp_lt, lg_cmp_eq, pu_rne, pu_req, pu_uro, RFc_n, Nat.reduceAdd, Nat.reduceMul, Nat.reduceLT, Nat.reduceLeDiff, Nat.reduceEqDiff, Nat.reduceSub]
  rw [← hout none]
  simp only [↓r277_0, ↓r277_1, ↓r277_2, ↓r277_3, am_k_i]
theorem m_greatest (hCK : CK n t F (I 1 4) (I 2) (I 3) (I 49) K N) (hth : ∀ c, c < N → I 66 c = th c) : am_W X (d + 4) 279 0 [some (.ref 47), none, none] [] (n, sl, t, I, J, F) Q ↔ Q (some (.int (nI (bst (fun w => lk2 K th w N N) 23)))) (n, sl, t, I, J, F) := by
  have hW : WS n t F := hCK.1
  obtain ⟨hn, hn2, ht, hF⟩ := id hW
  have hx : am_W X (d + 4) 279 4 [some (.ref 47), some (.int 0), some (.int 1)] [] (n, sl, t, I, J, F) Q ↔ Q (some (.int (nI (bst (fun w => lk2 K th w N N) 23)))) (n, sl, t, I, J, F) := by
    refine lp0 (A := fun k => am_W X (d + 4) 279 4 [some (.ref 47), some (.int (nI (bst (fun w => lk2 K th w N N) k))), some (.int (nI (k + 1)))] [] (n, sl, t, I, J, F) Q ↔ Q (some (.int (nI (bst (fun w => lk2 K th w N N) 23)))) (n, sl, t, I, J, F)) (N := 23) ?_ ?_
    · intro k hk ih
      have hb := bst_le (fun w => lk2 K th w N N) k
      have z1 : k + 1 < 2000000 := by omega
      have z2 : ¬ 24 ≤ k + 1 := by omega
      have e1 := fun Q => m_lookedAt (X := X) (d := d) (Q := Q) (sl := sl) (J := J) (w := k + 1) hCK (by omega) hth
      have e2 := fun Q => m_lookedAt (X := X) (d := d) (Q := Q) (sl := sl) (J := J) (w := bst (fun w => lk2 K th w N N) k) hCK (by omega) hth
      rw [bst] at ih
      rw [r279_4]
      by_cases q : lk2 K th (bst (fun w => lk2 K th w N N) k) N N < lk2 K th (k + 1) N N
      · rw [if_pos q] at ih
        simp only [↓r279_5, ↓r279_7, ↓r279_10, ↓r279_11, ↓r279_12, ↓r279_15, ↓r279_16, ↓r279_17, ↓r279_20, ↓r279_23, ↓r279_24, ↓r279_25, ↓r279_28, ↓e1, ↓e2, q_le, q_lt, q_eq, q_e0, q_e1, q_0e, q_1e, ps_n0, q_0le, q_le0, q_0lt, q_m1e, q_em1, z1, z2, Int32.not_le.mpr q, Bool.false_eq_true, hn, hn2, ht, hF, am_wt, am_wf, Option.isSome_some, am_rf_s, am_rf_n, ps_lit, nI_add, nI_1, pk_mul, ps_cl, ps_neg, ps_c0, ps_c1, ps_n01, ps_n11, ps_10, ps_b01, ps_e0, pu_Ine, pu_Ieq, pu_ne, pu_eq, am_k_n, am_k_i, am_k_r, am_k_u, am_k_l, am_sz_0, am_sz_i, am_sz_r, am_sz_u, am_sz_l, Option.toList_some, Option.toList_none, List.cons_append, List.nil_append, true_and, and_true, or_false, false_or, or_self, or_true, true_or, not_false_eq_true, not_true_eq_false, Classical.not_not, ne_eq, ps_e1, ps_em, ps_z, Nat.not_le, false_implies, true_implies, forall_const, ps_01, ps_1n, ps_0n, ps_m10, ps_m1n, lg_cmp_gt, lg_cmp_ge, lg_cmp_le, lg_cmp_lt, lg_cmp_eq, pu_rne, pu_req, pu_uro, RFc_n, Nat.reduceAdd, Nat.reduceMul, Nat.reduceLT, Nat.reduceLeDiff, Nat.reduceEqDiff, Nat.reduceSub]
        exact ih
      · rw [if_neg q] at ih
        simp only [↓r279_5, ↓r279_7, ↓r279_10, ↓r279_11, ↓r279_12, ↓r279_15, ↓r279_16, ↓r279_17, ↓r279_20, ↓r279_23, ↓r279_24, ↓r279_25, ↓r279_28, ↓e1, ↓e2, q_le, q_lt, q_eq, q_e0, q_e1, q_0e, q_1e, ps_n0, q_0le, q_le0, q_0lt, q_m1e, q_em1, z1, z2, Int32.not_lt.mp q, Bool.false_eq_true, hn, hn2, ht, hF, am_wt, am_wf, Option.isSome_some, am_rf_s, am_rf_n, ps_lit, nI_add, nI_1, pk_mul, ps_cl, ps_neg, ps_c0, ps_c1, ps_n01, ps_n11, ps_10, ps_b01, ps_e0, pu_Ine, pu_Ieq, pu_ne, pu_eq, am_k_n, am_k_i, am_k_r, am_k_u, am_k_l, am_sz_0, am_sz_i, am_sz_r, am_sz_u, am_sz_l, Option.toList_some, Option.toList_none, List.cons_append, List.nil_append, true_and, and_true, or_false, false_or, or_self, or_true, true_or, not_false_eq_true, not_true_eq_false, Classical.not_not, ne_eq, ps_e1, ps_em, ps_z, Nat.not_le, false_implies, true_implies, forall_const, ps_01, ps_1n, ps_0n, ps_m10, ps_m1n, lg_cmp_gt, lg_cmp_ge, lg_cmp_le, lg_cmp_lt, lg_cmp_eq, pu_rne, pu_req, pu_uro, RFc_n, Nat.reduceAdd, Nat.reduceMul, Nat.reduceLT, Nat.reduceLeDiff, Nat.reduceEqDiff, Nat.reduceSub]
        exact ih
    · rw [r279_4]
      simp only [↓r279_5, ↓r279_7, ↓r279_31, ↓r279_32, q_le, q_lt, q_eq, q_e0, q_e1, q_0e, q_1e, ps_n0, q_0le, q_le0, q_0lt, q_m1e, q_em1, Bool.false_eq_true, hn, hn2, ht, hF, am_wt, am_wf, Option.isSome_some, am_rf_s, am_rf_n, ps_lit, nI_add, nI_1, pk_mul, ps_cl, ps_neg, ps_c0, ps_c1, ps_n01, ps_n11, ps_10, ps_b01, ps_e0, pu_Ine, pu_Ieq, pu_ne, pu_eq, am_k_n, am_k_i, am_k_r, am_k_u, am_k_l, am_sz_0, am_sz_i, am_sz_r, am_sz_u, am_sz_l, Option.toList_some, Option.toList_none, List.cons_append, List.nil_append, true_and, and_true, or_false, false_or, or_self, or_true, true_or, not_false_eq_true, not_true_eq_false, Classical.not_not, ne_eq, ps_e1, ps_em, ps_z, Nat.not_le, false_implies, true_implies, forall_const, ps_01, ps_1n, ps_0n, ps_m10, ps_m1n, lg_cmp_gt, lg_cmp_ge, lg_cmp_le, lg_cmp_lt, lg_cmp_eq, pu_rne, pu_req, pu_uro, RFc_n, Nat.reduceAdd, Nat.reduceMul, Nat.reduceLT, Nat.reduceLeDiff, Nat.reduceEqDiff, Nat.reduceSub]
  rw [← hx]
  simp only [↓r279_0, ↓r279_1, ↓r279_2, ↓r279_3, am_k_i, am_k_r]
def tfr (f : Nat → Int32) (K : Nat → Int32) (c : Nat) : Nat → Int32 := fun k => if k < c then fTh K k else f k
theorem m_lays (hCK : CK n t F (I 1 4) (I 2) (I 3) (I 49) K N) : am_W X (d + 2) 276 0 [some (.ref 47), none] [] (n, sl, t, I, J, F) Q ↔ Q none (n, sl, t, am_ro I 66 (tfr (I 66) K N), J, F) := by
  have hW : WS n t F := hCK.1
  obtain ⟨hn, hn2, ht, hF⟩ := id hW
  have hN := CK_N hCK
  have hx : am_W X (d + 2) 276 2 [some (.ref 47), some (.int 0)] [] (n, sl, t, am_ro I 66 (tfr (I 66) K 0), J, F) Q ↔ Q none (n, sl, t, am_ro I 66 (tfr (I 66) K N), J, F) := by
    refine lp0 (A := fun c => am_W X (d + 2) 276 2 [some (.ref 47), some (.int (nI c))] [] (n, sl, t, am_ro I 66 (tfr (I 66) K c), J, F) Q ↔ Q none (n, sl, t, am_ro I 66 (tfr (I 66) K N), J, F)) (N := N) ?_ ?_
    · intro c hc ih
      have z1 : c < 2000000 ∧ N < 2000000 ∧ c < 120 := by omega
      have z2 : ¬ N ≤ c := by omega
      have e1 : upd (tfr (I 66) K c) c (fTh K c) = tfr (I 66) K (c + 1) := by
        funext k
        unfold upd tfr
        by_cases h : k = c
        · rw [if_pos h, if_pos (by omega), h]
        · rw [if_neg h]
          by_cases h2 : k < c
          · rw [if_pos h2, if_pos (by omega)]
          · rw [if_neg h2, if_neg (by omega)]
      rw [← e1] at ih
      rw [r276_2]
      simp only [↓r276_3, ↓r276_4, ↓r276_7, ↓r276_10, ↓r276_11, ↓r276_14, ↓r276_15, ↓r276_16, ↓r276_17, ↓r276_20, ↓r276_21, ↓r276_24, ↓k_at (K := K) (N := N), ↓k_isTried (K := K) (N := N), ↓k_side (K := K) (N := N), ↓k_thing (K := K) (N := N), ↓k_isFound (K := K) (N := N), ↓m_factOf (K := K) (N := N), ↓m_isTried (K := K) (N := N), ↓m_took (K := K) (N := N), ↓m_waited (K := K) (N := N), ↓m_isLong (K := K) (N := N), ↓m_isShort (K := K) (N := N), ↓m_thingOf (K := K) (N := N), ↓m_isFound (K := K) (N := N), ↓m_many (K := K) (N := N), ↓c_within, ↓s_lies, hCK, b01, b11, q_le, q_lt, q_eq, q_e0, q_e1, q_0e, q_1e, ps_n0, q_0le, q_le0, q_0lt, q_m1e, q_em1, hc, z1, z2, pu_uI, pu_ror, Bool.false_eq_true, hn, hn2, ht, hF, am_wt, am_wf, Option.isSome_some, am_rf_s, am_rf_n, ps_lit, nI_add, nI_1, pk_mul, ps_cl, ps_neg, ps_c0, ps_c1, ps_n01, ps_n11, ps_10, ps_b01, ps_e0, pu_Ine, pu_Ieq, pu_ne, pu_eq, am_k_n, am_k_i, am_k_r, am_k_u, am_k_l, am_sz_0, am_sz_i, am_sz_r, am_sz_u, am_sz_l, Option.toList_some, Option.toList_none, List.cons_append, List.nil_append, true_and, and_true, or_false, false_or, or_self, or_true, true_or, not_false_eq_true, not_true_eq_false, Classical.not_not, ne_eq, ps_e1, ps_em, ps_z, Nat.not_le, false_implies, true_implies, forall_const, ps_01, ps_1n, ps_0n, ps_m10, ps_m1n, lg_cmp_gt, lg_cmp_ge, lg_cmp_le, lg_cmp_lt, lg_cmp_eq, pu_rne, pu_req, pu_uro, RFc_n, Nat.reduceAdd, Nat.reduceMul, Nat.reduceLT, Nat.reduceLeDiff, Nat.reduceEqDiff, Nat.reduceSub]
      exact ih
    · rw [r276_2]
      simp only [↓r276_3, ↓r276_4, ↓r276_7, ↓r276_27, ↓k_at (K := K) (N := N), ↓k_isTried (K := K) (N := N), ↓k_side (K := K) (N := N), ↓k_thing (K := K) (N := N), ↓k_isFound (K := K) (N := N), ↓m_factOf (K := K) (N := N), ↓m_isTried (K := K) (N := N), ↓m_took (K := K) (N := N), ↓m_waited (K := K) (N := N), ↓m_isLong (K := K) (N := N), ↓m_isShort (K := K) (N := N), ↓m_thingOf (K := K) (N := N), ↓m_isFound (K := K) (N := N), ↓m_many (K := K) (N := N), ↓c_within, ↓s_lies, hCK, b01, b11, Int32.le_refl, Bool.false_eq_true, hn, hn2, ht, hF, am_wt, am_wf, Option.isSome_some, am_rf_s, am_rf_n, ps_lit, nI_add, nI_1, pk_mul, ps_cl, ps_neg, ps_c0, ps_c1, ps_n01, ps_n11, ps_10, ps_b01, ps_e0, pu_Ine, pu_Ieq, pu_ne, pu_eq, am_k_n, am_k_i, am_k_r, am_k_u, am_k_l, am_sz_0, am_sz_i, am_sz_r, am_sz_u, am_sz_l, Option.toList_some, Option.toList_none, List.cons_append, List.nil_append, true_and, and_true, or_false, false_or, or_self, or_true, true_or, not_false_eq_true, not_true_eq_false, Classical.not_not, ne_eq, ps_e1, ps_em, ps_z, Nat.not_le, false_implies, true_implies, forall_const, ps_01, ps_1n, ps_0n, ps_m10, ps_m1n, lg_cmp_gt, lg_cmp_ge, lg_cmp_le, lg_cmp_lt, lg_cmp_eq, pu_rne, pu_req, pu_uro, RFc_n, Nat.reduceAdd, Nat.reduceMul, Nat.reduceLT, Nat.reduceLeDiff, Nat.reduceEqDiff, Nat.reduceSub]
  have e0 : am_ro I 66 (tfr (I 66) K 0) = I := by
    have : tfr (I 66) K 0 = I 66 := by
      funext k
      unfold tfr
      rw [if_neg (by omega)]
    rw [this, pu_roI]
  rw [e0] at hx
  rw [← hx]
  simp only [↓r276_0, ↓r276_1, am_k_r]
/-- all children are put on their sides, each way is scored -/
theorem c_scoreAll (hCK : CK n t F (I 1 4) (I 2) (I 3) (I 49) K N) : am_W X (d + 4) 136 0 [some (.ref 0)] [] (n, sl, t, I, J, F) Q ↔ Q (some (.int (nI (bst (fun w => lk2 K (fTh K) w N N) 23)))) (n, sl, t, am_ro (tkI (gI I 15 (grp allG N)) K (grp allG N) N) 39 (rw39 (I 39) (fun w => lk2 K (fTh K) w N N)), J, am_uF F 28 8 (some 2)) := by
  have hW : WS n t F := hCK.1
  obtain ⟨hn, hn2, ht, hF⟩ := id hW
  obtain ⟨_, ⟨T, hK⟩, hs, hr, hu, h49⟩ := id hCK
  have hN := hK.1
  have e1 := fun Q => c_takeAll (X := X) (d := d + 2) (Q := Q) (sl := sl) (J := J) (I := I) (g := 15) hn2 (hn _ (by decide)) (hn _ (by decide)) (ht _ (by decide)) (ht _ (by decide)) (hF _ _ rfl) hN
  have nn : ∀ a, a ≠ 15 → a ≠ 16 → gI I 15 (grp allG N) a = I a := fun a h1 h2 => gI_n h1 h2
  have hCK1 : CK n t F (gI I 15 (grp allG N) 1 4) (gI I 15 (grp allG N) 2) (gI I 15 (grp allG N) 3) (gI I 15 (grp allG N) 49) K N := by
    rw [nn 1 (by decide) (by decide), nn 2 (by decide) (by decide), nn 3 (by decide) (by decide), nn 49 (by decide) (by decide)]
    exact hCK
  have hG1 : GH (gI I 15 (grp allG N) 15 1) (gI I 15 (grp allG N) 16) (grp allG N) N := by
    rw [gI_g, gI_m (g := 15)]
    exact GH_g hN
  have e2 := fun Q => c_stake (X := X) (d := d) (Q := Q) (sl := sl) (J := J) hCK1 hG1
  rw [grp_alen] at e2
  have hb : ∀ p a, a ∈ flt p (grp allG N) N → a < N := fun p a ha => by
    obtain ⟨i, h1, h2, _⟩ := flt_mem ha
    rw [h2, grp_alln N i h1]
    exact h1
  have hD := SDH_take (I := gI I 15 (grp allG N)) (F := F) (K := K) (l := grp allG N) hN (by rw [grp_alen]; exact hN) (fun k hk => grp_at hk)
  rw [grp_alen] at hD
  have h36 : ∀ p, (∀ c, p c = true → fFo K c = true) → ∀ i, i < (flt p (grp allG N) N).length → tkI (gI I 15 (grp allG N)) K (grp allG N) N 36 ((flt p (grp allG N) N).getD i 0) = nI (wyN K ((flt p (grp allG N) N).getD i 0)) ∧ wyN K ((flt p (grp allG N) N).getD i 0) < 24 := fun p hp i hi => by
    have hm := getD_mem hi
    obtain ⟨j, j1, j2, j3⟩ := flt_mem hm
    have hc := hb p _ hm
    obtain ⟨y1, y2⟩ := wyN_e hK hc
    refine ⟨?_, y2⟩
    have := twr_at (f := gI I 15 (grp allG N) 36) (v := wyI K) (hp _ j3) N j j1 j2
    exact this.trans y1
  have e3 := fun Q => cl_score (X := X) (d := d + 1) (Q := Q) (sl := sl) (J := J) (wy := wyN K) (WS_28 (r := 2) hW) hD (h36 (pL K) (fun c h => (pL_e.mp h).1)) (h36 (pS K) (fun c h => (pS_e.mp h).1))
  simp only [u2_lk] at e3
  have hF' := (WS_28 (r := 2) hW).2.2.2
  have e39 : tkI (gI I 15 (grp allG N)) K (grp allG N) N 39 = I 39 := (sd_n (by decide)).trans (nn 39 (by decide) (by decide))
  rw [e39] at e3
  simp only [↓r136_0, ↓r136_1, ↓r136_4, ↓r136_5, ↓r136_8, ↓r136_11, ↓e1, hs, Bool.false_eq_true, hn, hn2, ht, hF, am_wt, am_wf, Option.isSome_some, am_rf_s, am_rf_n, ps_lit, nI_add, nI_1, pk_mul, ps_cl, ps_neg, ps_c0, ps_c1, ps_n01, ps_n11, ps_10, ps_b01, ps_e0, pu_Ine, pu_Ieq, pu_ne, pu_eq, am_k_n, am_k_i, am_k_r, am_k_u, am_k_l, am_sz_0, am_sz_i, am_sz_r, am_sz_u, am_sz_l, Option.toList_some, Option.toList_none, List.cons_append, List.nil_append, true_and, and_true, or_false, false_or, or_self, or_true, true_or, not_false_eq_true, not_true_eq_false, Classical.not_not, ne_eq, ps_e1, ps_em, ps_z, Nat.not_le, false_implies, true_implies, forall_const, ps_01, ps_1n, ps_0n, ps_m10, ps_m1n, lg_cmp_gt, lg_cmp_ge, lg_cmp_le, lg_cmp_lt, lg_cmp_eq, pu_rne, pu_req, pu_uro, RFc_n, Nat.reduceAdd, Nat.reduceMul, Nat.reduceLT, Nat.reduceLeDiff, Nat.reduceEqDiff, Nat.reduceSub]
  simp only [↓r136_14, ↓r136_15, ↓r136_18, ↓r136_19, ↓r136_22, ↓r136_23, ↓r136_26, ↓e2, Bool.false_eq_true, hn, hn2, ht, hF, am_wt, am_wf, Option.isSome_some, am_rf_s, am_rf_n, ps_lit, nI_add, nI_1, pk_mul, ps_cl, ps_neg, ps_c0, ps_c1, ps_n01, ps_n11, ps_10, ps_b01, ps_e0, pu_Ine, pu_Ieq, pu_ne, pu_eq, am_k_n, am_k_i, am_k_r, am_k_u, am_k_l, am_sz_0, am_sz_i, am_sz_r, am_sz_u, am_sz_l, Option.toList_some, Option.toList_none, List.cons_append, List.nil_append, true_and, and_true, or_false, false_or, or_self, or_true, true_or, not_false_eq_true, not_true_eq_false, Classical.not_not, ne_eq, ps_e1, ps_em, ps_z, Nat.not_le, false_implies, true_implies, forall_const, ps_01, ps_1n, ps_0n, ps_m10, ps_m1n, lg_cmp_gt, lg_cmp_ge, lg_cmp_le, lg_cmp_lt, lg_cmp_eq, pu_rne, pu_req, pu_uro, RFc_n, Nat.reduceAdd, Nat.reduceMul, Nat.reduceLT, Nat.reduceLeDiff, Nat.reduceEqDiff, Nat.reduceSub]
  simp only [↓r136_29, ↓r136_30, ↓r136_33, ↓r136_36, ↓e3, hF', Bool.false_eq_true, hn, hn2, ht, hF, am_wt, am_wf, Option.isSome_some, am_rf_s, am_rf_n, ps_lit, nI_add, nI_1, pk_mul, ps_cl, ps_neg, ps_c0, ps_c1, ps_n01, ps_n11, ps_10, ps_b01, ps_e0, pu_Ine, pu_Ieq, pu_ne, pu_eq, am_k_n, am_k_i, am_k_r, am_k_u, am_k_l, am_sz_0, am_sz_i, am_sz_r, am_sz_u, am_sz_l, Option.toList_some, Option.toList_none, List.cons_append, List.nil_append, true_and, and_true, or_false, false_or, or_self, or_true, true_or, not_false_eq_true, not_true_eq_false, Classical.not_not, ne_eq, ps_e1, ps_em, ps_z, Nat.not_le, false_implies, true_implies, forall_const, ps_01, ps_1n, ps_0n, ps_m10, ps_m1n, lg_cmp_gt, lg_cmp_ge, lg_cmp_le, lg_cmp_lt, lg_cmp_eq, pu_rne, pu_req, pu_uro, RFc_n, Nat.reduceAdd, Nat.reduceMul, Nat.reduceLT, Nat.reduceLeDiff, Nat.reduceEqDiff, Nat.reduceSub]
theorem SC_sa {f : Nat → Int32} : SC I (am_ro (tkI (gI I 15 (grp allG N)) K (grp allG N) N) 39 f) := SC_o (SC_sd (SC_gI (SC_r I) (fun _ => rfl) (fun _ => rfl))) (fun _ => rfl)
theorem pr_best {i : Nat} (hX : XS X) (hi : i < 600) (hV : Inv i (n, sl, t, I, J, F)) : PR X i 138 278 [some (.ref 0)] [some (.ref 47)] (n, sl, t, I, J, F) := by
  obtain ⟨N, T, lw, hC⟩ := CX_of hV; obtain ⟨hW, hK, _, ⟨hs, hc, hr, hu, hm⟩, hl⟩ := id hC; have hN := hK.1; obtain ⟨hn, hn2, ht, hF⟩ := id hW
  refine PR_ask (v := nI (bst (fun w => lk2 (I 49) (fTh (I 49)) w N N) 23)) hi hV ?_ ?_
  · intro Q hQ
    have e := fun Q => c_scoreAll (X := X) (d := 54) (Q := Q) (sl := sl) (J := J) (CK_of hC)
    simp only [↓r138_0, ↓r138_1, ↓r138_4, ↓e, Bool.false_eq_true, hn, hn2, ht, hF, am_wt, am_wf, Option.isSome_some, am_rf_s, am_rf_n, ps_lit, nI_add, nI_1, pk_mul, ps_cl, ps_neg, ps_c0, ps_c1, ps_n01, ps_n11, ps_10, ps_b01, ps_e0, pu_Ine, pu_Ieq, pu_ne, pu_eq, am_k_n, am_k_i, am_k_r, am_k_u, am_k_l, am_sz_0, am_sz_i, am_sz_r, am_sz_u, am_sz_l, Option.toList_some, Option.toList_none, List.cons_append, List.nil_append, true_and, and_true, or_false, false_or, or_self, or_true, true_or, not_false_eq_true, not_true_eq_false, Classical.not_not, ne_eq, ps_e1, ps_em, ps_z, Nat.not_le, false_implies, true_implies, forall_const, ps_01, ps_1n, ps_0n, ps_m10, ps_m1n, lg_cmp_gt, lg_cmp_ge, lg_cmp_le, lg_cmp_lt, lg_cmp_eq, pu_rne, pu_req, pu_uro, RFc_n, Nat.reduceAdd, Nat.reduceMul, Nat.reduceLT, Nat.reduceLeDiff, Nat.reduceEqDiff, Nat.reduceSub]
    exact hQ _ ⟨rfl, rfl, rfl, SC_sa, F28_n⟩
  · rintro ⟨n', sl', t', I', J', F'⟩ ⟨e1, e2, e3, e4, e5⟩; dsimp only at e1 e2 e3 e4 e5; subst e1; subst e2; subst e3; have hC' := CX_sc hC e4 e5; obtain ⟨hn, hn2, ht, hF⟩ := id hC'.1; intro Q hQ
    have e1 := fun Q => m_lays (X := X) (d := 56) (Q := Q) (sl := sl') (J := J') (CK_of hC')
    have s1 : SC I' (am_ro I' 66 (tfr (I' 66) (I 49) N)) := SC_o (SC_r I') (fun _ => rfl)
    have e2 := fun Q => m_greatest (X := X) (d := 54) (Q := Q) (sl := sl') (J := J') (th := fTh (I 49)) (CK_of (CX_sc hC' s1 (fun _ _ _ => rfl))) (fun c hc => by rw [pu_req]; exact if_pos hc)
    simp only [↓r278_0, ↓r278_1, ↓r278_4, ↓r278_5, ↓r278_8, ↓e1, ↓e2, Bool.false_eq_true, hn, hn2, ht, hF, am_wt, am_wf, Option.isSome_some, am_rf_s, am_rf_n, ps_lit, nI_add, nI_1, pk_mul, ps_cl, ps_neg, ps_c0, ps_c1, ps_n01, ps_n11, ps_10, ps_b01, ps_e0, pu_Ine, pu_Ieq, pu_ne, pu_eq, am_k_n, am_k_i, am_k_r, am_k_u, am_k_l, am_sz_0, am_sz_i, am_sz_r, am_sz_u, am_sz_l, Option.toList_some, Option.toList_none, List.cons_append, List.nil_append, true_and, and_true, or_false, false_or, or_self, or_true, true_or, not_false_eq_true, not_true_eq_false, Classical.not_not, ne_eq, ps_e1, ps_em, ps_z, Nat.not_le, false_implies, true_implies, forall_const, ps_01, ps_1n, ps_0n, ps_m10, ps_m1n, lg_cmp_gt, lg_cmp_ge, lg_cmp_le, lg_cmp_lt, lg_cmp_eq, pu_rne, pu_req, pu_uro, RFc_n, Nat.reduceAdd, Nat.reduceMul, Nat.reduceLT, Nat.reduceLeDiff, Nat.reduceEqDiff, Nat.reduceSub]
    exact hQ _ ⟨rfl, rfl, rfl, s1, fun _ _ _ => rfl⟩
theorem pr_looked {w : Int32} {i : Nat} (hX : XS X) (hi : i < 600) (hV : Inv i (n, sl, t, I, J, F)) : PR X i 135 275 [some (.ref 0), some (.int w)] [some (.ref 47), some (.int w)] (n, sl, t, I, J, F) := by
  obtain ⟨N, T, lw, hC⟩ := CX_of hV; obtain ⟨hW, hK, _, ⟨hs, hc, hr, hu, hm⟩, hl⟩ := id hC; have hN := hK.1; obtain ⟨hn, hn2, ht, hF⟩ := id hW
  by_cases hw : 0 ≤ w ∧ w ≤ nI 23
  · obtain ⟨w', hw', rfl⟩ := ps_rng (by decide) hw
    have zw : w' < 2000000 ∧ w' < 24 := by omega
    refine PR_ask (v := lk2 (I 49) (fTh (I 49)) w' N N) hi hV ?_ ?_
    · intro Q hQ
      have e := fun Q => c_scoreAll (X := X) (d := 54) (Q := Q) (sl := sl) (J := J) (CK_of hC)
      have hF' := (WS_28 (r := 2) hW).2.2.2
      have e2 : rw39 (I 39) (fun w => lk2 (I 49) (fTh (I 49)) w N N) w' = lk2 (I 49) (fTh (I 49)) w' N N := if_pos zw.2
      simp only [↓r135_0, ↓r135_1, ↓r135_2, ↓r135_4, ↓r135_7, ↓r135_10, ↓r135_13, ↓r135_14, ↓r135_15, ↓c_within, ↓e, hw, and_self, if_true, Bool.false_eq_true, hn, hn2, ht, hF, am_wt, am_wf, Option.isSome_some, am_rf_s, am_rf_n, ps_lit, nI_add, nI_1, pk_mul, ps_cl, ps_neg, ps_c0, ps_c1, ps_n01, ps_n11, ps_10, ps_b01, ps_e0, pu_Ine, pu_Ieq, pu_ne, pu_eq, am_k_n, am_k_i, am_k_r, am_k_u, am_k_l, am_sz_0, am_sz_i, am_sz_r, am_sz_u, am_sz_l, Option.toList_some, Option.toList_none, List.cons_append, List.nil_append, true_and, and_true, or_false, false_or, or_self, or_true, true_or, not_false_eq_true, not_true_eq_false, Classical.not_not, ne_eq, ps_e1, ps_em, ps_z, Nat.not_le, false_implies, true_implies, forall_const, ps_01, ps_1n, ps_0n, ps_m10, ps_m1n, lg_cmp_gt, lg_cmp_ge, lg_cmp_le, lg_cmp_lt, lg_cmp_eq, pu_rne, pu_req, pu_uro, RFc_n, Nat.reduceAdd, Nat.reduceMul, Nat.reduceLT, Nat.reduceLeDiff, Nat.reduceEqDiff, Nat.reduceSub]
      simp only [↓r135_18, ↓r135_18r, ↓r135_19, ↓r135_20, ↓r135_23, ↓r135_26, ↓r135_27, ↓r135_27k, ↓r135_28, hF', zw, e2, Bool.false_eq_true, hn, hn2, ht, hF, am_wt, am_wf, Option.isSome_some, am_rf_s, am_rf_n, ps_lit, nI_add, nI_1, pk_mul, ps_cl, ps_neg, ps_c0, ps_c1, ps_n01, ps_n11, ps_10, ps_b01, ps_e0, pu_Ine, pu_Ieq, pu_ne, pu_eq, am_k_n, am_k_i, am_k_r, am_k_u, am_k_l, am_sz_0, am_sz_i, am_sz_r, am_sz_u, am_sz_l, Option.toList_some, Option.toList_none, List.cons_append, List.nil_append, true_and, and_true, or_false, false_or, or_self, or_true, true_or, not_false_eq_true, not_true_eq_false, Classical.not_not, ne_eq, ps_e1, ps_em, ps_z, Nat.not_le, false_implies, true_implies, forall_const, ps_01, ps_1n, ps_0n, ps_m10, ps_m1n, lg_cmp_gt, lg_cmp_ge, lg_cmp_le, lg_cmp_lt, lg_cmp_eq, pu_rne, pu_req, pu_uro, RFc_n, Nat.reduceAdd, Nat.reduceMul, Nat.reduceLT, Nat.reduceLeDiff, Nat.reduceEqDiff, Nat.reduceSub]
      exact hQ _ ⟨rfl, rfl, rfl, SC_sa, F28_n⟩
    · rintro ⟨n', sl', t', I', J', F'⟩ ⟨e1, e2, e3, e4, e5⟩; dsimp only at e1 e2 e3 e4 e5; subst e1; subst e2; subst e3; have hC' := CX_sc hC e4 e5; obtain ⟨hn, hn2, ht, hF⟩ := id hC'.1; intro Q hQ
      have e1 := fun Q => m_lays (X := X) (d := 56) (Q := Q) (sl := sl') (J := J') (CK_of hC')
      have s1 : SC I' (am_ro I' 66 (tfr (I' 66) (I 49) N)) := SC_o (SC_r I') (fun _ => rfl)
      have e2 := fun Q => m_lookedAt (X := X) (d := 55) (Q := Q) (sl := sl') (J := J') (th := fTh (I 49)) (CK_of (CX_sc hC' s1 (fun _ _ _ => rfl))) zw.2 (fun c hc => by rw [pu_req]; exact if_pos hc)
      simp only [↓r275_0, ↓r275_1, ↓r275_2, ↓r275_4, ↓r275_7, ↓r275_10, ↓r275_13, ↓r275_14, ↓r275_15, ↓r275_18, ↓r275_19, ↓r275_20, ↓r275_23, ↓s_lies, ↓e1, ↓e2, hw, and_self, if_true, Bool.false_eq_true, hn, hn2, ht, hF, am_wt, am_wf, Option.isSome_some, am_rf_s, am_rf_n, ps_lit, nI_add, nI_1, pk_mul, ps_cl, ps_neg, ps_c0, ps_c1, ps_n01, ps_n11, ps_10, ps_b01, ps_e0, pu_Ine, pu_Ieq, pu_ne, pu_eq, am_k_n, am_k_i, am_k_r, am_k_u, am_k_l, am_sz_0, am_sz_i, am_sz_r, am_sz_u, am_sz_l, Option.toList_some, Option.toList_none, List.cons_append, List.nil_append, true_and, and_true, or_false, false_or, or_self, or_true, true_or, not_false_eq_true, not_true_eq_false, Classical.not_not, ne_eq, ps_e1, ps_em, ps_z, Nat.not_le, false_implies, true_implies, forall_const, ps_01, ps_1n, ps_0n, ps_m10, ps_m1n, lg_cmp_gt, lg_cmp_ge, lg_cmp_le, lg_cmp_lt, lg_cmp_eq, pu_rne, pu_req, pu_uro, RFc_n, Nat.reduceAdd, Nat.reduceMul, Nat.reduceLT, Nat.reduceLeDiff, Nat.reduceEqDiff, Nat.reduceSub]
      exact hQ _ ⟨rfl, rfl, rfl, s1, fun _ _ _ => rfl⟩
  · refine PR_ask (v := -1000000) hi hV ?_ ?_
    · intro Q hQ
      simp only [↓r135_0, ↓r135_1, ↓r135_2, ↓r135_4, ↓r135_7, ↓r135_10, ↓r135_13, ↓c_within, hw, if_false, Bool.false_eq_true, hn, hn2, ht, hF, am_wt, am_wf, Option.isSome_some, am_rf_s, am_rf_n, ps_lit, nI_add, nI_1, pk_mul, ps_cl, ps_neg, ps_c0, ps_c1, ps_n01, ps_n11, ps_10, ps_b01, ps_e0, pu_Ine, pu_Ieq, pu_ne, pu_eq, am_k_n, am_k_i, am_k_r, am_k_u, am_k_l, am_sz_0, am_sz_i, am_sz_r, am_sz_u, am_sz_l, Option.toList_some, Option.toList_none, List.cons_append, List.nil_append, true_and, and_true, or_false, false_or, or_self, or_true, true_or, not_false_eq_true, not_true_eq_false, Classical.not_not, ne_eq, ps_e1, ps_em, ps_z, Nat.not_le, false_implies, true_implies, forall_const, ps_01, ps_1n, ps_0n, ps_m10, ps_m1n, lg_cmp_gt, lg_cmp_ge, lg_cmp_le, lg_cmp_lt, lg_cmp_eq, pu_rne, pu_req, pu_uro, RFc_n, Nat.reduceAdd, Nat.reduceMul, Nat.reduceLT, Nat.reduceLeDiff, Nat.reduceEqDiff, Nat.reduceSub]
      exact hQ _ SCH_r
    · rintro ⟨n', sl', t', I', J', F'⟩ ⟨e1, e2, e3, e4, e5⟩; dsimp only at e1 e2 e3 e4 e5; subst e1; subst e2; subst e3; have hC' := CX_sc hC e4 e5; obtain ⟨hn, hn2, ht, hF⟩ := id hC'.1; intro Q hQ
      simp only [↓r275_0, ↓r275_1, ↓r275_2, ↓r275_4, ↓r275_7, ↓r275_10, ↓r275_13, ↓s_lies, hw, if_false, Bool.false_eq_true, hn, hn2, ht, hF, am_wt, am_wf, Option.isSome_some, am_rf_s, am_rf_n, ps_lit, nI_add, nI_1, pk_mul, ps_cl, ps_neg, ps_c0, ps_c1, ps_n01, ps_n11, ps_10, ps_b01, ps_e0, pu_Ine, pu_Ieq, pu_ne, pu_eq, am_k_n, am_k_i, am_k_r, am_k_u, am_k_l, am_sz_0, am_sz_i, am_sz_r, am_sz_u, am_sz_l, Option.toList_some, Option.toList_none, List.cons_append, List.nil_append, true_and, and_true, or_false, false_or, or_self, or_true, true_or, not_false_eq_true, not_true_eq_false, Classical.not_not, ne_eq, ps_e1, ps_em, ps_z, Nat.not_le, false_implies, true_implies, forall_const, ps_01, ps_1n, ps_0n, ps_m10, ps_m1n, lg_cmp_gt, lg_cmp_ge, lg_cmp_le, lg_cmp_lt, lg_cmp_eq, pu_rne, pu_req, pu_uro, RFc_n, Nat.reduceAdd, Nat.reduceMul, Nat.reduceLT, Nat.reduceLeDiff, Nat.reduceEqDiff, Nat.reduceSub]
      exact hQ _ SCH_r
end LK
