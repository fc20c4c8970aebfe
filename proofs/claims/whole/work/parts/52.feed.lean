/-! calls, one on each side: the tape is fed -/
section FE
variable {X : am_X} {d : Nat} {Q : Option Value → am_H → Prop} {n sl : Nat} {t : Nat → Nat × Nat} {I : Nat → Nat → Int32} {J : Nat → Nat → Int64} {F : Nat → Nat → Option Nat} {h : am_H}
theorem toI_nat (x : Int32) : x.toInt = (x.toBitVec.toNat : Int) ∨ x.toInt = (x.toBitVec.toNat : Int) - 4294967296 := by
  have h : x.toInt = x.toBitVec.toInt := rfl
  rw [h, BitVec.toInt_eq_toNat_cond]
  split
  · exact Or.inl rfl
  · exact Or.inr rfl
theorem by_m {y z : Int32} (h : ∃ q, y.toInt = z.toInt + 256 * q) : y.toInt8 = z.toInt8 := by
  obtain ⟨q, h⟩ := h
  apply Int8.toInt_inj.mp
  rw [Int32.toInt_toInt8, Int32.toInt_toInt8, h]
  exact Int.add_mul_bmod_self_left z.toInt 256 q
theorem by_n (u : Nat) (y z : Int32) (k : Nat) (hk : k = 0 ∨ k = 8 ∨ k = 16 ∨ k = 24) (x : Int32) (hx : x.toBitVec.toNat = u) (h1 : y.toBitVec.toNat = u / 2 ^ k) (h2 : z.toInt = x.toInt >>> k) : y.toInt8 = z.toInt8 := by
  have a1 := toI_nat x
  have a2 := toI_nat y
  rw [hx] at a1
  rw [h1] at a2
  rw [Int.shiftRight_eq_div_pow] at h2
  refine by_m ⟨(y.toInt - z.toInt) / 256, ?_⟩
  rcases hk with rfl | rfl | rfl | rfl
  · simp only [Nat.reducePow, Int.reducePow] at a2 h2
    omega
  · simp only [Nat.reducePow, Int.reducePow] at a2 h2
    omega
  · simp only [Nat.reducePow, Int.reducePow] at a2 h2
    omega
  · simp only [Nat.reducePow, Int.reducePow] at a2 h2
    omega
theorem by_eq (x : Int32) (k : Nat) (hk : k = 0 ∨ k = 8 ∨ k = 16 ∨ k = 24) : ((x.toUInt32 >>> ((nI k).toUInt32 &&& Int32.toUInt32 (nI 31))).toInt32).toInt8 = (x >>> (nI k &&& nI 31)).toInt8 := by
  refine by_n x.toBitVec.toNat _ _ k hk x rfl ?_ ?_
  · rcases hk with rfl | rfl | rfl | rfl
    · exact pk_ushr x (nI 0) 0 (by decide)
    · exact pk_ushr x (nI 8) 8 (by decide)
    · exact pk_ushr x (nI 16) 16 (by decide)
    · exact pk_ushr x (nI 24) 24 (by decide)
  · rcases hk with rfl | rfl | rfl | rfl
    · exact pk_shr x (nI 0 &&& nI 31) 0 (by decide)
    · exact pk_shr x (nI 8 &&& nI 31) 8 (by decide)
    · exact pk_shr x (nI 16 &&& nI 31) 16 (by decide)
    · exact pk_shr x (nI 24 &&& nI 31) 24 (by decide)
/-- the byte of an int at a shift -/
def byC (x : Int32) (s : Nat) : Int32 := (x >>> (nI s &&& nI 31)).toInt8.toInt32
def b4 (b : Nat → Int32) (m : Nat) (x : Int32) : Nat → Int32 := fun i => if m ≤ i ∧ i < m + 4 then byC x (24 - 8 * (i - m)) else b i
theorem b4_e (r : Nat → Int32) (m : Nat) (x : Int32) : upd (upd (upd (upd r m (byC x 24)) (m + 1) (byC x 16)) (m + 2) (byC x 8)) (m + 3) (byC x 0) = b4 r m x := by
  funext j
  unfold b4
  by_cases hj : m ≤ j ∧ j < m + 4
  · rw [if_pos hj]
    have : j = m ∨ j = m + 1 ∨ j = m + 2 ∨ j = m + 3 := by omega
    rcases this with rfl | rfl | rfl | rfl
    · rw [pu_ne (by omega), pu_ne (by omega), pu_ne (by omega), pu_eq, Nat.sub_self]
    · rw [pu_ne (by omega), pu_ne (by omega), pu_eq, show m + 1 - m = 1 by omega]
    · rw [pu_ne (by omega), pu_eq, show m + 2 - m = 2 by omega]
    · rw [pu_eq, show m + 3 - m = 3 by omega]
  · rw [if_neg hj, pu_ne (by omega), pu_ne (by omega), pu_ne (by omega), pu_ne (by omega)]
theorem c_add1 {m s : Nat} {x : Int32} (hW : WS n t F) (hm : m < 400) (hl : I 7 1 = nI m) (hs : s = 0 ∨ s = 8 ∨ s = 16 ∨ s = 24) : am_W X d 33 3 [some (.ref 7), some (.int x), some (.int (nI s))] [] (n, sl, t, I, J, F) Q ↔ am_W X d 33 3 [some (.ref 7), some (.int x), some (.int (nI s + -nI 8))] [] (n, sl, t, am_ro (am_ro I 7 (upd (I 7) 1 (nI (m + 1)))) 8 (upd (I 8) m (byC x s)), J, F) Q := by
  obtain ⟨hn, hn2, ht, hF⟩ := id hW
  have e0 : ¬ nI s < 0 := nI_pos (by omega)
  have q0 : ¬ nI 400 ≤ nI m := nI_ge (by omega) (by decide)
  have z0 : m < 2000000 := by omega
  have e1 := by_eq x s hs
  rw [r33_3]
  simp only [↓r33_4, ↓r33_7, ↓r33_8, ↓r33_11, ↓r33_14, ↓r33_17, ↓r33_18, ↓r33_21, ↓r33_22, ↓r33_25, ↓r33_26, ↓r33_27, ↓r33_28, ↓r33_29, ↓r33_29z, ↓r33_30, ↓r33_31, ↓r33_31r, ↓r33_32, ↓r33_35, ↓r33_36, ↓r33_37, ↓r33_40, ↓r33_43, hl, e0, q0, z0, hm, Int8.toInt8_toInt32, e1, pu_uI, pu_rol, pu_ror, byC, Bool.false_eq_true, hn, hn2, ht, hF, am_wt, am_wf, Option.isSome_some, am_rf_s, am_rf_n, ps_lit, nI_add, nI_1, pk_mul, ps_cl, ps_neg, ps_c0, ps_c1, ps_n01, ps_n11, ps_10, ps_b01, ps_e0, pu_Ine, pu_Ieq, pu_ne, pu_eq, am_k_n, am_k_i, am_k_r, am_k_u, am_k_l, am_sz_0, am_sz_i, am_sz_r, am_sz_u, am_sz_l, Option.toList_some, Option.toList_none, List.cons_append, List.nil_append, true_and, and_true, or_false, false_or, or_self, or_true, true_or, not_false_eq_true, not_true_eq_false, Classical.not_not, ne_eq, ps_e1, ps_em, ps_z, Nat.not_le, false_implies, true_implies, forall_const, ps_01, ps_1n, ps_0n, ps_m10, ps_m1n, lg_cmp_gt, lg_cmp_ge, lg_cmp_le, lg_cmp_lt, lg_cmp_eq, pu_rne, pu_req, pu_uro, RFc_n, Nat.reduceAdd, Nat.reduceMul, Nat.reduceLT, Nat.reduceLeDiff, Nat.reduceEqDiff, Nat.reduceSub]
  exact Iff.rfl
theorem c_add {m : Nat} {x : Int32} (hW : WS n t F) (hm : m + 4 ≤ 400) (hl : I 7 1 = nI m) : am_W X d 33 0 [some (.ref 7), some (.int x), none] [] (n, sl, t, I, J, F) Q ↔ Q none (n, sl, t, am_ro (am_ro I 7 (upd (I 7) 1 (nI (m + 4)))) 8 (b4 (I 8) m x), J, F) := by
  obtain ⟨hn, hn2, ht, hF⟩ := id hW
  have a1 : nI 24 + -nI 8 = nI 16 := by decide
  have a2 : nI 16 + -nI 8 = nI 8 := by decide
  have a3 : nI 8 + -nI 8 = nI 0 := by decide
  have a4 : (nI 0 + -nI 8 < 0) = True := eq_true (by decide)
  simp only [↓r33_0, ↓r33_2, ps_lit, am_k_i, Nat.reduceAdd, Nat.reduceMul, Nat.reduceLT, Nat.reduceLeDiff, Nat.reduceEqDiff, Nat.reduceSub]
  rw [c_add1 (s := 24) hW (by omega) hl (by decide), a1, c_add1 (m := m + 1) (s := 16) hW (by omega) (by rw [pu_rne (by decide), pu_req, pu_eq]) (by decide), a2, c_add1 (m := m + 2) (s := 8) hW (by omega) (by rw [pu_rne (by decide), pu_req, pu_eq]) (by decide), a3, c_add1 (m := m + 3) (s := 0) hW (by omega) (by rw [pu_rne (by decide), pu_req, pu_eq]) (by decide), r33_3]
  simp only [↓r33_4, ↓r33_7, ↓r33_8, ↓r33_11, ↓r33_14, ↓r33_17, ↓r33_18, ↓r33_21, ↓r33_22, ↓r33_25, ↓r33_26, ↓r33_27, ↓r33_28, ↓r33_29, ↓r33_29z, ↓r33_30, ↓r33_31, ↓r33_31r, ↓r33_32, ↓r33_35, ↓r33_36, ↓r33_37, ↓r33_40, ↓r33_43, ↓r33_46, a4, pu_rol, pu_ror, pu_uu, pu_rne, pu_req, b4_e, Nat.add_assoc, Bool.false_eq_true, hn, hn2, ht, hF, am_wt, am_wf, Option.isSome_some, am_rf_s, am_rf_n, ps_lit, nI_add, nI_1, pk_mul, ps_cl, ps_neg, ps_c0, ps_c1, ps_n01, ps_n11, ps_10, ps_b01, ps_e0, pu_Ine, pu_Ieq, pu_ne, pu_eq, am_k_n, am_k_i, am_k_r, am_k_u, am_k_l, am_sz_0, am_sz_i, am_sz_r, am_sz_u, am_sz_l, Option.toList_some, Option.toList_none, List.cons_append, List.nil_append, true_and, and_true, or_false, false_or, or_self, or_true, true_or, not_false_eq_true, not_true_eq_false, Classical.not_not, ne_eq, ps_e1, ps_em, ps_z, Nat.not_le, false_implies, true_implies, forall_const, ps_01, ps_1n, ps_0n, ps_m10, ps_m1n, lg_cmp_gt, lg_cmp_ge, lg_cmp_le, lg_cmp_lt, lg_cmp_eq, pu_rne, pu_req, pu_uro, RFc_n, Nat.reduceAdd, Nat.reduceMul, Nat.reduceLT, Nat.reduceLeDiff, Nat.reduceEqDiff, Nat.reduceSub]
theorem c_addx {x : Int32} (hW : WS n t F) (h1 : I 7 1 = nI (I 7 1).toNatClampNeg) (hm : (I 7 1).toNatClampNeg + 4 ≤ 400) : am_W X d 33 0 [some (.ref 7), some (.int x), none] [] (n, sl, t, I, J, F) Q ↔ Q none (n, sl, t, am_ro (am_ro I 7 (upd (I 7) 1 (nI ((I 7 1).toNatClampNeg + 4)))) 8 (b4 (I 8) (I 7 1).toNatClampNeg x), J, F) := c_add hW hm h1
/-- what 20 bytes are fed -/
def fd5 (a b c e f : Int32) : Nat → Int32 := fun j => match j with
  | 0 => a
  | 1 => b
  | 2 => c
  | 3 => e
  | _ => f
def fdB (r : Nat → Int32) (m j : Nat) (g : Nat → Int32) : Nat → Int32 := fun i => if m ≤ i ∧ i < m + j then byC (g ((i - m) / 4)) (24 - 8 * ((i - m) % 4)) else r i
theorem l_feed {m : Nat} {a b c e f : Int32} (hW : WS n t F) (hm : m + 20 ≤ 400) (hl : I 47 8 = nI m) : ∀ k j, j + k = 20 → (am_W X d 193 55 [some (.ref 47), some (.int a), some (.int b), some (.int c), some (.int e), some (.int f), some (.int (nI j))] [] (n, sl, t, am_ro I 53 (fdB (I 53) m j (I 54)), J, F) Q ↔ Q (some (.int (nI (m + 20)))) (n, sl, t, am_uI (am_ro I 53 (fdB (I 53) m 20 (I 54))) 47 8 (nI (m + 20)), J, F)) := by
  obtain ⟨hn, hn2, ht, hF⟩ := id hW
  intro k
  induction k with
  | zero =>
    intro j hj
    obtain rfl : j = 20 := by omega
    rw [r193_55]
    simp only [↓r193_0, ↓r193_1, ↓r193_4, ↓r193_6, ↓r193_7, ↓r193_10, ↓r193_13, ↓r193_14, ↓r193_15, ↓r193_16, ↓r193_19, ↓r193_20, ↓r193_21, ↓r193_22, ↓r193_23, ↓r193_26, ↓r193_27, ↓r193_28, ↓r193_29, ↓r193_30, ↓r193_33, ↓r193_34, ↓r193_35, ↓r193_36, ↓r193_37, ↓r193_40, ↓r193_41, ↓r193_43, ↓r193_44, ↓r193_45, ↓r193_48, ↓r193_49, ↓r193_51, ↓r193_52, ↓r193_53, ↓r193_57, ↓r193_59, ↓r193_62, ↓r193_63, ↓r193_66, ↓r193_67, ↓r193_70, ↓r193_72, ↓r193_73, ↓r193_74, ↓r193_77, ↓r193_79, ↓r193_80, ↓r193_81, ↓r193_81k, ↓r193_82, ↓r193_84, ↓r193_86, ↓r193_88, ↓r193_89, ↓r193_90, ↓r193_91, ↓r193_92, ↓r193_93, ↓r193_94, ↓r193_94z, ↓r193_95, ↓r193_98, ↓r193_101, ↓r193_102, ↓r193_102r, ↓r193_103, ↓r193_106, ↓r193_108, ↓r193_109, ↓r193_112, ↓r193_113, ↓r193_116, hl, Int32.le_refl, Bool.false_eq_true, hn, hn2, ht, hF, am_wt, am_wf, Option.isSome_some, am_rf_s, am_rf_n, ps_lit, nI_add, nI_1, pk_mul, ps_cl, ps_neg, ps_c0, ps_c1, ps_n01, ps_n11, ps_10, ps_b01, ps_e0, pu_Ine, pu_Ieq, pu_ne, pu_eq, am_k_n, am_k_i, am_k_r, am_k_u, am_k_l, am_sz_0, am_sz_i, am_sz_r, am_sz_u, am_sz_l, Option.toList_some, Option.toList_none, List.cons_append, List.nil_append, true_and, and_true, or_false, false_or, or_self, or_true, true_or, not_false_eq_true, not_true_eq_false, Classical.not_not, ne_eq, ps_e1, ps_em, ps_z, Nat.not_le, false_implies, true_implies, forall_const, ps_01, ps_1n, ps_0n, ps_m10, ps_m1n, lg_cmp_gt, lg_cmp_ge, lg_cmp_le, lg_cmp_lt, lg_cmp_eq, pu_rne, pu_req, pu_uro, RFc_n, Nat.reduceAdd, Nat.reduceMul, Nat.reduceLT, Nat.reduceLeDiff, Nat.reduceEqDiff, Nat.reduceSub]
  | succ k ih =>
    intro j hj
    rw [r193_55]
    have e1 : ¬ nI 20 ≤ nI j := nI_ge (by omega) (by decide)
    have e2 : ¬ nI 4 = 0 := by decide
    have e3 : nI j / nI 4 = nI (j / 4) := pk_div (by omega) (by decide) (by decide)
    have e4 : nI j - nI (j / 4) * nI 4 = nI (j % 4) := by
      rw [← e3]
      exact pk_rem (by omega) (by decide) (by decide)
    have e5 : nI 24 - nI (8 * (j % 4)) = nI (24 - 8 * (j % 4)) := pk_sub (by omega)
    have z1 : m + j < 2000000 := by omega
    have z2 : m + j < 400 := by omega
    have z3 : j / 4 < 2000000 := by omega
    have z4 : j / 4 < 5 := by omega
    have e6 : upd (fdB (I 53) m j (I 54)) (m + j) (byC (I 54 (j / 4)) (24 - 8 * (j % 4))) = fdB (I 53) m (j + 1) (I 54) := by
      funext i
      unfold upd fdB
      by_cases h1 : i = m + j
      · subst h1
        rw [if_pos rfl, if_pos (by omega), Nat.add_sub_cancel_left]
      · rw [if_neg h1]
        by_cases h2 : m ≤ i ∧ i < m + j
        · rw [if_pos h2, if_pos (by omega)]
        · rw [if_neg h2, if_neg (by omega)]
    have e4' : nI j - nI (j / 4 * 4) = nI (j % 4) := by
      rw [← pk_mul]
      exact e4
    have e7 := ih (j + 1) (by omega)
    rw [← e6] at e7
    unfold byC at e7
    simp only [↓r193_0, ↓r193_1, ↓r193_4, ↓r193_6, ↓r193_7, ↓r193_10, ↓r193_13, ↓r193_14, ↓r193_15, ↓r193_16, ↓r193_19, ↓r193_20, ↓r193_21, ↓r193_22, ↓r193_23, ↓r193_26, ↓r193_27, ↓r193_28, ↓r193_29, ↓r193_30, ↓r193_33, ↓r193_34, ↓r193_35, ↓r193_36, ↓r193_37, ↓r193_40, ↓r193_41, ↓r193_43, ↓r193_44, ↓r193_45, ↓r193_48, ↓r193_49, ↓r193_51, ↓r193_52, ↓r193_53, ↓r193_57, ↓r193_59, ↓r193_62, ↓r193_63, ↓r193_66, ↓r193_67, ↓r193_70, ↓r193_72, ↓r193_73, ↓r193_74, ↓r193_77, ↓r193_79, ↓r193_80, ↓r193_81, ↓r193_81k, ↓r193_82, ↓r193_84, ↓r193_86, ↓r193_88, ↓r193_89, ↓r193_90, ↓r193_91, ↓r193_92, ↓r193_93, ↓r193_94, ↓r193_94z, ↓r193_95, ↓r193_98, ↓r193_101, ↓r193_102, ↓r193_102r, ↓r193_103, ↓r193_106, ↓r193_108, ↓r193_109, ↓r193_112, ↓r193_113, ↓r193_116, hl, e1, e2, e3, e4, e4', e5, z1, z2, z3, z4, Int8.toInt8_toInt32, Bool.false_eq_true, hn, hn2, ht, hF, am_wt, am_wf, Option.isSome_some, am_rf_s, am_rf_n, ps_lit, nI_add, nI_1, pk_mul, ps_cl, ps_neg, ps_c0, ps_c1, ps_n01, ps_n11, ps_10, ps_b01, ps_e0, pu_Ine, pu_Ieq, pu_ne, pu_eq, am_k_n, am_k_i, am_k_r, am_k_u, am_k_l, am_sz_0, am_sz_i, am_sz_r, am_sz_u, am_sz_l, Option.toList_some, Option.toList_none, List.cons_append, List.nil_append, true_and, and_true, or_false, false_or, or_self, or_true, true_or, not_false_eq_true, not_true_eq_false, Classical.not_not, ne_eq, ps_e1, ps_em, ps_z, Nat.not_le, false_implies, true_implies, forall_const, ps_01, ps_1n, ps_0n, ps_m10, ps_m1n, lg_cmp_gt, lg_cmp_ge, lg_cmp_le, lg_cmp_lt, lg_cmp_eq, pu_rne, pu_req, pu_uro, RFc_n, Nat.reduceAdd, Nat.reduceMul, Nat.reduceLT, Nat.reduceLeDiff, Nat.reduceEqDiff, Nat.reduceSub]
    exact e7
theorem l_feed0 {m : Nat} {a b c e f : Int32} (hW : WS n t F) (hm : m + 20 ≤ 400) (hl : I 47 8 = nI m) : am_W X d 193 55 [some (.ref 47), some (.int a), some (.int b), some (.int c), some (.int e), some (.int f), some (.int 0)] [] (n, sl, t, I, J, F) Q ↔ Q (some (.int (nI (m + 20)))) (n, sl, t, am_uI (am_ro I 53 (fdB (I 53) m 20 (I 54))) 47 8 (nI (m + 20)), J, F) := by
  have h := l_feed (X := X) (d := d) (Q := Q) (sl := sl) (J := J) (a := a) (b := b) (c := c) (e := e) (f := f) hW hm hl 20 0 rfl
  have q : fdB (I 53) m 0 (I 54) = I 53 := by
    funext i
    unfold fdB
    rw [if_neg (by omega)]
  rw [q, pu_roI] at h
  exact h
theorem fd_eq {r r' : Nat → Int32} {m : Nat} {a b c e f : Int32} {g : Nat → Int32} (hg : ∀ j, j < 5 → g j = fd5 a b c e f j) (hr : ∀ j, j < m → r j = r' j) : ∀ j, j < m + 20 → b4 (b4 (b4 (b4 (b4 r m a) (m + 4) b) (m + 8) c) (m + 12) e) (m + 16) f j = fdB r' m 20 g j := by
  intro j hj
  by_cases h0 : j < m
  · unfold b4 fdB
    rw [if_neg (by omega), if_neg (by omega), if_neg (by omega), if_neg (by omega), if_neg (by omega), if_neg (by omega)]
    exact hr j h0
  · obtain ⟨q, rfl⟩ : ∃ q, j = m + q := ⟨j - m, by omega⟩
    have hq : q < 20 := by omega
    unfold fdB
    rw [if_pos (by omega), Nat.add_sub_cancel_left, hg _ (by omega)]
    unfold b4
    by_cases h1 : q < 4
    · rw [if_neg (by omega), if_neg (by omega), if_neg (by omega), if_neg (by omega), if_pos (by omega), show q / 4 = 0 by omega, show q % 4 = m + q - m by omega]
      rfl
    · by_cases h2 : q < 8
      · rw [if_neg (by omega), if_neg (by omega), if_neg (by omega), if_pos (by omega), show q / 4 = 1 by omega, show q % 4 = m + q - (m + 4) by omega]
        rfl
      · by_cases h3 : q < 12
        · rw [if_neg (by omega), if_neg (by omega), if_pos (by omega), show q / 4 = 2 by omega, show q % 4 = m + q - (m + 8) by omega]
          rfl
        · by_cases h4 : q < 16
          · rw [if_neg (by omega), if_pos (by omega), show q / 4 = 3 by omega, show q % 4 = m + q - (m + 12) by omega]
            rfl
          · rw [if_pos (by omega), show q / 4 = 4 by omega, show q % 4 = m + q - (m + 16) by omega]
            rfl
theorem byC_8 (x : Int32) (s : Nat) : (byC x s).toInt8.toInt32 = byC x s := by
  unfold byC
  rw [Int8.toInt8_toInt32]
theorem fdB_8 {r : Nat → Int32} {m : Nat} {g : Nat → Int32} (h : ∀ j, j < m → (r j).toInt8.toInt32 = r j) : ∀ j, j < m + 20 → (fdB r m 20 g j).toInt8.toInt32 = fdB r m 20 g j := by
  intro j hj
  unfold fdB
  by_cases h0 : m ≤ j ∧ j < m + 20
  · rw [if_pos h0]; exact byC_8 _ _
  · rw [if_neg h0]; exact h j (by omega)
theorem pr_feed {a b c e f : Int32} {i : Nat} (hX : XS X) (hi : i < 600) (hV : Inv i (n, sl, t, I, J, F)) : PR X i 31 193 [some (.ref 0), some (.int a), some (.int b), some (.int c), some (.int e), some (.int f)] [some (.ref 47), some (.int a), some (.int b), some (.int c), some (.int e), some (.int f), none] (n, sl, t, I, J, F) := by
  unfold PR
  have hW : WS n t F := hV.1
  obtain ⟨hn, hn2, ht, hF⟩ := id hW
  have hKR : KR (I 1 4) (I 1 5) (I 2) (I 3) (I 4) (I 49) := hV.2.2.1
  obtain ⟨N, T, ⟨hN, hT, hKN, hKT, hRW, hTW⟩, hs, hc, hr, hu, hm⟩ := id hKR
  have hTP : TP (I 7 1) (I 8) (I 47 8) (I 53) := hV.2.2.2.2.2.1
  obtain ⟨m, hm4, e1, e2, e3⟩ := id hTP
  by_cases h20 : m + 20 ≤ 400
  · have q1 : ¬ nI 400 < nI (m + 20) := nI_nlt h20 (by decide)
    have q2 : nI (m + 20) ≤ nI 400 := nI_le h20 (by decide)
    have z : m < 2000000 ∧ m + 4 < 2000000 ∧ m + 8 < 2000000 ∧ m + 12 < 2000000 ∧ m + 16 < 2000000 ∧ m < 1999996 ∧ m < 1999992 ∧ m < 1999988 ∧ m < 1999984 := by omega
    have z2 : m + 4 ≤ 400 ∧ m + 8 ≤ 400 ∧ m + 12 ≤ 400 ∧ m + 16 ≤ 400 ∧ m + 20 ≤ 400 ∧ m ≤ 396 ∧ m ≤ 392 ∧ m ≤ 388 ∧ m ≤ 384 ∧ m ≤ 380 := by omega
    simp only [↓r31_0, ↓r31_1, ↓r31_4, ↓r31_6, ↓r31_9, ↓r31_12, ↓r31_13, ↓r31_14, ↓r31_15, ↓r31_18, ↓r31_19, ↓r31_22, ↓r31_23, ↓r31_26, ↓r31_27, ↓r31_30, ↓r31_31, ↓r31_34, ↓r31_35, ↓r31_38, ↓r31_39, ↓r31_42, ↓r31_44, ↓r31_47, ↓r31_48, ↓r31_51, ↓r31_53, ↓r31_56, ↓r31_57, ↓r31_60, ↓r31_63, ↓r32_0, ↓r32_1, ↓r32_4, ↓r32_5, ↓r32_6, ↓r32_9, ↓r32_12, ↓r32_13, ↓r32_16, ↓r32_17, ↓r193_0, ↓r193_1, ↓r193_4, ↓r193_6, ↓r193_7, ↓r193_10, ↓r193_13, ↓r193_14, ↓r193_15, ↓r193_16, ↓r193_19, ↓r193_20, ↓r193_21, ↓r193_22, ↓r193_23, ↓r193_26, ↓r193_27, ↓r193_28, ↓r193_29, ↓r193_30, ↓r193_33, ↓r193_34, ↓r193_35, ↓r193_36, ↓r193_37, ↓r193_40, ↓r193_41, ↓r193_43, ↓r193_44, ↓r193_45, ↓r193_48, ↓r193_49, ↓r193_51, ↓r193_52, ↓r193_53, ↓c_addx, hW, e1, e2, q1, q2, z, z2, Nat.add_assoc, pu_ror, pu_rol, pu_uu, Bool.false_eq_true, hn, hn2, ht, hF, am_wt, am_wf, Option.isSome_some, am_rf_s, am_rf_n, ps_lit, nI_add, nI_1, pk_mul, ps_cl, ps_neg, ps_c0, ps_c1, ps_n01, ps_n11, ps_10, ps_b01, ps_e0, pu_Ine, pu_Ieq, pu_ne, pu_eq, am_k_n, am_k_i, am_k_r, am_k_u, am_k_l, am_sz_0, am_sz_i, am_sz_r, am_sz_u, am_sz_l, Option.toList_some, Option.toList_none, List.cons_append, List.nil_append, true_and, and_true, or_false, false_or, or_self, or_true, true_or, not_false_eq_true, not_true_eq_false, Classical.not_not, ne_eq, ps_e1, ps_em, ps_z, Nat.not_le, false_implies, true_implies, forall_const, ps_01, ps_1n, ps_0n, ps_m10, ps_m1n, lg_cmp_gt, lg_cmp_ge, lg_cmp_le, lg_cmp_lt, lg_cmp_eq, pu_rne, pu_req, pu_uro, RFc_n, Nat.reduceAdd, Nat.reduceMul, Nat.reduceLT, Nat.reduceLeDiff, Nat.reduceEqDiff, Nat.reduceSub]
    refine ⟨_, rfl, ?_⟩
    rw [l_feed0 (m := m) hW h20 (by exact e2)]
    refine ⟨rfl, ?_⟩
    refine Inv_up hV hi (fun _ _ _ => rfl) ?_ id id id (fun _ => ?_) rfl id (fun _ _ => rfl) rfl rfl
    · exact FR_u (by decide) (FR_o (by decide) (FR_u (by decide) (FR_u (by decide) (FR_u (by decide) (FR_u (by decide) (FR_u (by decide) (FR_o (by decide) (FR_o (by decide) (FR_r I)))))))))
    · refine ⟨m + 20, h20, ?_, ?_, fun j hj => ⟨?_, ?_⟩⟩
      · simp only [pu_Ine, pu_rne, pu_req, pu_eq, ne_eq, not_false_eq_true, Nat.reduceAdd, Nat.reduceMul, Nat.reduceLT, Nat.reduceLeDiff, Nat.reduceEqDiff, Nat.reduceSub]
      · simp only [pu_Ieq, pu_eq]
      · simp only [pu_Ine, pu_rne, pu_req, ne_eq, not_false_eq_true, Nat.reduceAdd, Nat.reduceMul, Nat.reduceLT, Nat.reduceLeDiff, Nat.reduceEqDiff, Nat.reduceSub]
        refine fd_eq (a := a) (b := b) (c := c) (e := e) (f := f) (fun j hj => ?_) (fun j hj => (e3 j hj).1) j hj
        match j, hj with
        | 0, _ => rfl
        | 1, _ => rfl
        | 2, _ => rfl
        | 3, _ => rfl
        | 4, _ => rfl
      · simp only [pu_Ine, pu_rne, pu_req, ne_eq, not_false_eq_true, Nat.reduceAdd, Nat.reduceMul, Nat.reduceLT, Nat.reduceLeDiff, Nat.reduceEqDiff, Nat.reduceSub]
        exact fdB_8 (fun j hj => (e3 j hj).2) j hj
  · have q1 : nI 400 < nI (m + 20) := nI_lt (by omega) (by omega)
    have q2 : ¬ nI (m + 20) ≤ nI 400 := nI_ge (by omega) (by omega)
    simp only [↓r31_0, ↓r31_1, ↓r31_4, ↓r31_6, ↓r31_9, ↓r31_12, ↓r31_13, ↓r31_14, ↓r31_15, ↓r31_18, ↓r31_19, ↓r31_22, ↓r31_23, ↓r31_26, ↓r31_27, ↓r31_30, ↓r31_31, ↓r31_34, ↓r31_35, ↓r31_38, ↓r31_39, ↓r31_42, ↓r31_44, ↓r31_47, ↓r31_48, ↓r31_51, ↓r31_53, ↓r31_56, ↓r31_57, ↓r31_60, ↓r31_63, ↓r32_0, ↓r32_1, ↓r32_4, ↓r32_5, ↓r32_6, ↓r32_9, ↓r32_12, ↓r32_13, ↓r32_16, ↓r32_17, ↓r193_0, ↓r193_1, ↓r193_4, ↓r193_6, ↓r193_7, ↓r193_10, ↓r193_13, ↓r193_14, ↓r193_15, ↓r193_16, ↓r193_19, ↓r193_20, ↓r193_21, ↓r193_22, ↓r193_23, ↓r193_26, ↓r193_27, ↓r193_28, ↓r193_29, ↓r193_30, ↓r193_33, ↓r193_34, ↓r193_35, ↓r193_36, ↓r193_37, ↓r193_40, ↓r193_41, ↓r193_43, ↓r193_44, ↓r193_45, ↓r193_48, ↓r193_49, ↓r193_51, ↓r193_52, ↓r193_53, ↓r193_55, ↓r193_57, ↓r193_59, ↓r193_62, ↓r193_63, ↓r193_66, ↓r193_67, ↓r193_70, ↓r193_72, ↓r193_73, ↓r193_74, ↓r193_77, ↓r193_79, ↓r193_80, ↓r193_81, ↓r193_81k, ↓r193_82, ↓r193_84, ↓r193_86, ↓r193_88, ↓r193_89, ↓r193_90, ↓r193_91, ↓r193_92, ↓r193_93, ↓r193_94, ↓r193_94z, ↓r193_95, ↓r193_98, ↓r193_101, ↓r193_102, ↓r193_102r, ↓r193_103, ↓r193_106, ↓r193_108, ↓r193_109, ↓r193_112, ↓r193_113, ↓r193_116, hW, e1, e2, q1, q2, Bool.false_eq_true, hn, hn2, ht, hF, am_wt, am_wf, Option.isSome_some, am_rf_s, am_rf_n, ps_lit, nI_add, nI_1, pk_mul, ps_cl, ps_neg, ps_c0, ps_c1, ps_n01, ps_n11, ps_10, ps_b01, ps_e0, pu_Ine, pu_Ieq, pu_ne, pu_eq, am_k_n, am_k_i, am_k_r, am_k_u, am_k_l, am_sz_0, am_sz_i, am_sz_r, am_sz_u, am_sz_l, Option.toList_some, Option.toList_none, List.cons_append, List.nil_append, true_and, and_true, or_false, false_or, or_self, or_true, true_or, not_false_eq_true, not_true_eq_false, Classical.not_not, ne_eq, ps_e1, ps_em, ps_z, Nat.not_le, false_implies, true_implies, forall_const, ps_01, ps_1n, ps_0n, ps_m10, ps_m1n, lg_cmp_gt, lg_cmp_ge, lg_cmp_le, lg_cmp_lt, lg_cmp_eq, pu_rne, pu_req, pu_uro, RFc_n, Nat.reduceAdd, Nat.reduceMul, Nat.reduceLT, Nat.reduceLeDiff, Nat.reduceEqDiff, Nat.reduceSub]
    exact ⟨_, rfl, rfl, Inv_sc hV hi (fun _ _ _ => rfl) (SC_r I)⟩
end FE
