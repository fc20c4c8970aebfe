/-! sets of facts; calls, one on each side: hides -/
section BI
variable {X : am_X} {d : Nat} {Q : Option Value → am_H → Prop} {n sl : Nat} {t : Nat → Nat × Nat} {I : Nat → Nat → Int32} {J : Nat → Nat → Int64} {F : Nat → Nat → Option Nat} {h : am_H}
variable {K : Nat → Int32} {N T : Nat} {lw : Nat → List CL}
theorem nI_or (a b : Nat) : nI a ||| nI b = nI (a ||| b) := by
  apply Int32.toBitVec_inj.mp
  apply BitVec.eq_of_toNat_eq
  show (BitVec.ofNat 32 a ||| BitVec.ofNat 32 b).toNat = (BitVec.ofNat 32 (a ||| b)).toNat
  rw [BitVec.toNat_or, BitVec.toNat_ofNat, BitVec.toNat_ofNat, BitVec.toNat_ofNat, Nat.or_mod_two_pow]
theorem nI_and (a b : Nat) : nI a &&& nI b = nI (a &&& b) := by
  apply Int32.toBitVec_inj.mp
  apply BitVec.eq_of_toNat_eq
  show (BitVec.ofNat 32 a &&& BitVec.ofNat 32 b).toNat = (BitVec.ofNat 32 (a &&& b)).toNat
  rw [BitVec.toNat_and, BitVec.toNat_ofNat, BitVec.toNat_ofNat, BitVec.toNat_ofNat, Nat.and_mod_two_pow]
theorem nI_xor (a b : Nat) : nI a ^^^ nI b = nI (a ^^^ b) := by
  apply Int32.toBitVec_inj.mp
  apply BitVec.eq_of_toNat_eq
  show (BitVec.ofNat 32 a ^^^ BitVec.ofNat 32 b).toNat = (BitVec.ofNat 32 (a ^^^ b)).toNat
  rw [BitVec.toNat_xor, BitVec.toNat_ofNat, BitVec.toNat_ofNat, BitVec.toNat_ofNat, Nat.xor_mod_two_pow]
theorem sh1 {j : Nat} (h : j < 8) : (1 : Int32) <<< (nI j &&& nI 31) = nI (2 ^ j) := by
  match j, h with
  | 0, _ => decide
  | 1, _ => decide
  | 2, _ => decide
  | 3, _ => decide
  | 4, _ => decide
  | 5, _ => decide
  | 6, _ => decide
  | 7, _ => decide
/-- the set of the first j that have p -/
def bN (p : Nat → Bool) : Nat → Nat
  | 0 => 0
  | j + 1 => bN p j ||| (if p j = true then 2 ^ j else 0)
theorem bN_t (p : Nat → Bool) (i : Nat) : ∀ j, (bN p j).testBit i = (decide (i < j) && p i) := by
  intro j
  induction j with
  | zero => simp [bN]
  | succ j ih =>
    rw [bN, Nat.testBit_or, ih]
    by_cases hp : p j = true
    · rw [if_pos hp, Nat.testBit_two_pow]
      by_cases h : j = i
      · subst h
        simp [hp]
      · have e : (i < j + 1) ↔ (i < j) := by omega
        simp [h, e]
    · rw [if_neg hp, Nat.zero_testBit, Bool.or_false]
      by_cases h : i = j
      · subst h
        simp at hp
        simp [hp]
      · have e : (i < j + 1) ↔ (i < j) := by omega
        simp [e]
theorem bN_lt (p : Nat → Bool) (j : Nat) : bN p j < 2 ^ j := by
  apply Nat.lt_pow_two_of_testBit
  intro i hi
  rw [bN_t]
  simp
  omega
theorem bN_c {p q : Nat → Bool} : ∀ j, (∀ i, i < j → p i = q i) → bN p j = bN q j := by
  intro j
  induction j with
  | zero => intro _; rfl
  | succ j ih =>
    intro h
    rw [bN, bN, ih (fun i hi => h i (by omega)), h j (by omega)]
/-- alike in all facts of a set, told by the facts that are alike, or by those that are not -/
theorem bN_al (p : Nat → Bool) {m : Nat} (hm : m < 256) : (bN p 8 &&& m = m) = (bN (fun i => !p i) 8 &&& m = 0) := by
  have hm' : ∀ i, 8 ≤ i → m.testBit i = false := fun i hi => Nat.testBit_lt_two_pow (Nat.lt_of_lt_of_le hm (by rw [show (256 : Nat) = 2 ^ 8 from rfl]; exact Nat.pow_le_pow_right (by decide) hi))
  apply propext
  constructor
  · intro h
    apply Nat.eq_of_testBit_eq
    intro i
    have := congrArg (fun x => x.testBit i) h
    rw [Nat.testBit_and, bN_t] at this
    rw [Nat.testBit_and, bN_t, Nat.zero_testBit]
    by_cases hi : i < 8
    · simp [hi] at this ⊢
      cases hp : p i <;> cases hq : m.testBit i <;> simp_all
    · rw [hm' i (by omega), Bool.and_false]
  · intro h
    apply Nat.eq_of_testBit_eq
    intro i
    have := congrArg (fun x => x.testBit i) h
    rw [Nat.testBit_and, bN_t, Nat.zero_testBit] at this
    rw [Nat.testBit_and, bN_t]
    by_cases hi : i < 8
    · simp [hi] at this ⊢
      cases hp : p i <;> cases hq : m.testBit i <;> simp_all
    · rw [hm' i (by omega), Bool.and_false]
/-- facts that are no causes -/
def ncs (K : Nat → Int32) : Nat → Nat := bN (fun f => !decide (K (1800 + f) = 0))
theorem k_noCauses (hW : WS n t F) (hm : ∀ j, j < 8 → I 4 j = K (1800 + j)) : am_W X d 131 0 [some (.ref 0), none, none] [] (n, sl, t, I, J, F) Q ↔ Q (some (.int (nI (ncs K 8)))) (n, sl, t, I, J, F) := by
  obtain ⟨hn, hn2, ht, hF⟩ := id hW
  have hx : am_W X d 131 4 [some (.ref 0), some (.int 0), some (.int 0)] [] (n, sl, t, I, J, F) Q ↔ Q (some (.int (nI (ncs K 8)))) (n, sl, t, I, J, F) := by
    refine lp0 (A := fun k => am_W X d 131 4 [some (.ref 0), some (.int (nI (ncs K k))), some (.int (nI k))] [] (n, sl, t, I, J, F) Q ↔ Q (some (.int (nI (ncs K 8)))) (n, sl, t, I, J, F)) (N := 8) ?_ ?_
    · intro k hk ih
      have z1 : k < 2000000 ∧ k < 8 := by omega
      have z2 : ¬ 8 ≤ k := by omega
      have e0 := hm k hk
      have e1 := sh1 hk
      rw [r131_4]
      by_cases h : K (1800 + k) = 0
      · have e2 : ncs K (k + 1) = ncs K k := by
          unfold ncs
          rw [bN, if_neg (by simp [h]), Nat.or_zero]
        rw [e2] at ih
        simp only [↓r131_5, ↓r131_7, ↓r131_10, ↓r131_11, ↓r131_14, ↓r131_17, ↓r131_18, ↓r131_18k, ↓r131_19, ↓r131_22, ↓r131_23, ↓r131_24, ↓r131_25, ↓r131_26, ↓r131_27, ↓r131_28, ↓r131_31, q_le, q_lt, q_eq, q_e0, q_e1, q_0e, q_1e, ps_n0, q_0le, q_le0, q_0lt, q_m1e, q_em1, e0, e1, h, z1, z2, Bool.false_eq_true, hn, hn2, ht, hF, am_wt, am_wf, Option.isSome_some, am_rf_s, am_rf_n, ps_lit, nI_add, nI_1, pk_mul, ps_cl, ps_neg, ps_c0, ps_c1, ps_n01, ps_n11, ps_10, ps_b01, ps_e0, pu_Ine, pu_Ieq, pu_ne, pu_eq, am_k_n, am_k_i, am_k_r, am_k_u, am_k_l, am_sz_0, am_sz_i, am_sz_r, am_sz_u, am_sz_l, Option.toList_some, Option.toList_none, List.cons_append, List.nil_append, true_and, and_true, or_false, false_or, or_self, or_true, true_or, not_false_eq_true, not_true_eq_false, Classical.not_not, ne_eq, ps_e1, ps_em, ps_z, Nat.not_le, false_implies, true_implies, forall_const, ps_01, ps_1n, ps_0n, ps_m10, ps_m1n, lg_cmp_gt, lg_cmp_ge, lg_cmp_le, lg_cmp_lt, lg_cmp_eq, pu_rne, pu_req, pu_uro, RFc_n, Nat.reduceAdd, Nat.reduceMul, Nat.reduceLT, Nat.reduceLeDiff, Nat.reduceEqDiff, Nat.reduceSub]
        exact ih
      · have e2 : ncs K (k + 1) = ncs K k ||| 2 ^ k := by
          unfold ncs
          rw [bN, if_pos (by simp [h])]
        rw [e2] at ih
        simp only [↓r131_5, ↓r131_7, ↓r131_10, ↓r131_11, ↓r131_14, ↓r131_17, ↓r131_18, ↓r131_18k, ↓r131_19, ↓r131_22, ↓r131_23, ↓r131_24, ↓r131_25, ↓r131_26, ↓r131_27, ↓r131_28, ↓r131_31, q_le, q_lt, q_eq, q_e0, q_e1, q_0e, q_1e, ps_n0, q_0le, q_le0, q_0lt, q_m1e, q_em1, e0, e1, h, z1, z2, nI_or, Bool.false_eq_true, hn, hn2, ht, hF, am_wt, am_wf, Option.isSome_some, am_rf_s, am_rf_n, ps_lit, nI_add, nI_1, pk_mul, ps_cl, ps_neg, ps_c0, ps_c1, ps_n01, ps_n11, ps_10, ps_b01, ps_e0, pu_Ine, pu_Ieq, pu_ne, pu_eq, am_k_n, am_k_i, am_k_r, am_k_u, am_k_l, am_sz_0, am_sz_i, am_sz_r, am_sz_u, am_sz_l, Option.toList_some, Option.toList_none, List.cons_append, List.nil_append, true_and, and_true, or_false, false_or, or_self, or_true, true_or, not_false_eq_true, not_true_eq_false, Classical.not_not, ne_eq, ps_e1, ps_em, ps_z, Nat.not_le, false_implies, true_implies, forall_const, ps_01, ps_1n, ps_0n, ps_m10, ps_m1n, lg_cmp_gt, lg_cmp_ge, lg_cmp_le, lg_cmp_lt, lg_cmp_eq, pu_rne, pu_req, pu_uro, RFc_n, Nat.reduceAdd, Nat.reduceMul, Nat.reduceLT, Nat.reduceLeDiff, Nat.reduceEqDiff, Nat.reduceSub]
        exact ih
    · rw [r131_4]
      simp only [↓r131_5, ↓r131_7, ↓r131_34, ↓r131_35, Int32.le_refl, Bool.false_eq_true, hn, hn2, ht, hF, am_wt, am_wf, Option.isSome_some, am_rf_s, am_rf_n, ps_lit, nI_add, nI_1, pk_mul, ps_cl, ps_neg, ps_c0, ps_c1, ps_n01, ps_n11, ps_10, ps_b01, ps_e0, pu_Ine, pu_Ieq, pu_ne, pu_eq, am_k_n, am_k_i, am_k_r, am_k_u, am_k_l, am_sz_0, am_sz_i, am_sz_r, am_sz_u, am_sz_l, Option.toList_some, Option.toList_none, List.cons_append, List.nil_append, true_and, and_true, or_false, false_or, or_self, or_true, true_or, not_false_eq_true, not_true_eq_false, Classical.not_not, ne_eq, ps_e1, ps_em, ps_z, Nat.not_le, false_implies, true_implies, forall_const, ps_01, ps_1n, ps_0n, ps_m10, ps_m1n, lg_cmp_gt, lg_cmp_ge, lg_cmp_le, lg_cmp_lt, lg_cmp_eq, pu_rne, pu_req, pu_uro, RFc_n, Nat.reduceAdd, Nat.reduceMul, Nat.reduceLT, Nat.reduceLeDiff, Nat.reduceEqDiff, Nat.reduceSub]
  rw [← hx]
  simp only [↓r131_0, ↓r131_1, ↓r131_2, ↓r131_3, am_k_i, am_k_r]
theorem m_hides {v : Int32} (hW : WS n t F) (h49 : I 49 = K) : am_W X d 274 17 [some (.ref 47), some (.int v), some (.int 0), some (.int 0)] [] (n, sl, t, I, J, F) Q ↔ Q (some (.int (v &&& nI (ncs K 8)))) (n, sl, t, I, J, F) := by
  obtain ⟨hn, hn2, ht, hF⟩ := id hW
  refine lp0 (A := fun k => am_W X d 274 17 [some (.ref 47), some (.int v), some (.int (nI (ncs K k))), some (.int (nI k))] [] (n, sl, t, I, J, F) Q ↔ Q (some (.int (v &&& nI (ncs K 8)))) (n, sl, t, I, J, F)) (N := 8) ?_ ?_
  · intro k hk ih
    have z1 : k < 2000000 ∧ k < 8 ∧ 1800 + k < 2000000 ∧ 1800 + k < 9823 := by omega
    have z2 : ¬ 8 ≤ k := by omega
    have e1 := sh1 hk
    rw [r274_17]
    by_cases h : K (1800 + k) = 0
    · have e2 : ncs K (k + 1) = ncs K k := by
        unfold ncs
        rw [bN, if_neg (by simp [h]), Nat.or_zero]
      rw [e2] at ih
      simp only [↓r274_18, ↓r274_20, ↓r274_23, ↓r274_24, ↓r274_25, ↓r274_28, ↓r274_31, ↓r274_32, ↓r274_33, ↓r274_33k, ↓r274_34, ↓r274_37, ↓r274_38, ↓r274_39, ↓r274_40, ↓r274_43, ↓r274_44, ↓r274_45, ↓r274_46, ↓r274_49, q_le, q_lt, q_eq, q_e0, q_e1, q_0e, q_1e, ps_n0, q_0le, q_le0, q_0lt, q_m1e, q_em1, h49, e1, h, z1, z2, Int32.or_zero, Bool.false_eq_true, hn, hn2, ht, hF, am_wt, am_wf, Option.isSome_some, am_rf_s, am_rf_n, ps_lit, nI_add, nI_1, pk_mul, ps_cl, ps_neg, ps_c0, ps_c1, ps_n01, ps_n11, ps_10, ps_b01, ps_e0, pu_Ine, pu_Ieq, pu_ne, pu_eq, am_k_n, am_k_i, am_k_r, am_k_u, am_k_l, am_sz_0, am_sz_i, am_sz_r, am_sz_u, am_sz_l, Option.toList_some, Option.toList_none, List.cons_append, List.nil_append, true_and, and_true, or_false, false_or, or_self, or_true, true_or, not_false_eq_true, not_true_eq_false, Classical.not_not, ne_eq, ps_e1, ps_em, ps_z, Nat.not_le, false_implies, true_implies, forall_const, ps_01, ps_1n, ps_0n, ps_m10, ps_m1n, lg_cmp_gt, lg_cmp_ge, lg_cmp_le, lg_cmp_lt, lg_cmp_eq, pu_rne, pu_req, pu_uro, RFc_n, Nat.reduceAdd, Nat.reduceMul, Nat.reduceLT, Nat.reduceLeDiff, Nat.reduceEqDiff, Nat.reduceSub]
      exact ih
    · have e2 : ncs K (k + 1) = ncs K k ||| 2 ^ k := by
        unfold ncs
        rw [bN, if_pos (by simp [h])]
      rw [e2] at ih
      simp only [↓r274_18, ↓r274_20, ↓r274_23, ↓r274_24, ↓r274_25, ↓r274_28, ↓r274_31, ↓r274_32, ↓r274_33, ↓r274_33k, ↓r274_34, ↓r274_37, ↓r274_38, ↓r274_39, ↓r274_40, ↓r274_43, ↓r274_44, ↓r274_45, ↓r274_46, ↓r274_49, q_le, q_lt, q_eq, q_e0, q_e1, q_0e, q_1e, ps_n0, q_0le, q_le0, q_0lt, q_m1e, q_em1, h49, e1, h, z1, z2, nI_or, Bool.false_eq_true, hn, hn2, ht, hF, am_wt, am_wf, Option.isSome_some, am_rf_s, am_rf_n, ps_lit, nI_add, nI_1, pk_mul, ps_cl, ps_neg, ps_c0, ps_c1, ps_n01, ps_n11, ps_10, ps_b01, ps_e0, pu_Ine, pu_Ieq, pu_ne, pu_eq, am_k_n, am_k_i, am_k_r, am_k_u, am_k_l, am_sz_0, am_sz_i, am_sz_r, am_sz_u, am_sz_l, Option.toList_some, Option.toList_none, List.cons_append, List.nil_append, true_and, and_true, or_false, false_or, or_self, or_true, true_or, not_false_eq_true, not_true_eq_false, Classical.not_not, ne_eq, ps_e1, ps_em, ps_z, Nat.not_le, false_implies, true_implies, forall_const, ps_01, ps_1n, ps_0n, ps_m10, ps_m1n, lg_cmp_gt, lg_cmp_ge, lg_cmp_le, lg_cmp_lt, lg_cmp_eq, pu_rne, pu_req, pu_uro, RFc_n, Nat.reduceAdd, Nat.reduceMul, Nat.reduceLT, Nat.reduceLeDiff, Nat.reduceEqDiff, Nat.reduceSub]
      exact ih
  · rw [r274_17]
    simp only [↓r274_18, ↓r274_20, ↓r274_52, ↓r274_53, ↓r274_54, ↓r274_55, Int32.le_refl, Bool.false_eq_true, hn, hn2, ht, hF, am_wt, am_wf, Option.isSome_some, am_rf_s, am_rf_n, ps_lit, nI_add, nI_1, pk_mul, ps_cl, ps_neg, ps_c0, ps_c1, ps_n01, ps_n11, ps_10, ps_b01, ps_e0, pu_Ine, pu_Ieq, pu_ne, pu_eq, am_k_n, am_k_i, am_k_r, am_k_u, am_k_l, am_sz_0, am_sz_i, am_sz_r, am_sz_u, am_sz_l, Option.toList_some, Option.toList_none, List.cons_append, List.nil_append, true_and, and_true, or_false, false_or, or_self, or_true, true_or, not_false_eq_true, not_true_eq_false, Classical.not_not, ne_eq, ps_e1, ps_em, ps_z, Nat.not_le, false_implies, true_implies, forall_const, ps_01, ps_1n, ps_0n, ps_m10, ps_m1n, lg_cmp_gt, lg_cmp_ge, lg_cmp_le, lg_cmp_lt, lg_cmp_eq, pu_rne, pu_req, pu_uro, RFc_n, Nat.reduceAdd, Nat.reduceMul, Nat.reduceLT, Nat.reduceLeDiff, Nat.reduceEqDiff, Nat.reduceSub]
/-- the facts in which two rows are alike, as far as j -/
def alk (f : Nat → Int32) (a b : Nat) : Nat → Nat := bN (fun i => decide (f (15 * a + i) = f (15 * b + i)))
theorem c_alikeFacts {r a b : Nat} (hW : WS n t F) (hr : r = 2 ∨ r = 42) (ha : a < 120) (hb : b < 120) : am_W X (d + 1) 126 0 [some (.ref r), some (.int (nI a)), some (.int (nI b)), none, none, none, none, none] [] (n, sl, t, I, J, F) Q ↔ Q (some (.int (nI (alk (I r) a b 8)))) (n, sl, t, I, J, F) := by
  obtain ⟨hn, hn2, ht, hF⟩ := id hW
  have g1 : r < n := by rcases hr with e | e <;> rw [e] <;> exact hn _ (by decide)
  have g2 : r < 1000000 := by omega
  have g3 : t r = (20, 1800) := by rcases hr with e | e <;> rw [e] <;> exact ht _ (by decide)
  have hx : am_W X (d + 1) 126 47 [some (.ref r), some (.int (nI a)), some (.int (nI b)), some (.int (nI (15 * a))), some (.int (nI (15 * b))), some (.int (nI 1792)), some (.int 0), some (.int 0)] [] (n, sl, t, I, J, F) Q ↔ Q (some (.int (nI (alk (I r) a b 8)))) (n, sl, t, I, J, F) := by
    refine lp0 (A := fun k => am_W X (d + 1) 126 47 [some (.ref r), some (.int (nI a)), some (.int (nI b)), some (.int (nI (15 * a))), some (.int (nI (15 * b))), some (.int (nI 1792)), some (.int (nI (alk (I r) a b k))), some (.int (nI k))] [] (n, sl, t, I, J, F) Q ↔ Q (some (.int (nI (alk (I r) a b 8)))) (n, sl, t, I, J, F)) (N := 8) ?_ ?_
    · intro k hk ih
      have z1 : k < 2000000 ∧ 15 * a + k < 2000000 ∧ 15 * b + k < 2000000 ∧ 15 * a + k < 1800 ∧ 15 * b + k < 1800 := by omega
      have z2 : ¬ 8 ≤ k := by omega
      have e1 := sh1 hk
      rw [r126_47]
      by_cases h : I r (15 * a + k) = I r (15 * b + k)
      · have e2 : alk (I r) a b (k + 1) = alk (I r) a b k ||| 2 ^ k := by
          unfold alk
          rw [bN, if_pos (by simp [h])]
        rw [e2] at ih
        simp only [↓r126_49, ↓r126_51, ↓r126_54, ↓r126_54n, ↓r126_55, ↓r126_56, ↓r126_58, ↓r126_59, ↓r126_59k, ↓r126_60, ↓r126_60n, ↓r126_61, ↓r126_63, ↓r126_65, ↓r126_66, ↓r126_66k, ↓r126_67, ↓r126_70, ↓r126_72, ↓r126_73, ↓r126_75, ↓r126_76, ↓r126_77, ↓r126_79, ↓r126_82, q_le, q_lt, q_eq, q_e0, q_e1, q_0e, q_1e, ps_n0, q_0le, q_le0, q_0lt, q_m1e, q_em1, g1, g2, g3, e1, h, z1, z2, nI_or, Bool.false_eq_true, hn, hn2, ht, hF, am_wt, am_wf, Option.isSome_some, am_rf_s, am_rf_n, ps_lit, nI_add, nI_1, pk_mul, ps_cl, ps_neg, ps_c0, ps_c1, ps_n01, ps_n11, ps_10, ps_b01, ps_e0, pu_Ine, pu_Ieq, pu_ne, pu_eq, am_k_n, am_k_i, am_k_r, am_k_u, am_k_l, am_sz_0, am_sz_i, am_sz_r, am_sz_u, am_sz_l, Option.toList_some, Option.toList_none, List.cons_append, List.nil_append, true_and, and_true, or_false, false_or, or_self, or_true, true_or, not_false_eq_true, not_true_eq_false, Classical.not_not, ne_eq, ps_e1, ps_em, ps_z, Nat.not_le, false_implies, true_implies, forall_const, ps_01, ps_1n, ps_0n, ps_m10, ps_m1n, lg_cmp_gt, lg_cmp_ge, lg_cmp_le, lg_cmp_lt, lg_cmp_eq, pu_rne, pu_req, pu_uro, RFc_n, Nat.reduceAdd, Nat.reduceMul, Nat.reduceLT, Nat.reduceLeDiff, Nat.reduceEqDiff, Nat.reduceSub]
        exact ih
      · have e2 : alk (I r) a b (k + 1) = alk (I r) a b k := by
          unfold alk
          rw [bN, if_neg (by simp [h]), Nat.or_zero]
        rw [e2] at ih
        simp only [↓r126_49, ↓r126_51, ↓r126_54, ↓r126_54n, ↓r126_55, ↓r126_56, ↓r126_58, ↓r126_59, ↓r126_59k, ↓r126_60, ↓r126_60n, ↓r126_61, ↓r126_63, ↓r126_65, ↓r126_66, ↓r126_66k, ↓r126_67, ↓r126_70, ↓r126_72, ↓r126_73, ↓r126_75, ↓r126_76, ↓r126_77, ↓r126_79, ↓r126_82, q_le, q_lt, q_eq, q_e0, q_e1, q_0e, q_1e, ps_n0, q_0le, q_le0, q_0lt, q_m1e, q_em1, g1, g2, g3, h, z1, z2, Bool.false_eq_true, hn, hn2, ht, hF, am_wt, am_wf, Option.isSome_some, am_rf_s, am_rf_n, ps_lit, nI_add, nI_1, pk_mul, ps_cl, ps_neg, ps_c0, ps_c1, ps_n01, ps_n11, ps_10, ps_b01, ps_e0, pu_Ine, pu_Ieq, pu_ne, pu_eq, am_k_n, am_k_i, am_k_r, am_k_u, am_k_l, am_sz_0, am_sz_i, am_sz_r, am_sz_u, am_sz_l, Option.toList_some, Option.toList_none, List.cons_append, List.nil_append, true_and, and_true, or_false, false_or, or_self, or_true, true_or, not_false_eq_true, not_true_eq_false, Classical.not_not, ne_eq, ps_e1, ps_em, ps_z, Nat.not_le, false_implies, true_implies, forall_const, ps_01, ps_1n, ps_0n, ps_m10, ps_m1n, lg_cmp_gt, lg_cmp_ge, lg_cmp_le, lg_cmp_lt, lg_cmp_eq, pu_rne, pu_req, pu_uro, RFc_n, Nat.reduceAdd, Nat.reduceMul, Nat.reduceLT, Nat.reduceLeDiff, Nat.reduceEqDiff, Nat.reduceSub]
        exact ih
    · rw [r126_47]
      simp only [↓r126_49, ↓r126_51, ↓r126_85, ↓r126_87, Int32.le_refl, Bool.false_eq_true, hn, hn2, ht, hF, am_wt, am_wf, Option.isSome_some, am_rf_s, am_rf_n, ps_lit, nI_add, nI_1, pk_mul, ps_cl, ps_neg, ps_c0, ps_c1, ps_n01, ps_n11, ps_10, ps_b01, ps_e0, pu_Ine, pu_Ieq, pu_ne, pu_eq, am_k_n, am_k_i, am_k_r, am_k_u, am_k_l, am_sz_0, am_sz_i, am_sz_r, am_sz_u, am_sz_l, Option.toList_some, Option.toList_none, List.cons_append, List.nil_append, true_and, and_true, or_false, false_or, or_self, or_true, true_or, not_false_eq_true, not_true_eq_false, Classical.not_not, ne_eq, ps_e1, ps_em, ps_z, Nat.not_le, false_implies, true_implies, forall_const, ps_01, ps_1n, ps_0n, ps_m10, ps_m1n, lg_cmp_gt, lg_cmp_ge, lg_cmp_le, lg_cmp_lt, lg_cmp_eq, pu_rne, pu_req, pu_uro, RFc_n, Nat.reduceAdd, Nat.reduceMul, Nat.reduceLT, Nat.reduceLeDiff, Nat.reduceEqDiff, Nat.reduceSub]
  rw [← hx]
  have z1 : 15 * a < 2000000 ∧ 15 * b < 2000000 ∧ 15 * a ≤ 1792 ∧ 15 * b ≤ 1792 := by omega
  have e1 : a * 15 = 15 * a ∧ b * 15 = 15 * b := by omega
  have e2 : nI 1800 - nI 8 = nI 1792 := by decide
  simp only [↓r126_0, ↓r126_1, ↓r126_3, ↓r126_4, ↓r126_5, ↓r126_6, ↓r126_8, ↓r126_9, ↓r126_11, ↓r126_11n, ↓r126_12, ↓r126_12k, ↓r126_13, ↓r126_15, ↓r126_16, ↓r126_18, ↓r126_19, ↓r126_20, ↓r126_22, ↓r126_25, ↓r126_28, ↓r126_30, ↓r126_31, ↓r126_33, ↓r126_36, ↓r126_39, ↓r126_40, ↓r126_41, ↓r126_42, ↓r126_44, ↓r126_45, ↓c_within, q_le, q_lt, q_eq, q_e0, q_e1, q_0e, q_1e, ps_n0, q_0le, q_le0, q_0lt, q_m1e, q_em1, g1, g2, g3, e1, e2, z1, and_self, if_true, Bool.false_eq_true, hn, hn2, ht, hF, am_wt, am_wf, Option.isSome_some, am_rf_s, am_rf_n, ps_lit, nI_add, nI_1, pk_mul, ps_cl, ps_neg, ps_c0, ps_c1, ps_n01, ps_n11, ps_10, ps_b01, ps_e0, pu_Ine, pu_Ieq, pu_ne, pu_eq, am_k_n, am_k_i, am_k_r, am_k_u, am_k_l, am_sz_0, am_sz_i, am_sz_r, am_sz_u, am_sz_l, Option.toList_some, Option.toList_none, List.cons_append, List.nil_append, true_and, and_true, or_false, false_or, or_self, or_true, true_or, not_false_eq_true, not_true_eq_false, Classical.not_not, ne_eq, ps_e1, ps_em, ps_z, Nat.not_le, false_implies, true_implies, forall_const, ps_01, ps_1n, ps_0n, ps_m10, ps_m1n, lg_cmp_gt, lg_cmp_ge, lg_cmp_le, lg_cmp_lt, lg_cmp_eq, pu_rne, pu_req, pu_uro, RFc_n, Nat.reduceAdd, Nat.reduceMul, Nat.reduceLT, Nat.reduceLeDiff, Nat.reduceEqDiff, Nat.reduceSub]
/-- alike in these facts -/
def alq (f : Nat → Int32) (m a b : Nat) : Bool := decide (alk f a b 8 &&& m = m)
theorem c_alikeIn {r a b m : Nat} (hW : WS n t F) (hr : r = 2 ∨ r = 42) (ha : a < 120) (hb : b < 120) (hm : m < 256) : am_W X (d + 2) 125 0 [some (.ref r), some (.int (nI a)), some (.int (nI b)), some (.int (nI m))] [] (n, sl, t, I, J, F) Q ↔ Q (some (.int (if alq (I r) m a b = true then 1 else 0))) (n, sl, t, I, J, F) := by
  obtain ⟨hn, hn2, ht, hF⟩ := id hW
  have g1 : r < n := by rcases hr with e | e <;> rw [e] <;> exact hn _ (by decide)
  have z1 : alk (I r) a b 8 &&& m < 2000000 ∧ m < 2000000 := by
    have := @Nat.and_le_right (alk (I r) a b 8) m
    omega
  by_cases h : alk (I r) a b 8 &&& m = m
  · have e : alq (I r) m a b = true := decide_eq_true h
    simp only [↓r125_0, ↓r125_0n, ↓r125_1, ↓r125_2, ↓r125_3, ↓r125_6, ↓r125_7, ↓r125_8, ↓r125_9, ↓r125_12, ↓r125_13, ↓r125_16, ↓r125_17, ↓c_alikeFacts hW hr ha hb, nI_and, h, e, if_true, Bool.false_eq_true, hn, hn2, ht, hF, am_wt, am_wf, Option.isSome_some, am_rf_s, am_rf_n, ps_lit, nI_add, nI_1, pk_mul, ps_cl, ps_neg, ps_c0, ps_c1, ps_n01, ps_n11, ps_10, ps_b01, ps_e0, pu_Ine, pu_Ieq, pu_ne, pu_eq, am_k_n, am_k_i, am_k_r, am_k_u, am_k_l, am_sz_0, am_sz_i, am_sz_r, am_sz_u, am_sz_l, Option.toList_some, Option.toList_none, List.cons_append, List.nil_append, true_and, and_true, or_false, false_or, or_self, or_true, true_or, not_false_eq_true, not_true_eq_false, Classical.not_not, ne_eq, ps_e1, ps_em, ps_z, Nat.not_le, false_implies, true_implies, forall_const, ps_01, ps_1n, ps_0n, ps_m10, ps_m1n, lg_cmp_gt, lg_cmp_ge, lg_cmp_le, lg_cmp_lt, lg_cmp_eq, pu_rne, pu_req, pu_uro, RFc_n, Nat.reduceAdd, Nat.reduceMul, Nat.reduceLT, Nat.reduceLeDiff, Nat.reduceEqDiff, Nat.reduceSub]
  · have e : alq (I r) m a b = false := decide_eq_false h
    simp only [↓r125_0, ↓r125_0n, ↓r125_1, ↓r125_2, ↓r125_3, ↓r125_6, ↓r125_7, ↓r125_8, ↓r125_9, ↓r125_12, ↓r125_13, ↓r125_16, ↓r125_17, ↓c_alikeFacts hW hr ha hb, nI_and, q_le, q_lt, q_eq, q_e0, q_e1, q_0e, q_1e, ps_n0, q_0le, q_le0, q_0lt, q_m1e, q_em1, z1, h, e, if_false, Bool.false_eq_true, hn, hn2, ht, hF, am_wt, am_wf, Option.isSome_some, am_rf_s, am_rf_n, ps_lit, nI_add, nI_1, pk_mul, ps_cl, ps_neg, ps_c0, ps_c1, ps_n01, ps_n11, ps_10, ps_b01, ps_e0, pu_Ine, pu_Ieq, pu_ne, pu_eq, am_k_n, am_k_i, am_k_r, am_k_u, am_k_l, am_sz_0, am_sz_i, am_sz_r, am_sz_u, am_sz_l, Option.toList_some, Option.toList_none, List.cons_append, List.nil_append, true_and, and_true, or_false, false_or, or_self, or_true, true_or, not_false_eq_true, not_true_eq_false, Classical.not_not, ne_eq, ps_e1, ps_em, ps_z, Nat.not_le, false_implies, true_implies, forall_const, ps_01, ps_1n, ps_0n, ps_m10, ps_m1n, lg_cmp_gt, lg_cmp_ge, lg_cmp_le, lg_cmp_lt, lg_cmp_eq, pu_rne, pu_req, pu_uro, RFc_n, Nat.reduceAdd, Nat.reduceMul, Nat.reduceLT, Nat.reduceLeDiff, Nat.reduceEqDiff, Nat.reduceSub]
theorem alk_c {f g : Nat → Int32} {a b : Nat} (ha : ∀ i, i < 8 → f (15 * a + i) = g (15 * a + i)) (hb : ∀ i, i < 8 → f (15 * b + i) = g (15 * b + i)) : alk f a b 8 = alk g a b 8 := bN_c 8 (fun i hi => by rw [ha i hi, hb i hi])
theorem alq_c {f g : Nat → Int32} {m a b : Nat} (ha : ∀ i, i < 8 → f (15 * a + i) = g (15 * a + i)) (hb : ∀ i, i < 8 → f (15 * b + i) = g (15 * b + i)) : alq f m a b = alq g m a b := by
  unfold alq
  rw [alk_c ha hb]
/-- the facts in which two are not alike -/
def unl (K : Nat → Int32) (a b : Nat) : Nat → Nat := bN (fun i => !decide (K (15 * a + i) = K (15 * b + i)))
theorem unl_q {m a b : Nat} (hm : m < 256) : (unl K a b 8 &&& m = 0) = (alq K m a b = true) := by
  unfold alq unl alk
  rw [decide_eq_true_eq, bN_al _ hm]
theorem unl_lt {a b : Nat} : unl K a b 8 < 256 := bN_lt _ 8
theorem m_unlike {a b : Nat} (hCK : CK n t F (I 1 4) (I 2) (I 3) (I 49) K N) (ha : a < N) (hb : b < N) : am_W X (d + 1) 270 0 [some (.ref 47), some (.int (nI a)), some (.int (nI b)), none, none] [] (n, sl, t, I, J, F) Q ↔ Q (some (.int (nI (unl K a b 8)))) (n, sl, t, I, J, F) := by
  have hW : WS n t F := hCK.1
  obtain ⟨hn, hn2, ht, hF⟩ := id hW
  have hx : am_W X (d + 1) 270 5 [some (.ref 47), some (.int (nI a)), some (.int (nI b)), some (.int 0), some (.int 0)] [] (n, sl, t, I, J, F) Q ↔ Q (some (.int (nI (unl K a b 8)))) (n, sl, t, I, J, F) := by
    refine lp0 (A := fun k => am_W X (d + 1) 270 5 [some (.ref 47), some (.int (nI a)), some (.int (nI b)), some (.int (nI (unl K a b k))), some (.int (nI k))] [] (n, sl, t, I, J, F) Q ↔ Q (some (.int (nI (unl K a b 8)))) (n, sl, t, I, J, F)) (N := 8) ?_ ?_
    · intro k hk ih
      have z1 : k < 2000000 ∧ k < 15 := by omega
      have z2 : ¬ 8 ≤ k := by omega
      have e1 := sh1 hk
      rw [r270_5]
      by_cases h : K (15 * a + k) = K (15 * b + k)
      · have e2 : unl K a b (k + 1) = unl K a b k := by
          unfold unl
          rw [bN, if_neg (by simp [h]), Nat.or_zero]
        rw [e2] at ih
        simp only [↓r270_7, ↓r270_9, ↓r270_12, ↓r270_13, ↓r270_14, ↓r270_15, ↓r270_17, ↓r270_20, ↓r270_21, ↓r270_22, ↓r270_24, ↓r270_27, ↓r270_30, ↓r270_31, ↓r270_33, ↓r270_34, ↓r270_37, ↓r270_38, ↓r270_39, ↓r270_40, ↓r270_43, ↓k_at (K := K) (N := N), ↓k_isTried (K := K) (N := N), ↓k_side (K := K) (N := N), ↓k_thing (K := K) (N := N), ↓k_isFound (K := K) (N := N), ↓m_factOf (K := K) (N := N), ↓m_isTried (K := K) (N := N), ↓m_took (K := K) (N := N), ↓m_waited (K := K) (N := N), ↓m_isLong (K := K) (N := N), ↓m_isShort (K := K) (N := N), ↓m_thingOf (K := K) (N := N), ↓m_isFound (K := K) (N := N), ↓m_many (K := K) (N := N), ↓c_within, ↓s_lies, hCK, b01, b11, q_le, q_lt, q_eq, q_e0, q_e1, q_0e, q_1e, ps_n0, q_0le, q_le0, q_0lt, q_m1e, q_em1, ha, hb, h, z1, z2, Int32.or_zero, Bool.false_eq_true, hn, hn2, ht, hF, am_wt, am_wf, Option.isSome_some, am_rf_s, am_rf_n, ps_lit, nI_add, nI_1, pk_mul, ps_cl, ps_neg, ps_c0, ps_c1, ps_n01, ps_n11, ps_10, ps_b01, ps_e0, pu_Ine, pu_Ieq, pu_ne, pu_eq, am_k_n, am_k_i, am_k_r, am_k_u, am_k_l, am_sz_0, am_sz_i, am_sz_r, am_sz_u, am_sz_l, Option.toList_some, Option.toList_none, List.cons_append, List.nil_append, true_and, and_true, or_false, false_or, or_self, or_true, true_or, not_false_eq_true, not_true_eq_false, Classical.not_not, ne_eq, ps_e1, ps_em, ps_z, Nat.not_le, false_implies, true_implies, forall_const, ps_01, ps_1n, ps_0n, ps_m10, ps_m1n, lg_cmp_gt, lg_cmp_ge, lg_cmp_le, lg_cmp_lt, lg_cmp_eq, pu_rne, pu_req, pu_uro, RFc_n, Nat.reduceAdd, Nat.reduceMul, Nat.reduceLT, Nat.reduceLeDiff, Nat.reduceEqDiff, Nat.reduceSub]
        exact ih
      · have e2 : unl K a b (k + 1) = unl K a b k ||| 2 ^ k := by
          unfold unl
          rw [bN, if_pos (by simp [h])]
        rw [e2] at ih
        simp only [↓r270_7, ↓r270_9, ↓r270_12, ↓r270_13, ↓r270_14, ↓r270_15, ↓r270_17, ↓r270_20, ↓r270_21, ↓r270_22, ↓r270_24, ↓r270_27, ↓r270_30, ↓r270_31, ↓r270_33, ↓r270_34, ↓r270_37, ↓r270_38, ↓r270_39, ↓r270_40, ↓r270_43, ↓k_at (K := K) (N := N), ↓k_isTried (K := K) (N := N), ↓k_side (K := K) (N := N), ↓k_thing (K := K) (N := N), ↓k_isFound (K := K) (N := N), ↓m_factOf (K := K) (N := N), ↓m_isTried (K := K) (N := N), ↓m_took (K := K) (N := N), ↓m_waited (K := K) (N := N), ↓m_isLong (K := K) (N := N), ↓m_isShort (K := K) (N := N), ↓m_thingOf (K := K) (N := N), ↓m_isFound (K := K) (N := N), ↓m_many (K := K) (N := N), ↓c_within, ↓s_lies, hCK, b01, b11, q_le, q_lt, q_eq, q_e0, q_e1, q_0e, q_1e, ps_n0, q_0le, q_le0, q_0lt, q_m1e, q_em1, ha, hb, e1, h, z1, z2, nI_or, Bool.false_eq_true, hn, hn2, ht, hF, am_wt, am_wf, Option.isSome_some, am_rf_s, am_rf_n, ps_lit, nI_add, nI_1, pk_mul, ps_cl, ps_neg, ps_c0, ps_c1, ps_n01, ps_n11, ps_10, ps_b01, ps_e0, pu_Ine, pu_Ieq, pu_ne, pu_eq, am_k_n, am_k_i, am_k_r, am_k_u, am_k_l, am_sz_0, am_sz_i, am_sz_r, am_sz_u, am_sz_l, Option.toList_some, Option.toList_none, List.cons_append, List.nil_append, true_and, and_true, or_false, false_or, or_self, or_true, true_or, not_false_eq_true, not_true_eq_false, Classical.not_not, ne_eq, ps_e1, ps_em, ps_z, Nat.not_le, false_implies, true_implies, forall_const, ps_01, ps_1n, ps_0n, ps_m10, ps_m1n, lg_cmp_gt, lg_cmp_ge, lg_cmp_le, lg_cmp_lt, lg_cmp_eq, pu_rne, pu_req, pu_uro, RFc_n, Nat.reduceAdd, Nat.reduceMul, Nat.reduceLT, Nat.reduceLeDiff, Nat.reduceEqDiff, Nat.reduceSub]
        exact ih
    · rw [r270_5]
      simp only [↓r270_7, ↓r270_9, ↓r270_46, ↓r270_47, Int32.le_refl, Bool.false_eq_true, hn, hn2, ht, hF, am_wt, am_wf, Option.isSome_some, am_rf_s, am_rf_n, ps_lit, nI_add, nI_1, pk_mul, ps_cl, ps_neg, ps_c0, ps_c1, ps_n01, ps_n11, ps_10, ps_b01, ps_e0, pu_Ine, pu_Ieq, pu_ne, pu_eq, am_k_n, am_k_i, am_k_r, am_k_u, am_k_l, am_sz_0, am_sz_i, am_sz_r, am_sz_u, am_sz_l, Option.toList_some, Option.toList_none, List.cons_append, List.nil_append, true_and, and_true, or_false, false_or, or_self, or_true, true_or, not_false_eq_true, not_true_eq_false, Classical.not_not, ne_eq, ps_e1, ps_em, ps_z, Nat.not_le, false_implies, true_implies, forall_const, ps_01, ps_1n, ps_0n, ps_m10, ps_m1n, lg_cmp_gt, lg_cmp_ge, lg_cmp_le, lg_cmp_lt, lg_cmp_eq, pu_rne, pu_req, pu_uro, RFc_n, Nat.reduceAdd, Nat.reduceMul, Nat.reduceLT, Nat.reduceLeDiff, Nat.reduceEqDiff, Nat.reduceSub]
  rw [← hx]
  simp only [↓r270_0, ↓r270_1, ↓r270_2, ↓r270_3, am_k_i]
end BI
