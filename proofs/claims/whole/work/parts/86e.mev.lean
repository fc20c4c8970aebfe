/-! TEXTS: the reference works sums out -/
section ME
variable {X : am_X} {d : Nat} {Q : Option Value → am_H → Prop} {n sl : Nat} {t : Nat → Nat × Nat} {I : Nat → Nat → Int32} {J : Nat → Nat → Int64} {F : Nat → Nat → Option Nat} {h : am_H}
variable {tk tv : Nat → Nat} {NT j : Nat} {K w : Nat → Int32}
/-- a text as it is kept -/
def TKK (K : Nat → Int32) (j : Nat) (tk tv : Nat → Nat) (NT : Nat) : Prop := (NT ≤ 400 ∧ tk NT = 0 ∧ j < 10) ∧ K (1813 + j) = nI NT ∧ ∀ i, i < NT → K (1823 + (400 * j + i)) = nI (tk i) ∧ K (5823 + (400 * j + i)) = nI (tv i) ∧ tk i < 400 ∧ tv i < 20000000
/-- where it goes on, whether it is broken -/
def eS (I : Nat → Nat → Int32) (j i : Nat) (b : Bool) : Nat → Nat → Int32 := am_ro I 47 (upd (upd (I 47) 17 (nI (400 * j + i))) 19 (if b = true then 1 else 0))
theorem eS_17 {i : Nat} {b : Bool} : eS I j i b 47 17 = nI (400 * j + i) := rfl
theorem eS_19 {i : Nat} {b : Bool} : eS I j i b 47 19 = if b = true then 1 else 0 := rfl
theorem eS_18 {i : Nat} {b : Bool} : eS I j i b 47 18 = I 47 18 := rfl
theorem eS_n {a i : Nat} {b : Bool} (h : a ≠ 47) : eS I j i b a = I a := pu_rne h
theorem eS_u17 {i : Nat} {b : Bool} : am_uI (eS I j i b) 47 17 (nI (400 * j + i + 1)) = eS I j (i + 1) b := by
  unfold eS
  rw [pu_uro]
  congr 1
  funext k
  unfold upd
  by_cases h1 : k = 17
  · rw [if_pos h1, if_neg (by omega), if_pos h1, Nat.add_assoc]
  · rw [if_neg h1, if_neg h1, if_neg h1]
theorem eS_u19 {i : Nat} {b c : Bool} : am_uI (eS I j i b) 47 19 (if c = true then 1 else 0) = eS I j i c := by
  unfold eS
  rw [pu_uro]
  congr 1
  funext k
  unfold upd
  by_cases h1 : k = 19
  · rw [if_pos h1, if_pos h1]
  · rw [if_neg h1, if_neg h1, if_neg h1]
theorem eS_u1 {i : Nat} {b : Bool} : am_uI (eS I j i b) 47 19 1 = eS I j i true := eS_u19 (c := true)
theorem eS_u0 {i : Nat} {b : Bool} : am_uI (eS I j i b) 47 19 0 = eS I j i false := eS_u19 (c := false)
/-- what an evaluation finds -/
def EH (n : Nat) (t : Nat → Nat × Nat) (I : Nat → Nat → Int32) (F : Nat → Nat → Option Nat) (K : Nat → Int32) (j : Nat) (tk tv : Nat → Nat) (NT : Nat) (w : Nat → Int32) : Prop := WS n t F ∧ TKK K j tk tv NT ∧ (∀ k, 1812 ≤ k → k < 9823 → I 49 k = K k) ∧ I 47 18 = nI (400 * j + NT) ∧ WV w ∧ ∀ k, k < 11 → I 58 k = w k
theorem e_code {i : Nat} {b : Bool} (h : EH n t I F K j tk tv NT w) (hi : i ≤ NT) : am_W X d 222 0 [some (.ref 47), some (.int (nI (400 * j + i)))] [] (n, sl, t, eS I j i b, J, F) Q ↔ Q (some (.int (nI (tk i)))) (n, sl, t, eS I j i b, J, F) := by
  obtain ⟨hW, ⟨⟨k1, k2, k3⟩, k4, k5⟩, h49, h18, hw, h58⟩ := h
  obtain ⟨hn, hn2, ht, hF⟩ := id hW
  by_cases c : i < NT
  · obtain ⟨a1, a2, a3, a4⟩ := k5 i c
    have z1 : 400 * j + i < 2000000 ∧ 400 * j + NT < 2000000 ∧ 1823 + (400 * j + i) < 2000000 ∧ 1823 + (400 * j + i) < 9823 := by omega
    have z2 : ¬ 400 * j + NT ≤ 400 * j + i := by omega
    have a5 := h49 (1823 + (400 * j + i)) (by omega) (by omega)
    simp only [↓r222_0, ↓r222_1, ↓r222_2, ↓r222_5, ↓r222_8, ↓r222_9, ↓r222_12, ↓r222_15, ↓r222_16, ↓r222_17, ↓r222_17k, ↓r222_18, ↓r222_21, ↓r222_22, q_le, q_lt, q_eq, q_e0, q_e1, q_0e, q_1e, ps_n0, q_0le, q_le0, q_0lt, q_m1e, q_em1, eS_18, eS_n, h18, z1, z2, a5, a1, Bool.false_eq_true, hn, hn2, ht, hF, am_wt, am_wf, Option.isSome_some, am_rf_s, am_rf_n, ps_lit, nI_add, nI_1, pk_mul, ps_cl, ps_neg, ps_c0, ps_c1, ps_n01, ps_n11, ps_10, ps_b01, ps_e0, pu_Ine, pu_Ieq, pu_ne, pu_eq, am_k_n, am_k_i, am_k_r, am_k_u, am_k_l, am_sz_0, am_sz_i, am_sz_r, am_sz_u, am_sz_l, Option.toList_some, Option.toList_none, List.cons_append, List.nil_append, true_and, and_true, or_false, false_or, or_self, or_true, true_or, not_false_eq_true, not_true_eq_false, Classical.not_not, ne_eq, ps_e1, ps_em, ps_z, Nat.not_le, false_implies, true_implies, forall_const, ps_01, ps_1n, ps_0n, ps_m10, ps_m1n, lg_cmp_gt, lg_cmp_ge, lg_cmp_le, lg_cmp_lt, lg_cmp_eq, pu_rne, pu_req, pu_uro, RFc_n, Nat.reduceAdd, Nat.reduceMul, Nat.reduceLT, Nat.reduceLeDiff, Nat.reduceEqDiff, Nat.reduceSub]
  · have e : i = NT := by omega
    subst e
    rw [k2]
    simp only [↓r222_0, ↓r222_1, ↓r222_2, ↓r222_5, ↓r222_8, ↓r222_9, ↓r222_12, ↓r222_15, ↓r222_16, ↓r222_17, ↓r222_17k, ↓r222_18, ↓r222_21, ↓r222_22, eS_18, h18, Int32.le_refl, Bool.false_eq_true, hn, hn2, ht, hF, am_wt, am_wf, Option.isSome_some, am_rf_s, am_rf_n, ps_lit, nI_add, nI_1, pk_mul, ps_cl, ps_neg, ps_c0, ps_c1, ps_n01, ps_n11, ps_10, ps_b01, ps_e0, pu_Ine, pu_Ieq, pu_ne, pu_eq, am_k_n, am_k_i, am_k_r, am_k_u, am_k_l, am_sz_0, am_sz_i, am_sz_r, am_sz_u, am_sz_l, Option.toList_some, Option.toList_none, List.cons_append, List.nil_append, true_and, and_true, or_false, false_or, or_self, or_true, true_or, not_false_eq_true, not_true_eq_false, Classical.not_not, ne_eq, ps_e1, ps_em, ps_z, Nat.not_le, false_implies, true_implies, forall_const, ps_01, ps_1n, ps_0n, ps_m10, ps_m1n, lg_cmp_gt, lg_cmp_ge, lg_cmp_le, lg_cmp_lt, lg_cmp_eq, pu_rne, pu_req, pu_uro, RFc_n, Nat.reduceAdd, Nat.reduceMul, Nat.reduceLT, Nat.reduceLeDiff, Nat.reduceEqDiff, Nat.reduceSub]
    exact Iff.rfl
theorem e_pass1 {i c : Nat} {b : Bool} (h : EH n t I F K j tk tv NT w) (hi : i ≤ NT) (hc : tk i = c) : am_W X (d + 1) 226 0 [some (.ref 47), some (.int (nI c)), none] [] (n, sl, t, eS I j i b, J, F) Q ↔ Q (some (.int 1)) (n, sl, t, eS I j (i + 1) b, J, F) := by
  have hW := h.1
  obtain ⟨hn, hn2, ht, hF⟩ := id hW
  subst hc
  have e1 := fun Q => e_code (X := X) (d := d) (Q := Q) (sl := sl) (J := J) (b := b) h hi
  simp only [↓r226_0, ↓r226_1, ↓r226_2, ↓r226_5, ↓r226_8, ↓r226_9, ↓r226_12, ↓r226_13, ↓r226_16, ↓r226_17, ↓r226_18, ↓r226_19, ↓r226_22, ↓r226_23, ↓r226_23r, ↓r226_24, ↓r226_27, ↓r226_28, ↓r226_29, ↓r226_32, ↓r226_33, ↓e1, eS_17, eS_u17, Bool.false_eq_true, hn, hn2, ht, hF, am_wt, am_wf, Option.isSome_some, am_rf_s, am_rf_n, ps_lit, nI_add, nI_1, pk_mul, ps_cl, ps_neg, ps_c0, ps_c1, ps_n01, ps_n11, ps_10, ps_b01, ps_e0, pu_Ine, pu_Ieq, pu_ne, pu_eq, am_k_n, am_k_i, am_k_r, am_k_u, am_k_l, am_sz_0, am_sz_i, am_sz_r, am_sz_u, am_sz_l, Option.toList_some, Option.toList_none, List.cons_append, List.nil_append, true_and, and_true, or_false, false_or, or_self, or_true, true_or, not_false_eq_true, not_true_eq_false, Classical.not_not, ne_eq, ps_e1, ps_em, ps_z, Nat.not_le, false_implies, true_implies, forall_const, ps_01, ps_1n, ps_0n, ps_m10, ps_m1n, lg_cmp_gt, lg_cmp_ge, lg_cmp_le, lg_cmp_lt, lg_cmp_eq, pu_rne, pu_req, pu_uro, RFc_n, Nat.reduceAdd, Nat.reduceMul, Nat.reduceLT, Nat.reduceLeDiff, Nat.reduceEqDiff, Nat.reduceSub]
theorem e_pass0 {i c : Nat} {b : Bool} (h : EH n t I F K j tk tv NT w) (hi : i ≤ NT) (hc2 : c < 400) (hc : ¬ tk i = c) : am_W X (d + 1) 226 0 [some (.ref 47), some (.int (nI c)), none] [] (n, sl, t, eS I j i b, J, F) Q ↔ Q (some (.int 0)) (n, sl, t, eS I j i b, J, F) := by
  have hW := h.1
  obtain ⟨hn, hn2, ht, hF⟩ := id hW
  have z : tk i < 2000000 ∧ c < 2000000 := by
    by_cases q : i < NT
    · have := (h.2.1.2.2 i q).2.2.1
      omega
    · have : i = NT := by omega
      rw [this, h.2.1.1.2.1]
      omega
  have e1 := fun Q => e_code (X := X) (d := d) (Q := Q) (sl := sl) (J := J) (b := b) h hi
  simp only [↓r226_0, ↓r226_1, ↓r226_2, ↓r226_5, ↓r226_8, ↓r226_9, ↓r226_12, ↓r226_13, ↓r226_16, ↓r226_17, ↓r226_18, ↓r226_19, ↓r226_22, ↓r226_23, ↓r226_23r, ↓r226_24, ↓r226_27, ↓r226_28, ↓r226_29, ↓r226_32, ↓r226_33, ↓e1, eS_17, q_le, q_lt, q_eq, q_e0, q_e1, q_0e, q_1e, ps_n0, q_0le, q_le0, q_0lt, q_m1e, q_em1, z, hc, Bool.false_eq_true, hn, hn2, ht, hF, am_wt, am_wf, Option.isSome_some, am_rf_s, am_rf_n, ps_lit, nI_add, nI_1, pk_mul, ps_cl, ps_neg, ps_c0, ps_c1, ps_n01, ps_n11, ps_10, ps_b01, ps_e0, pu_Ine, pu_Ieq, pu_ne, pu_eq, am_k_n, am_k_i, am_k_r, am_k_u, am_k_l, am_sz_0, am_sz_i, am_sz_r, am_sz_u, am_sz_l, Option.toList_some, Option.toList_none, List.cons_append, List.nil_append, true_and, and_true, or_false, false_or, or_self, or_true, true_or, not_false_eq_true, not_true_eq_false, Classical.not_not, ne_eq, ps_e1, ps_em, ps_z, Nat.not_le, false_implies, true_implies, forall_const, ps_01, ps_1n, ps_0n, ps_m10, ps_m1n, lg_cmp_gt, lg_cmp_ge, lg_cmp_le, lg_cmp_lt, lg_cmp_eq, pu_rne, pu_req, pu_uro, RFc_n, Nat.reduceAdd, Nat.reduceMul, Nat.reduceLT, Nat.reduceLeDiff, Nat.reduceEqDiff, Nat.reduceSub]
/-- how an evaluation ends: its value, whether it is broken -/
def oc (D : DI) (w : Nat → Int32) (lv b : Bool) : Int × Bool := if lv = true ∧ b = false then (match D w with
  | some v => (v, false)
  | none => (0, true)) else (0, b)
/-- all values are within what a sum may be -/
def DBd (D : DI) : Prop := ∀ w v, WV w → D w = some v → -1000000000 ≤ v ∧ v ≤ 1000000000
theorem holdI_b {v u : Int} (h : holdI v = some u) : u = v ∧ -1000000000 ≤ v ∧ v ≤ 1000000000 := by
  unfold holdI at h
  by_cases c : 1000000000 < v ∨ v < -1000000000
  · rw [if_pos c] at h; cases h
  · rw [if_neg c] at h
    cases h
    exact ⟨rfl, by omega, by omega⟩
theorem bi_b {f : Int → Int → Option Int} {a b : DI} (hf : ∀ x y u, f x y = some u → -1000000000 ≤ u ∧ u ≤ 1000000000) : DBd (bi f a b) := by
  intro w v hw h
  unfold bi at h
  cases ea : a w with
  | none => rw [ea] at h; cases h
  | some x =>
    rw [ea] at h
    cases eb : b w with
    | none => rw [eb] at h; cases h
    | some y => rw [eb] at h; exact hf x y v h
theorem opM_b {c : Nat} : ∀ x y u, opM c x y = some u → -1000000000 ≤ u ∧ u ≤ 1000000000 := by
  intro x y u h
  unfold opM at h
  split at h
  · obtain ⟨e, h1, h2⟩ := holdI_b h; omega
  · split at h
    · cases h
    · obtain ⟨e, h1, h2⟩ := holdI_b h; omega
theorem opA_b {c : Nat} : ∀ x y u, opA c x y = some u → -1000000000 ≤ u ∧ u ≤ 1000000000 := by
  intro x y u h
  unfold opA at h
  split at h
  · obtain ⟨e, h1, h2⟩ := holdI_b h; omega
  · obtain ⟨e, h1, h2⟩ := holdI_b h; omega
theorem e_bnd {i : Nat} {b lv : Bool} {v : Int} (hW : WS n t F) (h1 : -4000000000000000000 ≤ v) (h2 : v ≤ 4000000000000000000) : am_W X d 227 0 [some (.ref 47), some (.long (jI v)), none, some (.int (if lv = true then 1 else 0))] [] (n, sl, t, eS I j i b, J, F) Q ↔ Q (some (.long (jI (if lv = true ∧ (1000000000 < v ∨ v < -1000000000) ∨ b = true then 0 else v)))) (n, sl, t, eS I j i (decide (lv = true ∧ (1000000000 < v ∨ v < -1000000000)) || b), J, F) := by
  obtain ⟨hn, hn2, ht, hF⟩ := id hW
  have y1 : (jI 1000000000 < jI v) = (1000000000 < v) := jI_lt (by omega) (by omega) (by omega) (by omega)
  have y2 : (jI (-1000000000) ≤ jI v) = (-1000000000 ≤ v) := jI_le (by omega) (by omega) (by omega) (by omega)
  have y3 : (-jI 1000000000 ≤ jI v) = (-1000000000 ≤ v) := by rw [jI_neg]; exact y2
  have l1 : (1000000000 : Int64) = jI 1000000000 := rfl
  have l2 : (-1000000000 : Int64) = jI (-1000000000) := rfl
  cases lv with
  | false =>
    cases b with
    | false =>
      simp only [↓r227_0, ↓r227_1, ↓r227_4, ↓r227_5, ↓r227_8, ↓r227_9, ↓r227_12, ↓r227_13, ↓r227_16, ↓r227_17, ↓r227_20, ↓r227_21, ↓r227_22, ↓r227_25, ↓r227_26, ↓r227_29, ↓r227_32, ↓r227_33, ↓r227_36, ↓r227_37, eS_19, if_true, if_false, false_and, Bool.false_eq_true, decide_false, Bool.or_false, or_self, Bool.false_eq_true, hn, hn2, ht, hF, am_wt, am_wf, Option.isSome_some, am_rf_s, am_rf_n, ps_lit, nI_add, nI_1, pk_mul, ps_cl, ps_neg, ps_c0, ps_c1, ps_n01, ps_n11, ps_10, ps_b01, ps_e0, pu_Ine, pu_Ieq, pu_ne, pu_eq, am_k_n, am_k_i, am_k_r, am_k_u, am_k_l, am_sz_0, am_sz_i, am_sz_r, am_sz_u, am_sz_l, Option.toList_some, Option.toList_none, List.cons_append, List.nil_append, true_and, and_true, or_false, false_or, or_self, or_true, true_or, not_false_eq_true, not_true_eq_false, Classical.not_not, ne_eq, ps_e1, ps_em, ps_z, Nat.not_le, false_implies, true_implies, forall_const, ps_01, ps_1n, ps_0n, ps_m10, ps_m1n, lg_cmp_gt, lg_cmp_ge, lg_cmp_le, lg_cmp_lt, lg_cmp_eq, pu_rne, pu_req, pu_uro, RFc_n, Nat.reduceAdd, Nat.reduceMul, Nat.reduceLT, Nat.reduceLeDiff, Nat.reduceEqDiff, Nat.reduceSub]
    | true =>
      simp only [↓r227_0, ↓r227_1, ↓r227_4, ↓r227_5, ↓r227_8, ↓r227_9, ↓r227_12, ↓r227_13, ↓r227_16, ↓r227_17, ↓r227_20, ↓r227_21, ↓r227_22, ↓r227_25, ↓r227_26, ↓r227_29, ↓r227_32, ↓r227_33, ↓r227_36, ↓r227_37, eS_19, if_true, if_false, false_and, Bool.false_eq_true, decide_false, Bool.or_true, or_true, Bool.false_eq_true, hn, hn2, ht, hF, am_wt, am_wf, Option.isSome_some, am_rf_s, am_rf_n, ps_lit, nI_add, nI_1, pk_mul, ps_cl, ps_neg, ps_c0, ps_c1, ps_n01, ps_n11, ps_10, ps_b01, ps_e0, pu_Ine, pu_Ieq, pu_ne, pu_eq, am_k_n, am_k_i, am_k_r, am_k_u, am_k_l, am_sz_0, am_sz_i, am_sz_r, am_sz_u, am_sz_l, Option.toList_some, Option.toList_none, List.cons_append, List.nil_append, true_and, and_true, or_false, false_or, or_self, or_true, true_or, not_false_eq_true, not_true_eq_false, Classical.not_not, ne_eq, ps_e1, ps_em, ps_z, Nat.not_le, false_implies, true_implies, forall_const, ps_01, ps_1n, ps_0n, ps_m10, ps_m1n, lg_cmp_gt, lg_cmp_ge, lg_cmp_le, lg_cmp_lt, lg_cmp_eq, pu_rne, pu_req, pu_uro, RFc_n, Nat.reduceAdd, Nat.reduceMul, Nat.reduceLT, Nat.reduceLeDiff, Nat.reduceEqDiff, Nat.reduceSub]
      exact Iff.rfl
  | true =>
    by_cases c1 : 1000000000 < v
    · have c3 : (1000000000 < v ∨ v < -1000000000) := Or.inl c1
      simp only [↓r227_0, ↓r227_1, ↓r227_4, ↓r227_5, ↓r227_8, ↓r227_9, ↓r227_12, ↓r227_13, ↓r227_16, ↓r227_17, ↓r227_20, ↓r227_21, ↓r227_22, ↓r227_25, ↓r227_26, ↓r227_29, ↓r227_32, ↓r227_33, ↓r227_36, ↓r227_37, l1, l2, lg_cmp_gt, lg_cmp_ge, y1, y2, y3, c1, eS_19, eS_u1, if_true, true_and, true_or, decide_true, Bool.true_or, Bool.false_eq_true, hn, hn2, ht, hF, am_wt, am_wf, Option.isSome_some, am_rf_s, am_rf_n, ps_lit, nI_add, nI_1, pk_mul, ps_cl, ps_neg, ps_c0, ps_c1, ps_n01, ps_n11, ps_10, ps_b01, ps_e0, pu_Ine, pu_Ieq, pu_ne, pu_eq, am_k_n, am_k_i, am_k_r, am_k_u, am_k_l, am_sz_0, am_sz_i, am_sz_r, am_sz_u, am_sz_l, Option.toList_some, Option.toList_none, List.cons_append, List.nil_append, true_and, and_true, or_false, false_or, or_self, or_true, true_or, not_false_eq_true, not_true_eq_false, Classical.not_not, ne_eq, ps_e1, ps_em, ps_z, Nat.not_le, false_implies, true_implies, forall_const, ps_01, ps_1n, ps_0n, ps_m10, ps_m1n, lg_cmp_gt, lg_cmp_ge, lg_cmp_le, lg_cmp_lt, lg_cmp_eq, pu_rne, pu_req, pu_uro, RFc_n, Nat.reduceAdd, Nat.reduceMul, Nat.reduceLT, Nat.reduceLeDiff, Nat.reduceEqDiff, Nat.reduceSub]
      exact Iff.rfl
    · by_cases c2 : v < -1000000000
      · have c4 : ¬ -1000000000 ≤ v := by omega
        simp only [↓r227_0, ↓r227_1, ↓r227_4, ↓r227_5, ↓r227_8, ↓r227_9, ↓r227_12, ↓r227_13, ↓r227_16, ↓r227_17, ↓r227_20, ↓r227_21, ↓r227_22, ↓r227_25, ↓r227_26, ↓r227_29, ↓r227_32, ↓r227_33, ↓r227_36, ↓r227_37, l1, l2, lg_cmp_gt, lg_cmp_ge, y1, y2, y3, c1, c2, c4, eS_19, eS_u1, if_true, true_and, or_true, true_or, decide_true, Bool.true_or, Bool.false_eq_true, hn, hn2, ht, hF, am_wt, am_wf, Option.isSome_some, am_rf_s, am_rf_n, ps_lit, nI_add, nI_1, pk_mul, ps_cl, ps_neg, ps_c0, ps_c1, ps_n01, ps_n11, ps_10, ps_b01, ps_e0, pu_Ine, pu_Ieq, pu_ne, pu_eq, am_k_n, am_k_i, am_k_r, am_k_u, am_k_l, am_sz_0, am_sz_i, am_sz_r, am_sz_u, am_sz_l, Option.toList_some, Option.toList_none, List.cons_append, List.nil_append, true_and, and_true, or_false, false_or, or_self, or_true, true_or, not_false_eq_true, not_true_eq_false, Classical.not_not, ne_eq, ps_e1, ps_em, ps_z, Nat.not_le, false_implies, true_implies, forall_const, ps_01, ps_1n, ps_0n, ps_m10, ps_m1n, lg_cmp_gt, lg_cmp_ge, lg_cmp_le, lg_cmp_lt, lg_cmp_eq, pu_rne, pu_req, pu_uro, RFc_n, Nat.reduceAdd, Nat.reduceMul, Nat.reduceLT, Nat.reduceLeDiff, Nat.reduceEqDiff, Nat.reduceSub]
        exact Iff.rfl
      · have c4 : -1000000000 ≤ v := by omega
        cases b with
        | false =>
          simp only [↓r227_0, ↓r227_1, ↓r227_4, ↓r227_5, ↓r227_8, ↓r227_9, ↓r227_12, ↓r227_13, ↓r227_16, ↓r227_17, ↓r227_20, ↓r227_21, ↓r227_22, ↓r227_25, ↓r227_26, ↓r227_29, ↓r227_32, ↓r227_33, ↓r227_36, ↓r227_37, l1, l2, lg_cmp_gt, lg_cmp_ge, y1, y2, y3, c1, c2, c4, eS_19, if_true, if_false, true_and, or_self, or_false, Bool.false_eq_true, decide_false, Bool.or_false, Bool.false_eq_true, hn, hn2, ht, hF, am_wt, am_wf, Option.isSome_some, am_rf_s, am_rf_n, ps_lit, nI_add, nI_1, pk_mul, ps_cl, ps_neg, ps_c0, ps_c1, ps_n01, ps_n11, ps_10, ps_b01, ps_e0, pu_Ine, pu_Ieq, pu_ne, pu_eq, am_k_n, am_k_i, am_k_r, am_k_u, am_k_l, am_sz_0, am_sz_i, am_sz_r, am_sz_u, am_sz_l, Option.toList_some, Option.toList_none, List.cons_append, List.nil_append, true_and, and_true, or_false, false_or, or_self, or_true, true_or, not_false_eq_true, not_true_eq_false, Classical.not_not, ne_eq, ps_e1, ps_em, ps_z, Nat.not_le, false_implies, true_implies, forall_const, ps_01, ps_1n, ps_0n, ps_m10, ps_m1n, lg_cmp_gt, lg_cmp_ge, lg_cmp_le, lg_cmp_lt, lg_cmp_eq, pu_rne, pu_req, pu_uro, RFc_n, Nat.reduceAdd, Nat.reduceMul, Nat.reduceLT, Nat.reduceLeDiff, Nat.reduceEqDiff, Nat.reduceSub]
        | true =>
          simp only [↓r227_0, ↓r227_1, ↓r227_4, ↓r227_5, ↓r227_8, ↓r227_9, ↓r227_12, ↓r227_13, ↓r227_16, ↓r227_17, ↓r227_20, ↓r227_21, ↓r227_22, ↓r227_25, ↓r227_26, ↓r227_29, ↓r227_32, ↓r227_33, ↓r227_36, ↓r227_37, l1, l2, lg_cmp_gt, lg_cmp_ge, y1, y2, y3, c1, c2, c4, eS_19, if_true, true_and, or_true, or_self, Bool.or_true, Bool.false_eq_true, hn, hn2, ht, hF, am_wt, am_wf, Option.isSome_some, am_rf_s, am_rf_n, ps_lit, nI_add, nI_1, pk_mul, ps_cl, ps_neg, ps_c0, ps_c1, ps_n01, ps_n11, ps_10, ps_b01, ps_e0, pu_Ine, pu_Ieq, pu_ne, pu_eq, am_k_n, am_k_i, am_k_r, am_k_u, am_k_l, am_sz_0, am_sz_i, am_sz_r, am_sz_u, am_sz_l, Option.toList_some, Option.toList_none, List.cons_append, List.nil_append, true_and, and_true, or_false, false_or, or_self, or_true, true_or, not_false_eq_true, not_true_eq_false, Classical.not_not, ne_eq, ps_e1, ps_em, ps_z, Nat.not_le, false_implies, true_implies, forall_const, ps_01, ps_1n, ps_0n, ps_m10, ps_m1n, lg_cmp_gt, lg_cmp_ge, lg_cmp_le, lg_cmp_lt, lg_cmp_eq, pu_rne, pu_req, pu_uro, RFc_n, Nat.reduceAdd, Nat.reduceMul, Nat.reduceLT, Nat.reduceLeDiff, Nat.reduceEqDiff, Nat.reduceSub]
          exact Iff.rfl
/-- an evaluation of a reader's text -/
def EvI (X : am_X) (k n sl : Nat) (t : Nat → Nat × Nat) (I : Nat → Nat → Int32) (J : Nat → Nat → Int64) (F : Nat → Nat → Option Nat) (j NT : Nat) (w : Nat → Int32) (m : Nat) (L : Int32 → am_L) (P : Nat → Nat → RD DI) : Prop := ∀ (d : Nat) (Q : Option Value → am_H → Prop) (i q : Nat) r (lv b : Bool), i ≤ NT → q ≤ 50 → P i q = .ok r → Q (some (.long (jI (oc r.2.2 w lv b).1))) (n, sl, t, eS I j r.1 (oc r.2.2 w lv b).2, J, F) → am_W X (d + k) m 0 (L (if lv = true then 1 else 0)) [] (n, sl, t, eS I j i b, J, F) Q
def BdI (P : Nat → Nat → RD DI) : Prop := ∀ i q r, P i q = .ok r → DBd r.2.2
theorem e_part {k e : Nat} (h : EH n t I F K j tk tv NT w) (hS : ∀ e', e = e' + 1 → EvI X (k + 2) n sl t I J F j NT w 223 (fun l => [some (.ref 47), some (.int l), none, none, none, none, none]) (pSum tk tv e')) : EvI X (k + 3) n sl t I J F j NT w 225 (fun l => [some (.ref 47), some (.int l), none, none]) (pPart tk tv (sPr tk tv e)) := by
  intro d Q i q r lv b hi hq hp hQ
  have hW := h.1
  obtain ⟨hn, hn2, ht, hF⟩ := id hW
  show am_W X (d + k + 3) 225 0 [some (.ref 47), some (.int (if lv = true then 1 else 0)), none, none] [] (n, sl, t, eS I j i b, J, F) Q
  have h0 := h.2.1.1.2.1
  unfold pPart at hp
  by_cases c1 : tk i = 191
  · rw [if_pos c1] at hp
    have hl : i < NT := tok_lt h0 hi (by omega)
    cases e with
    | zero => cases hp
    | succ e =>
      dsimp only [sPr] at hp
      cases hs : pSum tk tv e (i + 1) q with
      | error x => rw [hs] at hp; cases hp
      | ok s =>
        rw [hs] at hp
        dsimp only at hp
        by_cases c2 : tk s.1 = 193
        · rw [if_pos c2] at hp
          cases hp
          simp only [↓r225_0, ↓r225_1, ↓r225_3, ↓r225_6, ↓r225_9, ↓r225_12, ↓r225_13, ↓r225_14, ↓m_sign, ↓e_pass1 h hi c1, Bool.false_eq_true, hn, hn2, ht, hF, am_wt, am_wf, Option.isSome_some, am_rf_s, am_rf_n, ps_lit, nI_add, nI_1, pk_mul, ps_cl, ps_neg, ps_c0, ps_c1, ps_n01, ps_n11, ps_10, ps_b01, ps_e0, pu_Ine, pu_Ieq, pu_ne, pu_eq, am_k_n, am_k_i, am_k_r, am_k_u, am_k_l, am_sz_0, am_sz_i, am_sz_r, am_sz_u, am_sz_l, Option.toList_some, Option.toList_none, List.cons_append, List.nil_append, true_and, and_true, or_false, false_or, or_self, or_true, true_or, not_false_eq_true, not_true_eq_false, Classical.not_not, ne_eq, ps_e1, ps_em, ps_z, Nat.not_le, false_implies, true_implies, forall_const, ps_01, ps_1n, ps_0n, ps_m10, ps_m1n, lg_cmp_gt, lg_cmp_ge, lg_cmp_le, lg_cmp_lt, lg_cmp_eq, pu_rne, pu_req, pu_uro, RFc_n, Nat.reduceAdd, Nat.reduceMul, Nat.reduceLT, Nat.reduceLeDiff, Nat.reduceEqDiff, Nat.reduceSub]
          refine hS e rfl d _ (i + 1) q s lv b hl hq hs ?_
          simp only [↓r225_17, ↓r225_18, ↓r225_19, ↓r225_19r, ↓r225_20, ↓r225_23, ↓r225_24, ↓r225_25, ↓r225_28, ↓r225_29, eS_17, eS_u17, am_k_i, Bool.false_eq_true, hn, hn2, ht, hF, am_wt, am_wf, Option.isSome_some, am_rf_s, am_rf_n, ps_lit, nI_add, nI_1, pk_mul, ps_cl, ps_neg, ps_c0, ps_c1, ps_n01, ps_n11, ps_10, ps_b01, ps_e0, pu_Ine, pu_Ieq, pu_ne, pu_eq, am_k_n, am_k_i, am_k_r, am_k_u, am_k_l, am_sz_0, am_sz_i, am_sz_r, am_sz_u, am_sz_l, Option.toList_some, Option.toList_none, List.cons_append, List.nil_append, true_and, and_true, or_false, false_or, or_self, or_true, true_or, not_false_eq_true, not_true_eq_false, Classical.not_not, ne_eq, ps_e1, ps_em, ps_z, Nat.not_le, false_implies, true_implies, forall_const, ps_01, ps_1n, ps_0n, ps_m10, ps_m1n, lg_cmp_gt, lg_cmp_ge, lg_cmp_le, lg_cmp_lt, lg_cmp_eq, pu_rne, pu_req, pu_uro, RFc_n, Nat.reduceAdd, Nat.reduceMul, Nat.reduceLT, Nat.reduceLeDiff, Nat.reduceEqDiff, Nat.reduceSub]
          exact hQ
        · rw [if_neg c2] at hp; cases hp
  · rw [if_neg c1] at hp
    by_cases c2 : (tk i = 50 ∧ tv i ≤ 1000) ∨ (9 ≤ tk i ∧ tk i ≤ 19)
    · have hl : i < NT := tok_lt h0 hi (by omega)
      rw [if_pos c2] at hp
      by_cases c3 : q = 50
      · rw [if_pos c3] at hp; cases hp
      · rw [if_neg c3] at hp
        cases hp
        dsimp only at hQ
        have e1 := fun Q => e_code (X := X) (d := d + k + 2) (Q := Q) (sl := sl) (J := J) (b := b) h hi
        obtain ⟨⟨k1, k2, k3⟩, k4, k5⟩ := h.2.1
        obtain ⟨a1, a2, a3, a4⟩ := k5 i hl
        have dead : ¬ (lv = true ∧ b = false) → ∀ l2 l3 : Option Value, Q (some (.long 0)) (n, sl, t, eS I j (i + 1) b, J, F) := by
          intro hd _ _
          unfold oc at hQ
          rw [if_neg hd] at hQ
          exact hQ
        cases lv with
        | false =>
          have := dead (by simp) none none
          simp only [↓r225_0, ↓r225_1, ↓r225_3, ↓r225_6, ↓r225_9, ↓r225_12, ↓r225_13, ↓r225_14, ↓r225_17, ↓r225_18, ↓r225_19, ↓r225_19r, ↓r225_20, ↓r225_23, ↓r225_24, ↓r225_25, ↓r225_28, ↓r225_29, ↓r225_30, ↓r225_31, ↓r225_32, ↓r225_35, ↓r225_38, ↓r225_39, ↓r225_40, ↓r225_40r, ↓r225_41, ↓r225_44, ↓r225_45, ↓r225_46, ↓r225_49, ↓r225_50, ↓r225_53, ↓r225_54, ↓r225_57, ↓r225_60, ↓r225_61, ↓m_sign, ↓e_pass0 h hi (show 191 < 400 by decide) c1, ↓e1, eS_17, eS_u17, am_k_i, am_k_n, Bool.false_eq_true, hn, hn2, ht, hF, am_wt, am_wf, Option.isSome_some, am_rf_s, am_rf_n, ps_lit, nI_add, nI_1, pk_mul, ps_cl, ps_neg, ps_c0, ps_c1, ps_n01, ps_n11, ps_10, ps_b01, ps_e0, pu_Ine, pu_Ieq, pu_ne, pu_eq, am_k_n, am_k_i, am_k_r, am_k_u, am_k_l, am_sz_0, am_sz_i, am_sz_r, am_sz_u, am_sz_l, Option.toList_some, Option.toList_none, List.cons_append, List.nil_append, true_and, and_true, or_false, false_or, or_self, or_true, true_or, not_false_eq_true, not_true_eq_false, Classical.not_not, ne_eq, ps_e1, ps_em, ps_z, Nat.not_le, false_implies, true_implies, forall_const, ps_01, ps_1n, ps_0n, ps_m10, ps_m1n, lg_cmp_gt, lg_cmp_ge, lg_cmp_le, lg_cmp_lt, lg_cmp_eq, pu_rne, pu_req, pu_uro, RFc_n, Nat.reduceAdd, Nat.reduceMul, Nat.reduceLT, Nat.reduceLeDiff, Nat.reduceEqDiff, Nat.reduceSub]
          exact this
        | true =>
          cases b with
          | true =>
            have := dead (by simp) none none
            simp only [↓r225_0, ↓r225_1, ↓r225_3, ↓r225_6, ↓r225_9, ↓r225_12, ↓r225_13, ↓r225_14, ↓r225_17, ↓r225_18, ↓r225_19, ↓r225_19r, ↓r225_20, ↓r225_23, ↓r225_24, ↓r225_25, ↓r225_28, ↓r225_29, ↓r225_30, ↓r225_31, ↓r225_32, ↓r225_35, ↓r225_38, ↓r225_39, ↓r225_40, ↓r225_40r, ↓r225_41, ↓r225_44, ↓r225_45, ↓r225_46, ↓r225_49, ↓r225_50, ↓r225_53, ↓r225_54, ↓r225_57, ↓r225_60, ↓r225_61, ↓m_sign, ↓e_pass0 h hi (show 191 < 400 by decide) c1, ↓e1, eS_17, eS_19, eS_u17, am_k_i, am_k_n, if_true, Bool.false_eq_true, hn, hn2, ht, hF, am_wt, am_wf, Option.isSome_some, am_rf_s, am_rf_n, ps_lit, nI_add, nI_1, pk_mul, ps_cl, ps_neg, ps_c0, ps_c1, ps_n01, ps_n11, ps_10, ps_b01, ps_e0, pu_Ine, pu_Ieq, pu_ne, pu_eq, am_k_n, am_k_i, am_k_r, am_k_u, am_k_l, am_sz_0, am_sz_i, am_sz_r, am_sz_u, am_sz_l, Option.toList_some, Option.toList_none, List.cons_append, List.nil_append, true_and, and_true, or_false, false_or, or_self, or_true, true_or, not_false_eq_true, not_true_eq_false, Classical.not_not, ne_eq, ps_e1, ps_em, ps_z, Nat.not_le, false_implies, true_implies, forall_const, ps_01, ps_1n, ps_0n, ps_m10, ps_m1n, lg_cmp_gt, lg_cmp_ge, lg_cmp_le, lg_cmp_lt, lg_cmp_eq, pu_rne, pu_req, pu_uro, RFc_n, Nat.reduceAdd, Nat.reduceMul, Nat.reduceLT, Nat.reduceLeDiff, Nat.reduceEqDiff, Nat.reduceSub]
            exact this
          | false =>
            have hQ2 : ∀ v, leafD tk tv i w = some v → Q (some (.long (jI v))) (n, sl, t, eS I j (i + 1) false, J, F) := by
              intro v hv
              unfold oc at hQ
              rw [if_pos ⟨rfl, rfl⟩, hv] at hQ
              exact hQ
            unfold leafD at hQ2
            by_cases c5 : tk i = 50
            · rw [if_pos c5] at hQ2
              have := hQ2 _ rfl
              have y1 := h.2.2.1 (5823 + (400 * j + i)) (by omega) (by omega)
              have y2 : (nI (tv i)).toInt64 = jI (tv i : Int) := by rw [nI_l (by omega), lN_j]
              have y3 : nI (5823 + (400 * j + (i + 1))) - 1 = nI (5823 + (400 * j + i)) := by rw [← Nat.add_assoc, ← Nat.add_assoc, nI_pred, Nat.add_assoc]
              have z : 5823 + (400 * j + i) < 2000000 ∧ 5823 + (400 * j + i) < 9823 ∧ tk i < 2000000 := by omega
              simp only [↓r225_0, ↓r225_1, ↓r225_3, ↓r225_6, ↓r225_9, ↓r225_12, ↓r225_13, ↓r225_14, ↓r225_17, ↓r225_18, ↓r225_19, ↓r225_19r, ↓r225_20, ↓r225_23, ↓r225_24, ↓r225_25, ↓r225_28, ↓r225_29, ↓r225_30, ↓r225_31, ↓r225_32, ↓r225_35, ↓r225_38, ↓r225_39, ↓r225_40, ↓r225_40r, ↓r225_41, ↓r225_44, ↓r225_45, ↓r225_46, ↓r225_49, ↓r225_50, ↓r225_53, ↓r225_54, ↓r225_57, ↓r225_60, ↓r225_61, ↓r225_62, ↓r225_63, ↓r225_65, ↓r225_68, ↓r225_69, ↓r225_72, ↓r225_75, ↓r225_76, ↓r225_79, ↓r225_80, ↓r225_81, ↓r225_82, ↓r225_82k, ↓r225_83, ↓r225_84, ↓r225_87, ↓r225_88, ↓r225_91, ↓r225_92, ↓r225_94, ↓r225_95, ↓r225_95k, ↓r225_96, ↓r225_97, ↓m_sign, ↓e_pass0 h hi (show 191 < 400 by decide) c1, ↓e1, q_le, q_lt, q_eq, q_e0, q_e1, q_0e, q_1e, ps_n0, q_0le, q_le0, q_0lt, q_m1e, q_em1, eS_17, eS_19, eS_u17, eS_n, c5, y1, a2, y2, y3, z, am_k_i, am_k_n, if_false, Bool.false_eq_true, hn, hn2, ht, hF, am_wt, am_wf, Option.isSome_some, am_rf_s, am_rf_n, ps_lit, nI_add, nI_1, pk_mul, ps_cl, ps_neg, ps_c0, ps_c1, ps_n01, ps_n11, ps_10, ps_b01, ps_e0, pu_Ine, pu_Ieq, pu_ne, pu_eq, am_k_n, am_k_i, am_k_r, am_k_u, am_k_l, am_sz_0, am_sz_i, am_sz_r, am_sz_u, am_sz_l, Option.toList_some, Option.toList_none, List.cons_append, List.nil_append, true_and, and_true, or_false, false_or, or_self, or_true, true_or, not_false_eq_true, not_true_eq_false, Classical.not_not, ne_eq, ps_e1, ps_em, ps_z, Nat.not_le, false_implies, true_implies, forall_const, ps_01, ps_1n, ps_0n, ps_m10, ps_m1n, lg_cmp_gt, lg_cmp_ge, lg_cmp_le, lg_cmp_lt, lg_cmp_eq, pu_rne, pu_req, pu_uro, RFc_n, Nat.reduceAdd, Nat.reduceMul, Nat.reduceLT, Nat.reduceLeDiff, Nat.reduceEqDiff, Nat.reduceSub]
              exact this
            · rw [if_neg c5] at hQ2
              have := hQ2 _ rfl
              have y1 := h.2.2.2.2.2 (tk i - 9) (by omega)
              have y3 : nI (tk i) - nI 9 = nI (tk i - 9) := nI_sub (by omega)
              have y2 : (w (tk i - 9)).toInt64 = jI (w (tk i - 9)).toInt := by
                apply Int64.toInt_inj.mp
                have a := Int32.toInt_lt (w (tk i - 9))
                have b := Int32.le_toInt (w (tk i - 9))
                rw [Int32.toInt_toInt64, jI_t (by omega) (by omega)]
              have z : tk i < 2000000 ∧ tk i - 9 < 2000000 ∧ tk i - 9 < 11 := by omega
              simp only [↓r225_0, ↓r225_1, ↓r225_3, ↓r225_6, ↓r225_9, ↓r225_12, ↓r225_13, ↓r225_14, ↓r225_17, ↓r225_18, ↓r225_19, ↓r225_19r, ↓r225_20, ↓r225_23, ↓r225_24, ↓r225_25, ↓r225_28, ↓r225_29, ↓r225_30, ↓r225_31, ↓r225_32, ↓r225_35, ↓r225_38, ↓r225_39, ↓r225_40, ↓r225_40r, ↓r225_41, ↓r225_44, ↓r225_45, ↓r225_46, ↓r225_49, ↓r225_50, ↓r225_53, ↓r225_54, ↓r225_57, ↓r225_60, ↓r225_61, ↓r225_62, ↓r225_63, ↓r225_65, ↓r225_68, ↓r225_69, ↓r225_72, ↓r225_75, ↓r225_76, ↓r225_79, ↓r225_80, ↓r225_81, ↓r225_82, ↓r225_82k, ↓r225_83, ↓r225_84, ↓r225_87, ↓r225_88, ↓r225_91, ↓r225_92, ↓r225_94, ↓r225_95, ↓r225_95k, ↓r225_96, ↓r225_97, ↓m_sign, ↓e_pass0 h hi (show 191 < 400 by decide) c1, ↓e1, q_le, q_lt, q_eq, q_e0, q_e1, q_0e, q_1e, ps_n0, q_0le, q_le0, q_0lt, q_m1e, q_em1, eS_17, eS_19, eS_u17, eS_n, c5, y1, y2, y3, z, am_k_i, am_k_n, if_false, Bool.false_eq_true, hn, hn2, ht, hF, am_wt, am_wf, Option.isSome_some, am_rf_s, am_rf_n, ps_lit, nI_add, nI_1, pk_mul, ps_cl, ps_neg, ps_c0, ps_c1, ps_n01, ps_n11, ps_10, ps_b01, ps_e0, pu_Ine, pu_Ieq, pu_ne, pu_eq, am_k_n, am_k_i, am_k_r, am_k_u, am_k_l, am_sz_0, am_sz_i, am_sz_r, am_sz_u, am_sz_l, Option.toList_some, Option.toList_none, List.cons_append, List.nil_append, true_and, and_true, or_false, false_or, or_self, or_true, true_or, not_false_eq_true, not_true_eq_false, Classical.not_not, ne_eq, ps_e1, ps_em, ps_z, Nat.not_le, false_implies, true_implies, forall_const, ps_01, ps_1n, ps_0n, ps_m10, ps_m1n, lg_cmp_gt, lg_cmp_ge, lg_cmp_le, lg_cmp_lt, lg_cmp_eq, pu_rne, pu_req, pu_uro, RFc_n, Nat.reduceAdd, Nat.reduceMul, Nat.reduceLT, Nat.reduceLeDiff, Nat.reduceEqDiff, Nat.reduceSub]
              exact this
    · rw [if_neg c2] at hp; cases hp
end ME
