/-! calls, one on each side: images -/
section IM
variable {X : am_X} {d : Nat} {Q : Option Value → am_H → Prop} {n sl : Nat} {t : Nat → Nat × Nat} {I : Nat → Nat → Int32} {J : Nat → Nat → Int64} {F : Nat → Nat → Option Nat} {h : am_H}
theorem KR_c {s c : Int32} {r u m K r' u' m' K' : Nat → Int32} (h : KR s c r u m K) (h1 : ∀ j, j < 1800 → r' j = r j) (h2 : ∀ j, j < 3 → u' j = u j) (h3 : ∀ j, j < 8 → m' j = m j) (h4 : ∀ j, j < 1813 → K' j = K j) : KR s c r' u' m' K' := by
  obtain ⟨N, T, ⟨hN, hT, hKN, hKT, hRW, t1, t2, t3, t4⟩, hs, hc, hr, hu, hm⟩ := h
  refine ⟨N, T, ⟨hN, hT, (h4 _ (by omega)).trans hKN, (h4 _ (by omega)).trans hKT, fun c' hc' f' hf' => ?_, ?_, ?_, ?_, fun f' hf' => ?_⟩, hs, hc, fun j hj => ?_, fun j hj => ?_, fun j hj => ?_⟩
  · have e := h4 (15 * c' + f') (by omega)
    show RV f' (K' (15 * c' + f'))
    rw [e]
    exact hRW c' hc' f' hf'
  · obtain ⟨x, y, z⟩ := t1; exact ⟨x, y, (h4 _ (by omega)).trans z⟩
  · obtain ⟨x, y, z⟩ := t2; exact ⟨x, y, (h4 _ (by omega)).trans z⟩
  · obtain ⟨x, y, y2, z⟩ := t3; exact ⟨x, y, y2, (h4 _ (by omega)).trans z⟩
  · obtain ⟨x, y, z⟩ := t4 f' hf'; exact ⟨x, y, (h4 _ (by omega)).trans z⟩
  · rw [h1 j (by omega), h4 j (by omega)]; exact hr j hj
  · rw [h2 j hj, h4 _ (by omega)]; exact hu j hj
  · rw [h3 j hj, h4 _ (by omega)]; exact hm j hj
theorem LWs_c {ow : Nat → Nat} {la la' : Nat → Option Nat} {K K' : Nat → Int32} (h : LWs n t I F ow la K) (hT : (K 1812).toNatClampNeg ≤ 10) (h1 : ∀ j, j < 10 → la' j = la j) (h2 : ∀ k, 1812 ≤ k → k < 9823 → K' k = K k) : LWs n t I F ow la' K' := by
  refine ⟨fun j a hj e => ?_, fun j hj => ?_⟩
  · rw [h1 j hj] at e
    exact h.1 j a hj e
  · rw [h2 1812 (by omega) (by omega)] at hj
    obtain ⟨a, e, w⟩ := h.2 j hj
    refine ⟨a, by rw [h1 j (by omega)]; exact e, LWo_fr (Nat.le_refl _) (fun _ _ _ => rfl) (fun _ _ _ _ => rfl) (fun _ _ _ _ => rfl) (fun s ls c lc q => LREL_k (by omega) h2 q) w⟩
/-- children of the class lie here -/
def CH (n : Nat) (t : Nat → Nat × Nat) (F : Nat → Nat → Option Nat) (p r u m l : Nat) : Prop := (p < n ∧ r < n ∧ u < n ∧ m < n ∧ l < n) ∧ (t p = (1, 6) ∧ t r = (20, 1800) ∧ t u = (20, 3) ∧ t m = (20, 8) ∧ t l = (24, 10)) ∧ (F p 0 = some r ∧ F p 1 = some u ∧ F p 2 = some m ∧ F p 3 = some l)
def cpl (f g : Nat → Option Nat) (j : Nat) : Nat → Option Nat := fun i => if i < j then f i else g i
theorem cpl_s (f g : Nat → Option Nat) (j : Nat) : va_up (cpl f g j) j (f j) = cpl f g (j + 1) := by
  funext i
  unfold va_up cpl
  by_cases h : i = j
  · subst h; simp
  · by_cases h2 : i < j
    · rw [if_neg h, if_pos h2, if_pos (by omega)]
    · rw [if_neg h, if_neg h2, if_neg (by omega)]
theorem pu_uroF {T : Nat → Nat → Option Nat} {a k : Nat} {f : Nat → Option Nat} {v : Option Nat} : am_uF (am_ro T a f) a k v = am_ro T a (va_up f k v) := by
  funext b
  unfold am_uF am_ro
  by_cases h : b = a
  · simp [h]
  · simp [h]
theorem pu_roF {T : Nat → Nat → Option Nat} {a : Nat} : am_ro T a (T a) = T := by
  funext b
  unfold am_ro
  by_cases h : b = a
  · simp [h]
  · simp [h]
theorem l_copy {p r u m l o r2 u2 m2 l2 : Nat} (hn2 : n ≤ 1000000) (h1 : CH n t F p r u m l) (h2 : CH n t F o r2 u2 m2 l2) (hne : l ≠ p ∧ l ≠ o ∧ l2 ≠ l) (hL : ∀ j a, j < 10 → F l2 j = some a → 73 ≤ a ∧ a < n ∧ (t a).1 = 5) : ∀ k j, j + k = 10 → (am_W X d 160 49 [some (.ref p), some (.ref o), some (.int (nI j))] [] (n, sl, t, I, J, am_ro F l (cpl (F l2) (F l) j)) Q ↔ Q none (n, sl, t, am_uI (am_uI I p 4 (I o 4)) p 5 (am_uI I p 4 (I o 4) o 5), J, am_ro F l (cpl (F l2) (F l) 10))) := by
  obtain ⟨⟨a1, a2, a3, a4, a5⟩, ⟨b1, b2, b3, b4, b5⟩, c1, c2, c3, c4⟩ := h1
  obtain ⟨⟨d1, d2, d3, d4, d5⟩, ⟨e1, e2, e3, e4, e5⟩, f1, f2, f3, f4⟩ := h2
  obtain ⟨g1, g2, g3⟩ := hne
  have x1 : ∀ f : Nat → Option Nat, am_ro F l f p = F p := fun f => pu_rne (Ne.symm g1)
  have x2 : ∀ f : Nat → Option Nat, am_ro F l f o = F o := fun f => pu_rne (Ne.symm g2)
  have x3 : ∀ f : Nat → Option Nat, am_ro F l f l2 = F l2 := fun f => pu_rne g3
  have hpn : p < 1000000 := by omega
  have hon : o < 1000000 := by omega
  intro k
  induction k with
  | zero =>
    intro j hj
    obtain rfl : j = 10 := by omega
    rw [r160_49]
    simp only [↓r160_50, ↓r160_52, ↓r160_55, ↓r160_56, ↓r160_59, ↓r160_60, ↓r160_60n, ↓r160_61, ↓r160_64, ↓r160_65, ↓r160_66, ↓r160_66n, ↓r160_67, ↓r160_70, ↓r160_73, ↓r160_74, ↓r160_74n, ↓r160_75, ↓r160_78, ↓r160_81, ↓r160_82, ↓r160_82n, ↓r160_83, ↓r160_86, ↓r160_89, x1, x2, a1, b1, c4, d1, e1, f4, Int32.le_refl, ps_lit, nI_add, nI_1, pk_mul, ps_cl, ps_neg, ps_c0, ps_c1, ps_n01, ps_n11, ps_10, ps_01, ps_1n, ps_0n, ps_b01, ps_e0, am_k_n, am_k_i, am_k_r, am_k_u, am_k_l, am_sz_0, am_sz_i, am_sz_r, am_sz_u, am_sz_l, Option.toList_some, Option.toList_none, List.cons_append, List.nil_append, true_and, and_true, or_false, false_or, or_self, or_true, true_or, and_self, if_true, if_false, not_false_eq_true, not_true_eq_false, Classical.not_not, ne_eq, ps_e1, ps_em, ps_z, Nat.not_le, false_implies, true_implies, forall_const, Nat.reduceAdd, Nat.reduceMul, Nat.reduceLT, Nat.reduceLeDiff, Nat.reduceEqDiff, Nat.reduceSub]
  | succ k ih =>
    intro j hj
    rw [r160_49]
    have y1 : ¬ nI 10 ≤ nI j := nI_ge (by omega) (by decide)
    have z1 : j < 2000000 := by omega
    have z2 : j < 10 := by omega
    have e6 := ih (j + 1) (by omega)
    rw [← cpl_s] at e6
    cases hq : F l2 j with
    | none =>
      rw [hq] at e6
      simp only [↓r160_50, ↓r160_52, ↓r160_55, ↓r160_56, ↓r160_59, ↓r160_60, ↓r160_60n, ↓r160_61, ↓r160_64, ↓r160_65, ↓r160_66, ↓r160_66n, ↓r160_67, ↓r160_70, x1, x2, x3, a1, a5, b1, b5, c4, d1, d5, e1, e5, f4, y1, z1, z2, hq, am_rf_s, am_rf_n, pu_uroF, ps_lit, nI_add, nI_1, pk_mul, ps_cl, ps_neg, ps_c0, ps_c1, ps_n01, ps_n11, ps_10, ps_01, ps_1n, ps_0n, ps_b01, ps_e0, am_k_n, am_k_i, am_k_r, am_k_u, am_k_l, am_sz_0, am_sz_i, am_sz_r, am_sz_u, am_sz_l, Option.toList_some, Option.toList_none, List.cons_append, List.nil_append, true_and, and_true, or_false, false_or, or_self, or_true, true_or, and_self, if_true, if_false, not_false_eq_true, not_true_eq_false, Classical.not_not, ne_eq, ps_e1, ps_em, ps_z, Nat.not_le, false_implies, true_implies, forall_const, Nat.reduceAdd, Nat.reduceMul, Nat.reduceLT, Nat.reduceLeDiff, Nat.reduceEqDiff, Nat.reduceSub]
      exact e6
    | some a =>
      obtain ⟨w1, w2, w3⟩ := hL j a z2 hq
      rw [hq] at e6
      simp only [↓r160_50, ↓r160_52, ↓r160_55, ↓r160_56, ↓r160_59, ↓r160_60, ↓r160_60n, ↓r160_61, ↓r160_64, ↓r160_65, ↓r160_66, ↓r160_66n, ↓r160_67, ↓r160_70, x1, x2, x3, a1, a5, b1, b5, c4, d1, d5, e1, e5, f4, y1, z1, z2, hq, w2, w3, am_rf_s, am_rf_n, pu_uroF, ps_lit, nI_add, nI_1, pk_mul, ps_cl, ps_neg, ps_c0, ps_c1, ps_n01, ps_n11, ps_10, ps_01, ps_1n, ps_0n, ps_b01, ps_e0, am_k_n, am_k_i, am_k_r, am_k_u, am_k_l, am_sz_0, am_sz_i, am_sz_r, am_sz_u, am_sz_l, Option.toList_some, Option.toList_none, List.cons_append, List.nil_append, true_and, and_true, or_false, false_or, or_self, or_true, true_or, and_self, if_true, if_false, not_false_eq_true, not_true_eq_false, Classical.not_not, ne_eq, ps_e1, ps_em, ps_z, Nat.not_le, false_implies, true_implies, forall_const, Nat.reduceAdd, Nat.reduceMul, Nat.reduceLT, Nat.reduceLeDiff, Nat.reduceEqDiff, Nat.reduceSub]
      exact e6
theorem c_copy {p r u m l o r2 u2 m2 l2 : Nat} (hn2 : n ≤ 1000000) (h1 : CH n t F p r u m l) (h2 : CH n t F o r2 u2 m2 l2) (hne : l ≠ p ∧ l ≠ o ∧ l2 ≠ l) (hne2 : u2 ≠ r ∧ m2 ≠ r ∧ m2 ≠ u ∧ o ≠ r ∧ o ≠ u ∧ o ≠ m ∧ p ≠ o ∧ u ≠ r ∧ m ≠ r ∧ m ≠ u) (hL : ∀ j a, j < 10 → F l2 j = some a → 73 ≤ a ∧ a < n ∧ (t a).1 = 5) : am_W X d 160 0 [some (.ref p), some (.ref o), none] [] (n, sl, t, I, J, F) Q ↔ Q none (n, sl, t, am_uI (am_uI (am_ro (am_ro (am_ro I r (va_cpy (I r2) (I r) 0 0 1800)) u (va_cpy (I u2) (I u) 0 0 3)) m (va_cpy (I m2) (I m) 0 0 8)) p 4 (I o 4)) p 5 (I o 5), J, am_ro F l (cpl (F l2) (F l) 10)) := by
  have e := l_copy (X := X) (d := d) (Q := Q) (sl := sl) (J := J) (I := am_ro (am_ro (am_ro I r (va_cpy (I r2) (I r) 0 0 1800)) u (va_cpy (I u2) (I u) 0 0 3)) m (va_cpy (I m2) (I m) 0 0 8)) hn2 h1 h2 hne hL 10 0 rfl
  obtain ⟨⟨a1, a2, a3, a4, a5⟩, ⟨b1, b2, b3, b4, b5⟩, c1, c2, c3, c4⟩ := h1
  obtain ⟨⟨d1, d2, d3, d4, d5⟩, ⟨e1, e2, e3, e4, e5⟩, f1, f2, f3, f4⟩ := h2
  obtain ⟨k1, k2, k3, k4, k5, k6, k7, k8, k9, k10⟩ := hne2
  have q0 : cpl (F l2) (F l) 0 = F l := by
    funext i
    unfold cpl
    rw [if_neg (by omega)]
  have q1 : (am_ro (am_ro (am_ro I r (va_cpy (I r2) (I r) 0 0 1800)) u (va_cpy (I u2) (I u) 0 0 3)) m (va_cpy (I m2) (I m) 0 0 8)) o = I o := by
    rw [pu_rne k6, pu_rne k5, pu_rne k4]
  rw [q0, pu_roF, pu_Ine (Ne.symm k7), q1] at e
  rw [← e]
  have hr : r < 1000000 := by omega
  have x1 : ∀ T : Nat → Nat → Int32, ∀ f, am_ro T r f u2 = T u2 := fun T f => pu_rne k1
  have x2 : ∀ T : Nat → Nat → Int32, ∀ f, am_ro T r f m2 = T m2 := fun T f => pu_rne k2
  have x3 : ∀ T : Nat → Nat → Int32, ∀ f, am_ro T u f m2 = T m2 := fun T f => pu_rne k3
  have x4 : ∀ T : Nat → Nat → Int32, ∀ f, am_ro T r f u = T u := fun T f => pu_rne k8
  have x5 : ∀ T : Nat → Nat → Int32, ∀ f, am_ro T r f m = T m := fun T f => pu_rne k9
  have x6 : ∀ T : Nat → Nat → Int32, ∀ f, am_ro T u f m = T m := fun T f => pu_rne k10
  simp only [↓r160_0, ↓r160_0n, ↓r160_1, ↓r160_4, ↓r160_5, ↓r160_6, ↓r160_9, ↓r160_10, ↓r160_11, ↓r160_14, ↓r160_14k, ↓r160_15, ↓r160_18, ↓r160_18n, ↓r160_19, ↓r160_22, ↓r160_23, ↓r160_24, ↓r160_27, ↓r160_28, ↓r160_29, ↓r160_32, ↓r160_32n, ↓r160_33, ↓r160_36, ↓r160_37, ↓r160_38, ↓r160_41, ↓r160_42, ↓r160_44, ↓r160_47, ↓r160_48, a1, a2, a3, a4, a5, b1, b2, b3, b4, c1, c2, c3, d1, d2, d3, d4, e1, e2, e3, e4, f1, f2, f3, hr, x1, x2, x3, x4, x5, x6, am_rf_s, Nat.zero_add, Nat.le_refl, ps_lit, nI_add, nI_1, pk_mul, ps_cl, ps_neg, ps_c0, ps_c1, ps_n01, ps_n11, ps_10, ps_01, ps_1n, ps_0n, ps_b01, ps_e0, am_k_n, am_k_i, am_k_r, am_k_u, am_k_l, am_sz_0, am_sz_i, am_sz_r, am_sz_u, am_sz_l, Option.toList_some, Option.toList_none, List.cons_append, List.nil_append, true_and, and_true, or_false, false_or, or_self, or_true, true_or, and_self, if_true, if_false, not_false_eq_true, not_true_eq_false, Classical.not_not, ne_eq, ps_e1, ps_em, ps_z, Nat.not_le, false_implies, true_implies, forall_const, Nat.reduceAdd, Nat.reduceMul, Nat.reduceLT, Nat.reduceLeDiff, Nat.reduceEqDiff, Nat.reduceSub]
  exact Iff.rfl
/-- the reference's row, as far as j -/
def im1 (f g : Nat → Int32) (k j : Nat) : Nat → Int32 := fun i => if 9823 * k ≤ i ∧ i < 9823 * k + j then f (i - 9823 * k) else g i
theorem l_image {k : Nat} (hW : WS n t F) (hk : k < 2) : ∀ m j, j + m = 9823 → (am_W X (d + 1) 167 17 [some (.ref 47), some (.int (nI k)), some (.int (nI j))] [] (n, sl, t, am_ro I 50 (im1 (I 49) (I 50) k j), J, F) Q ↔ Q (some (.int 0)) (n, sl, t, am_uI (am_uI (am_ro I 50 (im1 (I 49) (I 50) k 9823)) 51 k (1 &&& 1)) 47 0 0, J, F)) := by
  obtain ⟨hn, hn2, ht, hF⟩ := id hW
  have zk : k < 2000000 := by omega
  intro m
  induction m with
  | zero =>
    intro j hj
    obtain rfl : j = 9823 := by omega
    rw [r167_17]
    simp only [↓r167_0, ↓r167_1, ↓r167_2, ↓r167_3, ↓r167_6, ↓r167_9, ↓r167_10, ↓r167_11, ↓r167_14, ↓r167_15, ↓r167_16, ↓r167_18, ↓r167_21, ↓r167_24, ↓r167_25, ↓r167_28, ↓r167_31, ↓r167_32, ↓r167_33, ↓r167_34, ↓r167_35, ↓r167_36, ↓r167_39, ↓r167_40, ↓r167_40k, ↓r167_41, ↓r167_42, ↓r167_45, ↓r167_48, ↓r167_49, ↓r167_52, ↓r167_53, ↓r167_54, ↓r167_54z, ↓r167_55, ↓r167_56, ↓r167_57, ↓r167_60, ↓c_within, ↓c_meansTried, ↓c_nearest, ↓c_accept, ↓c_rf1, ↓c_rf2, ↓c_rf3, ↓c_rf5, ↓c_rf6, ↓c_has, ↓c_atx, ↓c_putx, ↓c_put0, ↓c_put1, ↓s_at0, ↓s_at1, ↓c_isTriedx, ↓c_sidex, ↓c_thingx, ↓c_isFoundx, ↓s_lies, ↓s_rf1, ↓s_rf2, ↓s_rf3, ↓s_rf5, ↓s_rf6, ↓s_good, ↓s_many, ↓s_at, ↓s_isChild, ↓s_replacesx, ↓s_factOfx, ↓s_isTried, ↓s_took, ↓s_waited, ↓s_term0, ↓s_term1, ↓s_term2, ↓s_isLong, ↓s_isShort, ↓s_thingOfx, ↓s_isFoundx, ↓s_isText, ↓s_isGroup, hW, Int32.le_refl, zk, hk, Bool.false_eq_true, hn, hn2, ht, hF, am_wt, am_wf, Option.isSome_some, am_rf_s, am_rf_n, ps_lit, nI_add, nI_1, pk_mul, ps_cl, ps_neg, ps_c0, ps_c1, ps_n01, ps_n11, ps_10, ps_b01, ps_e0, pu_Ine, pu_Ieq, pu_ne, pu_eq, am_k_n, am_k_i, am_k_r, am_k_u, am_k_l, am_sz_0, am_sz_i, am_sz_r, am_sz_u, am_sz_l, Option.toList_some, Option.toList_none, List.cons_append, List.nil_append, true_and, and_true, or_false, false_or, or_self, or_true, true_or, not_false_eq_true, not_true_eq_false, Classical.not_not, ne_eq, ps_e1, ps_em, ps_z, Nat.not_le, false_implies, true_implies, forall_const, ps_01, ps_1n, ps_0n, ps_m10, ps_m1n, lg_cmp_gt, lg_cmp_ge, lg_cmp_le, lg_cmp_lt, lg_cmp_eq, pu_rne, pu_req, pu_uro, RFc_n, Nat.reduceAdd, Nat.reduceMul, Nat.reduceLT, Nat.reduceLeDiff, Nat.reduceEqDiff, Nat.reduceSub]
  | succ m ih =>
    intro j hj
    rw [r167_17]
    have e1 : ¬ nI 9823 ≤ nI j := nI_ge (by omega) (by decide)
    have z1 : 9823 * k + j < 2000000 := by omega
    have z2 : 9823 * k + j < 19646 := by omega
    have z3 : j < 2000000 := by omega
    have z4 : j < 9823 := by omega
    have e6 : upd (im1 (I 49) (I 50) k j) (9823 * k + j) (I 49 j) = im1 (I 49) (I 50) k (j + 1) := by
      funext i
      unfold upd im1
      by_cases h1 : i = 9823 * k + j
      · subst h1
        rw [if_pos rfl, if_pos (by omega), Nat.add_sub_cancel_left]
      · rw [if_neg h1]
        by_cases h2 : 9823 * k ≤ i ∧ i < 9823 * k + j
        · rw [if_pos h2, if_pos (by omega)]
        · rw [if_neg h2, if_neg (by omega)]
    have e7 := ih (j + 1) (by omega)
    rw [← e6] at e7
    simp only [↓r167_0, ↓r167_1, ↓r167_2, ↓r167_3, ↓r167_6, ↓r167_9, ↓r167_10, ↓r167_11, ↓r167_14, ↓r167_15, ↓r167_16, ↓r167_18, ↓r167_21, ↓r167_24, ↓r167_25, ↓r167_28, ↓r167_31, ↓r167_32, ↓r167_33, ↓r167_34, ↓r167_35, ↓r167_36, ↓r167_39, ↓r167_40, ↓r167_40k, ↓r167_41, ↓r167_42, ↓r167_45, ↓r167_48, ↓r167_49, ↓r167_52, ↓r167_53, ↓r167_54, ↓r167_54z, ↓r167_55, ↓r167_56, ↓r167_57, ↓r167_60, e1, z1, z2, z3, z4, Bool.false_eq_true, hn, hn2, ht, hF, am_wt, am_wf, Option.isSome_some, am_rf_s, am_rf_n, ps_lit, nI_add, nI_1, pk_mul, ps_cl, ps_neg, ps_c0, ps_c1, ps_n01, ps_n11, ps_10, ps_b01, ps_e0, pu_Ine, pu_Ieq, pu_ne, pu_eq, am_k_n, am_k_i, am_k_r, am_k_u, am_k_l, am_sz_0, am_sz_i, am_sz_r, am_sz_u, am_sz_l, Option.toList_some, Option.toList_none, List.cons_append, List.nil_append, true_and, and_true, or_false, false_or, or_self, or_true, true_or, not_false_eq_true, not_true_eq_false, Classical.not_not, ne_eq, ps_e1, ps_em, ps_z, Nat.not_le, false_implies, true_implies, forall_const, ps_01, ps_1n, ps_0n, ps_m10, ps_m1n, lg_cmp_gt, lg_cmp_ge, lg_cmp_le, lg_cmp_lt, lg_cmp_eq, pu_rne, pu_req, pu_uro, RFc_n, Nat.reduceAdd, Nat.reduceMul, Nat.reduceLT, Nat.reduceLeDiff, Nat.reduceEqDiff, Nat.reduceSub]
    exact e7
theorem l_image0 {k : Nat} (hW : WS n t F) (hk : k < 2) : am_W X (d + 1) 167 17 [some (.ref 47), some (.int (nI k)), some (.int 0)] [] (n, sl, t, I, J, F) Q ↔ Q (some (.int 0)) (n, sl, t, am_uI (am_uI (am_ro I 50 (im1 (I 49) (I 50) k 9823)) 51 k (1 &&& 1)) 47 0 0, J, F) := by
  have e := l_image (X := X) (d := d) (Q := Q) (sl := sl) (J := J) (I := I) hW hk 9823 0 rfl
  have q : im1 (I 49) (I 50) k 0 = I 50 := by
    funext i
    unfold im1
    rw [if_neg (by omega)]
  rw [q, pu_roI] at e
  exact e
def im2 (f g : Nat → Int32) (k j : Nat) : Nat → Int32 := fun i => if i < j then f (9823 * k + i) else g i
theorem l_back {k : Nat} (hW : WS n t F) (hk : k < 2) : ∀ m j, j + m = 9823 → (am_W X (d + 1) 171 33 [some (.ref 47), some (.int (nI k)), some (.int (nI j))] [] (n, sl, t, am_ro I 49 (im2 (I 50) (I 49) k j), J, F) Q ↔ Q (some (.int 0)) (n, sl, t, am_uI (am_ro I 49 (im2 (I 50) (I 49) k 9823)) 47 0 0, J, F)) := by
  obtain ⟨hn, hn2, ht, hF⟩ := id hW
  intro m
  induction m with
  | zero =>
    intro j hj
    obtain rfl : j = 9823 := by omega
    rw [r171_33]
    simp only [↓r171_0, ↓r171_1, ↓r171_2, ↓r171_3, ↓r171_6, ↓r171_9, ↓r171_10, ↓r171_11, ↓r171_14, ↓r171_15, ↓r171_16, ↓r171_19, ↓r171_20, ↓r171_21, ↓r171_24, ↓r171_25, ↓r171_27, ↓r171_30, ↓r171_31, ↓r171_32, ↓r171_34, ↓r171_37, ↓r171_40, ↓r171_41, ↓r171_44, ↓r171_45, ↓r171_46, ↓r171_49, ↓r171_52, ↓r171_53, ↓r171_54, ↓r171_55, ↓r171_56, ↓r171_56k, ↓r171_57, ↓r171_58, ↓r171_61, ↓r171_64, ↓r171_65, ↓r171_66, ↓r171_69, ↓c_within, ↓c_meansTried, ↓c_nearest, ↓c_accept, ↓c_rf1, ↓c_rf2, ↓c_rf3, ↓c_rf5, ↓c_rf6, ↓c_has, ↓c_atx, ↓c_putx, ↓c_put0, ↓c_put1, ↓s_at0, ↓s_at1, ↓c_isTriedx, ↓c_sidex, ↓c_thingx, ↓c_isFoundx, ↓s_lies, ↓s_rf1, ↓s_rf2, ↓s_rf3, ↓s_rf5, ↓s_rf6, ↓s_good, ↓s_many, ↓s_at, ↓s_isChild, ↓s_replacesx, ↓s_factOfx, ↓s_isTried, ↓s_took, ↓s_waited, ↓s_term0, ↓s_term1, ↓s_term2, ↓s_isLong, ↓s_isShort, ↓s_thingOfx, ↓s_isFoundx, ↓s_isText, ↓s_isGroup, hW, Int32.le_refl, Bool.false_eq_true, hn, hn2, ht, hF, am_wt, am_wf, Option.isSome_some, am_rf_s, am_rf_n, ps_lit, nI_add, nI_1, pk_mul, ps_cl, ps_neg, ps_c0, ps_c1, ps_n01, ps_n11, ps_10, ps_b01, ps_e0, pu_Ine, pu_Ieq, pu_ne, pu_eq, am_k_n, am_k_i, am_k_r, am_k_u, am_k_l, am_sz_0, am_sz_i, am_sz_r, am_sz_u, am_sz_l, Option.toList_some, Option.toList_none, List.cons_append, List.nil_append, true_and, and_true, or_false, false_or, or_self, or_true, true_or, not_false_eq_true, not_true_eq_false, Classical.not_not, ne_eq, ps_e1, ps_em, ps_z, Nat.not_le, false_implies, true_implies, forall_const, ps_01, ps_1n, ps_0n, ps_m10, ps_m1n, lg_cmp_gt, lg_cmp_ge, lg_cmp_le, lg_cmp_lt, lg_cmp_eq, pu_rne, pu_req, pu_uro, RFc_n, Nat.reduceAdd, Nat.reduceMul, Nat.reduceLT, Nat.reduceLeDiff, Nat.reduceEqDiff, Nat.reduceSub]
  | succ m ih =>
    intro j hj
    rw [r171_33]
    have e1 : ¬ nI 9823 ≤ nI j := nI_ge (by omega) (by decide)
    have z1 : 9823 * k + j < 2000000 := by omega
    have z2 : 9823 * k + j < 19646 := by omega
    have z3 : j < 2000000 := by omega
    have z4 : j < 9823 := by omega
    have e6 : upd (im2 (I 50) (I 49) k j) j (I 50 (9823 * k + j)) = im2 (I 50) (I 49) k (j + 1) := by
      funext i
      unfold upd im2
      by_cases h1 : i = j
      · subst h1
        rw [if_pos rfl, if_pos (by omega)]
      · rw [if_neg h1]
        by_cases h2 : i < j
        · rw [if_pos h2, if_pos (by omega)]
        · rw [if_neg h2, if_neg (by omega)]
    have e7 := ih (j + 1) (by omega)
    rw [← e6] at e7
    simp only [↓r171_0, ↓r171_1, ↓r171_2, ↓r171_3, ↓r171_6, ↓r171_9, ↓r171_10, ↓r171_11, ↓r171_14, ↓r171_15, ↓r171_16, ↓r171_19, ↓r171_20, ↓r171_21, ↓r171_24, ↓r171_25, ↓r171_27, ↓r171_30, ↓r171_31, ↓r171_32, ↓r171_34, ↓r171_37, ↓r171_40, ↓r171_41, ↓r171_44, ↓r171_45, ↓r171_46, ↓r171_49, ↓r171_52, ↓r171_53, ↓r171_54, ↓r171_55, ↓r171_56, ↓r171_56k, ↓r171_57, ↓r171_58, ↓r171_61, ↓r171_64, ↓r171_65, ↓r171_66, ↓r171_69, e1, z1, z2, z3, z4, Bool.false_eq_true, hn, hn2, ht, hF, am_wt, am_wf, Option.isSome_some, am_rf_s, am_rf_n, ps_lit, nI_add, nI_1, pk_mul, ps_cl, ps_neg, ps_c0, ps_c1, ps_n01, ps_n11, ps_10, ps_b01, ps_e0, pu_Ine, pu_Ieq, pu_ne, pu_eq, am_k_n, am_k_i, am_k_r, am_k_u, am_k_l, am_sz_0, am_sz_i, am_sz_r, am_sz_u, am_sz_l, Option.toList_some, Option.toList_none, List.cons_append, List.nil_append, true_and, and_true, or_false, false_or, or_self, or_true, true_or, not_false_eq_true, not_true_eq_false, Classical.not_not, ne_eq, ps_e1, ps_em, ps_z, Nat.not_le, false_implies, true_implies, forall_const, ps_01, ps_1n, ps_0n, ps_m10, ps_m1n, lg_cmp_gt, lg_cmp_ge, lg_cmp_le, lg_cmp_lt, lg_cmp_eq, pu_rne, pu_req, pu_uro, RFc_n, Nat.reduceAdd, Nat.reduceMul, Nat.reduceLT, Nat.reduceLeDiff, Nat.reduceEqDiff, Nat.reduceSub]
    exact e7
theorem l_back0 {k : Nat} (hW : WS n t F) (hk : k < 2) : am_W X (d + 1) 171 33 [some (.ref 47), some (.int (nI k)), some (.int 0)] [] (n, sl, t, I, J, F) Q ↔ Q (some (.int 0)) (n, sl, t, am_uI (am_ro I 49 (im2 (I 50) (I 49) k 9823)) 47 0 0, J, F) := by
  have e := l_back (X := X) (d := d) (Q := Q) (sl := sl) (J := J) (I := I) hW hk 9823 0 rfl
  have q : im2 (I 50) (I 49) k 0 = I 49 := by
    funext i
    unfold im2
    rw [if_neg (by omega)]
  rw [q, pu_roI] at e
  exact e
end IM
