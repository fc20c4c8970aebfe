/-! TEXTS: what a law of the class tells -/
section CT
/-- a clause of the class's -/
def CLR (S : Nat → Int32) (ls : Nat) (C : Nat → Int32) (k : Nat) (c : CL) : Prop := ∃ a b e, (a ≤ b ∧ b ≤ e ∧ e ≤ ls) ∧ (C (4 * k) = nI (c.1 - 1) ∧ C (4 * k + 1) = nI a ∧ C (4 * k + 2) = nI b ∧ C (4 * k + 3) = nI e) ∧ (1 ≤ c.1 ∧ c.1 ≤ 4) ∧ (c.1 ≠ 4 → CI S a b 64 c.2.1) ∧ (c.1 = 4 → c.2.1 = fun _ => some 0) ∧ ((b = e ∧ c.2.2 = fun _ => some true) ∨ (b < e ∧ CB S b e 64 c.2.2))
def LAWR (S : Nat → Int32) (ls : Nat) (C : Nat → Int32) (lc : Nat) (l : List CL) : Prop := ls ≤ 400 ∧ (1 ≤ l.length ∧ l.length ≤ 12) ∧ lc = 4 * l.length ∧ ∀ k (hk : k < l.length), CLR S ls C k l[k]
theorem told_take {l : List CL} {k h : Nat} {w : Nat → Int32} (hk : k < l.length) : told (l.take (k + 1)) h w = if l[k].1 = h ∧ l[k].2.2 w = some true then (match l[k].2.1 w with
  | some v => some v
  | none => told (l.take k) h w) else told (l.take k) h w := by
  rw [List.take_succ_eq_append_getElem hk, told_s]
  rfl
theorem TB_law {S : Nat → Int32} {ls : Nat} {C : Nat → Int32} {lc : Nat} {l : List CL} (h : LAWR S ls C lc l) : TB l := by
  obtain ⟨_, _, _, hk⟩ := h
  intro hd w v hw
  have key : ∀ k, k ≤ l.length → told (l.take k) hd w = some v → -1000000000 ≤ v ∧ v ≤ 1000000000 := by
    intro k
    induction k with
    | zero => intro _ e; rw [List.take_zero] at e; cases e
    | succ k ih =>
      intro hkl e
      rw [told_take (by omega)] at e
      split at e
      · cases eD : l[k].2.1 w with
        | none => rw [eD] at e; exact ih (by omega) e
        | some u =>
          rw [eD] at e
          cases e
          obtain ⟨a, b, e', _, _, ⟨c1, c2⟩, c3, c4, _⟩ := hk k (by omega)
          by_cases h4 : l[k].1 = 4
          · rw [c4 h4] at eD
            cases eD
            omega
          · exact (c3 h4).2.1 w v hw eD
      · exact ih (by omega) e
  intro e
  exact key l.length (Nat.le_refl _) (by rw [List.take_length]; exact e)
theorem dep_law {S : Nat → Int32} {ls : Nat} {C : Nat → Int32} {lc : Nat} {l : List CL} (h : LAWR S ls C lc l) {q : Nat} (hq : ∀ i, i < ls → S i ≠ nI (1001 + pw q)) (hd : Nat) {w w' : Nat → Int32} (hw : ∀ j, j < 11 → j ≠ q → w j = w' j) : told l hd w = told l hd w' := by
  obtain ⟨_, _, _, hk⟩ := h
  have hag : ∀ a b, b ≤ ls → agr S a b w w' := fun a b hb p hp ⟨i, x, y, z⟩ => by
    by_cases e : p = q
    · subst e
      exact absurd z (hq i (by omega))
    · exact hw p hp e
  have key : ∀ k, k ≤ l.length → told (l.take k) hd w = told (l.take k) hd w' := by
    intro k
    induction k with
    | zero => intro _; rw [List.take_zero]; rfl
    | succ k ih =>
      intro hkl
      obtain ⟨a, b, e', ⟨r1, r2, r3⟩, _, ⟨c1, c2⟩, c3, c4, c5⟩ := hk k (by omega)
      have d1 : l[k].2.1 w = l[k].2.1 w' := by
        by_cases h4 : l[k].1 = 4
        · rw [c4 h4]
        · exact (c3 h4).2.2.1 w w' (hag a b (by omega))
      have d2 : l[k].2.2 w = l[k].2.2 w' := by
        rcases c5 with ⟨_, c6⟩ | ⟨_, c6⟩
        · rw [c6]
        · exact c6.2.1 w w' (hag b e' r3)
      rw [told_take (by omega), told_take (by omega), d1, d2, ih (by omega)]
  have := key l.length (Nat.le_refl _)
  rw [List.take_length] at this
  exact this
theorem LC_of {S : Nat → Int32} {ls : Nat} {C : Nat → Int32} {lc : Nat} {l : List CL} (h : LAWR S ls C lc l) : LC S ls C lc l := by
  refine ⟨h.1, ?_, fun k hk hq hd w w' hw => dep_law h hq hd hw⟩
  intro X d Q n sl t I J F a sa ca hd w hW ⟨g1, g2⟩ ⟨g3, g4, g5⟩ ⟨g6, g7, g8⟩ ⟨g9, g10⟩ hs hc hhd hww h13 hQ
  obtain ⟨hn, hn2, ht, hF⟩ := id hW
  have htb := TB_law h
  obtain ⟨hls, ⟨hl1, hl2⟩, hlc, hk⟩ := h
  have g11 : a < 1000000 ∧ ca < 1000000 := by omega
  have eC : ∀ R, am_ro I 14 R ca = C := fun R => by rw [pu_rne (by omega)]; exact hc
  have hWH : ∀ R, WH n t (am_ro I 14 R) F a sa ls S w := fun R => ⟨hW, ⟨g3, g4, g1⟩, ⟨g6, g7, g9, hls⟩, by rw [pu_rne (by omega)]; exact hs, hww, fun k hk => by rw [pu_rne (by decide)]; exact h13 k hk⟩
  -- a run of steps
  have wrkI : ∀ (R : Nat → Int32) (x y : Nat) (D : DI) (Q' : Option Value → am_H → Prop), y ≤ ls → CI S x y 64 D → (∀ R, Q' (some (.int (hdI (D w)))) (n, sl, t, am_ro I 14 R, J, F)) → am_W X (d + 3) 70 0 [some (.ref a), some (.int (nI x)), some (.int (nI y)), some (.ref 12), none, none, none, none, none, none] [] (n, sl, t, am_ro I 14 R, J, F) Q' := by
    intro R x y D Q' hy hCI hQ'
    have hcl := c_work (X := X) (d := d + 1) (Q := Q') (sl := sl) (J := J) (fr := x) (hWH R) hy
    have hcl2 : Cl S w y (∀ R, Q' (some (.int (-nI 2000000000))) (n, sl, t, am_ro I 14 R, J, F)) (PW X (d + 1) n sl t (am_ro I 14 R) J F a x y Q') := by
      simp only [pu_ror] at hcl
      exact hcl
    have hE := fun v h => c_workE (X := X) (d := d + 1) (Q := Q') (sl := sl) (J := J) (fr := x) (x := v) (hWH R) hy h
    simp only [pu_ror] at hE
    have := hCI.2.2.2 S (fun _ _ _ => rfl) w y _ _ hww (Nat.le_refl _) hcl2 [] (by simp) (by
      cases eD : D w with
      | none => rw [eD] at hQ'; exact hQ'
      | some v => rw [eD] at hQ'; exact hE _ hQ')
    have := this 0 (R) none none (Nat.zero_le _) (by have := hCI.1.1; omega) trivial (by simp)
    rw [pu_ror] at this
    simp only [↓r70_0, ↓r70_0n, ↓r70_1, ↓r70_4, ↓r70_4n, ↓r70_6, ↓r70_7, ↓r70_9, ↓r70_10, ↓r70_12, ↓r70_13, am_k_i, am_k_n, am_k_r, Bool.false_eq_true, hn, hn2, ht, hF, am_wt, am_wf, Option.isSome_some, am_rf_s, am_rf_n, ps_lit, nI_add, nI_1, pk_mul, ps_cl, ps_neg, ps_c0, ps_c1, ps_n01, ps_n11, ps_10, ps_b01, ps_e0, pu_Ine, pu_Ieq, pu_ne, pu_eq, am_k_n, am_k_i, am_k_r, am_k_u, am_k_l, am_sz_0, am_sz_i, am_sz_r, am_sz_u, am_sz_l, Option.toList_some, Option.toList_none, List.cons_append, List.nil_append, true_and, and_true, or_false, false_or, or_self, or_true, true_or, not_false_eq_true, not_true_eq_false, Classical.not_not, ne_eq, ps_e1, ps_em, ps_z, Nat.not_le, false_implies, true_implies, forall_const, ps_01, ps_1n, ps_0n, ps_m10, ps_m1n, lg_cmp_gt, lg_cmp_ge, lg_cmp_le, lg_cmp_lt, lg_cmp_eq, pu_rne, pu_req, pu_uro, RFc_n, Nat.reduceAdd, Nat.reduceMul, Nat.reduceLT, Nat.reduceLeDiff, Nat.reduceEqDiff, Nat.reduceSub]
    exact this
  have wrkB : ∀ (R : Nat → Int32) (x y : Nat) (D : DB) (Q' : Option Value → am_H → Prop), y ≤ ls → CB S x y 64 D → (∀ R, Q' (some (.int (match D w with
      | some v => if v = true then 1 else 0
      | none => -nI 2000000000))) (n, sl, t, am_ro I 14 R, J, F)) → am_W X (d + 3) 70 0 [some (.ref a), some (.int (nI x)), some (.int (nI y)), some (.ref 12), none, none, none, none, none, none] [] (n, sl, t, am_ro I 14 R, J, F) Q' := by
    intro R x y D Q' hy hCI hQ'
    have hcl := c_work (X := X) (d := d + 1) (Q := Q') (sl := sl) (J := J) (fr := x) (hWH R) hy
    have hcl2 : Cl S w y (∀ R, Q' (some (.int (-nI 2000000000))) (n, sl, t, am_ro I 14 R, J, F)) (PW X (d + 1) n sl t (am_ro I 14 R) J F a x y Q') := by
      simp only [pu_ror] at hcl
      exact hcl
    have hE := fun v h => c_workE (X := X) (d := d + 1) (Q := Q') (sl := sl) (J := J) (fr := x) (x := v) (hWH R) hy h
    simp only [pu_ror] at hE
    have := hCI.2.2 S (fun _ _ _ => rfl) w y _ _ hww (Nat.le_refl _) hcl2 [] (by simp) (by
      cases eD : D w with
      | none => rw [eD] at hQ'; exact hQ'
      | some v => rw [eD] at hQ'; exact hE _ hQ')
    have := this 0 (R) none none (Nat.zero_le _) (by have := hCI.1.1; omega) trivial (by simp)
    rw [pu_ror] at this
    simp only [↓r70_0, ↓r70_0n, ↓r70_1, ↓r70_4, ↓r70_4n, ↓r70_6, ↓r70_7, ↓r70_9, ↓r70_10, ↓r70_12, ↓r70_13, am_k_i, am_k_n, am_k_r, Bool.false_eq_true, hn, hn2, ht, hF, am_wt, am_wf, Option.isSome_some, am_rf_s, am_rf_n, ps_lit, nI_add, nI_1, pk_mul, ps_cl, ps_neg, ps_c0, ps_c1, ps_n01, ps_n11, ps_10, ps_b01, ps_e0, pu_Ine, pu_Ieq, pu_ne, pu_eq, am_k_n, am_k_i, am_k_r, am_k_u, am_k_l, am_sz_0, am_sz_i, am_sz_r, am_sz_u, am_sz_l, Option.toList_some, Option.toList_none, List.cons_append, List.nil_append, true_and, and_true, or_false, false_or, or_self, or_true, true_or, not_false_eq_true, not_true_eq_false, Classical.not_not, ne_eq, ps_e1, ps_em, ps_z, Nat.not_le, false_implies, true_implies, forall_const, ps_01, ps_1n, ps_0n, ps_m10, ps_m1n, lg_cmp_gt, lg_cmp_ge, lg_cmp_le, lg_cmp_lt, lg_cmp_eq, pu_rne, pu_req, pu_uro, RFc_n, Nat.reduceAdd, Nat.reduceMul, Nat.reduceLT, Nat.reduceLeDiff, Nat.reduceEqDiff, Nat.reduceSub]
    exact this
  have hloop : ∀ k, k ≤ l.length → (∀ f, Q (some (.int (tva hd (told (l.take k) (hd + 1) w)))) (n, sl, t, am_ro I 14 f, J, F)) → ∀ (R : Nat → Int32) (l5 l6 l7 : Option Value), am_W X (d + 4) 69 12 [some (.ref a), some (.int (nI hd)), some (.ref 12), some (.int (-nI 2000000000)), some (.int (nI (4 * k) - nI 4)), l5, l6, l7] [] (n, sl, t, am_ro I 14 R, J, F) Q := by
    intro k
    induction k with
    | zero =>
      intro _ hQ R l5 l6 l7
      have e : nI (4 * 0) - nI 4 = -nI 4 := by decide
      have e2 : -nI 4 < 0 := by decide
      have := hQ R
      rw [e, r69_12]
      simp only [↓r69_14, ↓r69_120, ↓r69_121, e2, Bool.false_eq_true, hn, hn2, ht, hF, am_wt, am_wf, Option.isSome_some, am_rf_s, am_rf_n, ps_lit, nI_add, nI_1, pk_mul, ps_cl, ps_neg, ps_c0, ps_c1, ps_n01, ps_n11, ps_10, ps_b01, ps_e0, pu_Ine, pu_Ieq, pu_ne, pu_eq, am_k_n, am_k_i, am_k_r, am_k_u, am_k_l, am_sz_0, am_sz_i, am_sz_r, am_sz_u, am_sz_l, Option.toList_some, Option.toList_none, List.cons_append, List.nil_append, true_and, and_true, or_false, false_or, or_self, or_true, true_or, not_false_eq_true, not_true_eq_false, Classical.not_not, ne_eq, ps_e1, ps_em, ps_z, Nat.not_le, false_implies, true_implies, forall_const, ps_01, ps_1n, ps_0n, ps_m10, ps_m1n, lg_cmp_gt, lg_cmp_ge, lg_cmp_le, lg_cmp_lt, lg_cmp_eq, pu_rne, pu_req, pu_uro, RFc_n, Nat.reduceAdd, Nat.reduceMul, Nat.reduceLT, Nat.reduceLeDiff, Nat.reduceEqDiff, Nat.reduceSub]
      exact this
    | succ k ih =>
      intro hkl hQ R l5 l6 l7
      have hkk : k < l.length := by omega
      obtain ⟨x, y, e, ⟨r1, r2, r3⟩, ⟨q1, q2, q3, q4⟩, ⟨c1, c2⟩, c3, c4, c5⟩ := hk k hkk
      have e0 : nI (4 * (k + 1)) - nI 4 = nI (4 * k) := by rw [nI_sub (by omega)]; congr 1
      have e4 : nI (4 * k) + Int32.ofInt (-4) = nI (4 * k) - nI 4 := by rw [Int32.sub_eq_add_neg]; rfl
      have z : 4 * k < 2000000 ∧ 4 * k + 1 < 2000000 ∧ 4 * k + 2 < 2000000 ∧ 4 * k + 3 < 2000000 ∧ 4 * k < lc ∧ 4 * k + 1 < lc ∧ 4 * k + 2 < lc ∧ 4 * k + 3 < lc ∧ y < 2000000 ∧ e < 2000000 ∧ l[k].1 - 1 < 2000000 ∧ hd < 2000000 := by omega
      rw [told_take hkk] at hQ
      have skip : (∀ f, Q (some (.int (tva hd (told (l.take k) (hd + 1) w)))) (n, sl, t, am_ro I 14 f, J, F)) → ∀ (R : Nat → Int32) (l5 l6 l7 : Option Value), am_W X (d + 4) 69 114 [some (.ref a), some (.int (nI hd)), some (.ref 12), some (.int (-nI 2000000000)), some (.int (nI (4 * k))), l5, l6, l7] [] (n, sl, t, am_ro I 14 R, J, F) Q := by
        intro hQ' R l5 l6 l7
        simp only [↓r69_114, ↓r69_117, e4, am_k_i, Bool.false_eq_true, hn, hn2, ht, hF, am_wt, am_wf, Option.isSome_some, am_rf_s, am_rf_n, ps_lit, nI_add, nI_1, pk_mul, ps_cl, ps_neg, ps_c0, ps_c1, ps_n01, ps_n11, ps_10, ps_b01, ps_e0, pu_Ine, pu_Ieq, pu_ne, pu_eq, am_k_n, am_k_i, am_k_r, am_k_u, am_k_l, am_sz_0, am_sz_i, am_sz_r, am_sz_u, am_sz_l, Option.toList_some, Option.toList_none, List.cons_append, List.nil_append, true_and, and_true, or_false, false_or, or_self, or_true, true_or, not_false_eq_true, not_true_eq_false, Classical.not_not, ne_eq, ps_e1, ps_em, ps_z, Nat.not_le, false_implies, true_implies, forall_const, ps_01, ps_1n, ps_0n, ps_m10, ps_m1n, lg_cmp_gt, lg_cmp_ge, lg_cmp_le, lg_cmp_lt, lg_cmp_eq, pu_rne, pu_req, pu_uro, RFc_n, Nat.reduceAdd, Nat.reduceMul, Nat.reduceLT, Nat.reduceLeDiff, Nat.reduceEqDiff, Nat.reduceSub]
        exact ih (by omega) hQ' R _ _ _
      -- the sum, once the test holds
      have sum : l[k].1 = hd + 1 → l[k].2.2 w = some true → ∀ (R : Nat → Int32) (l6 l7 : Option Value), am_W X (d + 4) 69 88 [some (.ref a), some (.int (nI hd)), some (.ref 12), some (.int (-nI 2000000000)), some (.int (nI (4 * k))), some (.int (nI y)), l6, l7] [] (n, sl, t, am_ro I 14 R, J, F) Q := by
        intro hh hT R l6 l7
        rw [if_pos ⟨hh, hT⟩] at hQ
        have done : ∀ (R : Nat → Int32) (v : Int32) (l5 l6 l7 : Option Value), ¬ v = -nI 2000000000 → (∀ f, Q (some (.int v)) (n, sl, t, am_ro I 14 f, J, F)) → am_W X (d + 4) 69 114 [some (.ref a), some (.int (nI hd)), some (.ref 12), some (.int v), some (.int (nI (4 * k))), l5, l6, l7] [] (n, sl, t, am_ro I 14 R, J, F) Q := by
          intro R v l5 l6 l7 hv hQv
          have := hQv R
          simp only [↓r69_114, ↓r69_117, e4, am_k_i, Bool.false_eq_true, hn, hn2, ht, hF, am_wt, am_wf, Option.isSome_some, am_rf_s, am_rf_n, ps_lit, nI_add, nI_1, pk_mul, ps_cl, ps_neg, ps_c0, ps_c1, ps_n01, ps_n11, ps_10, ps_b01, ps_e0, pu_Ine, pu_Ieq, pu_ne, pu_eq, am_k_n, am_k_i, am_k_r, am_k_u, am_k_l, am_sz_0, am_sz_i, am_sz_r, am_sz_u, am_sz_l, Option.toList_some, Option.toList_none, List.cons_append, List.nil_append, true_and, and_true, or_false, false_or, or_self, or_true, true_or, not_false_eq_true, not_true_eq_false, Classical.not_not, ne_eq, ps_e1, ps_em, ps_z, Nat.not_le, false_implies, true_implies, forall_const, ps_01, ps_1n, ps_0n, ps_m10, ps_m1n, lg_cmp_gt, lg_cmp_ge, lg_cmp_le, lg_cmp_lt, lg_cmp_eq, pu_rne, pu_req, pu_uro, RFc_n, Nat.reduceAdd, Nat.reduceMul, Nat.reduceLT, Nat.reduceLeDiff, Nat.reduceEqDiff, Nat.reduceSub]
          rw [r69_12]
          by_cases ck : k = 0
          · subst ck
            have e5 : nI (4 * 0) - nI 4 = -nI 4 := by decide
            have e2 : -nI 4 < 0 := by decide
            rw [e5]
            simp only [↓r69_14, ↓r69_120, ↓r69_121, e2, Bool.false_eq_true, hn, hn2, ht, hF, am_wt, am_wf, Option.isSome_some, am_rf_s, am_rf_n, ps_lit, nI_add, nI_1, pk_mul, ps_cl, ps_neg, ps_c0, ps_c1, ps_n01, ps_n11, ps_10, ps_b01, ps_e0, pu_Ine, pu_Ieq, pu_ne, pu_eq, am_k_n, am_k_i, am_k_r, am_k_u, am_k_l, am_sz_0, am_sz_i, am_sz_r, am_sz_u, am_sz_l, Option.toList_some, Option.toList_none, List.cons_append, List.nil_append, true_and, and_true, or_false, false_or, or_self, or_true, true_or, not_false_eq_true, not_true_eq_false, Classical.not_not, ne_eq, ps_e1, ps_em, ps_z, Nat.not_le, false_implies, true_implies, forall_const, ps_01, ps_1n, ps_0n, ps_m10, ps_m1n, lg_cmp_gt, lg_cmp_ge, lg_cmp_le, lg_cmp_lt, lg_cmp_eq, pu_rne, pu_req, pu_uro, RFc_n, Nat.reduceAdd, Nat.reduceMul, Nat.reduceLT, Nat.reduceLeDiff, Nat.reduceEqDiff, Nat.reduceSub]
            exact this
          · have e5 : nI (4 * k) - nI 4 = nI (4 * k - 4) := nI_sub (by omega)
            have z5 : 4 * k - 4 < 2000000 := by omega
            rw [e5]
            simp only [↓r69_14, ↓r69_17, ↓r69_18, ↓r69_20, ↓r69_120, ↓r69_121, q_le, q_lt, q_eq, q_e0, q_e1, q_0e, q_1e, ps_n0, q_0le, q_le0, q_0lt, q_m1e, q_em1, z5, hv, Bool.false_eq_true, hn, hn2, ht, hF, am_wt, am_wf, Option.isSome_some, am_rf_s, am_rf_n, ps_lit, nI_add, nI_1, pk_mul, ps_cl, ps_neg, ps_c0, ps_c1, ps_n01, ps_n11, ps_10, ps_b01, ps_e0, pu_Ine, pu_Ieq, pu_ne, pu_eq, am_k_n, am_k_i, am_k_r, am_k_u, am_k_l, am_sz_0, am_sz_i, am_sz_r, am_sz_u, am_sz_l, Option.toList_some, Option.toList_none, List.cons_append, List.nil_append, true_and, and_true, or_false, false_or, or_self, or_true, true_or, not_false_eq_true, not_true_eq_false, Classical.not_not, ne_eq, ps_e1, ps_em, ps_z, Nat.not_le, false_implies, true_implies, forall_const, ps_01, ps_1n, ps_0n, ps_m10, ps_m1n, lg_cmp_gt, lg_cmp_ge, lg_cmp_le, lg_cmp_lt, lg_cmp_eq, pu_rne, pu_req, pu_uro, RFc_n, Nat.reduceAdd, Nat.reduceMul, Nat.reduceLT, Nat.reduceLeDiff, Nat.reduceEqDiff, Nat.reduceSub]
            exact this
        by_cases h3 : hd = 3
        · subst h3
          rw [c4 (by omega)] at hQ
          have h1 : ¬ (1 : Int32) = -nI 2000000000 := by decide
          simp only [↓r69_88, ↓r69_89, ↓r69_90, ↓r69_93, ↓r69_94, ↓r69_113, q_le, q_lt, q_eq, q_e0, q_e1, q_0e, q_1e, ps_n0, q_0le, q_le0, q_0lt, q_m1e, q_em1, am_k_n, am_k_i, am_k_r, Bool.false_eq_true, hn, hn2, ht, hF, am_wt, am_wf, Option.isSome_some, am_rf_s, am_rf_n, ps_lit, nI_add, nI_1, pk_mul, ps_cl, ps_neg, ps_c0, ps_c1, ps_n01, ps_n11, ps_10, ps_b01, ps_e0, pu_Ine, pu_Ieq, pu_ne, pu_eq, am_k_n, am_k_i, am_k_r, am_k_u, am_k_l, am_sz_0, am_sz_i, am_sz_r, am_sz_u, am_sz_l, Option.toList_some, Option.toList_none, List.cons_append, List.nil_append, true_and, and_true, or_false, false_or, or_self, or_true, true_or, not_false_eq_true, not_true_eq_false, Classical.not_not, ne_eq, ps_e1, ps_em, ps_z, Nat.not_le, false_implies, true_implies, forall_const, ps_01, ps_1n, ps_0n, ps_m10, ps_m1n, lg_cmp_gt, lg_cmp_ge, lg_cmp_le, lg_cmp_lt, lg_cmp_eq, pu_rne, pu_req, pu_uro, RFc_n, Nat.reduceAdd, Nat.reduceMul, Nat.reduceLT, Nat.reduceLeDiff, Nat.reduceEqDiff, Nat.reduceSub]
          exact done R 1 _ _ _ h1 hQ
        · have hCI := c3 (by omega)
          simp only [↓r69_88, ↓r69_89, ↓r69_90, ↓r69_93, ↓r69_94, ↓r69_97, ↓r69_98, ↓r69_99, ↓r69_102, ↓r69_104, ↓r69_105, ↓r69_106, ↓r69_106k, ↓r69_107, ↓r69_109, ↓r69_109n, ↓r69_110, q_le, q_lt, q_eq, q_e0, q_e1, q_0e, q_1e, ps_n0, q_0le, q_le0, q_0lt, q_m1e, q_em1, g3, g5, g6, g8, g10, g11, z, h3, eC, q2, Bool.false_eq_true, hn, hn2, ht, hF, am_wt, am_wf, Option.isSome_some, am_rf_s, am_rf_n, ps_lit, nI_add, nI_1, pk_mul, ps_cl, ps_neg, ps_c0, ps_c1, ps_n01, ps_n11, ps_10, ps_b01, ps_e0, pu_Ine, pu_Ieq, pu_ne, pu_eq, am_k_n, am_k_i, am_k_r, am_k_u, am_k_l, am_sz_0, am_sz_i, am_sz_r, am_sz_u, am_sz_l, Option.toList_some, Option.toList_none, List.cons_append, List.nil_append, true_and, and_true, or_false, false_or, or_self, or_true, true_or, not_false_eq_true, not_true_eq_false, Classical.not_not, ne_eq, ps_e1, ps_em, ps_z, Nat.not_le, false_implies, true_implies, forall_const, ps_01, ps_1n, ps_0n, ps_m10, ps_m1n, lg_cmp_gt, lg_cmp_ge, lg_cmp_le, lg_cmp_lt, lg_cmp_eq, pu_rne, pu_req, pu_uro, RFc_n, Nat.reduceAdd, Nat.reduceMul, Nat.reduceLT, Nat.reduceLeDiff, Nat.reduceEqDiff, Nat.reduceSub]
          refine wrkI R x y l[k].2.1 _ (by omega) hCI (fun R2 => ?_)
          simp only [↓r69_113, am_k_n, am_k_i, am_k_r, Bool.false_eq_true, hn, hn2, ht, hF, am_wt, am_wf, Option.isSome_some, am_rf_s, am_rf_n, ps_lit, nI_add, nI_1, pk_mul, ps_cl, ps_neg, ps_c0, ps_c1, ps_n01, ps_n11, ps_10, ps_b01, ps_e0, pu_Ine, pu_Ieq, pu_ne, pu_eq, am_k_n, am_k_i, am_k_r, am_k_u, am_k_l, am_sz_0, am_sz_i, am_sz_r, am_sz_u, am_sz_l, Option.toList_some, Option.toList_none, List.cons_append, List.nil_append, true_and, and_true, or_false, false_or, or_self, or_true, true_or, not_false_eq_true, not_true_eq_false, Classical.not_not, ne_eq, ps_e1, ps_em, ps_z, Nat.not_le, false_implies, true_implies, forall_const, ps_01, ps_1n, ps_0n, ps_m10, ps_m1n, lg_cmp_gt, lg_cmp_ge, lg_cmp_le, lg_cmp_lt, lg_cmp_eq, pu_rne, pu_req, pu_uro, RFc_n, Nat.reduceAdd, Nat.reduceMul, Nat.reduceLT, Nat.reduceLeDiff, Nat.reduceEqDiff, Nat.reduceSub]
          cases eD : l[k].2.1 w with
          | none =>
            rw [eD] at hQ
            exact skip hQ R2 _ _ _
          | some v =>
            rw [eD] at hQ
            have hb := hCI.2.1 w v hww eD
            have hun := oI_un hb.1 hb.2
            refine done R2 (Int32.ofInt v) _ _ _ hun (fun f => ?_)
            have e9 : tva hd (some v) = Int32.ofInt v := if_neg h3
            have := hQ f
            rw [e9] at this
            exact this
      rw [e0, r69_12]
      by_cases ch : l[k].1 = hd + 1
      · have ch' : l[k].1 - 1 = hd := by omega
        rcases c5 with ⟨c6, c7⟩ | ⟨c6, c7⟩
        · have c6' : e ≤ y := by omega
          simp only [↓r69_14, ↓r69_17, ↓r69_18, ↓r69_20, ↓r69_23, ↓r69_24, ↓r69_27, ↓r69_29, ↓r69_30, ↓r69_31, ↓r69_31k, ↓r69_32, ↓r69_34, ↓r69_35, ↓r69_38, ↓r69_40, ↓r69_41, ↓r69_42, ↓r69_42k, ↓r69_43, ↓r69_45, ↓r69_47, ↓r69_49, ↓r69_52, ↓r69_53, ↓r69_56, ↓r69_57, ↓r69_59, ↓r69_60, ↓r69_63, ↓r69_65, ↓r69_65k, ↓r69_66, ↓r69_67, ↓r69_70, ↓r69_72, q_le, q_lt, q_eq, q_e0, q_e1, q_0e, q_1e, ps_n0, q_0le, q_le0, q_0lt, q_m1e, q_em1, g3, g5, g6, g8, g10, g11, z, eC, q1, q3, q4, c6', ch', am_k_n, am_k_i, am_k_r, Bool.false_eq_true, hn, hn2, ht, hF, am_wt, am_wf, Option.isSome_some, am_rf_s, am_rf_n, ps_lit, nI_add, nI_1, pk_mul, ps_cl, ps_neg, ps_c0, ps_c1, ps_n01, ps_n11, ps_10, ps_b01, ps_e0, pu_Ine, pu_Ieq, pu_ne, pu_eq, am_k_n, am_k_i, am_k_r, am_k_u, am_k_l, am_sz_0, am_sz_i, am_sz_r, am_sz_u, am_sz_l, Option.toList_some, Option.toList_none, List.cons_append, List.nil_append, true_and, and_true, or_false, false_or, or_self, or_true, true_or, not_false_eq_true, not_true_eq_false, Classical.not_not, ne_eq, ps_e1, ps_em, ps_z, Nat.not_le, false_implies, true_implies, forall_const, ps_01, ps_1n, ps_0n, ps_m10, ps_m1n, lg_cmp_gt, lg_cmp_ge, lg_cmp_le, lg_cmp_lt, lg_cmp_eq, pu_rne, pu_req, pu_uro, RFc_n, Nat.reduceAdd, Nat.reduceMul, Nat.reduceLT, Nat.reduceLeDiff, Nat.reduceEqDiff, Nat.reduceSub]
          exact sum ch (by rw [c7]) R _ _
        · have c6' : ¬ e ≤ y := by omega
          simp only [↓r69_14, ↓r69_17, ↓r69_18, ↓r69_20, ↓r69_23, ↓r69_24, ↓r69_27, ↓r69_29, ↓r69_30, ↓r69_31, ↓r69_31k, ↓r69_32, ↓r69_34, ↓r69_35, ↓r69_38, ↓r69_40, ↓r69_41, ↓r69_42, ↓r69_42k, ↓r69_43, ↓r69_45, ↓r69_47, ↓r69_49, ↓r69_52, ↓r69_53, ↓r69_56, ↓r69_57, ↓r69_59, ↓r69_60, ↓r69_63, ↓r69_65, ↓r69_65k, ↓r69_66, ↓r69_67, ↓r69_70, ↓r69_72, ↓r69_75, ↓r69_76, ↓r69_78, ↓r69_80, ↓r69_80n, ↓r69_81, q_le, q_lt, q_eq, q_e0, q_e1, q_0e, q_1e, ps_n0, q_0le, q_le0, q_0lt, q_m1e, q_em1, g3, g5, g6, g8, g10, g11, z, eC, q1, q3, q4, c6', ch', am_k_n, am_k_i, am_k_r, Bool.false_eq_true, hn, hn2, ht, hF, am_wt, am_wf, Option.isSome_some, am_rf_s, am_rf_n, ps_lit, nI_add, nI_1, pk_mul, ps_cl, ps_neg, ps_c0, ps_c1, ps_n01, ps_n11, ps_10, ps_b01, ps_e0, pu_Ine, pu_Ieq, pu_ne, pu_eq, am_k_n, am_k_i, am_k_r, am_k_u, am_k_l, am_sz_0, am_sz_i, am_sz_r, am_sz_u, am_sz_l, Option.toList_some, Option.toList_none, List.cons_append, List.nil_append, true_and, and_true, or_false, false_or, or_self, or_true, true_or, not_false_eq_true, not_true_eq_false, Classical.not_not, ne_eq, ps_e1, ps_em, ps_z, Nat.not_le, false_implies, true_implies, forall_const, ps_01, ps_1n, ps_0n, ps_m10, ps_m1n, lg_cmp_gt, lg_cmp_ge, lg_cmp_le, lg_cmp_lt, lg_cmp_eq, pu_rne, pu_req, pu_uro, RFc_n, Nat.reduceAdd, Nat.reduceMul, Nat.reduceLT, Nat.reduceLeDiff, Nat.reduceEqDiff, Nat.reduceSub]
          refine wrkB R y e l[k].2.2 _ r3 c7 (fun R2 => ?_)
          cases eT : l[k].2.2 w with
          | none =>
            rw [if_neg (fun q => by rw [eT] at q; cases q.2)] at hQ
            have hne : ¬ -nI 2000000000 = 1 := by decide
            simp only [↓r69_84, ↓r69_85, hne, Bool.false_eq_true, hn, hn2, ht, hF, am_wt, am_wf, Option.isSome_some, am_rf_s, am_rf_n, ps_lit, nI_add, nI_1, pk_mul, ps_cl, ps_neg, ps_c0, ps_c1, ps_n01, ps_n11, ps_10, ps_b01, ps_e0, pu_Ine, pu_Ieq, pu_ne, pu_eq, am_k_n, am_k_i, am_k_r, am_k_u, am_k_l, am_sz_0, am_sz_i, am_sz_r, am_sz_u, am_sz_l, Option.toList_some, Option.toList_none, List.cons_append, List.nil_append, true_and, and_true, or_false, false_or, or_self, or_true, true_or, not_false_eq_true, not_true_eq_false, Classical.not_not, ne_eq, ps_e1, ps_em, ps_z, Nat.not_le, false_implies, true_implies, forall_const, ps_01, ps_1n, ps_0n, ps_m10, ps_m1n, lg_cmp_gt, lg_cmp_ge, lg_cmp_le, lg_cmp_lt, lg_cmp_eq, pu_rne, pu_req, pu_uro, RFc_n, Nat.reduceAdd, Nat.reduceMul, Nat.reduceLT, Nat.reduceLeDiff, Nat.reduceEqDiff, Nat.reduceSub]
            exact skip hQ R2 _ _ _
          | some v =>
            cases v with
            | false =>
              rw [if_neg (fun q => by rw [eT] at q; cases q.2)] at hQ
              simp only [↓r69_84, ↓r69_85, Bool.false_eq_true, hn, hn2, ht, hF, am_wt, am_wf, Option.isSome_some, am_rf_s, am_rf_n, ps_lit, nI_add, nI_1, pk_mul, ps_cl, ps_neg, ps_c0, ps_c1, ps_n01, ps_n11, ps_10, ps_b01, ps_e0, pu_Ine, pu_Ieq, pu_ne, pu_eq, am_k_n, am_k_i, am_k_r, am_k_u, am_k_l, am_sz_0, am_sz_i, am_sz_r, am_sz_u, am_sz_l, Option.toList_some, Option.toList_none, List.cons_append, List.nil_append, true_and, and_true, or_false, false_or, or_self, or_true, true_or, not_false_eq_true, not_true_eq_false, Classical.not_not, ne_eq, ps_e1, ps_em, ps_z, Nat.not_le, false_implies, true_implies, forall_const, ps_01, ps_1n, ps_0n, ps_m10, ps_m1n, lg_cmp_gt, lg_cmp_ge, lg_cmp_le, lg_cmp_lt, lg_cmp_eq, pu_rne, pu_req, pu_uro, RFc_n, Nat.reduceAdd, Nat.reduceMul, Nat.reduceLT, Nat.reduceLeDiff, Nat.reduceEqDiff, Nat.reduceSub]
              exact skip hQ R2 _ _ _
            | true =>
              simp only [↓r69_84, ↓r69_85, if_true, Bool.false_eq_true, hn, hn2, ht, hF, am_wt, am_wf, Option.isSome_some, am_rf_s, am_rf_n, ps_lit, nI_add, nI_1, pk_mul, ps_cl, ps_neg, ps_c0, ps_c1, ps_n01, ps_n11, ps_10, ps_b01, ps_e0, pu_Ine, pu_Ieq, pu_ne, pu_eq, am_k_n, am_k_i, am_k_r, am_k_u, am_k_l, am_sz_0, am_sz_i, am_sz_r, am_sz_u, am_sz_l, Option.toList_some, Option.toList_none, List.cons_append, List.nil_append, true_and, and_true, or_false, false_or, or_self, or_true, true_or, not_false_eq_true, not_true_eq_false, Classical.not_not, ne_eq, ps_e1, ps_em, ps_z, Nat.not_le, false_implies, true_implies, forall_const, ps_01, ps_1n, ps_0n, ps_m10, ps_m1n, lg_cmp_gt, lg_cmp_ge, lg_cmp_le, lg_cmp_lt, lg_cmp_eq, pu_rne, pu_req, pu_uro, RFc_n, Nat.reduceAdd, Nat.reduceMul, Nat.reduceLT, Nat.reduceLeDiff, Nat.reduceEqDiff, Nat.reduceSub]
              exact sum ch eT R2 _ _
      · rw [if_neg (fun q => ch q.1)] at hQ
        have ch' : ¬ l[k].1 - 1 = hd := by omega
        by_cases c6 : e ≤ y
        · simp only [↓r69_14, ↓r69_17, ↓r69_18, ↓r69_20, ↓r69_23, ↓r69_24, ↓r69_27, ↓r69_29, ↓r69_30, ↓r69_31, ↓r69_31k, ↓r69_32, ↓r69_34, ↓r69_35, ↓r69_38, ↓r69_40, ↓r69_41, ↓r69_42, ↓r69_42k, ↓r69_43, ↓r69_45, ↓r69_47, ↓r69_49, ↓r69_52, ↓r69_53, ↓r69_56, ↓r69_57, ↓r69_59, ↓r69_60, ↓r69_63, ↓r69_65, ↓r69_65k, ↓r69_66, ↓r69_67, q_le, q_lt, q_eq, q_e0, q_e1, q_0e, q_1e, ps_n0, q_0le, q_le0, q_0lt, q_m1e, q_em1, g3, g5, g6, g8, g10, g11, z, eC, q1, q3, q4, c6, ch', am_k_n, am_k_i, am_k_r, Bool.false_eq_true, hn, hn2, ht, hF, am_wt, am_wf, Option.isSome_some, am_rf_s, am_rf_n, ps_lit, nI_add, nI_1, pk_mul, ps_cl, ps_neg, ps_c0, ps_c1, ps_n01, ps_n11, ps_10, ps_b01, ps_e0, pu_Ine, pu_Ieq, pu_ne, pu_eq, am_k_n, am_k_i, am_k_r, am_k_u, am_k_l, am_sz_0, am_sz_i, am_sz_r, am_sz_u, am_sz_l, Option.toList_some, Option.toList_none, List.cons_append, List.nil_append, true_and, and_true, or_false, false_or, or_self, or_true, true_or, not_false_eq_true, not_true_eq_false, Classical.not_not, ne_eq, ps_e1, ps_em, ps_z, Nat.not_le, false_implies, true_implies, forall_const, ps_01, ps_1n, ps_0n, ps_m10, ps_m1n, lg_cmp_gt, lg_cmp_ge, lg_cmp_le, lg_cmp_lt, lg_cmp_eq, pu_rne, pu_req, pu_uro, RFc_n, Nat.reduceAdd, Nat.reduceMul, Nat.reduceLT, Nat.reduceLeDiff, Nat.reduceEqDiff, Nat.reduceSub]
          exact skip hQ R _ _ _
        · simp only [↓r69_14, ↓r69_17, ↓r69_18, ↓r69_20, ↓r69_23, ↓r69_24, ↓r69_27, ↓r69_29, ↓r69_30, ↓r69_31, ↓r69_31k, ↓r69_32, ↓r69_34, ↓r69_35, ↓r69_38, ↓r69_40, ↓r69_41, ↓r69_42, ↓r69_42k, ↓r69_43, ↓r69_45, ↓r69_47, ↓r69_49, ↓r69_52, ↓r69_53, ↓r69_56, ↓r69_57, ↓r69_59, ↓r69_60, ↓r69_63, ↓r69_65, ↓r69_65k, ↓r69_66, ↓r69_67, q_le, q_lt, q_eq, q_e0, q_e1, q_0e, q_1e, ps_n0, q_0le, q_le0, q_0lt, q_m1e, q_em1, g3, g5, g6, g8, g10, g11, z, eC, q1, q3, q4, c6, ch', am_k_n, am_k_i, am_k_r, Bool.false_eq_true, hn, hn2, ht, hF, am_wt, am_wf, Option.isSome_some, am_rf_s, am_rf_n, ps_lit, nI_add, nI_1, pk_mul, ps_cl, ps_neg, ps_c0, ps_c1, ps_n01, ps_n11, ps_10, ps_b01, ps_e0, pu_Ine, pu_Ieq, pu_ne, pu_eq, am_k_n, am_k_i, am_k_r, am_k_u, am_k_l, am_sz_0, am_sz_i, am_sz_r, am_sz_u, am_sz_l, Option.toList_some, Option.toList_none, List.cons_append, List.nil_append, true_and, and_true, or_false, false_or, or_self, or_true, true_or, not_false_eq_true, not_true_eq_false, Classical.not_not, ne_eq, ps_e1, ps_em, ps_z, Nat.not_le, false_implies, true_implies, forall_const, ps_01, ps_1n, ps_0n, ps_m10, ps_m1n, lg_cmp_gt, lg_cmp_ge, lg_cmp_le, lg_cmp_lt, lg_cmp_eq, pu_rne, pu_req, pu_uro, RFc_n, Nat.reduceAdd, Nat.reduceMul, Nat.reduceLT, Nat.reduceLeDiff, Nat.reduceEqDiff, Nat.reduceSub]
          exact skip hQ R _ _ _
  have start := hloop l.length (Nat.le_refl _) (by rw [List.take_length]; exact hQ) (I 14) none none none
  rw [pu_roI] at start
  simp only [↓r69_0, ↓r69_2, ↓r69_3, ↓r69_4, ↓r69_7, ↓r69_7k, ↓r69_8, ↓r69_9, ↓r69_10, g3, g5, g6, g8, g10, g11, hlc, am_k_n, am_k_i, am_k_r, Bool.false_eq_true, hn, hn2, ht, hF, am_wt, am_wf, Option.isSome_some, am_rf_s, am_rf_n, ps_lit, nI_add, nI_1, pk_mul, ps_cl, ps_neg, ps_c0, ps_c1, ps_n01, ps_n11, ps_10, ps_b01, ps_e0, pu_Ine, pu_Ieq, pu_ne, pu_eq, am_k_n, am_k_i, am_k_r, am_k_u, am_k_l, am_sz_0, am_sz_i, am_sz_r, am_sz_u, am_sz_l, Option.toList_some, Option.toList_none, List.cons_append, List.nil_append, true_and, and_true, or_false, false_or, or_self, or_true, true_or, not_false_eq_true, not_true_eq_false, Classical.not_not, ne_eq, ps_e1, ps_em, ps_z, Nat.not_le, false_implies, true_implies, forall_const, ps_01, ps_1n, ps_0n, ps_m10, ps_m1n, lg_cmp_gt, lg_cmp_ge, lg_cmp_le, lg_cmp_lt, lg_cmp_eq, pu_rne, pu_req, pu_uro, RFc_n, Nat.reduceAdd, Nat.reduceMul, Nat.reduceLT, Nat.reduceLeDiff, Nat.reduceEqDiff, Nat.reduceSub]
  exact start
end CT
