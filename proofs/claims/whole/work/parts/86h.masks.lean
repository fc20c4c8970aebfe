/-! TEXTS: what a text of the reference tells -/
section MH
variable {X : am_X} {d : Nat} {Q : Option Value → am_H → Prop} {n sl : Nat} {t : Nat → Nat × Nat} {I : Nat → Nat → Int32} {J : Nat → Nat → Int64} {F : Nat → Nat → Option Nat} {h : am_H}
variable {tk tv : Nat → Nat} {NT j : Nat} {K w : Nat → Int32}
/-- the cells while a text is asked -/
def bS (I : Nat → Nat → Int32) (j NT : Nat) (ac : Bool) : Nat → Nat → Int32 := am_ro I 47 (upd (upd (I 47) 18 (nI (400 * j + NT))) 22 (if ac = true then 1 else 0))
def hS (I : Nat → Nat → Int32) (j NT : Nat) (ac : Bool) (i : Nat) (x : Int32) : Nat → Nat → Int32 := am_ro I 47 (upd (upd (upd (upd (I 47) 18 (nI (400 * j + NT))) 22 (if ac = true then 1 else 0)) 17 (nI (400 * j + i))) 19 x)
theorem hS_17 {ac : Bool} {i : Nat} {x : Int32} : hS I j NT ac i x 47 17 = nI (400 * j + i) := rfl
theorem hS_18 {ac : Bool} {i : Nat} {x : Int32} : hS I j NT ac i x 47 18 = nI (400 * j + NT) := rfl
theorem hS_0 {ac : Bool} {i : Nat} {x : Int32} : am_uI (hS I j NT ac i x) 47 19 0 = eS (bS I j NT ac) j i false := by
  unfold hS eS bS
  rw [pu_uro, pu_uu, pu_ror, pu_req]
  rfl
theorem eS_h {ac b : Bool} {i : Nat} : eS (bS I j NT ac) j i b = hS I j NT ac i (if b = true then 1 else 0) := by
  unfold hS eS bS
  rw [pu_ror, pu_req]
theorem eS_22 {ac b : Bool} {i : Nat} : am_uI (eS (bS I j NT ac) j i b) 47 22 1 = hS I j NT true i (if b = true then 1 else 0) := by
  rw [eS_h]
  unfold hS
  rw [pu_uro]
  congr 1
  funext k
  unfold upd
  by_cases h1 : k = 22
  · rw [if_pos h1, if_neg (by omega), if_neg (by omega), if_pos h1]; rfl
  · rw [if_neg h1, if_neg h1, if_neg h1]
theorem told_s {l : List CL} {c : CL} {h : Nat} : told (l ++ [c]) h w = if c.1 = h ∧ c.2.2 w = some true then (match c.2.1 w with
  | some v => some v
  | none => told l h w) else told l h w := by
  unfold told
  rw [List.foldl_append]
  rfl
/-- what a text tells, all that is kept being known -/
def LM0 (K : Nat → Int32) (j : Nat) (l : List CL) : Prop := ∀ (X : am_X) (d : Nat) (Q : Option Value → am_H → Prop) (n sl : Nat) (t : Nat → Nat × Nat) (I : Nat → Nat → Int32) (J : Nat → Nat → Int64) (F : Nat → Nat → Option Nat) (h : Nat) (w : Nat → Int32), WS n t F → (∀ k, 1812 ≤ k → k < 9823 → I 49 k = K k) → 1 ≤ h → h < 5 → WV w → (∀ k, k < 11 → I 58 k = w k) →
  (∀ (f : Nat → Int32) (g : Nat → Int64), (∀ k, k ≠ 17 → k ≠ 18 → k ≠ 19 → k ≠ 22 → f k = I 47 k) → f 22 = (if (told l h w).isSome then 1 else 0) → g 21 = Int64.ofInt ((told l h w).getD 0) → Q none (n, sl, t, am_ro I 47 f, am_ro J 47 g, F)) → am_W X (d + 44) 221 0 [some (.ref 47), some (.int (nI j)), some (.int (nI h)), none, none, none, none, none] [] (n, sl, t, I, J, F) Q
theorem LM_of0 {l : List CL} (hT : TKK K j tk tv NT) (hp0 : pText tk tv NT = .ok l) : LM0 K j l := by
  intro X d Q n sl t I J F h w hW h49 hh1 hh5 hww h58 hQ
  obtain ⟨hn, hn2, ht, hF⟩ := id hW
  obtain ⟨⟨hN, h0, hj⟩, hkN, hkt⟩ := id hT
  have hE : ∀ ac, EH n t (bS I j NT ac) F K j tk tv NT w := fun ac => ⟨hW, hT, fun k k1 k2 => by unfold bS; rw [pu_rne (by decide)]; exact h49 k k1 k2, rfl, hww, fun k hk => by unfold bS; rw [pu_rne (by decide)]; exact h58 k hk⟩
  have zj : 400 * j + NT + 1 < 2000000 ∧ 400 * j + NT < 2000000 := by omega
  have fin : ∀ (acc : Option Int) i x (g : Nat → Int64), acc = told l h w → NT ≤ i → i ≤ NT + 1 → g 21 = jI (acc.getD 0) → ∀ l3 l4 l5 l6 l7 : Option Value, am_W X (d + 44) 221 38 [some (.ref 47), some (.int (nI j)), some (.int (nI h)), l3, l4, l5, l6, l7] [] (n, sl, t, hS I j NT acc.isSome i x, am_ro J 47 g, F) Q := by
    intro acc i x g ha hi hi2 hg l3 l4 l5 l6 l7
    have z : 400 * j + i < 2000000 := by omega
    have z2 : 400 * j + NT ≤ 400 * j + i := by omega
    rw [r221_38]
    simp only [↓r221_39, ↓r221_42, ↓r221_43, ↓r221_46, ↓r221_184, q_le, q_lt, q_eq, q_e0, q_e1, q_0e, q_1e, ps_n0, q_0le, q_le0, q_0lt, q_m1e, q_em1, hS_17, hS_18, zj, z, z2, Bool.false_eq_true, hn, hn2, ht, hF, am_wt, am_wf, Option.isSome_some, am_rf_s, am_rf_n, ps_lit, nI_add, nI_1, pk_mul, ps_cl, ps_neg, ps_c0, ps_c1, ps_n01, ps_n11, ps_10, ps_b01, ps_e0, pu_Ine, pu_Ieq, pu_ne, pu_eq, am_k_n, am_k_i, am_k_r, am_k_u, am_k_l, am_sz_0, am_sz_i, am_sz_r, am_sz_u, am_sz_l, Option.toList_some, Option.toList_none, List.cons_append, List.nil_append, true_and, and_true, or_false, false_or, or_self, or_true, true_or, not_false_eq_true, not_true_eq_false, Classical.not_not, ne_eq, ps_e1, ps_em, ps_z, Nat.not_le, false_implies, true_implies, forall_const, ps_01, ps_1n, ps_0n, ps_m10, ps_m1n, lg_cmp_gt, lg_cmp_ge, lg_cmp_le, lg_cmp_lt, lg_cmp_eq, pu_rne, pu_req, pu_uro, RFc_n, Nat.reduceAdd, Nat.reduceMul, Nat.reduceLT, Nat.reduceLeDiff, Nat.reduceEqDiff, Nat.reduceSub]
    refine hQ _ g (fun k k1 k2 k3 k4 => ?_) ?_ ?_
    · rw [pu_ne k3, pu_ne k1, pu_ne k4, pu_ne k2]
    · rw [← ha]
      cases acc <;> rfl
    · rw [← ha]
      exact hg
  -- the end of a clause
  have cend : ∀ (hd : Nat) (D : DI) (DT : DB) (l0 : List CL) (acc : Option Int) (x b2 : Bool) (i : Nat) (g : Nat → Int64), acc = told l0 h w → g 21 = jI (acc.getD 0) → hd < 5 → i ≤ NT → okB DT w true false x b2 → (∀ (acc : Option Int) x (g : Nat → Int64), acc = told (l0 ++ [(hd, D, DT)]) h w → g 21 = jI (acc.getD 0) → ∀ l3 l4 l5 l6 l7 : Option Value, am_W X (d + 44) 221 38 [some (.ref 47), some (.int (nI j)), some (.int (nI h)), l3, l4, l5, l6, l7] [] (n, sl, t, hS I j NT acc.isSome (i + 1) x, am_ro J 47 g, F) Q) → ∀ l7 : Option Value, (am_W X (d + 44) 221 123 [some (.ref 47), some (.int (nI j)), some (.int (nI h)), some (.int (nI hd)), some (.long (jI (oc D w true false).1)), none, some (.int (if (oc D w true false).2 = true then 1 else 0)), some (.int (if x = true then 1 else 0))] [] (n, sl, t, eS (bS I j NT acc.isSome) j i b2, am_ro J 47 g, F) Q) := by
    intro hd D DT l0 acc x b2 i g ha hg hhd hi hx hnext l7
    have zz : hd < 2000000 ∧ h < 2000000 := by omega
    rw [told_s] at hnext
    dsimp only at hnext
    unfold okB at hx
    rw [if_pos ⟨rfl, rfl⟩] at hx
    have no : (¬ (hd = h ∧ DT w = some true) ∨ D w = none) → ∀ l3 l4 l5 l6 l7 : Option Value, am_W X (d + 44) 221 38 [some (.ref 47), some (.int (nI j)), some (.int (nI h)), l3, l4, l5, l6, l7] [] (n, sl, t, eS (bS I j NT acc.isSome) j (i + 1) b2, am_ro J 47 g, F) Q := by
      intro hno
      rw [eS_h]
      refine hnext acc _ g ?_ hg
      by_cases c : hd = h ∧ DT w = some true
      · rw [if_pos c]
        rcases hno with q | q
        · exact absurd c q
        · rw [q]; exact ha
      · rw [if_neg c]; exact ha
    cases hDT : DT w with
    | none =>
      rw [hDT] at hx
      dsimp only at hx
      subst hx
      have := no (Or.inl (fun q => by rw [hDT] at q; cases q.2))
      cases x <;> simp only [↓r221_123, ↓r221_125, ↓r221_128, ↓r221_129, ↓r221_132, ↓r221_135, ↓r221_137, ↓r221_140, ↓r221_141, ↓r221_142, ↓r221_145, ↓r221_146, ↓r221_149, ↓r221_150, ↓r221_152, ↓r221_153, ↓r221_153r, ↓r221_154, ↓r221_157, ↓r221_158, ↓r221_159, ↓r221_162, ↓r221_164, ↓r221_167, eS_17, eS_19, eS_u17, am_k_n, am_k_i, am_k_l, if_true, Bool.false_eq_true, hn, hn2, ht, hF, am_wt, am_wf, Option.isSome_some, am_rf_s, am_rf_n, ps_lit, nI_add, nI_1, pk_mul, ps_cl, ps_neg, ps_c0, ps_c1, ps_n01, ps_n11, ps_10, ps_b01, ps_e0, pu_Ine, pu_Ieq, pu_ne, pu_eq, am_k_n, am_k_i, am_k_r, am_k_u, am_k_l, am_sz_0, am_sz_i, am_sz_r, am_sz_u, am_sz_l, Option.toList_some, Option.toList_none, List.cons_append, List.nil_append, true_and, and_true, or_false, false_or, or_self, or_true, true_or, not_false_eq_true, not_true_eq_false, Classical.not_not, ne_eq, ps_e1, ps_em, ps_z, Nat.not_le, false_implies, true_implies, forall_const, ps_01, ps_1n, ps_0n, ps_m10, ps_m1n, lg_cmp_gt, lg_cmp_ge, lg_cmp_le, lg_cmp_lt, lg_cmp_eq, pu_rne, pu_req, pu_uro, RFc_n, Nat.reduceAdd, Nat.reduceMul, Nat.reduceLT, Nat.reduceLeDiff, Nat.reduceEqDiff, Nat.reduceSub] <;> exact this _ _ _ _ _
    | some y =>
      rw [hDT] at hx
      obtain ⟨rfl, rfl⟩ := hx
      cases x with
      | false =>
        have := no (Or.inl (fun q => by rw [hDT] at q; cases q.2))
        simp only [↓r221_123, ↓r221_125, ↓r221_128, ↓r221_129, ↓r221_132, ↓r221_135, ↓r221_137, ↓r221_140, ↓r221_141, ↓r221_142, ↓r221_145, ↓r221_146, ↓r221_149, ↓r221_150, ↓r221_152, ↓r221_153, ↓r221_153r, ↓r221_154, ↓r221_157, ↓r221_158, ↓r221_159, ↓r221_162, ↓r221_164, ↓r221_167, eS_17, eS_19, eS_u17, am_k_n, am_k_i, am_k_l, if_false, Bool.false_eq_true, hn, hn2, ht, hF, am_wt, am_wf, Option.isSome_some, am_rf_s, am_rf_n, ps_lit, nI_add, nI_1, pk_mul, ps_cl, ps_neg, ps_c0, ps_c1, ps_n01, ps_n11, ps_10, ps_b01, ps_e0, pu_Ine, pu_Ieq, pu_ne, pu_eq, am_k_n, am_k_i, am_k_r, am_k_u, am_k_l, am_sz_0, am_sz_i, am_sz_r, am_sz_u, am_sz_l, Option.toList_some, Option.toList_none, List.cons_append, List.nil_append, true_and, and_true, or_false, false_or, or_self, or_true, true_or, not_false_eq_true, not_true_eq_false, Classical.not_not, ne_eq, ps_e1, ps_em, ps_z, Nat.not_le, false_implies, true_implies, forall_const, ps_01, ps_1n, ps_0n, ps_m10, ps_m1n, lg_cmp_gt, lg_cmp_ge, lg_cmp_le, lg_cmp_lt, lg_cmp_eq, pu_rne, pu_req, pu_uro, RFc_n, Nat.reduceAdd, Nat.reduceMul, Nat.reduceLT, Nat.reduceLeDiff, Nat.reduceEqDiff, Nat.reduceSub]
        exact this _ _ _ _ _
      | true =>
        cases hD : D w with
        | none =>
          have := no (Or.inr hD)
          rw [oc_n hD]
          simp only [↓r221_123, ↓r221_125, ↓r221_128, ↓r221_129, ↓r221_132, ↓r221_135, ↓r221_137, ↓r221_140, ↓r221_141, ↓r221_142, ↓r221_145, ↓r221_146, ↓r221_149, ↓r221_150, ↓r221_152, ↓r221_153, ↓r221_153r, ↓r221_154, ↓r221_157, ↓r221_158, ↓r221_159, ↓r221_162, ↓r221_164, ↓r221_167, eS_17, eS_19, eS_u17, am_k_n, am_k_i, am_k_l, if_true, if_false, Bool.false_eq_true, hn, hn2, ht, hF, am_wt, am_wf, Option.isSome_some, am_rf_s, am_rf_n, ps_lit, nI_add, nI_1, pk_mul, ps_cl, ps_neg, ps_c0, ps_c1, ps_n01, ps_n11, ps_10, ps_b01, ps_e0, pu_Ine, pu_Ieq, pu_ne, pu_eq, am_k_n, am_k_i, am_k_r, am_k_u, am_k_l, am_sz_0, am_sz_i, am_sz_r, am_sz_u, am_sz_l, Option.toList_some, Option.toList_none, List.cons_append, List.nil_append, true_and, and_true, or_false, false_or, or_self, or_true, true_or, not_false_eq_true, not_true_eq_false, Classical.not_not, ne_eq, ps_e1, ps_em, ps_z, Nat.not_le, false_implies, true_implies, forall_const, ps_01, ps_1n, ps_0n, ps_m10, ps_m1n, lg_cmp_gt, lg_cmp_ge, lg_cmp_le, lg_cmp_lt, lg_cmp_eq, pu_rne, pu_req, pu_uro, RFc_n, Nat.reduceAdd, Nat.reduceMul, Nat.reduceLT, Nat.reduceLeDiff, Nat.reduceEqDiff, Nat.reduceSub]
          exact this _ _ _ _ _
        | some v =>
          rw [oc_s hD]
          dsimp only
          by_cases ch : hd = h
          · have := hnext (some v) 0 (vp_updL g 21 (jI v)) (by rw [if_pos ⟨ch, hDT⟩, hD]) (by unfold vp_updL; rw [if_pos rfl]; rfl)
            have e22 := eS_22 (I := I) (j := j) (NT := NT) (ac := acc.isSome) (b := false) (i := i + 1)
            simp only [Bool.false_eq_true, if_false] at e22
            simp only [↓r221_123, ↓r221_125, ↓r221_128, ↓r221_129, ↓r221_132, ↓r221_135, ↓r221_137, ↓r221_140, ↓r221_141, ↓r221_142, ↓r221_145, ↓r221_146, ↓r221_149, ↓r221_150, ↓r221_152, ↓r221_153, ↓r221_153r, ↓r221_154, ↓r221_157, ↓r221_158, ↓r221_159, ↓r221_162, ↓r221_164, ↓r221_167, ↓r221_170, ↓r221_171, ↓r221_173, ↓r221_176, ↓r221_177, ↓r221_178, ↓r221_181, q_le, q_lt, q_eq, q_e0, q_e1, q_0e, q_1e, ps_n0, q_0le, q_le0, q_0lt, q_m1e, q_em1, zz, eS_17, eS_19, eS_u17, e22, ch, pu_uJ, pu_ror, pu_req, am_k_n, am_k_i, am_k_l, if_true, if_false, Bool.false_eq_true, hn, hn2, ht, hF, am_wt, am_wf, Option.isSome_some, am_rf_s, am_rf_n, ps_lit, nI_add, nI_1, pk_mul, ps_cl, ps_neg, ps_c0, ps_c1, ps_n01, ps_n11, ps_10, ps_b01, ps_e0, pu_Ine, pu_Ieq, pu_ne, pu_eq, am_k_n, am_k_i, am_k_r, am_k_u, am_k_l, am_sz_0, am_sz_i, am_sz_r, am_sz_u, am_sz_l, Option.toList_some, Option.toList_none, List.cons_append, List.nil_append, true_and, and_true, or_false, false_or, or_self, or_true, true_or, not_false_eq_true, not_true_eq_false, Classical.not_not, ne_eq, ps_e1, ps_em, ps_z, Nat.not_le, false_implies, true_implies, forall_const, ps_01, ps_1n, ps_0n, ps_m10, ps_m1n, lg_cmp_gt, lg_cmp_ge, lg_cmp_le, lg_cmp_lt, lg_cmp_eq, pu_rne, pu_req, pu_uro, RFc_n, Nat.reduceAdd, Nat.reduceMul, Nat.reduceLT, Nat.reduceLeDiff, Nat.reduceEqDiff, Nat.reduceSub]
            exact this _ _ _ _ _
          · have := no (Or.inl (fun q => ch q.1))
            simp only [↓r221_123, ↓r221_125, ↓r221_128, ↓r221_129, ↓r221_132, ↓r221_135, ↓r221_137, ↓r221_140, ↓r221_141, ↓r221_142, ↓r221_145, ↓r221_146, ↓r221_149, ↓r221_150, ↓r221_152, ↓r221_153, ↓r221_153r, ↓r221_154, ↓r221_157, ↓r221_158, ↓r221_159, ↓r221_162, ↓r221_164, ↓r221_167, q_le, q_lt, q_eq, q_e0, q_e1, q_0e, q_1e, ps_n0, q_0le, q_le0, q_0lt, q_m1e, q_em1, zz, eS_17, eS_19, eS_u17, ch, am_k_n, am_k_i, am_k_l, if_true, if_false, Bool.false_eq_true, hn, hn2, ht, hF, am_wt, am_wf, Option.isSome_some, am_rf_s, am_rf_n, ps_lit, nI_add, nI_1, pk_mul, ps_cl, ps_neg, ps_c0, ps_c1, ps_n01, ps_n11, ps_10, ps_b01, ps_e0, pu_Ine, pu_Ieq, pu_ne, pu_eq, am_k_n, am_k_i, am_k_r, am_k_u, am_k_l, am_sz_0, am_sz_i, am_sz_r, am_sz_u, am_sz_l, Option.toList_some, Option.toList_none, List.cons_append, List.nil_append, true_and, and_true, or_false, false_or, or_self, or_true, true_or, not_false_eq_true, not_true_eq_false, Classical.not_not, ne_eq, ps_e1, ps_em, ps_z, Nat.not_le, false_implies, true_implies, forall_const, ps_01, ps_1n, ps_0n, ps_m10, ps_m1n, lg_cmp_gt, lg_cmp_ge, lg_cmp_le, lg_cmp_lt, lg_cmp_eq, pu_rne, pu_req, pu_uro, RFc_n, Nat.reduceAdd, Nat.reduceMul, Nat.reduceLT, Nat.reduceLeDiff, Nat.reduceEqDiff, Nat.reduceSub]
            exact this _ _ _ _ _
  -- behind a clause's sum
  have mid : ∀ (hd : Nat) (D : DI) (l0 : List CL) (acc : Option Int) (i q : Nat) r (b0 : Bool) (g : Nat → Int64), acc = told l0 h w → g 21 = jI (acc.getD 0) → hd < 5 → i ≤ NT → q ≤ 50 → pIf tk tv hd D i q = .ok r → (∀ (acc : Option Int) x (g : Nat → Int64), acc = told (l0 ++ [r.2.2]) h w → g 21 = jI (acc.getD 0) → ∀ l3 l4 l5 l6 l7 : Option Value, am_W X (d + 44) 221 38 [some (.ref 47), some (.int (nI j)), some (.int (nI h)), l3, l4, l5, l6, l7] [] (n, sl, t, hS I j NT acc.isSome (r.1 + 1) x, am_ro J 47 g, F) Q) → ∀ l6 l7 : Option Value, (am_W X (d + 44) 221 100 [some (.ref 47), some (.int (nI j)), some (.int (nI h)), some (.int (nI hd)), some (.long (jI (oc D w true false).1)), none, some (.int (if (oc D w true false).2 = true then 1 else 0)), l7] [] (n, sl, t, eS (bS I j NT acc.isSome) j i false, am_ro J 47 g, F) Q) := by
    intro hd D l0 acc i q r b0 g ha hg hhd hi hq hp hnext l6 l7
    have h5 := hE acc.isSome
    have hTs := e_tests (X := X) (n := n) (sl := sl) (t := t) (J := am_ro J 47 g) (F := F) h5 8
    unfold pIf at hp
    by_cases c : tk i = 5
    · have hl : i < NT := tok_lt h0 hi (by omega)
      rw [if_pos c] at hp
      cases hu : pTest tk tv 8 (i + 1) q with
      | error x => rw [hu] at hp; cases hp
      | ok u =>
        rw [hu] at hp
        cases hp
        have hub := (BD_test (tk := tk) (tv := tv) h0 8 (i + 1) q hl hq).1 u hu
        simp only [↓r221_100, ↓r221_101, ↓r221_102, ↓r221_105, ↓r221_108, ↓r221_109, ↓r221_110, ↓e_pass1 h5 hi c, Bool.false_eq_true, hn, hn2, ht, hF, am_wt, am_wf, Option.isSome_some, am_rf_s, am_rf_n, ps_lit, nI_add, nI_1, pk_mul, ps_cl, ps_neg, ps_c0, ps_c1, ps_n01, ps_n11, ps_10, ps_b01, ps_e0, pu_Ine, pu_Ieq, pu_ne, pu_eq, am_k_n, am_k_i, am_k_r, am_k_u, am_k_l, am_sz_0, am_sz_i, am_sz_r, am_sz_u, am_sz_l, Option.toList_some, Option.toList_none, List.cons_append, List.nil_append, true_and, and_true, or_false, false_or, or_self, or_true, true_or, not_false_eq_true, not_true_eq_false, Classical.not_not, ne_eq, ps_e1, ps_em, ps_z, Nat.not_le, false_implies, true_implies, forall_const, ps_01, ps_1n, ps_0n, ps_m10, ps_m1n, lg_cmp_gt, lg_cmp_ge, lg_cmp_le, lg_cmp_lt, lg_cmp_eq, pu_rne, pu_req, pu_uro, RFc_n, Nat.reduceAdd, Nat.reduceMul, Nat.reduceLT, Nat.reduceLeDiff, Nat.reduceEqDiff, Nat.reduceSub]
        refine hTs (d + 2) _ (i + 1) q u true false hl hq hu (fun x b' hx => ?_)
        have := cend hd D u.2.2 l0 acc x b' u.1 g ha hg hhd hub.2.1 hx hnext none
        cases x <;> simp only [↓r221_113, ↓r221_116, ↓r221_117, ↓r221_120, ↓r221_121, am_k_n, am_k_i, am_k_l, if_true, Bool.false_eq_true, hn, hn2, ht, hF, am_wt, am_wf, Option.isSome_some, am_rf_s, am_rf_n, ps_lit, nI_add, nI_1, pk_mul, ps_cl, ps_neg, ps_c0, ps_c1, ps_n01, ps_n11, ps_10, ps_b01, ps_e0, pu_Ine, pu_Ieq, pu_ne, pu_eq, am_k_n, am_k_i, am_k_r, am_k_u, am_k_l, am_sz_0, am_sz_i, am_sz_r, am_sz_u, am_sz_l, Option.toList_some, Option.toList_none, List.cons_append, List.nil_append, true_and, and_true, or_false, false_or, or_self, or_true, true_or, not_false_eq_true, not_true_eq_false, Classical.not_not, ne_eq, ps_e1, ps_em, ps_z, Nat.not_le, false_implies, true_implies, forall_const, ps_01, ps_1n, ps_0n, ps_m10, ps_m1n, lg_cmp_gt, lg_cmp_ge, lg_cmp_le, lg_cmp_lt, lg_cmp_eq, pu_rne, pu_req, pu_uro, RFc_n, Nat.reduceAdd, Nat.reduceMul, Nat.reduceLT, Nat.reduceLeDiff, Nat.reduceEqDiff, Nat.reduceSub] <;> exact this
    · rw [if_neg c] at hp
      cases hp
      have := cend hd D (fun _ => some true) l0 acc true false i g ha hg hhd hi (by unfold okB; rw [if_pos ⟨rfl, rfl⟩]; exact ⟨rfl, rfl⟩) hnext none
      simp only [if_true] at this
      simp only [↓r221_100, ↓r221_101, ↓r221_102, ↓r221_105, ↓r221_116, ↓r221_117, ↓r221_120, ↓r221_121, ↓e_pass0 h5 hi (show 5 < 400 by decide) c, am_k_n, am_k_i, am_k_l, Bool.false_eq_true, hn, hn2, ht, hF, am_wt, am_wf, Option.isSome_some, am_rf_s, am_rf_n, ps_lit, nI_add, nI_1, pk_mul, ps_cl, ps_neg, ps_c0, ps_c1, ps_n01, ps_n11, ps_10, ps_b01, ps_e0, pu_Ine, pu_Ieq, pu_ne, pu_eq, am_k_n, am_k_i, am_k_r, am_k_u, am_k_l, am_sz_0, am_sz_i, am_sz_r, am_sz_u, am_sz_l, Option.toList_some, Option.toList_none, List.cons_append, List.nil_append, true_and, and_true, or_false, false_or, or_self, or_true, true_or, not_false_eq_true, not_true_eq_false, Classical.not_not, ne_eq, ps_e1, ps_em, ps_z, Nat.not_le, false_implies, true_implies, forall_const, ps_01, ps_1n, ps_0n, ps_m10, ps_m1n, lg_cmp_gt, lg_cmp_ge, lg_cmp_le, lg_cmp_lt, lg_cmp_eq, pu_rne, pu_req, pu_uro, RFc_n, Nat.reduceAdd, Nat.reduceMul, Nat.reduceLT, Nat.reduceLeDiff, Nat.reduceEqDiff, Nat.reduceSub]
      exact this
  -- a clause
  have clause : ∀ (l0 : List CL) (acc : Option Int) (i q : Nat) r x (g : Nat → Int64), acc = told l0 h w → g 21 = jI (acc.getD 0) → i ≤ NT → q ≤ 50 → pClause tk tv i q = .ok r → (∀ (acc : Option Int) x (g : Nat → Int64), acc = told (l0 ++ [r.2.2]) h w → g 21 = jI (acc.getD 0) → ∀ l3 l4 l5 l6 l7 : Option Value, am_W X (d + 44) 221 38 [some (.ref 47), some (.int (nI j)), some (.int (nI h)), l3, l4, l5, l6, l7] [] (n, sl, t, hS I j NT acc.isSome (r.1 + 1) x, am_ro J 47 g, F) Q) → ∀ l3 l4 l5 l6 l7 : Option Value, am_W X (d + 44) 221 38 [some (.ref 47), some (.int (nI j)), some (.int (nI h)), l3, l4, l5, l6, l7] [] (n, sl, t, hS I j NT acc.isSome i x, am_ro J 47 g, F) Q := by
    intro l0 acc i q r x g ha hg hi hq hp hnext l3 l4 l5 l6 l7
    have h5 := hE acc.isSome
    have hSs := e_sums (X := X) (n := n) (sl := sl) (t := t) (J := am_ro J 47 g) (F := F) h5 8
    unfold pClause at hp
    have e1 := fun b Q => e_code (X := X) (d := d + 43) (Q := Q) (sl := sl) (J := am_ro J 47 g) (b := b) h5 hi
    by_cases c : 1 ≤ tk i ∧ tk i ≤ 3
    · have hl : i < NT := tok_lt h0 hi (by omega)
      rw [if_pos c] at hp
      cases hs : pSum tk tv 8 (i + 1) q with
      | error y => rw [hs] at hp; cases hp
      | ok s =>
        rw [hs] at hp
        dsimp only at hp
        have hsb := (BD_sum (tk := tk) (tv := tv) h0 8 (i + 1) q hl hq).1 s hs
        have z : 400 * j + i < 2000000 ∧ tk i < 2000000 := by omega
        have z2 : ¬ 400 * j + NT ≤ 400 * j + i ∧ ¬ tk i = 4 := by omega
        rw [r221_38]
        simp only [↓r221_39, ↓r221_42, ↓r221_43, ↓r221_46, ↓r221_49, ↓r221_50, ↓r221_51, ↓r221_54, ↓r221_55, ↓r221_56, ↓r221_59, ↓r221_62, ↓r221_63, ↓r221_64, ↓r221_64r, ↓r221_65, ↓r221_68, ↓r221_69, ↓r221_70, ↓r221_73, ↓r221_74, ↓r221_75, ↓r221_78, ↓r221_79, ↓r221_82, ↓r221_83, ↓r221_84, ↓e1, q_le, q_lt, q_eq, q_e0, q_e1, q_0e, q_1e, ps_n0, q_0le, q_le0, q_0lt, q_m1e, q_em1, hS_17, hS_18, hS_0, eS_17, eS_u17, zj, z, z2, am_k_n, am_k_i, am_k_l, Bool.false_eq_true, hn, hn2, ht, hF, am_wt, am_wf, Option.isSome_some, am_rf_s, am_rf_n, ps_lit, nI_add, nI_1, pk_mul, ps_cl, ps_neg, ps_c0, ps_c1, ps_n01, ps_n11, ps_10, ps_b01, ps_e0, pu_Ine, pu_Ieq, pu_ne, pu_eq, am_k_n, am_k_i, am_k_r, am_k_u, am_k_l, am_sz_0, am_sz_i, am_sz_r, am_sz_u, am_sz_l, Option.toList_some, Option.toList_none, List.cons_append, List.nil_append, true_and, and_true, or_false, false_or, or_self, or_true, true_or, not_false_eq_true, not_true_eq_false, Classical.not_not, ne_eq, ps_e1, ps_em, ps_z, Nat.not_le, false_implies, true_implies, forall_const, ps_01, ps_1n, ps_0n, ps_m10, ps_m1n, lg_cmp_gt, lg_cmp_ge, lg_cmp_le, lg_cmp_lt, lg_cmp_eq, pu_rne, pu_req, pu_uro, RFc_n, Nat.reduceAdd, Nat.reduceMul, Nat.reduceLT, Nat.reduceLeDiff, Nat.reduceEqDiff, Nat.reduceSub]
        refine hSs (d + 14) _ (i + 1) q s true false hl hq hs ?_
        have := mid (tk i) s.2.2 l0 acc s.1 s.2.1 r false g ha hg (by omega) hsb.2.1 hsb.2.2.2 hp hnext none
        simp only [↓r221_87, ↓r221_89, ↓r221_90, ↓r221_93, ↓r221_95, ↓r221_96, ↓r221_97, eS_19, eS_u0, am_k_n, am_k_i, am_k_l, Bool.false_eq_true, hn, hn2, ht, hF, am_wt, am_wf, Option.isSome_some, am_rf_s, am_rf_n, ps_lit, nI_add, nI_1, pk_mul, ps_cl, ps_neg, ps_c0, ps_c1, ps_n01, ps_n11, ps_10, ps_b01, ps_e0, pu_Ine, pu_Ieq, pu_ne, pu_eq, am_k_n, am_k_i, am_k_r, am_k_u, am_k_l, am_sz_0, am_sz_i, am_sz_r, am_sz_u, am_sz_l, Option.toList_some, Option.toList_none, List.cons_append, List.nil_append, true_and, and_true, or_false, false_or, or_self, or_true, true_or, not_false_eq_true, not_true_eq_false, Classical.not_not, ne_eq, ps_e1, ps_em, ps_z, Nat.not_le, false_implies, true_implies, forall_const, ps_01, ps_1n, ps_0n, ps_m10, ps_m1n, lg_cmp_gt, lg_cmp_ge, lg_cmp_le, lg_cmp_lt, lg_cmp_eq, pu_rne, pu_req, pu_uro, RFc_n, Nat.reduceAdd, Nat.reduceMul, Nat.reduceLT, Nat.reduceLeDiff, Nat.reduceEqDiff, Nat.reduceSub]
        exact this _
    · rw [if_neg c] at hp
      by_cases c4 : tk i = 4
      · have hl : i < NT := tok_lt h0 hi (by omega)
        rw [if_pos c4] at hp
        have z : 400 * j + i < 2000000 := by omega
        have z2 : ¬ 400 * j + NT ≤ 400 * j + i := by omega
        have := mid 4 (fun _ => some 0) l0 acc (i + 1) q r false g ha hg (by omega) hl hq hp hnext none
        rw [oc_s (D := fun _ => some 0) (v := 0) rfl] at this
        rw [r221_38]
        simp only [↓r221_39, ↓r221_42, ↓r221_43, ↓r221_46, ↓r221_49, ↓r221_50, ↓r221_51, ↓r221_54, ↓r221_55, ↓r221_56, ↓r221_59, ↓r221_62, ↓r221_63, ↓r221_64, ↓r221_64r, ↓r221_65, ↓r221_68, ↓r221_69, ↓r221_70, ↓r221_73, ↓r221_74, ↓r221_75, ↓r221_78, ↓r221_79, ↓r221_82, ↓r221_83, ↓r221_84, ↓r221_87, ↓r221_89, ↓r221_90, ↓r221_93, ↓r221_95, ↓r221_96, ↓r221_97, ↓e1, q_le, q_lt, q_eq, q_e0, q_e1, q_0e, q_1e, ps_n0, q_0le, q_le0, q_0lt, q_m1e, q_em1, hS_17, hS_18, hS_0, eS_17, eS_19, eS_u17, eS_u0, zj, z, z2, c4, am_k_n, am_k_i, am_k_l, if_false, Bool.false_eq_true, hn, hn2, ht, hF, am_wt, am_wf, Option.isSome_some, am_rf_s, am_rf_n, ps_lit, nI_add, nI_1, pk_mul, ps_cl, ps_neg, ps_c0, ps_c1, ps_n01, ps_n11, ps_10, ps_b01, ps_e0, pu_Ine, pu_Ieq, pu_ne, pu_eq, am_k_n, am_k_i, am_k_r, am_k_u, am_k_l, am_sz_0, am_sz_i, am_sz_r, am_sz_u, am_sz_l, Option.toList_some, Option.toList_none, List.cons_append, List.nil_append, true_and, and_true, or_false, false_or, or_self, or_true, true_or, not_false_eq_true, not_true_eq_false, Classical.not_not, ne_eq, ps_e1, ps_em, ps_z, Nat.not_le, false_implies, true_implies, forall_const, ps_01, ps_1n, ps_0n, ps_m10, ps_m1n, lg_cmp_gt, lg_cmp_ge, lg_cmp_le, lg_cmp_lt, lg_cmp_eq, pu_rne, pu_req, pu_uro, RFc_n, Nat.reduceAdd, Nat.reduceMul, Nat.reduceLT, Nat.reduceLeDiff, Nat.reduceEqDiff, Nat.reduceSub]
        exact this _
      · rw [if_neg c4] at hp; cases hp
  have hl : ∀ g0 i q l0 (acc : Option Int) x (g : Nat → Int64), acc = told l0 h w → g 21 = jI (acc.getD 0) → i ≤ NT → q ≤ 50 → pCls tk tv NT g0 i q l0 = .ok l → ∀ l3 l4 l5 l6 l7 : Option Value, am_W X (d + 44) 221 38 [some (.ref 47), some (.int (nI j)), some (.int (nI h)), l3, l4, l5, l6, l7] [] (n, sl, t, hS I j NT acc.isSome i x, am_ro J 47 g, F) Q := by
    intro g0
    induction g0 with
    | zero => intro i q l0 acc x g ha hg hi hq hp; rw [pCls] at hp; cases hp
    | succ g0 ih =>
      intro i q l0 acc x g ha hg hi hq hp
      rw [pCls] at hp
      cases hc : pClause tk tv i q with
      | error y => rw [hc] at hp; cases hp
      | ok r =>
        rw [hc] at hp
        dsimp only at hp
        have hrb := (BD_clause (tk := tk) (tv := tv) h0 hi hq).1 r hc
        refine clause l0 acc i q r x g ha hg hi hq hc (fun acc' x' g' ha' hg' => ?_)
        by_cases c : r.1 = NT
        · rw [if_pos c] at hp
          cases hp
          exact fin acc' (r.1 + 1) x' g' ha' (by omega) (by omega) hg'
        · rw [if_neg c] at hp
          by_cases c2 : tk r.1 = 159
          · rw [if_pos c2] at hp
            exact ih (r.1 + 1) r.2.1 _ acc' x' g' ha' hg' (by omega) hrb.2.2 hp
          · rw [if_neg c2] at hp; cases hp
  have start := hl 12 0 0 [] none (I 47 19) (vp_updL (J 47) 21 0) rfl (by unfold vp_updL; rw [if_pos rfl]; rfl) (Nat.zero_le _) (by omega) hp0
  have e0 : am_uI (am_uI (am_uI I 47 17 (nI (400 * j))) 47 18 (nI (400 * j + NT))) 47 22 0 = hS I j NT false 0 (I 47 19) := by
    rw [pu_uI, pu_uI, pu_uI, pu_ror, pu_ror, pu_req, pu_req]
    unfold hS
    congr 1
    funext k
    unfold upd
    by_cases h1 : k = 22
    · rw [if_pos h1, if_neg (by omega), if_neg (by omega), if_pos h1]; rfl
    · rw [if_neg h1]
      by_cases h2 : k = 18
      · rw [if_pos h2, if_neg (by omega), if_neg (by omega), if_neg h1, if_pos h2]
      · rw [if_neg h2]
        by_cases h3 : k = 17
        · rw [if_pos h3, if_neg (by omega), if_pos h3]; rfl
        · rw [if_neg h3]
          by_cases h4 : k = 19
          · rw [if_pos h4, h4]
          · rw [if_neg h4, if_neg h3, if_neg h1, if_neg h2]
  have z : 1813 + j < 2000000 ∧ 1813 + j < 9823 ∧ j < 2000000 := by omega
  have k13 := h49 (1813 + j) (by omega) (by omega)
  have eN : (none : Option Int).isSome = false := rfl
  rw [eN, ← e0] at start
  simp only [↓r221_0, ↓r221_1, ↓r221_4, ↓r221_5, ↓r221_6, ↓r221_9, ↓r221_10, ↓r221_11, ↓r221_14, ↓r221_15, ↓r221_18, ↓r221_21, ↓r221_22, ↓r221_23, ↓r221_23k, ↓r221_24, ↓r221_25, ↓r221_28, ↓r221_29, ↓r221_30, ↓r221_33, ↓r221_34, ↓r221_35, k13, hkN, z, pu_uJ, Bool.false_eq_true, hn, hn2, ht, hF, am_wt, am_wf, Option.isSome_some, am_rf_s, am_rf_n, ps_lit, nI_add, nI_1, pk_mul, ps_cl, ps_neg, ps_c0, ps_c1, ps_n01, ps_n11, ps_10, ps_b01, ps_e0, pu_Ine, pu_Ieq, pu_ne, pu_eq, am_k_n, am_k_i, am_k_r, am_k_u, am_k_l, am_sz_0, am_sz_i, am_sz_r, am_sz_u, am_sz_l, Option.toList_some, Option.toList_none, List.cons_append, List.nil_append, true_and, and_true, or_false, false_or, or_self, or_true, true_or, not_false_eq_true, not_true_eq_false, Classical.not_not, ne_eq, ps_e1, ps_em, ps_z, Nat.not_le, false_implies, true_implies, forall_const, ps_01, ps_1n, ps_0n, ps_m10, ps_m1n, lg_cmp_gt, lg_cmp_ge, lg_cmp_le, lg_cmp_lt, lg_cmp_eq, pu_rne, pu_req, pu_uro, RFc_n, Nat.reduceAdd, Nat.reduceMul, Nat.reduceLT, Nat.reduceLeDiff, Nat.reduceEqDiff, Nat.reduceSub]
  exact start _ _ _ _ _
theorem LM_of {l : List CL} (hT : TKK K j tk tv NT) (hp0 : pText tk tv NT = .ok l) : LM K j l := by
  intro X d Q n sl t I J F h w hW h49 a3 a4 a5 a6 a7
  have hT' : TKK (I 49) j tk tv NT := by
    obtain ⟨b1, b2, b3⟩ := hT
    refine ⟨b1, ?_, fun i hi => ⟨?_, ?_, (b3 i hi).2.2⟩⟩
    · rw [h49 _ (by omega) (by unfold TX; omega)]; exact b2
    · rw [h49 _ (by omega) (by unfold TX; omega)]; exact (b3 i hi).1
    · rw [h49 _ (by omega) (by unfold TX; omega)]; exact (b3 i hi).2.1
  exact LM_of0 (K := I 49) hT' hp0 X d Q n sl t I J F h w hW (fun _ _ _ => rfl) a3 a4 a5 a6 a7
end MH
