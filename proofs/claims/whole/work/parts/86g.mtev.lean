/-! TEXTS: the reference works tests out -/
section MG
variable {X : am_X} {d : Nat} {Q : Option Value → am_H → Prop} {n sl : Nat} {t : Nat → Nat × Nat} {I : Nat → Nat → Int32} {J : Nat → Nat → Int64} {F : Nat → Nat → Option Nat} {h : am_H}
variable {tk tv : Nat → Nat} {NT j : Nat} {K w : Nat → Int32}
theorem BdI_part {S : Option (Nat → Nat → RD DI)} (hS : ∀ P, S = some P → BdI P) : BdI (pPart tk tv S) := by
  intro i q r hp
  unfold pPart at hp
  by_cases c1 : tk i = 191
  · rw [if_pos c1] at hp
    cases S with
    | none => cases hp
    | some P =>
      dsimp only at hp
      cases hs : P (i + 1) q with
      | error x => rw [hs] at hp; cases hp
      | ok s =>
        rw [hs] at hp
        dsimp only at hp
        split at hp
        · cases hp
          exact hS P rfl _ _ s hs
        · cases hp
  · rw [if_neg c1] at hp
    by_cases c2 : (tk i = 50 ∧ tv i ≤ 1000) ∨ (9 ≤ tk i ∧ tk i ≤ 19)
    · rw [if_pos c2] at hp
      split at hp
      · cases hp
      · cases hp
        intro w v hw hv
        dsimp only at hv
        unfold leafD at hv
        by_cases c3 : tk i = 50
        · rw [if_pos c3] at hv
          cases hv
          omega
        · rw [if_neg c3] at hv
          cases hv
          obtain ⟨u, hu, e⟩ := hw (tk i - 9) (by omega)
          rw [e, nI_toInt (by omega)]
          omega
    · rw [if_neg c2] at hp; cases hp
theorem BdI_more {sep : Nat → Bool} {P : Nat → Nat → RD DI} {f : Nat → Int → Int → Option Int} (hf : ∀ c x y u, f c x y = some u → -1000000000 ≤ u ∧ u ≤ 1000000000) : ∀ g i q D r, DBd D → pMore tk sep P (fun c a b => bi (f c) a b) g i q D = .ok r → DBd r.2.2 := by
  intro g
  induction g with
  | zero =>
    intro i q D r hD hp
    rw [pMore] at hp
    cases hp
    exact hD
  | succ g ih =>
    intro i q D r hD hp
    rw [pMore] at hp
    split at hp
    · cases hs : P (i + 1) q with
      | error x => rw [hs] at hp; cases hp
      | ok s =>
        rw [hs] at hp
        exact ih _ _ _ r (bi_b (hf _)) hp
    · cases hp
      exact hD
theorem BdI_then {sep : Nat → Bool} {P : Nat → Nat → RD DI} {f : Nat → Int → Int → Option Int} (hf : ∀ c x y u, f c x y = some u → -1000000000 ≤ u ∧ u ≤ 1000000000) (hP : BdI P) : BdI (pThen tk sep P (fun c a b => bi (f c) a b)) := by
  intro i q r hp
  unfold pThen at hp
  cases hs : P i q with
  | error x => rw [hs] at hp; cases hp
  | ok s =>
    rw [hs] at hp
    exact BdI_more hf 400 _ _ _ r (hP _ _ s hs) hp
theorem BdI_sum : ∀ e, BdI (pSum tk tv e) := by
  intro e
  induction e with
  | zero => exact BdI_then (f := opA) (fun c => opA_b) (BdI_then (f := opM) (fun c => opM_b) (BdI_part (fun P h => by cases h)))
  | succ e ih => exact BdI_then (f := opA) (fun c => opA_b) (BdI_then (f := opM) (fun c => opM_b) (BdI_part (fun P h => by cases h; exact ih)))
theorem e_sums (h : EH n t I F K j tk tv NT w) : ∀ e, EvI X (3 * e + 5) n sl t I J F j NT w 223 (fun l => [some (.ref 47), some (.int l), none, none, none, none, none]) (pSum tk tv e) := by
  have h0 := h.2.1.1.2.1
  have hBS : ∀ e P, sPr tk tv e = some P → BD NT P := fun e P hP => by
    cases e with
    | zero => cases hP
    | succ e => cases hP; exact BD_sum h0 e
  have hDS : ∀ e P, sPr tk tv e = some P → BdI P := fun e P hP => by
    cases e with
    | zero => cases hP
    | succ e => cases hP; exact BdI_sum e
  have st : ∀ k e, (∀ e', e = e' + 1 → EvI X (k + 2) n sl t I J F j NT w 223 (fun l => [some (.ref 47), some (.int l), none, none, none, none, none]) (pSum tk tv e')) → EvI X (k + 5) n sl t I J F j NT w 223 (fun l => [some (.ref 47), some (.int l), none, none, none, none, none]) (pSum tk tv e) := by
    intro k e hS
    rw [pSum_e]
    have p1 := BD_part (tv := tv) h0 (hBS e)
    have p2 := BdI_part (tk := tk) (tv := tv) (hDS e)
    exact e_sum h (e_term h (e_part h hS) p1 p2) (BD_then h0 rfl p1) (BdI_then (f := opM) (fun c => opM_b) p2)
  intro e
  induction e with
  | zero => exact st 0 0 (fun e' h => by cases h)
  | succ e ih => exact st (3 * e + 3) (e + 1) (fun e' h => by cases h; exact ih)
/-- how a test ends -/
def okB (D : DB) (w : Nat → Int32) (lv b x b' : Bool) : Prop := if lv = true ∧ b = false then (match D w with
  | some y => x = y ∧ b' = false
  | none => b' = true) else b' = b
def EvB (X : am_X) (k n sl : Nat) (t : Nat → Nat × Nat) (I : Nat → Nat → Int32) (J : Nat → Nat → Int64) (F : Nat → Nat → Option Nat) (j NT : Nat) (w : Nat → Int32) (m : Nat) (L : Int32 → am_L) (P : Nat → Nat → RD DB) : Prop := ∀ (d : Nat) (Q : Option Value → am_H → Prop) (i q : Nat) r (lv b : Bool), i ≤ NT → q ≤ 50 → P i q = .ok r → (∀ x b', okB r.2.2 w lv b x b' → Q (some (.int (if x = true then 1 else 0))) (n, sl, t, eS I j r.1 b', J, F)) → am_W X (d + k) m 0 (L (if lv = true then 1 else 0)) [] (n, sl, t, eS I j i b, J, F) Q
theorem ok_an {c : Nat} {D E : DB} {lv b v b1 x b' : Bool} (hv : okB D w lv b v b1) (hx : okB E w (lv && v) b1 x b') : okB ((fun _ a b => anD a b) c D E) w lv b (v && x) b' := by
  unfold okB at *
  by_cases a : lv = true ∧ b = false
  · obtain ⟨rfl, rfl⟩ := a
    rw [if_pos ⟨rfl, rfl⟩] at hv ⊢
    cases e : D w with
    | none =>
      rw [e] at hv
      have e2 : (fun _ a b => anD a b) c D E w = none := by show anD D E w = none; unfold anD; rw [e]
      rw [e2]
      dsimp only at hv ⊢
      subst hv
      rw [if_neg (by simp)] at hx
      exact hx
    | some y =>
      rw [e] at hv
      obtain ⟨rfl, rfl⟩ := hv
      cases v with
      | false =>
        have e2 : (fun _ a b => anD a b) c D E w = some false := by show anD D E w = some false; unfold anD; rw [e]
        rw [e2]
        rw [if_neg (by simp)] at hx
        exact ⟨by simp, hx⟩
      | true =>
        have e2 : (fun _ a b => anD a b) c D E w = E w := by show anD D E w = E w; unfold anD; rw [e]
        rw [e2]
        rw [if_pos ⟨rfl, rfl⟩] at hx
        cases e3 : E w with
        | none => rw [e3] at hx; exact hx
        | some y => rw [e3] at hx; exact ⟨by simp [hx.1], hx.2⟩
  · rw [if_neg a] at hv ⊢
    subst hv
    rw [if_neg (fun q => a ⟨by have := q.1; simp at this; exact this.1, q.2⟩)] at hx
    exact hx
theorem ok_or {c : Nat} {D E : DB} {lv b v b1 x b' : Bool} (hv : okB D w lv b v b1) (hx : okB E w (lv && !v) b1 x b') : okB ((fun _ a b => orD a b) c D E) w lv b (v || x) b' := by
  unfold okB at *
  by_cases a : lv = true ∧ b = false
  · obtain ⟨rfl, rfl⟩ := a
    rw [if_pos ⟨rfl, rfl⟩] at hv ⊢
    cases e : D w with
    | none =>
      rw [e] at hv
      have e2 : (fun _ a b => orD a b) c D E w = none := by show orD D E w = none; unfold orD; rw [e]
      rw [e2]
      dsimp only at hv ⊢
      subst hv
      rw [if_neg (by simp)] at hx
      exact hx
    | some y =>
      rw [e] at hv
      obtain ⟨rfl, rfl⟩ := hv
      cases v with
      | true =>
        have e2 : (fun _ a b => orD a b) c D E w = some true := by show orD D E w = some true; unfold orD; rw [e]
        rw [e2]
        rw [if_neg (by simp)] at hx
        exact ⟨by simp, hx⟩
      | false =>
        have e2 : (fun _ a b => orD a b) c D E w = E w := by show orD D E w = E w; unfold orD; rw [e]
        rw [e2]
        rw [if_pos ⟨rfl, rfl⟩] at hx
        cases e3 : E w with
        | none => rw [e3] at hx; exact hx
        | some y => rw [e3] at hx; exact ⟨by simp [hx.1], hx.2⟩
  · rw [if_neg a] at hv ⊢
    subst hv
    rw [if_neg (fun q => a ⟨by have := q.1; simp at this; exact this.1, q.2⟩)] at hx
    exact hx
theorem ok_nt {D : DB} {lv b x b' p : Bool} (hx : okB D w lv b x b') : okB (ntD p D) w lv b (x != p) b' := by
  unfold okB at *
  by_cases a : lv = true ∧ b = false
  · rw [if_pos a] at hx ⊢
    cases e : D w with
    | none =>
      rw [e] at hx
      have e2 : ntD p D w = none := by unfold ntD; rw [e]
      rw [e2]
      exact hx
    | some y =>
      rw [e] at hx
      have e2 : ntD p D w = some (y != p) := by unfold ntD; rw [e]
      rw [e2]
      exact ⟨by rw [hx.1], hx.2⟩
  · rw [if_neg a] at hx ⊢
    exact hx
/-- two sums against each other -/
theorem e_cmp {e : Nat} (h : EH n t I F K j tk tv NT w) {i q : Nat} {s u : Nat × Nat × DI} {lv b : Bool} (hi : i ≤ NT) (hq : q ≤ 50) (c1 : ¬ tk i = 140) (hs : pSum tk tv e i q = .ok s) (hc : tk s.1 = 160 ∨ tk s.1 = 162 ∨ tk s.1 = 161) (hu : pSum tk tv e (s.1 + 1) s.2.1 = .ok u) (hQ : ∀ x b', okB (cmD (tk s.1) s.2.2 u.2.2) w lv b x b' → Q (some (.int (if x = true then 1 else 0))) (n, sl, t, eS I j u.1 b', J, F)) : am_W X (d + 4 * e + 6) 231 0 [some (.ref 47), some (.int (if lv = true then 1 else 0)), none, none, none, none, none] [] (n, sl, t, eS I j i b, J, F) Q := by
  have hW := h.1
  obtain ⟨hn, hn2, ht, hF⟩ := id hW
  have h0 := h.2.1.1.2.1
  have hww := h.2.2.2.2.1
  have hS := e_sums (X := X) (n := n) (sl := sl) (t := t) (I := I) (J := J) (F := F) h e
  obtain ⟨b1, b2, b3, b4⟩ := (BD_sum (tk := tk) (tv := tv) h0 e i q hi hq).1 s hs
  have hl : s.1 < NT := tok_lt h0 b2 (by omega)
  have hd : d + 4 * e + 5 = d + e + (3 * e + 5) := by omega
  have e1 := fun b Q => e_code (X := X) (d := d + 4 * e + 5) (Q := Q) (sl := sl) (J := J) (b := b) h b2
  have hDs := BdI_sum e _ _ s hs
  have hDu := BdI_sum e _ _ u hu
  simp only [↓r231_0, ↓r231_1, ↓r231_3, ↓r231_6, ↓r231_9, ↓r231_30, ↓r231_31, ↓r231_32, ↓m_sign, ↓e_pass0 h hi (show 140 < 400 by decide) c1, Bool.false_eq_true, hn, hn2, ht, hF, am_wt, am_wf, Option.isSome_some, am_rf_s, am_rf_n, ps_lit, nI_add, nI_1, pk_mul, ps_cl, ps_neg, ps_c0, ps_c1, ps_n01, ps_n11, ps_10, ps_b01, ps_e0, pu_Ine, pu_Ieq, pu_ne, pu_eq, am_k_n, am_k_i, am_k_r, am_k_u, am_k_l, am_sz_0, am_sz_i, am_sz_r, am_sz_u, am_sz_l, Option.toList_some, Option.toList_none, List.cons_append, List.nil_append, true_and, and_true, or_false, false_or, or_self, or_true, true_or, not_false_eq_true, not_true_eq_false, Classical.not_not, ne_eq, ps_e1, ps_em, ps_z, Nat.not_le, false_implies, true_implies, forall_const, ps_01, ps_1n, ps_0n, ps_m10, ps_m1n, lg_cmp_gt, lg_cmp_ge, lg_cmp_le, lg_cmp_lt, lg_cmp_eq, pu_rne, pu_req, pu_uro, RFc_n, Nat.reduceAdd, Nat.reduceMul, Nat.reduceLT, Nat.reduceLeDiff, Nat.reduceEqDiff, Nat.reduceSub]
  rw [hd]
  refine hS (d + e) _ i q s lv b hi hq hs ?_
  rw [← hd]
  simp only [↓r231_35, ↓r231_36, ↓r231_37, ↓r231_38, ↓r231_41, ↓r231_44, ↓r231_46, ↓r231_47, ↓r231_47r, ↓r231_48, ↓r231_51, ↓r231_52, ↓r231_53, ↓r231_56, ↓r231_57, ↓r231_58, ↓e1, eS_17, eS_u17, am_k_n, am_k_i, am_k_l, Bool.false_eq_true, hn, hn2, ht, hF, am_wt, am_wf, Option.isSome_some, am_rf_s, am_rf_n, ps_lit, nI_add, nI_1, pk_mul, ps_cl, ps_neg, ps_c0, ps_c1, ps_n01, ps_n11, ps_10, ps_b01, ps_e0, pu_Ine, pu_Ieq, pu_ne, pu_eq, am_k_n, am_k_i, am_k_r, am_k_u, am_k_l, am_sz_0, am_sz_i, am_sz_r, am_sz_u, am_sz_l, Option.toList_some, Option.toList_none, List.cons_append, List.nil_append, true_and, and_true, or_false, false_or, or_self, or_true, true_or, not_false_eq_true, not_true_eq_false, Classical.not_not, ne_eq, ps_e1, ps_em, ps_z, Nat.not_le, false_implies, true_implies, forall_const, ps_01, ps_1n, ps_0n, ps_m10, ps_m1n, lg_cmp_gt, lg_cmp_ge, lg_cmp_le, lg_cmp_lt, lg_cmp_eq, pu_rne, pu_req, pu_uro, RFc_n, Nat.reduceAdd, Nat.reduceMul, Nat.reduceLT, Nat.reduceLeDiff, Nat.reduceEqDiff, Nat.reduceSub]
  rw [hd]
  refine hS (d + e) _ (s.1 + 1) s.2.1 u lv (oc s.2.2 w lv b).2 hl b4 hu ?_
  by_cases a : lv = true ∧ b = false
  · obtain ⟨rfl, rfl⟩ := a
    cases es : s.2.2 w with
    | none =>
      rw [oc_n es]
      dsimp only
      rw [oc_d (show ¬ (true = true ∧ true = false) by simp)]
      have := hQ false true (by
        unfold okB
        rw [if_pos ⟨rfl, rfl⟩]
        have : cmD (tk s.1) s.2.2 u.2.2 w = none := by unfold cmD; rw [es]
        rw [this])
      simp only [↓r231_61, ↓r231_63, ↓r231_64, ↓r231_67, ↓r231_68, ↓r231_71, ↓r231_125, ↓r231_126, eS_19, am_k_n, am_k_i, am_k_l, if_true, Bool.false_eq_true, hn, hn2, ht, hF, am_wt, am_wf, Option.isSome_some, am_rf_s, am_rf_n, ps_lit, nI_add, nI_1, pk_mul, ps_cl, ps_neg, ps_c0, ps_c1, ps_n01, ps_n11, ps_10, ps_b01, ps_e0, pu_Ine, pu_Ieq, pu_ne, pu_eq, am_k_n, am_k_i, am_k_r, am_k_u, am_k_l, am_sz_0, am_sz_i, am_sz_r, am_sz_u, am_sz_l, Option.toList_some, Option.toList_none, List.cons_append, List.nil_append, true_and, and_true, or_false, false_or, or_self, or_true, true_or, not_false_eq_true, not_true_eq_false, Classical.not_not, ne_eq, ps_e1, ps_em, ps_z, Nat.not_le, false_implies, true_implies, forall_const, ps_01, ps_1n, ps_0n, ps_m10, ps_m1n, lg_cmp_gt, lg_cmp_ge, lg_cmp_le, lg_cmp_lt, lg_cmp_eq, pu_rne, pu_req, pu_uro, RFc_n, Nat.reduceAdd, Nat.reduceMul, Nat.reduceLT, Nat.reduceLeDiff, Nat.reduceEqDiff, Nat.reduceSub]
      exact this
    | some x =>
      have hx := hDs w x hww es
      rw [oc_s es]
      dsimp only
      cases eu : u.2.2 w with
      | none =>
        rw [oc_n eu]
        have := hQ false true (by
          unfold okB
          rw [if_pos ⟨rfl, rfl⟩]
          have : cmD (tk s.1) s.2.2 u.2.2 w = none := by unfold cmD; rw [es, eu]
          rw [this])
        simp only [↓r231_61, ↓r231_63, ↓r231_64, ↓r231_67, ↓r231_68, ↓r231_71, ↓r231_125, ↓r231_126, eS_19, am_k_n, am_k_i, am_k_l, if_true, Bool.false_eq_true, hn, hn2, ht, hF, am_wt, am_wf, Option.isSome_some, am_rf_s, am_rf_n, ps_lit, nI_add, nI_1, pk_mul, ps_cl, ps_neg, ps_c0, ps_c1, ps_n01, ps_n11, ps_10, ps_b01, ps_e0, pu_Ine, pu_Ieq, pu_ne, pu_eq, am_k_n, am_k_i, am_k_r, am_k_u, am_k_l, am_sz_0, am_sz_i, am_sz_r, am_sz_u, am_sz_l, Option.toList_some, Option.toList_none, List.cons_append, List.nil_append, true_and, and_true, or_false, false_or, or_self, or_true, true_or, not_false_eq_true, not_true_eq_false, Classical.not_not, ne_eq, ps_e1, ps_em, ps_z, Nat.not_le, false_implies, true_implies, forall_const, ps_01, ps_1n, ps_0n, ps_m10, ps_m1n, lg_cmp_gt, lg_cmp_ge, lg_cmp_le, lg_cmp_lt, lg_cmp_eq, pu_rne, pu_req, pu_uro, RFc_n, Nat.reduceAdd, Nat.reduceMul, Nat.reduceLT, Nat.reduceLeDiff, Nat.reduceEqDiff, Nat.reduceSub]
        exact this
      | some y =>
        have hy := hDu w y hww eu
        rw [oc_s eu]
        dsimp only
        have this := hQ (cmpI (tk s.1) x y) false (by
          unfold okB
          rw [if_pos ⟨rfl, rfl⟩]
          have : cmD (tk s.1) s.2.2 u.2.2 w = some (cmpI (tk s.1) x y) := by unfold cmD; rw [es, eu]
          rw [this]
          exact ⟨rfl, rfl⟩)
        have y1 : (jI y ≤ jI x) = (y ≤ x) := jI_le (by omega) (by omega) (by omega) (by omega)
        have y2 : (jI x ≤ jI y) = (x ≤ y) := jI_le (by omega) (by omega) (by omega) (by omega)
        have y3 : (jI x = jI y) = (x = y) := by
          apply propext
          constructor
          · intro q
            have := congrArg Int64.toInt q
            rw [jI_t (by omega) (by omega), jI_t (by omega) (by omega)] at this
            exact this
          · rintro rfl; rfl
        rcases hc with k1 | k1 | k1
        · have cm : cmpI (tk s.1) x y = decide (x < y) := by unfold cmpI; rw [k1]; rfl
          rw [cm] at this
          simp only [decide_eq_true_eq] at this
          by_cases q1 : x < y
          · have q2 : ¬ y ≤ x := by omega
            rw [if_pos q1] at this
            simp only [↓r231_61, ↓r231_63, ↓r231_64, ↓r231_67, ↓r231_68, ↓r231_71, ↓r231_74, ↓r231_76, ↓r231_78, ↓r231_81, ↓r231_84, ↓r231_85, ↓r231_87, ↓r231_88, ↓r231_91, ↓r231_94, ↓r231_96, ↓r231_98, ↓r231_101, ↓r231_104, ↓r231_105, ↓r231_107, ↓r231_108, ↓r231_111, ↓r231_114, ↓r231_115, ↓r231_117, ↓r231_118, ↓r231_121, ↓r231_122, ↓r231_125, ↓r231_126, ↓m_sign, q_le, q_lt, q_eq, q_e0, q_e1, q_0e, q_1e, ps_n0, q_0le, q_le0, q_0lt, q_m1e, q_em1, eS_19, k1, lg_cmp_ge, y1, q2, am_k_n, am_k_i, am_k_l, if_false, Bool.false_eq_true, hn, hn2, ht, hF, am_wt, am_wf, Option.isSome_some, am_rf_s, am_rf_n, ps_lit, nI_add, nI_1, pk_mul, ps_cl, ps_neg, ps_c0, ps_c1, ps_n01, ps_n11, ps_10, ps_b01, ps_e0, pu_Ine, pu_Ieq, pu_ne, pu_eq, am_k_n, am_k_i, am_k_r, am_k_u, am_k_l, am_sz_0, am_sz_i, am_sz_r, am_sz_u, am_sz_l, Option.toList_some, Option.toList_none, List.cons_append, List.nil_append, true_and, and_true, or_false, false_or, or_self, or_true, true_or, not_false_eq_true, not_true_eq_false, Classical.not_not, ne_eq, ps_e1, ps_em, ps_z, Nat.not_le, false_implies, true_implies, forall_const, ps_01, ps_1n, ps_0n, ps_m10, ps_m1n, lg_cmp_gt, lg_cmp_ge, lg_cmp_le, lg_cmp_lt, lg_cmp_eq, pu_rne, pu_req, pu_uro, RFc_n, Nat.reduceAdd, Nat.reduceMul, Nat.reduceLT, Nat.reduceLeDiff, Nat.reduceEqDiff, Nat.reduceSub]
            exact this
          · have q2 : y ≤ x := by omega
            rw [if_neg q1] at this
            simp only [↓r231_61, ↓r231_63, ↓r231_64, ↓r231_67, ↓r231_68, ↓r231_71, ↓r231_74, ↓r231_76, ↓r231_78, ↓r231_81, ↓r231_84, ↓r231_85, ↓r231_87, ↓r231_88, ↓r231_91, ↓r231_94, ↓r231_96, ↓r231_98, ↓r231_101, ↓r231_104, ↓r231_105, ↓r231_107, ↓r231_108, ↓r231_111, ↓r231_114, ↓r231_115, ↓r231_117, ↓r231_118, ↓r231_121, ↓r231_122, ↓r231_125, ↓r231_126, ↓m_sign, q_le, q_lt, q_eq, q_e0, q_e1, q_0e, q_1e, ps_n0, q_0le, q_le0, q_0lt, q_m1e, q_em1, eS_19, k1, lg_cmp_ge, y1, q2, am_k_n, am_k_i, am_k_l, if_false, Bool.false_eq_true, hn, hn2, ht, hF, am_wt, am_wf, Option.isSome_some, am_rf_s, am_rf_n, ps_lit, nI_add, nI_1, pk_mul, ps_cl, ps_neg, ps_c0, ps_c1, ps_n01, ps_n11, ps_10, ps_b01, ps_e0, pu_Ine, pu_Ieq, pu_ne, pu_eq, am_k_n, am_k_i, am_k_r, am_k_u, am_k_l, am_sz_0, am_sz_i, am_sz_r, am_sz_u, am_sz_l, Option.toList_some, Option.toList_none, List.cons_append, List.nil_append, true_and, and_true, or_false, false_or, or_self, or_true, true_or, not_false_eq_true, not_true_eq_false, Classical.not_not, ne_eq, ps_e1, ps_em, ps_z, Nat.not_le, false_implies, true_implies, forall_const, ps_01, ps_1n, ps_0n, ps_m10, ps_m1n, lg_cmp_gt, lg_cmp_ge, lg_cmp_le, lg_cmp_lt, lg_cmp_eq, pu_rne, pu_req, pu_uro, RFc_n, Nat.reduceAdd, Nat.reduceMul, Nat.reduceLT, Nat.reduceLeDiff, Nat.reduceEqDiff, Nat.reduceSub]
            exact this
        · have cm : cmpI (tk s.1) x y = decide (y < x) := by unfold cmpI; rw [k1]; rfl
          rw [cm] at this
          simp only [decide_eq_true_eq] at this
          by_cases q1 : y < x
          · have q2 : ¬ x ≤ y := by omega
            rw [if_pos q1] at this
            simp only [↓r231_61, ↓r231_63, ↓r231_64, ↓r231_67, ↓r231_68, ↓r231_71, ↓r231_74, ↓r231_76, ↓r231_78, ↓r231_81, ↓r231_84, ↓r231_85, ↓r231_87, ↓r231_88, ↓r231_91, ↓r231_94, ↓r231_96, ↓r231_98, ↓r231_101, ↓r231_104, ↓r231_105, ↓r231_107, ↓r231_108, ↓r231_111, ↓r231_114, ↓r231_115, ↓r231_117, ↓r231_118, ↓r231_121, ↓r231_122, ↓r231_125, ↓r231_126, ↓m_sign, q_le, q_lt, q_eq, q_e0, q_e1, q_0e, q_1e, ps_n0, q_0le, q_le0, q_0lt, q_m1e, q_em1, eS_19, k1, lg_cmp_le, y2, q2, am_k_n, am_k_i, am_k_l, if_false, Bool.false_eq_true, hn, hn2, ht, hF, am_wt, am_wf, Option.isSome_some, am_rf_s, am_rf_n, ps_lit, nI_add, nI_1, pk_mul, ps_cl, ps_neg, ps_c0, ps_c1, ps_n01, ps_n11, ps_10, ps_b01, ps_e0, pu_Ine, pu_Ieq, pu_ne, pu_eq, am_k_n, am_k_i, am_k_r, am_k_u, am_k_l, am_sz_0, am_sz_i, am_sz_r, am_sz_u, am_sz_l, Option.toList_some, Option.toList_none, List.cons_append, List.nil_append, true_and, and_true, or_false, false_or, or_self, or_true, true_or, not_false_eq_true, not_true_eq_false, Classical.not_not, ne_eq, ps_e1, ps_em, ps_z, Nat.not_le, false_implies, true_implies, forall_const, ps_01, ps_1n, ps_0n, ps_m10, ps_m1n, lg_cmp_gt, lg_cmp_ge, lg_cmp_le, lg_cmp_lt, lg_cmp_eq, pu_rne, pu_req, pu_uro, RFc_n, Nat.reduceAdd, Nat.reduceMul, Nat.reduceLT, Nat.reduceLeDiff, Nat.reduceEqDiff, Nat.reduceSub]
            exact this
          · have q2 : x ≤ y := by omega
            rw [if_neg q1] at this
            simp only [↓r231_61, ↓r231_63, ↓r231_64, ↓r231_67, ↓r231_68, ↓r231_71, ↓r231_74, ↓r231_76, ↓r231_78, ↓r231_81, ↓r231_84, ↓r231_85, ↓r231_87, ↓r231_88, ↓r231_91, ↓r231_94, ↓r231_96, ↓r231_98, ↓r231_101, ↓r231_104, ↓r231_105, ↓r231_107, ↓r231_108, ↓r231_111, ↓r231_114, ↓r231_115, ↓r231_117, ↓r231_118, ↓r231_121, ↓r231_122, ↓r231_125, ↓r231_126, ↓m_sign, q_le, q_lt, q_eq, q_e0, q_e1, q_0e, q_1e, ps_n0, q_0le, q_le0, q_0lt, q_m1e, q_em1, eS_19, k1, lg_cmp_le, y2, q2, am_k_n, am_k_i, am_k_l, if_false, Bool.false_eq_true, hn, hn2, ht, hF, am_wt, am_wf, Option.isSome_some, am_rf_s, am_rf_n, ps_lit, nI_add, nI_1, pk_mul, ps_cl, ps_neg, ps_c0, ps_c1, ps_n01, ps_n11, ps_10, ps_b01, ps_e0, pu_Ine, pu_Ieq, pu_ne, pu_eq, am_k_n, am_k_i, am_k_r, am_k_u, am_k_l, am_sz_0, am_sz_i, am_sz_r, am_sz_u, am_sz_l, Option.toList_some, Option.toList_none, List.cons_append, List.nil_append, true_and, and_true, or_false, false_or, or_self, or_true, true_or, not_false_eq_true, not_true_eq_false, Classical.not_not, ne_eq, ps_e1, ps_em, ps_z, Nat.not_le, false_implies, true_implies, forall_const, ps_01, ps_1n, ps_0n, ps_m10, ps_m1n, lg_cmp_gt, lg_cmp_ge, lg_cmp_le, lg_cmp_lt, lg_cmp_eq, pu_rne, pu_req, pu_uro, RFc_n, Nat.reduceAdd, Nat.reduceMul, Nat.reduceLT, Nat.reduceLeDiff, Nat.reduceEqDiff, Nat.reduceSub]
            exact this
        · have cm : cmpI (tk s.1) x y = decide (x = y) := by unfold cmpI; rw [k1]; rfl
          rw [cm] at this
          simp only [decide_eq_true_eq] at this
          by_cases q1 : x = y
          · rw [if_pos q1] at this
            simp only [↓r231_61, ↓r231_63, ↓r231_64, ↓r231_67, ↓r231_68, ↓r231_71, ↓r231_74, ↓r231_76, ↓r231_78, ↓r231_81, ↓r231_84, ↓r231_85, ↓r231_87, ↓r231_88, ↓r231_91, ↓r231_94, ↓r231_96, ↓r231_98, ↓r231_101, ↓r231_104, ↓r231_105, ↓r231_107, ↓r231_108, ↓r231_111, ↓r231_114, ↓r231_115, ↓r231_117, ↓r231_118, ↓r231_121, ↓r231_122, ↓r231_125, ↓r231_126, ↓m_sign, q_le, q_lt, q_eq, q_e0, q_e1, q_0e, q_1e, ps_n0, q_0le, q_le0, q_0lt, q_m1e, q_em1, eS_19, k1, lg_cmp_eq, y3, q1, am_k_n, am_k_i, am_k_l, if_false, Bool.false_eq_true, hn, hn2, ht, hF, am_wt, am_wf, Option.isSome_some, am_rf_s, am_rf_n, ps_lit, nI_add, nI_1, pk_mul, ps_cl, ps_neg, ps_c0, ps_c1, ps_n01, ps_n11, ps_10, ps_b01, ps_e0, pu_Ine, pu_Ieq, pu_ne, pu_eq, am_k_n, am_k_i, am_k_r, am_k_u, am_k_l, am_sz_0, am_sz_i, am_sz_r, am_sz_u, am_sz_l, Option.toList_some, Option.toList_none, List.cons_append, List.nil_append, true_and, and_true, or_false, false_or, or_self, or_true, true_or, not_false_eq_true, not_true_eq_false, Classical.not_not, ne_eq, ps_e1, ps_em, ps_z, Nat.not_le, false_implies, true_implies, forall_const, ps_01, ps_1n, ps_0n, ps_m10, ps_m1n, lg_cmp_gt, lg_cmp_ge, lg_cmp_le, lg_cmp_lt, lg_cmp_eq, pu_rne, pu_req, pu_uro, RFc_n, Nat.reduceAdd, Nat.reduceMul, Nat.reduceLT, Nat.reduceLeDiff, Nat.reduceEqDiff, Nat.reduceSub]
            exact this
          · rw [if_neg q1] at this
            simp only [↓r231_61, ↓r231_63, ↓r231_64, ↓r231_67, ↓r231_68, ↓r231_71, ↓r231_74, ↓r231_76, ↓r231_78, ↓r231_81, ↓r231_84, ↓r231_85, ↓r231_87, ↓r231_88, ↓r231_91, ↓r231_94, ↓r231_96, ↓r231_98, ↓r231_101, ↓r231_104, ↓r231_105, ↓r231_107, ↓r231_108, ↓r231_111, ↓r231_114, ↓r231_115, ↓r231_117, ↓r231_118, ↓r231_121, ↓r231_122, ↓r231_125, ↓r231_126, ↓m_sign, q_le, q_lt, q_eq, q_e0, q_e1, q_0e, q_1e, ps_n0, q_0le, q_le0, q_0lt, q_m1e, q_em1, eS_19, k1, lg_cmp_eq, y3, q1, am_k_n, am_k_i, am_k_l, if_false, Bool.false_eq_true, hn, hn2, ht, hF, am_wt, am_wf, Option.isSome_some, am_rf_s, am_rf_n, ps_lit, nI_add, nI_1, pk_mul, ps_cl, ps_neg, ps_c0, ps_c1, ps_n01, ps_n11, ps_10, ps_b01, ps_e0, pu_Ine, pu_Ieq, pu_ne, pu_eq, am_k_n, am_k_i, am_k_r, am_k_u, am_k_l, am_sz_0, am_sz_i, am_sz_r, am_sz_u, am_sz_l, Option.toList_some, Option.toList_none, List.cons_append, List.nil_append, true_and, and_true, or_false, false_or, or_self, or_true, true_or, not_false_eq_true, not_true_eq_false, Classical.not_not, ne_eq, ps_e1, ps_em, ps_z, Nat.not_le, false_implies, true_implies, forall_const, ps_01, ps_1n, ps_0n, ps_m10, ps_m1n, lg_cmp_gt, lg_cmp_ge, lg_cmp_le, lg_cmp_lt, lg_cmp_eq, pu_rne, pu_req, pu_uro, RFc_n, Nat.reduceAdd, Nat.reduceMul, Nat.reduceLT, Nat.reduceLeDiff, Nat.reduceEqDiff, Nat.reduceSub]
            exact this
  · rw [oc_d a]
    dsimp only
    rw [oc_d a]
    have := hQ false b (by
      unfold okB
      rw [if_neg a])
    cases lv with
    | false =>
      simp only [↓r231_61, ↓r231_63, ↓r231_64, ↓r231_125, ↓r231_126, am_k_n, am_k_i, am_k_l, Bool.false_eq_true, hn, hn2, ht, hF, am_wt, am_wf, Option.isSome_some, am_rf_s, am_rf_n, ps_lit, nI_add, nI_1, pk_mul, ps_cl, ps_neg, ps_c0, ps_c1, ps_n01, ps_n11, ps_10, ps_b01, ps_e0, pu_Ine, pu_Ieq, pu_ne, pu_eq, am_k_n, am_k_i, am_k_r, am_k_u, am_k_l, am_sz_0, am_sz_i, am_sz_r, am_sz_u, am_sz_l, Option.toList_some, Option.toList_none, List.cons_append, List.nil_append, true_and, and_true, or_false, false_or, or_self, or_true, true_or, not_false_eq_true, not_true_eq_false, Classical.not_not, ne_eq, ps_e1, ps_em, ps_z, Nat.not_le, false_implies, true_implies, forall_const, ps_01, ps_1n, ps_0n, ps_m10, ps_m1n, lg_cmp_gt, lg_cmp_ge, lg_cmp_le, lg_cmp_lt, lg_cmp_eq, pu_rne, pu_req, pu_uro, RFc_n, Nat.reduceAdd, Nat.reduceMul, Nat.reduceLT, Nat.reduceLeDiff, Nat.reduceEqDiff, Nat.reduceSub]
      exact this
    | true =>
      cases b with
      | false => exact absurd ⟨rfl, rfl⟩ a
      | true =>
        simp only [↓r231_61, ↓r231_63, ↓r231_64, ↓r231_67, ↓r231_68, ↓r231_71, ↓r231_125, ↓r231_126, eS_19, am_k_n, am_k_i, am_k_l, if_true, Bool.false_eq_true, hn, hn2, ht, hF, am_wt, am_wf, Option.isSome_some, am_rf_s, am_rf_n, ps_lit, nI_add, nI_1, pk_mul, ps_cl, ps_neg, ps_c0, ps_c1, ps_n01, ps_n11, ps_10, ps_b01, ps_e0, pu_Ine, pu_Ieq, pu_ne, pu_eq, am_k_n, am_k_i, am_k_r, am_k_u, am_k_l, am_sz_0, am_sz_i, am_sz_r, am_sz_u, am_sz_l, Option.toList_some, Option.toList_none, List.cons_append, List.nil_append, true_and, and_true, or_false, false_or, or_self, or_true, true_or, not_false_eq_true, not_true_eq_false, Classical.not_not, ne_eq, ps_e1, ps_em, ps_z, Nat.not_le, false_implies, true_implies, forall_const, ps_01, ps_1n, ps_0n, ps_m10, ps_m1n, lg_cmp_gt, lg_cmp_ge, lg_cmp_le, lg_cmp_lt, lg_cmp_eq, pu_rne, pu_req, pu_uro, RFc_n, Nat.reduceAdd, Nat.reduceMul, Nat.reduceLT, Nat.reduceLeDiff, Nat.reduceEqDiff, Nat.reduceSub]
        exact this
theorem e_plain {e : Nat} (h : EH n t I F K j tk tv NT w) (hT : ∀ e', e = e' + 1 → EvB X (4 * e' + 9) n sl t I J F j NT w 228 (fun l => [some (.ref 47), some (.int l), none, none]) (pTest tk tv e')) : EvB X (4 * e + 7) n sl t I J F j NT w 230 (fun l => [some (.ref 47), some (.int l), none]) (pPlain tk (pSum tk tv e) (tPr tk tv e)) := by
  intro d Q i0 q r lv b hi0 hq hp hQ
  have hW := h.1
  obtain ⟨hn, hn2, ht, hF⟩ := id hW
  have h0 := h.2.1.1.2.1
  have hN := h.2.1.1.1
  show am_W X (d + 4 * e + 7) 230 0 [some (.ref 47), some (.int (if lv = true then 1 else 0)), none] [] (n, sl, t, eS I j i0 b, J, F) Q
  obtain ⟨nb1, nb2⟩ := nots_b h0 400 i0 false hi0
  unfold pPlain at hp
  have main : am_W X (d + 4 * e + 7) 230 24 [some (.ref 47), some (.int (if lv = true then 1 else 0)), some (.int (if (pNots tk 400 i0 false).2 = true then 1 else 0))] [] (n, sl, t, eS I j (pNots tk 400 i0 false).1 b, J, F) Q := by
    generalize (pNots tk 400 i0 false).1 = i at nb1 nb2 hp
    generalize (pNots tk 400 i0 false).2 = p at hp
    simp only [↓r230_24, ↓r230_25, ↓r230_26, Bool.false_eq_true, hn, hn2, ht, hF, am_wt, am_wf, Option.isSome_some, am_rf_s, am_rf_n, ps_lit, nI_add, nI_1, pk_mul, ps_cl, ps_neg, ps_c0, ps_c1, ps_n01, ps_n11, ps_10, ps_b01, ps_e0, pu_Ine, pu_Ieq, pu_ne, pu_eq, am_k_n, am_k_i, am_k_r, am_k_u, am_k_l, am_sz_0, am_sz_i, am_sz_r, am_sz_u, am_sz_l, Option.toList_some, Option.toList_none, List.cons_append, List.nil_append, true_and, and_true, or_false, false_or, or_self, or_true, true_or, not_false_eq_true, not_true_eq_false, Classical.not_not, ne_eq, ps_e1, ps_em, ps_z, Nat.not_le, false_implies, true_implies, forall_const, ps_01, ps_1n, ps_0n, ps_m10, ps_m1n, lg_cmp_gt, lg_cmp_ge, lg_cmp_le, lg_cmp_lt, lg_cmp_eq, pu_rne, pu_req, pu_uro, RFc_n, Nat.reduceAdd, Nat.reduceMul, Nat.reduceLT, Nat.reduceLeDiff, Nat.reduceEqDiff, Nat.reduceSub]
    have fin : ∀ (D : DB) (x b' : Bool) (r' : Nat), okB D w lv b x b' → (∀ x b', okB (ntD p D) w lv b x b' → Q (some (.int (if x = true then 1 else 0))) (n, sl, t, eS I j r' b', J, F)) → am_W X (d + 4 * e + 7) 230 29 [some (.ref 47), some (.int (if lv = true then 1 else 0)), some (.int (if p = true then 1 else 0))] [(.int (if x = true then 1 else 0))] (n, sl, t, eS I j r' b', J, F) Q := by
      intro D x b' r' hx hQ
      have := hQ (x != p) b' (ok_nt hx)
      cases x <;> cases p <;> simp only [↓r230_29, ↓r230_30, ↓r230_33, ↓r230_34, ↓r230_37, ↓r230_38, if_true, if_false, Bool.false_eq_true, hn, hn2, ht, hF, am_wt, am_wf, Option.isSome_some, am_rf_s, am_rf_n, ps_lit, nI_add, nI_1, pk_mul, ps_cl, ps_neg, ps_c0, ps_c1, ps_n01, ps_n11, ps_10, ps_b01, ps_e0, pu_Ine, pu_Ieq, pu_ne, pu_eq, am_k_n, am_k_i, am_k_r, am_k_u, am_k_l, am_sz_0, am_sz_i, am_sz_r, am_sz_u, am_sz_l, Option.toList_some, Option.toList_none, List.cons_append, List.nil_append, true_and, and_true, or_false, false_or, or_self, or_true, true_or, not_false_eq_true, not_true_eq_false, Classical.not_not, ne_eq, ps_e1, ps_em, ps_z, Nat.not_le, false_implies, true_implies, forall_const, ps_01, ps_1n, ps_0n, ps_m10, ps_m1n, lg_cmp_gt, lg_cmp_ge, lg_cmp_le, lg_cmp_lt, lg_cmp_eq, pu_rne, pu_req, pu_uro, RFc_n, Nat.reduceAdd, Nat.reduceMul, Nat.reduceLT, Nat.reduceLeDiff, Nat.reduceEqDiff, Nat.reduceSub] <;> exact this
    by_cases c1 : tk i = 140
    · rw [if_pos c1] at hp
      have hl : i < NT := tok_lt h0 nb2 (by omega)
      cases e with
      | zero => cases hp
      | succ e =>
        dsimp only [tPr] at hp
        cases hs : pTest tk tv e (i + 1) q with
        | error x => rw [hs] at hp; cases hp
        | ok s =>
          rw [hs] at hp
          dsimp only at hp
          by_cases c2 : tk s.1 = 141
          · rw [if_pos c2] at hp
            cases hp
            show am_W X (d + 4 * e + 10) 231 0 _ [] _ _
            simp only [↓r231_0, ↓r231_1, ↓r231_3, ↓r231_6, ↓r231_9, ↓r231_12, ↓r231_13, ↓r231_14, ↓m_sign, ↓e_pass1 h nb2 c1, Bool.false_eq_true, hn, hn2, ht, hF, am_wt, am_wf, Option.isSome_some, am_rf_s, am_rf_n, ps_lit, nI_add, nI_1, pk_mul, ps_cl, ps_neg, ps_c0, ps_c1, ps_n01, ps_n11, ps_10, ps_b01, ps_e0, pu_Ine, pu_Ieq, pu_ne, pu_eq, am_k_n, am_k_i, am_k_r, am_k_u, am_k_l, am_sz_0, am_sz_i, am_sz_r, am_sz_u, am_sz_l, Option.toList_some, Option.toList_none, List.cons_append, List.nil_append, true_and, and_true, or_false, false_or, or_self, or_true, true_or, not_false_eq_true, not_true_eq_false, Classical.not_not, ne_eq, ps_e1, ps_em, ps_z, Nat.not_le, false_implies, true_implies, forall_const, ps_01, ps_1n, ps_0n, ps_m10, ps_m1n, lg_cmp_gt, lg_cmp_ge, lg_cmp_le, lg_cmp_lt, lg_cmp_eq, pu_rne, pu_req, pu_uro, RFc_n, Nat.reduceAdd, Nat.reduceMul, Nat.reduceLT, Nat.reduceLeDiff, Nat.reduceEqDiff, Nat.reduceSub]
            refine hT e rfl d _ (i + 1) q s lv b hl hq hs (fun x b' hx => ?_)
            simp only [↓r231_17, ↓r231_18, ↓r231_19, ↓r231_19r, ↓r231_20, ↓r231_23, ↓r231_24, ↓r231_25, ↓r231_28, ↓r231_29, eS_17, eS_u17, am_k_n, am_k_i, ps_b01, Bool.false_eq_true, hn, hn2, ht, hF, am_wt, am_wf, Option.isSome_some, am_rf_s, am_rf_n, ps_lit, nI_add, nI_1, pk_mul, ps_cl, ps_neg, ps_c0, ps_c1, ps_n01, ps_n11, ps_10, ps_b01, ps_e0, pu_Ine, pu_Ieq, pu_ne, pu_eq, am_k_n, am_k_i, am_k_r, am_k_u, am_k_l, am_sz_0, am_sz_i, am_sz_r, am_sz_u, am_sz_l, Option.toList_some, Option.toList_none, List.cons_append, List.nil_append, true_and, and_true, or_false, false_or, or_self, or_true, true_or, not_false_eq_true, not_true_eq_false, Classical.not_not, ne_eq, ps_e1, ps_em, ps_z, Nat.not_le, false_implies, true_implies, forall_const, ps_01, ps_1n, ps_0n, ps_m10, ps_m1n, lg_cmp_gt, lg_cmp_ge, lg_cmp_le, lg_cmp_lt, lg_cmp_eq, pu_rne, pu_req, pu_uro, RFc_n, Nat.reduceAdd, Nat.reduceMul, Nat.reduceLT, Nat.reduceLeDiff, Nat.reduceEqDiff, Nat.reduceSub]
            cases x
            · exact fin _ false b' _ hx hQ
            · exact fin _ true b' _ hx hQ
          · rw [if_neg c2] at hp; cases hp
    · rw [if_neg c1] at hp
      cases hs : pSum tk tv e i q with
      | error x => rw [hs] at hp; cases hp
      | ok s =>
        rw [hs] at hp
        dsimp only at hp
        by_cases c2 : tk s.1 = 160 ∨ tk s.1 = 162 ∨ tk s.1 = 161
        · rw [if_pos c2] at hp
          cases hu : pSum tk tv e (s.1 + 1) s.2.1 with
          | error x => rw [hu] at hp; cases hp
          | ok u =>
            rw [hu] at hp
            cases hp
            refine e_cmp h nb2 hq c1 hs c2 hu (fun x b' hx => ?_)
            exact fin _ x b' _ hx hQ
        · rw [if_neg c2] at hp; cases hp
  have hnl : ∀ g i p, i ≤ NT → (NT < i + g ∨ (pNots tk g i p).1 < i + g) → am_W X (d + 4 * e + 7) 230 24 [some (.ref 47), some (.int (if lv = true then 1 else 0)), some (.int (if (pNots tk g i p).2 = true then 1 else 0))] [] (n, sl, t, eS I j (pNots tk g i p).1 b, J, F) Q → am_W X (d + 4 * e + 7) 230 2 [some (.ref 47), some (.int (if lv = true then 1 else 0)), some (.int (if p = true then 1 else 0))] [] (n, sl, t, eS I j i b, J, F) Q := by
    intro g
    induction g with
    | zero =>
      intro i p hi hg hm
      have : (pNots tk 0 i p).1 = i := rfl
      omega
    | succ g ih =>
      intro i p hi hg hm
      rw [pNots] at hm hg
      rw [r230_2]
      by_cases c : tk i = 8
      · have hl : i < NT := tok_lt h0 hi (by omega)
        rw [if_pos c] at hm hg
        have := ih (i + 1) (!p) hl (by omega) hm
        cases p <;> simp only [↓r230_3, ↓r230_5, ↓r230_8, ↓r230_11, ↓r230_12, ↓r230_15, ↓r230_16, ↓r230_19, ↓r230_20, ↓r230_21, ↓e_pass1 h hi c, if_true, Bool.false_eq_true, hn, hn2, ht, hF, am_wt, am_wf, Option.isSome_some, am_rf_s, am_rf_n, ps_lit, nI_add, nI_1, pk_mul, ps_cl, ps_neg, ps_c0, ps_c1, ps_n01, ps_n11, ps_10, ps_b01, ps_e0, pu_Ine, pu_Ieq, pu_ne, pu_eq, am_k_n, am_k_i, am_k_r, am_k_u, am_k_l, am_sz_0, am_sz_i, am_sz_r, am_sz_u, am_sz_l, Option.toList_some, Option.toList_none, List.cons_append, List.nil_append, true_and, and_true, or_false, false_or, or_self, or_true, true_or, not_false_eq_true, not_true_eq_false, Classical.not_not, ne_eq, ps_e1, ps_em, ps_z, Nat.not_le, false_implies, true_implies, forall_const, ps_01, ps_1n, ps_0n, ps_m10, ps_m1n, lg_cmp_gt, lg_cmp_ge, lg_cmp_le, lg_cmp_lt, lg_cmp_eq, pu_rne, pu_req, pu_uro, RFc_n, Nat.reduceAdd, Nat.reduceMul, Nat.reduceLT, Nat.reduceLeDiff, Nat.reduceEqDiff, Nat.reduceSub] <;> exact this
      · rw [if_neg c] at hm
        simp only [↓r230_3, ↓r230_5, ↓r230_8, ↓e_pass0 h hi (show 8 < 400 by decide) c, Bool.false_eq_true, hn, hn2, ht, hF, am_wt, am_wf, Option.isSome_some, am_rf_s, am_rf_n, ps_lit, nI_add, nI_1, pk_mul, ps_cl, ps_neg, ps_c0, ps_c1, ps_n01, ps_n11, ps_10, ps_b01, ps_e0, pu_Ine, pu_Ieq, pu_ne, pu_eq, am_k_n, am_k_i, am_k_r, am_k_u, am_k_l, am_sz_0, am_sz_i, am_sz_r, am_sz_u, am_sz_l, Option.toList_some, Option.toList_none, List.cons_append, List.nil_append, true_and, and_true, or_false, false_or, or_self, or_true, true_or, not_false_eq_true, not_true_eq_false, Classical.not_not, ne_eq, ps_e1, ps_em, ps_z, Nat.not_le, false_implies, true_implies, forall_const, ps_01, ps_1n, ps_0n, ps_m10, ps_m1n, lg_cmp_gt, lg_cmp_ge, lg_cmp_le, lg_cmp_lt, lg_cmp_eq, pu_rne, pu_req, pu_uro, RFc_n, Nat.reduceAdd, Nat.reduceMul, Nat.reduceLT, Nat.reduceLeDiff, Nat.reduceEqDiff, Nat.reduceSub]
        exact hm
  have hlast : NT < i0 + 400 ∨ (pNots tk 400 i0 false).1 < i0 + 400 := by
    by_cases c : NT < i0 + 400
    · exact Or.inl c
    · refine Or.inr ?_
      -- a text of tokens alone can't be
      have hlt : (pNots tk 400 i0 false).1 < NT := by
        refine Nat.lt_of_le_of_ne nb2 (fun qe => ?_)
        rw [qe] at hp
        rw [if_neg (by rw [h0]; decide)] at hp
        cases hs : pSum tk tv e NT q with
        | error x => rw [hs] at hp; cases hp
        | ok s =>
          have := (BD_sum (tk := tk) (tv := tv) h0 e NT q (Nat.le_refl _) hq).1 s hs
          omega
      omega
  simp only [↓r230_0, ↓r230_1, Bool.false_eq_true, hn, hn2, ht, hF, am_wt, am_wf, Option.isSome_some, am_rf_s, am_rf_n, ps_lit, nI_add, nI_1, pk_mul, ps_cl, ps_neg, ps_c0, ps_c1, ps_n01, ps_n11, ps_10, ps_b01, ps_e0, pu_Ine, pu_Ieq, pu_ne, pu_eq, am_k_n, am_k_i, am_k_r, am_k_u, am_k_l, am_sz_0, am_sz_i, am_sz_r, am_sz_u, am_sz_l, Option.toList_some, Option.toList_none, List.cons_append, List.nil_append, true_and, and_true, or_false, false_or, or_self, or_true, true_or, not_false_eq_true, not_true_eq_false, Classical.not_not, ne_eq, ps_e1, ps_em, ps_z, Nat.not_le, false_implies, true_implies, forall_const, ps_01, ps_1n, ps_0n, ps_m10, ps_m1n, lg_cmp_gt, lg_cmp_ge, lg_cmp_le, lg_cmp_lt, lg_cmp_eq, pu_rne, pu_req, pu_uro, RFc_n, Nat.reduceAdd, Nat.reduceMul, Nat.reduceLT, Nat.reduceLeDiff, Nat.reduceEqDiff, Nat.reduceSub]
  have := hnl 400 i0 false hi0 hlast main
  exact this
theorem e_both {k : Nat} {P : Nat → Nat → RD DB} (h : EH n t I F K j tk tv NT w) (hP : EvB X (k + 7) n sl t I J F j NT w 230 (fun l => [some (.ref 47), some (.int l), none]) P) (hB : BD NT P) : EvB X (k + 8) n sl t I J F j NT w 229 (fun l => [some (.ref 47), some (.int l), none, none]) (pThen tk seN P (fun _ a b => anD a b)) := by
  intro d Q i0 q0 r0 lv b hi0 hq0 hp0 hQ0
  have hW := h.1
  obtain ⟨hn, hn2, ht, hF⟩ := id hW
  have h0 := h.2.1.1.2.1
  have hN := h.2.1.1.1
  show am_W X (d + k + 8) 229 0 [some (.ref 47), some (.int (if lv = true then 1 else 0)), none, none] [] (n, sl, t, eS I j i0 b, J, F) Q
  have hl : ∀ g i q D (v b1 : Bool), i ≤ NT → q ≤ 50 → NT < i + g → okB D w lv b v b1 → pMore tk seN P (fun _ a b => anD a b) g i q D = .ok r0 → ∀ l3 : Option Value, am_W X (d + k + 8) 229 6 [some (.ref 47), some (.int (if lv = true then 1 else 0)), some (.int (if v = true then 1 else 0)), l3] [] (n, sl, t, eS I j i b1, J, F) Q := by
    intro g
    induction g with
    | zero => intro i q D v b1 hi hq hg; omega
    | succ g ih =>
      intro i q D v b1 hi hq hg hv hp l3
      rw [pMore] at hp
      rw [r229_6]
      by_cases c1 : tk i = 7
      · have hc : seN (tk i) = true := by rw [c1]; rfl
        have hl : i < NT := tok_lt h0 hi (by omega)
        rw [if_pos hc] at hp
        cases hs : P (i + 1) q with
        | error x => rw [hs] at hp; cases hp
        | ok s =>
          rw [hs] at hp
          dsimp only at hp
          obtain ⟨b1', b2, b3, b4⟩ := (hB (i + 1) q hl hq).1 s hs
          have call : am_W X (d + k + 7) 230 0 ((fun l => [some (.ref 47), some (.int l), none]) (if (lv && v) = true then 1 else 0)) [] (n, sl, t, eS I j (i + 1) b1, J, F) (fun u h' => am_W X (d + k + 8) 229 32 [some (.ref 47), some (.int (if lv = true then 1 else 0)), some (.int (if v = true then 1 else 0)), l3] (u.toList ++ []) h' Q) := by
            refine hP d _ (i + 1) q s (lv && v) b1 hl hq hs (fun x b' hx => ?_)
            have hv' : okB ((fun _ a b => anD a b) (tk i) D s.2.2) w lv b (v && x) b' := ok_an (c := tk i) hv hx
            have := ih s.1 s.2.1 _ (v && x) b' b2 b4 (by omega) hv' hp
            cases v <;> cases x <;> simp only [↓r229_32, ↓r229_33, ↓r229_34, ↓r229_37, ↓r229_38, ↓r229_41, ↓r229_42, ↓r229_45, ↓r229_46, ↓r229_47, am_k_n, am_k_i, if_true, if_false, Bool.false_eq_true, hn, hn2, ht, hF, am_wt, am_wf, Option.isSome_some, am_rf_s, am_rf_n, ps_lit, nI_add, nI_1, pk_mul, ps_cl, ps_neg, ps_c0, ps_c1, ps_n01, ps_n11, ps_10, ps_b01, ps_e0, pu_Ine, pu_Ieq, pu_ne, pu_eq, am_k_n, am_k_i, am_k_r, am_k_u, am_k_l, am_sz_0, am_sz_i, am_sz_r, am_sz_u, am_sz_l, Option.toList_some, Option.toList_none, List.cons_append, List.nil_append, true_and, and_true, or_false, false_or, or_self, or_true, true_or, not_false_eq_true, not_true_eq_false, Classical.not_not, ne_eq, ps_e1, ps_em, ps_z, Nat.not_le, false_implies, true_implies, forall_const, ps_01, ps_1n, ps_0n, ps_m10, ps_m1n, lg_cmp_gt, lg_cmp_ge, lg_cmp_le, lg_cmp_lt, lg_cmp_eq, pu_rne, pu_req, pu_uro, RFc_n, Nat.reduceAdd, Nat.reduceMul, Nat.reduceLT, Nat.reduceLeDiff, Nat.reduceEqDiff, Nat.reduceSub] <;> exact this _
          cases lv <;> cases v <;> simp only [Bool.and_true, Bool.and_false, Bool.true_and, Bool.false_and, Bool.not_true, Bool.not_false, Bool.false_eq_true, if_true, if_false] at call ⊢ <;> simp only [↓r229_7, ↓r229_9, ↓r229_12, ↓r229_15, ↓r229_16, ↓r229_17, ↓r229_20, ↓r229_21, ↓r229_24, ↓r229_25, ↓r229_28, ↓r229_29, ↓e_pass1 h hi c1, Bool.false_eq_true, hn, hn2, ht, hF, am_wt, am_wf, Option.isSome_some, am_rf_s, am_rf_n, ps_lit, nI_add, nI_1, pk_mul, ps_cl, ps_neg, ps_c0, ps_c1, ps_n01, ps_n11, ps_10, ps_b01, ps_e0, pu_Ine, pu_Ieq, pu_ne, pu_eq, am_k_n, am_k_i, am_k_r, am_k_u, am_k_l, am_sz_0, am_sz_i, am_sz_r, am_sz_u, am_sz_l, Option.toList_some, Option.toList_none, List.cons_append, List.nil_append, true_and, and_true, or_false, false_or, or_self, or_true, true_or, not_false_eq_true, not_true_eq_false, Classical.not_not, ne_eq, ps_e1, ps_em, ps_z, Nat.not_le, false_implies, true_implies, forall_const, ps_01, ps_1n, ps_0n, ps_m10, ps_m1n, lg_cmp_gt, lg_cmp_ge, lg_cmp_le, lg_cmp_lt, lg_cmp_eq, pu_rne, pu_req, pu_uro, RFc_n, Nat.reduceAdd, Nat.reduceMul, Nat.reduceLT, Nat.reduceLeDiff, Nat.reduceEqDiff, Nat.reduceSub] <;> exact call
      · have hc : ¬ seN (tk i) = true := by
          unfold seN
          simp only [beq_iff_eq]
          exact c1
        rw [if_neg hc] at hp
        cases hp
        have := hQ0 v b1 hv
        cases v <;> simp only [↓r229_7, ↓r229_9, ↓r229_12, ↓r229_50, ↓r229_51, ↓e_pass0 h hi (show 7 < 400 by decide) c1, if_true, Bool.false_eq_true, hn, hn2, ht, hF, am_wt, am_wf, Option.isSome_some, am_rf_s, am_rf_n, ps_lit, nI_add, nI_1, pk_mul, ps_cl, ps_neg, ps_c0, ps_c1, ps_n01, ps_n11, ps_10, ps_b01, ps_e0, pu_Ine, pu_Ieq, pu_ne, pu_eq, am_k_n, am_k_i, am_k_r, am_k_u, am_k_l, am_sz_0, am_sz_i, am_sz_r, am_sz_u, am_sz_l, Option.toList_some, Option.toList_none, List.cons_append, List.nil_append, true_and, and_true, or_false, false_or, or_self, or_true, true_or, not_false_eq_true, not_true_eq_false, Classical.not_not, ne_eq, ps_e1, ps_em, ps_z, Nat.not_le, false_implies, true_implies, forall_const, ps_01, ps_1n, ps_0n, ps_m10, ps_m1n, lg_cmp_gt, lg_cmp_ge, lg_cmp_le, lg_cmp_lt, lg_cmp_eq, pu_rne, pu_req, pu_uro, RFc_n, Nat.reduceAdd, Nat.reduceMul, Nat.reduceLT, Nat.reduceLeDiff, Nat.reduceEqDiff, Nat.reduceSub] <;> exact this
  unfold pThen at hp0
  cases hs : P i0 q0 with
  | error x => rw [hs] at hp0; cases hp0
  | ok s =>
    rw [hs] at hp0
    obtain ⟨b1, b2, b3, b4⟩ := (hB i0 q0 hi0 hq0).1 s hs
    simp only [↓r229_0, ↓r229_1, ↓r229_2, Bool.false_eq_true, hn, hn2, ht, hF, am_wt, am_wf, Option.isSome_some, am_rf_s, am_rf_n, ps_lit, nI_add, nI_1, pk_mul, ps_cl, ps_neg, ps_c0, ps_c1, ps_n01, ps_n11, ps_10, ps_b01, ps_e0, pu_Ine, pu_Ieq, pu_ne, pu_eq, am_k_n, am_k_i, am_k_r, am_k_u, am_k_l, am_sz_0, am_sz_i, am_sz_r, am_sz_u, am_sz_l, Option.toList_some, Option.toList_none, List.cons_append, List.nil_append, true_and, and_true, or_false, false_or, or_self, or_true, true_or, not_false_eq_true, not_true_eq_false, Classical.not_not, ne_eq, ps_e1, ps_em, ps_z, Nat.not_le, false_implies, true_implies, forall_const, ps_01, ps_1n, ps_0n, ps_m10, ps_m1n, lg_cmp_gt, lg_cmp_ge, lg_cmp_le, lg_cmp_lt, lg_cmp_eq, pu_rne, pu_req, pu_uro, RFc_n, Nat.reduceAdd, Nat.reduceMul, Nat.reduceLT, Nat.reduceLeDiff, Nat.reduceEqDiff, Nat.reduceSub]
    refine hP d _ i0 q0 s lv b hi0 hq0 hs (fun x b' hx => ?_)
    simp only [↓r229_5, am_k_n, am_k_i, Bool.false_eq_true, hn, hn2, ht, hF, am_wt, am_wf, Option.isSome_some, am_rf_s, am_rf_n, ps_lit, nI_add, nI_1, pk_mul, ps_cl, ps_neg, ps_c0, ps_c1, ps_n01, ps_n11, ps_10, ps_b01, ps_e0, pu_Ine, pu_Ieq, pu_ne, pu_eq, am_k_n, am_k_i, am_k_r, am_k_u, am_k_l, am_sz_0, am_sz_i, am_sz_r, am_sz_u, am_sz_l, Option.toList_some, Option.toList_none, List.cons_append, List.nil_append, true_and, and_true, or_false, false_or, or_self, or_true, true_or, not_false_eq_true, not_true_eq_false, Classical.not_not, ne_eq, ps_e1, ps_em, ps_z, Nat.not_le, false_implies, true_implies, forall_const, ps_01, ps_1n, ps_0n, ps_m10, ps_m1n, lg_cmp_gt, lg_cmp_ge, lg_cmp_le, lg_cmp_lt, lg_cmp_eq, pu_rne, pu_req, pu_uro, RFc_n, Nat.reduceAdd, Nat.reduceMul, Nat.reduceLT, Nat.reduceLeDiff, Nat.reduceEqDiff, Nat.reduceSub]
    exact hl 400 s.1 s.2.1 s.2.2 x b' b2 b4 (by omega) hx hp0 _
theorem e_test {k : Nat} {P : Nat → Nat → RD DB} (h : EH n t I F K j tk tv NT w) (hP : EvB X (k + 8) n sl t I J F j NT w 229 (fun l => [some (.ref 47), some (.int l), none, none]) P) (hB : BD NT P) : EvB X (k + 9) n sl t I J F j NT w 228 (fun l => [some (.ref 47), some (.int l), none, none]) (pThen tk seO P (fun _ a b => orD a b)) := by
  intro d Q i0 q0 r0 lv b hi0 hq0 hp0 hQ0
  have hW := h.1
  obtain ⟨hn, hn2, ht, hF⟩ := id hW
  have h0 := h.2.1.1.2.1
  have hN := h.2.1.1.1
  show am_W X (d + k + 9) 228 0 [some (.ref 47), some (.int (if lv = true then 1 else 0)), none, none] [] (n, sl, t, eS I j i0 b, J, F) Q
  have hl : ∀ g i q D (v b1 : Bool), i ≤ NT → q ≤ 50 → NT < i + g → okB D w lv b v b1 → pMore tk seO P (fun _ a b => orD a b) g i q D = .ok r0 → ∀ l3 : Option Value, am_W X (d + k + 9) 228 6 [some (.ref 47), some (.int (if lv = true then 1 else 0)), some (.int (if v = true then 1 else 0)), l3] [] (n, sl, t, eS I j i b1, J, F) Q := by
    intro g
    induction g with
    | zero => intro i q D v b1 hi hq hg; omega
    | succ g ih =>
      intro i q D v b1 hi hq hg hv hp l3
      rw [pMore] at hp
      rw [r228_6]
      by_cases c1 : tk i = 6
      · have hc : seO (tk i) = true := by rw [c1]; rfl
        have hl : i < NT := tok_lt h0 hi (by omega)
        rw [if_pos hc] at hp
        cases hs : P (i + 1) q with
        | error x => rw [hs] at hp; cases hp
        | ok s =>
          rw [hs] at hp
          dsimp only at hp
          obtain ⟨b1', b2, b3, b4⟩ := (hB (i + 1) q hl hq).1 s hs
          have call : am_W X (d + k + 8) 229 0 ((fun l => [some (.ref 47), some (.int l), none, none]) (if (lv && !v) = true then 1 else 0)) [] (n, sl, t, eS I j (i + 1) b1, J, F) (fun u h' => am_W X (d + k + 9) 228 32 [some (.ref 47), some (.int (if lv = true then 1 else 0)), some (.int (if v = true then 1 else 0)), l3] (u.toList ++ []) h' Q) := by
            refine hP d _ (i + 1) q s (lv && !v) b1 hl hq hs (fun x b' hx => ?_)
            have hv' : okB ((fun _ a b => orD a b) (tk i) D s.2.2) w lv b (v || x) b' := ok_or (c := tk i) hv hx
            have := ih s.1 s.2.1 _ (v || x) b' b2 b4 (by omega) hv' hp
            cases v <;> cases x <;> simp only [↓r228_32, ↓r228_33, ↓r228_34, ↓r228_37, ↓r228_38, ↓r228_41, ↓r228_42, ↓r228_45, ↓r228_46, ↓r228_47, am_k_n, am_k_i, if_true, if_false, Bool.false_eq_true, hn, hn2, ht, hF, am_wt, am_wf, Option.isSome_some, am_rf_s, am_rf_n, ps_lit, nI_add, nI_1, pk_mul, ps_cl, ps_neg, ps_c0, ps_c1, ps_n01, ps_n11, ps_10, ps_b01, ps_e0, pu_Ine, pu_Ieq, pu_ne, pu_eq, am_k_n, am_k_i, am_k_r, am_k_u, am_k_l, am_sz_0, am_sz_i, am_sz_r, am_sz_u, am_sz_l, Option.toList_some, Option.toList_none, List.cons_append, List.nil_append, true_and, and_true, or_false, false_or, or_self, or_true, true_or, not_false_eq_true, not_true_eq_false, Classical.not_not, ne_eq, ps_e1, ps_em, ps_z, Nat.not_le, false_implies, true_implies, forall_const, ps_01, ps_1n, ps_0n, ps_m10, ps_m1n, lg_cmp_gt, lg_cmp_ge, lg_cmp_le, lg_cmp_lt, lg_cmp_eq, pu_rne, pu_req, pu_uro, RFc_n, Nat.reduceAdd, Nat.reduceMul, Nat.reduceLT, Nat.reduceLeDiff, Nat.reduceEqDiff, Nat.reduceSub] <;> exact this _
          cases lv <;> cases v <;> simp only [Bool.and_true, Bool.and_false, Bool.true_and, Bool.false_and, Bool.not_true, Bool.not_false, Bool.false_eq_true, if_true, if_false] at call ⊢ <;> simp only [↓r228_7, ↓r228_9, ↓r228_12, ↓r228_15, ↓r228_16, ↓r228_17, ↓r228_20, ↓r228_21, ↓r228_24, ↓r228_25, ↓r228_28, ↓r228_29, ↓e_pass1 h hi c1, Bool.false_eq_true, hn, hn2, ht, hF, am_wt, am_wf, Option.isSome_some, am_rf_s, am_rf_n, ps_lit, nI_add, nI_1, pk_mul, ps_cl, ps_neg, ps_c0, ps_c1, ps_n01, ps_n11, ps_10, ps_b01, ps_e0, pu_Ine, pu_Ieq, pu_ne, pu_eq, am_k_n, am_k_i, am_k_r, am_k_u, am_k_l, am_sz_0, am_sz_i, am_sz_r, am_sz_u, am_sz_l, Option.toList_some, Option.toList_none, List.cons_append, List.nil_append, true_and, and_true, or_false, false_or, or_self, or_true, true_or, not_false_eq_true, not_true_eq_false, Classical.not_not, ne_eq, ps_e1, ps_em, ps_z, Nat.not_le, false_implies, true_implies, forall_const, ps_01, ps_1n, ps_0n, ps_m10, ps_m1n, lg_cmp_gt, lg_cmp_ge, lg_cmp_le, lg_cmp_lt, lg_cmp_eq, pu_rne, pu_req, pu_uro, RFc_n, Nat.reduceAdd, Nat.reduceMul, Nat.reduceLT, Nat.reduceLeDiff, Nat.reduceEqDiff, Nat.reduceSub] <;> exact call
      · have hc : ¬ seO (tk i) = true := by
          unfold seO
          simp only [beq_iff_eq]
          exact c1
        rw [if_neg hc] at hp
        cases hp
        have := hQ0 v b1 hv
        cases v <;> simp only [↓r228_7, ↓r228_9, ↓r228_12, ↓r228_50, ↓r228_51, ↓e_pass0 h hi (show 6 < 400 by decide) c1, if_true, Bool.false_eq_true, hn, hn2, ht, hF, am_wt, am_wf, Option.isSome_some, am_rf_s, am_rf_n, ps_lit, nI_add, nI_1, pk_mul, ps_cl, ps_neg, ps_c0, ps_c1, ps_n01, ps_n11, ps_10, ps_b01, ps_e0, pu_Ine, pu_Ieq, pu_ne, pu_eq, am_k_n, am_k_i, am_k_r, am_k_u, am_k_l, am_sz_0, am_sz_i, am_sz_r, am_sz_u, am_sz_l, Option.toList_some, Option.toList_none, List.cons_append, List.nil_append, true_and, and_true, or_false, false_or, or_self, or_true, true_or, not_false_eq_true, not_true_eq_false, Classical.not_not, ne_eq, ps_e1, ps_em, ps_z, Nat.not_le, false_implies, true_implies, forall_const, ps_01, ps_1n, ps_0n, ps_m10, ps_m1n, lg_cmp_gt, lg_cmp_ge, lg_cmp_le, lg_cmp_lt, lg_cmp_eq, pu_rne, pu_req, pu_uro, RFc_n, Nat.reduceAdd, Nat.reduceMul, Nat.reduceLT, Nat.reduceLeDiff, Nat.reduceEqDiff, Nat.reduceSub] <;> exact this
  unfold pThen at hp0
  cases hs : P i0 q0 with
  | error x => rw [hs] at hp0; cases hp0
  | ok s =>
    rw [hs] at hp0
    obtain ⟨b1, b2, b3, b4⟩ := (hB i0 q0 hi0 hq0).1 s hs
    simp only [↓r228_0, ↓r228_1, ↓r228_2, Bool.false_eq_true, hn, hn2, ht, hF, am_wt, am_wf, Option.isSome_some, am_rf_s, am_rf_n, ps_lit, nI_add, nI_1, pk_mul, ps_cl, ps_neg, ps_c0, ps_c1, ps_n01, ps_n11, ps_10, ps_b01, ps_e0, pu_Ine, pu_Ieq, pu_ne, pu_eq, am_k_n, am_k_i, am_k_r, am_k_u, am_k_l, am_sz_0, am_sz_i, am_sz_r, am_sz_u, am_sz_l, Option.toList_some, Option.toList_none, List.cons_append, List.nil_append, true_and, and_true, or_false, false_or, or_self, or_true, true_or, not_false_eq_true, not_true_eq_false, Classical.not_not, ne_eq, ps_e1, ps_em, ps_z, Nat.not_le, false_implies, true_implies, forall_const, ps_01, ps_1n, ps_0n, ps_m10, ps_m1n, lg_cmp_gt, lg_cmp_ge, lg_cmp_le, lg_cmp_lt, lg_cmp_eq, pu_rne, pu_req, pu_uro, RFc_n, Nat.reduceAdd, Nat.reduceMul, Nat.reduceLT, Nat.reduceLeDiff, Nat.reduceEqDiff, Nat.reduceSub]
    refine hP d _ i0 q0 s lv b hi0 hq0 hs (fun x b' hx => ?_)
    simp only [↓r228_5, am_k_n, am_k_i, Bool.false_eq_true, hn, hn2, ht, hF, am_wt, am_wf, Option.isSome_some, am_rf_s, am_rf_n, ps_lit, nI_add, nI_1, pk_mul, ps_cl, ps_neg, ps_c0, ps_c1, ps_n01, ps_n11, ps_10, ps_b01, ps_e0, pu_Ine, pu_Ieq, pu_ne, pu_eq, am_k_n, am_k_i, am_k_r, am_k_u, am_k_l, am_sz_0, am_sz_i, am_sz_r, am_sz_u, am_sz_l, Option.toList_some, Option.toList_none, List.cons_append, List.nil_append, true_and, and_true, or_false, false_or, or_self, or_true, true_or, not_false_eq_true, not_true_eq_false, Classical.not_not, ne_eq, ps_e1, ps_em, ps_z, Nat.not_le, false_implies, true_implies, forall_const, ps_01, ps_1n, ps_0n, ps_m10, ps_m1n, lg_cmp_gt, lg_cmp_ge, lg_cmp_le, lg_cmp_lt, lg_cmp_eq, pu_rne, pu_req, pu_uro, RFc_n, Nat.reduceAdd, Nat.reduceMul, Nat.reduceLT, Nat.reduceLeDiff, Nat.reduceEqDiff, Nat.reduceSub]
    exact hl 400 s.1 s.2.1 s.2.2 x b' b2 b4 (by omega) hx hp0 _
theorem e_tests (h : EH n t I F K j tk tv NT w) : ∀ e, EvB X (4 * e + 9) n sl t I J F j NT w 228 (fun l => [some (.ref 47), some (.int l), none, none]) (pTest tk tv e) := by
  have h0 := h.2.1.1.2.1
  have hBT : ∀ e P, tPr tk tv e = some P → BD NT P := fun e P hP => by
    cases e with
    | zero => cases hP
    | succ e => cases hP; exact BD_test h0 e
  have st : ∀ e, (∀ e', e = e' + 1 → EvB X (4 * e' + 9) n sl t I J F j NT w 228 (fun l => [some (.ref 47), some (.int l), none, none]) (pTest tk tv e')) → EvB X (4 * e + 9) n sl t I J F j NT w 228 (fun l => [some (.ref 47), some (.int l), none, none]) (pTest tk tv e) := by
    intro e hT
    rw [pTest_e]
    have hp := BD_plain (tk := tk) h0 (BD_sum (tk := tk) (tv := tv) h0 e) (hBT e)
    exact e_test h (e_both h (e_plain h hT) hp) (BD_then h0 rfl hp)
  intro e
  induction e with
  | zero => exact st 0 (fun e' h => by cases h)
  | succ e ih => exact st (e + 1) (fun e' h => by cases h; exact ih)
end MG
