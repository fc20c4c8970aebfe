/-! TEXTS: the reference works sums out, sign by sign -/
section MF
variable {X : am_X} {d : Nat} {Q : Option Value → am_H → Prop} {n sl : Nat} {t : Nat → Nat × Nat} {I : Nat → Nat → Int32} {J : Nat → Nat → Int64} {F : Nat → Nat → Option Nat} {h : am_H}
variable {tk tv : Nat → Nat} {NT j : Nat} {K w : Nat → Int32}
def bnd (v : Int) (lv b : Bool) : Int × Bool := (if (lv = true ∧ (1000000000 < v ∨ v < -1000000000)) ∨ b = true then 0 else v, decide (lv = true ∧ (1000000000 < v ∨ v < -1000000000)) || b)
def resM (tm : Bool) (x y : Int) (lv b : Bool) : Int × Bool := if tm = true then bnd (x * y) lv b else if y = 0 then bnd x lv (b || lv) else bnd (x.tdiv y) lv b
def resA (tm : Bool) (x y : Int) (lv b : Bool) : Int × Bool := if tm = true then bnd (x + y) lv b else bnd (x - y) lv b
theorem bnd_0 {lv b : Bool} : bnd 0 lv b = (0, b) := by
  unfold bnd
  have : ¬ (lv = true ∧ ((1000000000 : Int) < 0 ∨ (0 : Int) < -1000000000)) := by omega
  rw [ite_self, decide_eq_false this, Bool.false_or]
theorem bnd_t {v : Int} {lv : Bool} : bnd v lv true = (0, true) := by
  unfold bnd
  rw [if_pos (Or.inr rfl), Bool.or_true]
theorem bnd_h {v : Int} : bnd v true false = (match holdI v with
  | some u => (u, false)
  | none => (0, true)) := by
  unfold bnd holdI
  by_cases c : 1000000000 < v ∨ v < -1000000000
  · rw [if_pos (Or.inl ⟨rfl, c⟩), if_pos c, decide_eq_true (show true = true ∧ _ from ⟨rfl, c⟩)]; rfl
  · rw [if_neg (fun q => by rcases q with q | q; exact c q.2; cases q), if_neg c, decide_eq_false (fun q => c q.2)]; rfl
theorem oc_d {D : DI} {lv b : Bool} (h : ¬ (lv = true ∧ b = false)) : oc D w lv b = (0, b) := by
  unfold oc
  rw [if_neg h]
theorem oc_s {D : DI} {v : Int} (h : D w = some v) : oc D w true false = (v, false) := by
  unfold oc
  rw [if_pos ⟨rfl, rfl⟩, h]
theorem oc_n {D : DI} (h : D w = none) : oc D w true false = (0, true) := by
  unfold oc
  rw [if_pos ⟨rfl, rfl⟩, h]
theorem oc_b {D : DI} {lv b : Bool} (hw : WV w) (hD : DBd D) : -1000000000 ≤ (oc D w lv b).1 ∧ (oc D w lv b).1 ≤ 1000000000 := by
  by_cases c : lv = true ∧ b = false
  · obtain ⟨rfl, rfl⟩ := c
    cases e : D w with
    | none => rw [oc_n e]; exact ⟨by decide, by decide⟩
    | some v => rw [oc_s e]; exact hD w v hw e
  · rw [oc_d c]; exact ⟨(by decide : (-1000000000 : Int) ≤ 0), (by decide : (0 : Int) ≤ 1000000000)⟩
theorem res_M {c : Nat} {D E : DI} {lv b : Bool} (hw : WV w) (hD : DBd D) (hE : DBd E) (hc : c = 142 ∨ c = 147) : resM (decide (c = 142)) (oc D w lv b).1 (oc E w lv (oc D w lv b).2).1 lv (oc E w lv (oc D w lv b).2).2 = oc (bi (opM c) D E) w lv b := by
  by_cases a : lv = true ∧ b = false
  · obtain ⟨rfl, rfl⟩ := a
    cases e : D w with
    | none =>
      have e2 : bi (opM c) D E w = none := by unfold bi; rw [e]
      rw [oc_n e, oc_n e2, oc_d (show ¬ (true = true ∧ true = false) by simp)]
      unfold resM
      dsimp only
      split
      · exact bnd_t
      · split
        · exact bnd_t
        · exact bnd_t
    | some x =>
      rw [oc_s e]
      dsimp only
      cases e2 : E w with
      | none =>
        have e3 : bi (opM c) D E w = none := by unfold bi; rw [e, e2]
        rw [oc_n e2, oc_n e3]
        unfold resM
        dsimp only
        split
        · exact bnd_t
        · split
          · exact bnd_t
          · exact bnd_t
      | some y =>
        have e3 : bi (opM c) D E w = opM c x y := by unfold bi; rw [e, e2]
        rw [oc_s e2]
        unfold resM opM at *
        dsimp only
        rcases hc with rfl | rfl
        · rw [if_pos (decide_eq_true rfl), bnd_h]
          rw [if_pos rfl] at e3
          cases e4 : holdI (x * y) with
          | none => rw [e4] at e3; rw [oc_n e3]
          | some u => rw [e4] at e3; rw [oc_s e3]
        · rw [if_neg (by decide)]
          rw [if_neg (by decide)] at e3
          by_cases y0 : y = 0
          · rw [if_pos y0] at e3 ⊢
            rw [oc_n e3]
            exact bnd_t
          · rw [if_neg y0] at e3 ⊢
            rw [bnd_h]
            cases e4 : holdI (x.tdiv y) with
            | none => rw [e4] at e3; rw [oc_n e3]
            | some u => rw [e4] at e3; rw [oc_s e3]
  · rw [oc_d a]
    dsimp only
    rw [oc_d a, oc_d a]
    unfold resM
    dsimp only
    have hbl : (b || lv) = b := by
      cases lv <;> cases b <;> simp at a ⊢
    rw [if_pos rfl, Int.zero_mul, bnd_0, hbl, bnd_0, ite_self]
theorem res_A {c : Nat} {D E : DI} {lv b : Bool} (hw : WV w) (hD : DBd D) (hE : DBd E) (hc : c = 143 ∨ c = 145) : resA (decide (c = 143)) (oc D w lv b).1 (oc E w lv (oc D w lv b).2).1 lv (oc E w lv (oc D w lv b).2).2 = oc (bi (opA c) D E) w lv b := by
  by_cases a : lv = true ∧ b = false
  · obtain ⟨rfl, rfl⟩ := a
    cases e : D w with
    | none =>
      have e2 : bi (opA c) D E w = none := by unfold bi; rw [e]
      rw [oc_n e, oc_n e2, oc_d (show ¬ (true = true ∧ true = false) by simp)]
      unfold resA
      dsimp only
      split
      · exact bnd_t
      · exact bnd_t
    | some x =>
      rw [oc_s e]
      dsimp only
      cases e2 : E w with
      | none =>
        have e3 : bi (opA c) D E w = none := by unfold bi; rw [e, e2]
        rw [oc_n e2, oc_n e3]
        unfold resA
        dsimp only
        split
        · exact bnd_t
        · exact bnd_t
      | some y =>
        have e3 : bi (opA c) D E w = opA c x y := by unfold bi; rw [e, e2]
        rw [oc_s e2]
        unfold resA opA at *
        dsimp only
        rcases hc with rfl | rfl
        · rw [if_pos (decide_eq_true rfl), bnd_h]
          rw [if_pos rfl] at e3
          cases e4 : holdI (x + y) with
          | none => rw [e4] at e3; rw [oc_n e3]
          | some u => rw [e4] at e3; rw [oc_s e3]
        · rw [if_neg (by decide), bnd_h]
          rw [if_neg (by decide)] at e3
          cases e4 : holdI (x - y) with
          | none => rw [e4] at e3; rw [oc_n e3]
          | some u => rw [e4] at e3; rw [oc_s e3]
  · rw [oc_d a]
    dsimp only
    rw [oc_d a, oc_d a]
    unfold resA
    dsimp only
    rw [Int.add_zero, Int.sub_zero, bnd_0, ite_self]
theorem mul_bd {x y : Int} (hx : -1000000000 ≤ x ∧ x ≤ 1000000000) (hy : -1000000000 ≤ y ∧ y ≤ 1000000000) : -4000000000000000000 ≤ x * y ∧ x * y ≤ 4000000000000000000 := by
  have h1 : x.natAbs ≤ 1000000000 := by omega
  have h2 : y.natAbs ≤ 1000000000 := by omega
  have h3 : (x * y).natAbs ≤ 1000000000 * 1000000000 := by
    rw [Int.natAbs_mul]
    exact Nat.mul_le_mul h1 h2
  omega
theorem tdiv_bd {x y : Int} (hx : -1000000000 ≤ x ∧ x ≤ 1000000000) : -1000000000 ≤ x.tdiv y ∧ x.tdiv y ≤ 1000000000 := by
  have h1 : x.natAbs ≤ 1000000000 := by omega
  have h3 : (x.tdiv y).natAbs ≤ 1000000000 := by
    rw [Int.natAbs_tdiv]
    exact Nat.le_trans (Nat.div_le_self _ _) h1
  omega
theorem jI_div {x y : Int} (hx : -1000000000 ≤ x ∧ x ≤ 1000000000) (hy : -1000000000 ≤ y ∧ y ≤ 1000000000) : jI x / jI y = jI (x.tdiv y) := by
  apply Int64.toInt_inj.mp
  have hd := tdiv_bd (y := y) hx
  have hm : jI x ≠ Int64.minValue := by
    intro q
    have := congrArg Int64.toInt q
    rw [jI_t (by omega) (by omega)] at this
    have e : Int64.minValue.toInt = -9223372036854775808 := by decide
    omega
  rw [Int64.toInt_div_of_ne_left _ _ hm, jI_t (by omega) (by omega), jI_t (by omega) (by omega), jI_t (by omega) (by omega)]
theorem jI_e0 {y : Int} (hy : -1000000000 ≤ y ∧ y ≤ 1000000000) : (jI y = 0) = (y = 0) := by
  apply propext
  constructor
  · intro q
    have := congrArg Int64.toInt q
    rw [jI_t (by omega) (by omega)] at this
    exact this
  · rintro rfl
    rfl
theorem e_opM {x y : Int} {i : Nat} {tm lv b : Bool} (hW : WS n t F) (hx : -1000000000 ≤ x ∧ x ≤ 1000000000) (hy : -1000000000 ≤ y ∧ y ≤ 1000000000) (l5 l6 : Option Value) (hQ : ∀ l4 l5 l6 : Option Value, am_W X (d + 1) 224 6 [some (.ref 47), some (.int (if lv = true then 1 else 0)), some (.long (jI (resM tm x y lv b).1)), none, l4, l5, l6] [] (n, sl, t, eS I j i (resM tm x y lv b).2, J, F) Q) : am_W X (d + 1) 224 76 [some (.ref 47), some (.int (if lv = true then 1 else 0)), some (.long (jI x)), none, some (.int (if tm = true then 1 else 0)), l5, l6] [(.long (jI y))] (n, sl, t, eS I j i b, J, F) Q := by
  obtain ⟨hn, hn2, ht, hF⟩ := id hW
  have one : (1 : Int64) = jI 1 := rfl
  cases tm with
  | true =>
    have hm := mul_bd hx hy
    have e1 := fun Q => e_bnd (X := X) (d := d) (Q := Q) (sl := sl) (J := J) (I := I) (j := j) (i := i) (b := b) (lv := lv) hW hm.1 hm.2
    unfold resM at hQ
    simp only [if_true] at hQ
    simp only [↓r224_76, ↓r224_78, ↓r224_80, ↓r224_113, ↓r224_114, ↓r224_116, ↓r224_119, ↓r224_120, ↓r224_122, ↓r224_123, ↓r224_126, ↓r224_127, ↓r224_129, ↓r224_130, ↓r224_131, ↓r224_134, ↓r224_135, ↓e1, jI_mul, am_k_n, am_k_i, am_k_l, if_true, Bool.false_eq_true, hn, hn2, ht, hF, am_wt, am_wf, Option.isSome_some, am_rf_s, am_rf_n, ps_lit, nI_add, nI_1, pk_mul, ps_cl, ps_neg, ps_c0, ps_c1, ps_n01, ps_n11, ps_10, ps_b01, ps_e0, pu_Ine, pu_Ieq, pu_ne, pu_eq, am_k_n, am_k_i, am_k_r, am_k_u, am_k_l, am_sz_0, am_sz_i, am_sz_r, am_sz_u, am_sz_l, Option.toList_some, Option.toList_none, List.cons_append, List.nil_append, true_and, and_true, or_false, false_or, or_self, or_true, true_or, not_false_eq_true, not_true_eq_false, Classical.not_not, ne_eq, ps_e1, ps_em, ps_z, Nat.not_le, false_implies, true_implies, forall_const, ps_01, ps_1n, ps_0n, ps_m10, ps_m1n, lg_cmp_gt, lg_cmp_ge, lg_cmp_le, lg_cmp_lt, lg_cmp_eq, pu_rne, pu_req, pu_uro, RFc_n, Nat.reduceAdd, Nat.reduceMul, Nat.reduceLT, Nat.reduceLeDiff, Nat.reduceEqDiff, Nat.reduceSub]
    exact hQ _ _ _
  | false =>
    have rm : resM false x y lv b = if y = 0 then bnd x lv (b || lv) else bnd (x.tdiv y) lv b := if_neg (by decide)
    rw [rm] at hQ
    by_cases y0 : y = 0
    · rw [if_pos y0] at hQ
      subst y0
      have e1 := fun b Q => e_bnd (X := X) (d := d) (Q := Q) (sl := sl) (J := J) (I := I) (j := j) (i := i) (b := b) (lv := lv) hW (show -4000000000000000000 ≤ x by omega) (by omega)
      have e2 : (jI 0 = 0) = True := eq_true rfl
      have e3 : jI x / jI 1 = jI x := by rw [jI_div hx (by omega), Int.tdiv_one]
      have e4 : (jI 1 = 0) = False := by decide
      cases b with
      | true =>
        simp only [Bool.true_or, bnd_t] at hQ
        have e5 := e1 true
        simp only [eq_self_iff_true, or_true, if_true, Bool.or_true] at e5
        simp only [↓r224_76, ↓r224_78, ↓r224_80, ↓r224_83, ↓r224_85, ↓r224_86, ↓r224_87, ↓r224_90, ↓r224_91, ↓r224_92, ↓r224_95, ↓r224_98, ↓r224_99, ↓r224_102, ↓r224_103, ↓r224_106, ↓r224_107, ↓r224_110, ↓r224_111, ↓r224_113, ↓r224_114, ↓r224_116, ↓r224_119, ↓r224_120, ↓r224_122, ↓r224_123, ↓r224_126, ↓r224_127, ↓r224_129, ↓r224_130, ↓r224_131, ↓r224_134, ↓r224_135, ↓e5, lg_cmp_eq, e2, one, e3, e4, eS_19, eS_u1, am_k_n, am_k_i, am_k_l, if_true, if_false, Bool.false_eq_true, hn, hn2, ht, hF, am_wt, am_wf, Option.isSome_some, am_rf_s, am_rf_n, ps_lit, nI_add, nI_1, pk_mul, ps_cl, ps_neg, ps_c0, ps_c1, ps_n01, ps_n11, ps_10, ps_b01, ps_e0, pu_Ine, pu_Ieq, pu_ne, pu_eq, am_k_n, am_k_i, am_k_r, am_k_u, am_k_l, am_sz_0, am_sz_i, am_sz_r, am_sz_u, am_sz_l, Option.toList_some, Option.toList_none, List.cons_append, List.nil_append, true_and, and_true, or_false, false_or, or_self, or_true, true_or, not_false_eq_true, not_true_eq_false, Classical.not_not, ne_eq, ps_e1, ps_em, ps_z, Nat.not_le, false_implies, true_implies, forall_const, ps_01, ps_1n, ps_0n, ps_m10, ps_m1n, lg_cmp_gt, lg_cmp_ge, lg_cmp_le, lg_cmp_lt, lg_cmp_eq, pu_rne, pu_req, pu_uro, RFc_n, Nat.reduceAdd, Nat.reduceMul, Nat.reduceLT, Nat.reduceLeDiff, Nat.reduceEqDiff, Nat.reduceSub]
        exact hQ _ _ _
      | false =>
        cases lv with
        | true =>
          simp only [Bool.or_true, bnd_t] at hQ
          have e5 := e1 true
          simp only [eq_self_iff_true, or_true, if_true, Bool.or_true] at e5 hQ ⊢
          simp only [↓r224_76, ↓r224_78, ↓r224_80, ↓r224_83, ↓r224_85, ↓r224_86, ↓r224_87, ↓r224_90, ↓r224_91, ↓r224_92, ↓r224_95, ↓r224_98, ↓r224_99, ↓r224_102, ↓r224_103, ↓r224_106, ↓r224_107, ↓r224_110, ↓r224_111, ↓r224_113, ↓r224_114, ↓r224_116, ↓r224_119, ↓r224_120, ↓r224_122, ↓r224_123, ↓r224_126, ↓r224_127, ↓r224_129, ↓r224_130, ↓r224_131, ↓r224_134, ↓r224_135, ↓e5, lg_cmp_eq, e2, one, e3, e4, eS_19, eS_u1, am_k_n, am_k_i, am_k_l, if_true, if_false, Bool.false_eq_true, hn, hn2, ht, hF, am_wt, am_wf, Option.isSome_some, am_rf_s, am_rf_n, ps_lit, nI_add, nI_1, pk_mul, ps_cl, ps_neg, ps_c0, ps_c1, ps_n01, ps_n11, ps_10, ps_b01, ps_e0, pu_Ine, pu_Ieq, pu_ne, pu_eq, am_k_n, am_k_i, am_k_r, am_k_u, am_k_l, am_sz_0, am_sz_i, am_sz_r, am_sz_u, am_sz_l, Option.toList_some, Option.toList_none, List.cons_append, List.nil_append, true_and, and_true, or_false, false_or, or_self, or_true, true_or, not_false_eq_true, not_true_eq_false, Classical.not_not, ne_eq, ps_e1, ps_em, ps_z, Nat.not_le, false_implies, true_implies, forall_const, ps_01, ps_1n, ps_0n, ps_m10, ps_m1n, lg_cmp_gt, lg_cmp_ge, lg_cmp_le, lg_cmp_lt, lg_cmp_eq, pu_rne, pu_req, pu_uro, RFc_n, Nat.reduceAdd, Nat.reduceMul, Nat.reduceLT, Nat.reduceLeDiff, Nat.reduceEqDiff, Nat.reduceSub]
          exact hQ _ _ _
        | false =>
          simp only [Bool.or_false] at hQ
          have e5 := e1 false
          simp only [Bool.false_eq_true, if_false] at e5 hQ ⊢
          simp only [↓r224_76, ↓r224_78, ↓r224_80, ↓r224_83, ↓r224_85, ↓r224_86, ↓r224_87, ↓r224_90, ↓r224_91, ↓r224_92, ↓r224_95, ↓r224_98, ↓r224_99, ↓r224_102, ↓r224_103, ↓r224_106, ↓r224_107, ↓r224_110, ↓r224_111, ↓r224_113, ↓r224_114, ↓r224_116, ↓r224_119, ↓r224_120, ↓r224_122, ↓r224_123, ↓r224_126, ↓r224_127, ↓r224_129, ↓r224_130, ↓r224_131, ↓r224_134, ↓r224_135, ↓e5, lg_cmp_eq, e2, one, e3, e4, eS_19, eS_u0, am_k_n, am_k_i, am_k_l, if_true, if_false, Bool.false_eq_true, hn, hn2, ht, hF, am_wt, am_wf, Option.isSome_some, am_rf_s, am_rf_n, ps_lit, nI_add, nI_1, pk_mul, ps_cl, ps_neg, ps_c0, ps_c1, ps_n01, ps_n11, ps_10, ps_b01, ps_e0, pu_Ine, pu_Ieq, pu_ne, pu_eq, am_k_n, am_k_i, am_k_r, am_k_u, am_k_l, am_sz_0, am_sz_i, am_sz_r, am_sz_u, am_sz_l, Option.toList_some, Option.toList_none, List.cons_append, List.nil_append, true_and, and_true, or_false, false_or, or_self, or_true, true_or, not_false_eq_true, not_true_eq_false, Classical.not_not, ne_eq, ps_e1, ps_em, ps_z, Nat.not_le, false_implies, true_implies, forall_const, ps_01, ps_1n, ps_0n, ps_m10, ps_m1n, lg_cmp_gt, lg_cmp_ge, lg_cmp_le, lg_cmp_lt, lg_cmp_eq, pu_rne, pu_req, pu_uro, RFc_n, Nat.reduceAdd, Nat.reduceMul, Nat.reduceLT, Nat.reduceLeDiff, Nat.reduceEqDiff, Nat.reduceSub]
          exact hQ _ _ _
    · rw [if_neg y0] at hQ
      have hd := tdiv_bd (y := y) hx
      have e1 := fun Q => e_bnd (X := X) (d := d) (Q := Q) (sl := sl) (J := J) (I := I) (j := j) (i := i) (b := b) (lv := lv) hW (show -4000000000000000000 ≤ x.tdiv y by omega) (by omega)
      have e2 := jI_e0 hy
      have e3 := jI_div hx hy
      simp only [↓r224_76, ↓r224_78, ↓r224_80, ↓r224_83, ↓r224_85, ↓r224_86, ↓r224_87, ↓r224_113, ↓r224_114, ↓r224_116, ↓r224_119, ↓r224_120, ↓r224_122, ↓r224_123, ↓r224_126, ↓r224_127, ↓r224_129, ↓r224_130, ↓r224_131, ↓r224_134, ↓r224_135, ↓e1, lg_cmp_eq, e2, y0, e3, am_k_n, am_k_i, am_k_l, if_false, Bool.false_eq_true, hn, hn2, ht, hF, am_wt, am_wf, Option.isSome_some, am_rf_s, am_rf_n, ps_lit, nI_add, nI_1, pk_mul, ps_cl, ps_neg, ps_c0, ps_c1, ps_n01, ps_n11, ps_10, ps_b01, ps_e0, pu_Ine, pu_Ieq, pu_ne, pu_eq, am_k_n, am_k_i, am_k_r, am_k_u, am_k_l, am_sz_0, am_sz_i, am_sz_r, am_sz_u, am_sz_l, Option.toList_some, Option.toList_none, List.cons_append, List.nil_append, true_and, and_true, or_false, false_or, or_self, or_true, true_or, not_false_eq_true, not_true_eq_false, Classical.not_not, ne_eq, ps_e1, ps_em, ps_z, Nat.not_le, false_implies, true_implies, forall_const, ps_01, ps_1n, ps_0n, ps_m10, ps_m1n, lg_cmp_gt, lg_cmp_ge, lg_cmp_le, lg_cmp_lt, lg_cmp_eq, pu_rne, pu_req, pu_uro, RFc_n, Nat.reduceAdd, Nat.reduceMul, Nat.reduceLT, Nat.reduceLeDiff, Nat.reduceEqDiff, Nat.reduceSub]
      exact hQ _ _ _
theorem e_opA {x y : Int} {i : Nat} {tm lv b : Bool} (hW : WS n t F) (hx : -1000000000 ≤ x ∧ x ≤ 1000000000) (hy : -1000000000 ≤ y ∧ y ≤ 1000000000) (l5 l6 : Option Value) (hQ : ∀ l4 l5 l6 : Option Value, am_W X (d + 1) 223 6 [some (.ref 47), some (.int (if lv = true then 1 else 0)), some (.long (jI (resA tm x y lv b).1)), none, l4, l5, l6] [] (n, sl, t, eS I j i (resA tm x y lv b).2, J, F) Q) : am_W X (d + 1) 223 76 [some (.ref 47), some (.int (if lv = true then 1 else 0)), some (.long (jI x)), none, some (.int (if tm = true then 1 else 0)), l5, l6] [(.long (jI y))] (n, sl, t, eS I j i b, J, F) Q := by
  obtain ⟨hn, hn2, ht, hF⟩ := id hW
  cases tm with
  | true =>
    have e1 := fun Q => e_bnd (X := X) (d := d) (Q := Q) (sl := sl) (J := J) (I := I) (j := j) (i := i) (b := b) (lv := lv) hW (show -4000000000000000000 ≤ x + y by omega) (by omega)
    unfold resA at hQ
    simp only [if_true] at hQ
    simp only [↓r223_76, ↓r223_78, ↓r223_79, ↓r223_81, ↓r223_84, ↓r223_85, ↓r223_87, ↓r223_88, ↓r223_91, ↓r223_92, ↓r223_94, ↓r223_95, ↓r223_96, ↓r223_99, ↓r223_100, ↓e1, jI_add, am_k_n, am_k_i, am_k_l, if_true, Bool.false_eq_true, hn, hn2, ht, hF, am_wt, am_wf, Option.isSome_some, am_rf_s, am_rf_n, ps_lit, nI_add, nI_1, pk_mul, ps_cl, ps_neg, ps_c0, ps_c1, ps_n01, ps_n11, ps_10, ps_b01, ps_e0, pu_Ine, pu_Ieq, pu_ne, pu_eq, am_k_n, am_k_i, am_k_r, am_k_u, am_k_l, am_sz_0, am_sz_i, am_sz_r, am_sz_u, am_sz_l, Option.toList_some, Option.toList_none, List.cons_append, List.nil_append, true_and, and_true, or_false, false_or, or_self, or_true, true_or, not_false_eq_true, not_true_eq_false, Classical.not_not, ne_eq, ps_e1, ps_em, ps_z, Nat.not_le, false_implies, true_implies, forall_const, ps_01, ps_1n, ps_0n, ps_m10, ps_m1n, lg_cmp_gt, lg_cmp_ge, lg_cmp_le, lg_cmp_lt, lg_cmp_eq, pu_rne, pu_req, pu_uro, RFc_n, Nat.reduceAdd, Nat.reduceMul, Nat.reduceLT, Nat.reduceLeDiff, Nat.reduceEqDiff, Nat.reduceSub]
    exact hQ _ _ _
  | false =>
    have e1 := fun Q => e_bnd (X := X) (d := d) (Q := Q) (sl := sl) (J := J) (I := I) (j := j) (i := i) (b := b) (lv := lv) hW (show -4000000000000000000 ≤ x - y by omega) (by omega)
    have rm : resA false x y lv b = bnd (x - y) lv b := if_neg (by decide)
    rw [rm] at hQ
    simp only [↓r223_76, ↓r223_78, ↓r223_79, ↓r223_81, ↓r223_84, ↓r223_85, ↓r223_87, ↓r223_88, ↓r223_91, ↓r223_92, ↓r223_94, ↓r223_95, ↓r223_96, ↓r223_99, ↓r223_100, ↓e1, jI_sub, am_k_n, am_k_i, am_k_l, if_false, Bool.false_eq_true, hn, hn2, ht, hF, am_wt, am_wf, Option.isSome_some, am_rf_s, am_rf_n, ps_lit, nI_add, nI_1, pk_mul, ps_cl, ps_neg, ps_c0, ps_c1, ps_n01, ps_n11, ps_10, ps_b01, ps_e0, pu_Ine, pu_Ieq, pu_ne, pu_eq, am_k_n, am_k_i, am_k_r, am_k_u, am_k_l, am_sz_0, am_sz_i, am_sz_r, am_sz_u, am_sz_l, Option.toList_some, Option.toList_none, List.cons_append, List.nil_append, true_and, and_true, or_false, false_or, or_self, or_true, true_or, not_false_eq_true, not_true_eq_false, Classical.not_not, ne_eq, ps_e1, ps_em, ps_z, Nat.not_le, false_implies, true_implies, forall_const, ps_01, ps_1n, ps_0n, ps_m10, ps_m1n, lg_cmp_gt, lg_cmp_ge, lg_cmp_le, lg_cmp_lt, lg_cmp_eq, pu_rne, pu_req, pu_uro, RFc_n, Nat.reduceAdd, Nat.reduceMul, Nat.reduceLT, Nat.reduceLeDiff, Nat.reduceEqDiff, Nat.reduceSub]
    exact hQ _ _ _
theorem e_term {k : Nat} {P : Nat → Nat → RD DI} (h : EH n t I F K j tk tv NT w) (hP : EvI X (k + 3) n sl t I J F j NT w 225 (fun l => [some (.ref 47), some (.int l), none, none]) P) (hB : BD NT P) (hD : BdI P) : EvI X (k + 4) n sl t I J F j NT w 224 (fun l => [some (.ref 47), some (.int l), none, none, none, none, none]) (pThen tk seM P (fun c a b => bi (opM c) a b)) := by
  intro d Q i0 q0 r0 lv b hi0 hq0 hp0 hQ0
  have hW := h.1
  obtain ⟨hn, hn2, ht, hF⟩ := id hW
  have h0 := h.2.1.1.2.1
  have hN := h.2.1.1.1
  have hww := h.2.2.2.2.1
  show am_W X (d + k + 4) 224 0 [some (.ref 47), some (.int (if lv = true then 1 else 0)), none, none, none, none, none] [] (n, sl, t, eS I j i0 b, J, F) Q
  have hl : ∀ g i q D, i ≤ NT → q ≤ 50 → NT < i + g → DBd D → pMore tk seM P (fun c a b => bi (opM c) a b) g i q D = .ok r0 → ∀ l4 l5 l6 : Option Value, am_W X (d + k + 4) 224 6 [some (.ref 47), some (.int (if lv = true then 1 else 0)), some (.long (jI (oc D w lv b).1)), none, l4, l5, l6] [] (n, sl, t, eS I j i (oc D w lv b).2, J, F) Q := by
    intro g
    induction g with
    | zero => intro i q D hi hq hg; omega
    | succ g ih =>
      intro i q D hi hq hg hDD hp l4 l5 l6
      rw [pMore] at hp
      have e1 := fun b Q => e_code (X := X) (d := d + k + 3) (Q := Q) (sl := sl) (J := J) (b := b) h hi
      have tkb : tk i < 2000000 := by
        by_cases q : i < NT
        · have := (h.2.1.2.2 i q).2.2.1
          omega
        · have : i = NT := by omega
          rw [this, h0]
          omega
      have go : seM (tk i) = true → (tk i = 142 ∨ tk i = 147) → ∀ l5 l6 : Option Value, am_W X (d + k + 4) 224 71 [some (.ref 47), some (.int (if lv = true then 1 else 0)), some (.long (jI (oc D w lv b).1)), none, some (.int (if decide (tk i = 142) = true then 1 else 0)), l5, l6] [] (n, sl, t, eS I j (i + 1) (oc D w lv b).2, J, F) Q := by
        intro hc hcc l5 l6
        rw [if_pos hc] at hp
        have hl : i < NT := tok_lt h0 hi (by omega)
        cases hs : P (i + 1) q with
        | error x => rw [hs] at hp; cases hp
        | ok s =>
          rw [hs] at hp
          dsimp only at hp
          obtain ⟨b1, b2, b3, b4⟩ := (hB (i + 1) q hl hq).1 s hs
          have hDs := hD _ _ s hs
          simp only [↓r224_71, ↓r224_72, ↓r224_73, Bool.false_eq_true, hn, hn2, ht, hF, am_wt, am_wf, Option.isSome_some, am_rf_s, am_rf_n, ps_lit, nI_add, nI_1, pk_mul, ps_cl, ps_neg, ps_c0, ps_c1, ps_n01, ps_n11, ps_10, ps_b01, ps_e0, pu_Ine, pu_Ieq, pu_ne, pu_eq, am_k_n, am_k_i, am_k_r, am_k_u, am_k_l, am_sz_0, am_sz_i, am_sz_r, am_sz_u, am_sz_l, Option.toList_some, Option.toList_none, List.cons_append, List.nil_append, true_and, and_true, or_false, false_or, or_self, or_true, true_or, not_false_eq_true, not_true_eq_false, Classical.not_not, ne_eq, ps_e1, ps_em, ps_z, Nat.not_le, false_implies, true_implies, forall_const, ps_01, ps_1n, ps_0n, ps_m10, ps_m1n, lg_cmp_gt, lg_cmp_ge, lg_cmp_le, lg_cmp_lt, lg_cmp_eq, pu_rne, pu_req, pu_uro, RFc_n, Nat.reduceAdd, Nat.reduceMul, Nat.reduceLT, Nat.reduceLeDiff, Nat.reduceEqDiff, Nat.reduceSub]
          refine hP d _ (i + 1) q s lv (oc D w lv b).2 hl hq hs ?_
          have er := res_M (c := tk i) (D := D) (E := s.2.2) (w := w) (lv := lv) (b := b) hww hDD hDs hcc
          have := ih s.1 s.2.1 ((fun c a b => bi (opM c) a b) (tk i) D s.2.2) b2 b4 (by omega) (bi_b opM_b) hp
          rw [← er] at this
          refine (e_opM (X := X) (d := d + k + 3) (Q := Q) (sl := sl) (J := J) (I := I) (i := s.1) (tm := decide (tk i = 142)) (lv := lv) (b := (oc s.2.2 w lv (oc D w lv b).2).2) hW (oc_b (lv := lv) (b := b) hww hDD) (oc_b (lv := lv) (b := (oc D w lv b).2) hww hDs) _ _ ?_)
          exact fun l4 l5 l6 => this l4 l5 l6
      rw [r224_6]
      by_cases c1 : tk i = 142
      · have hc : seM (tk i) = true := by rw [c1]; rfl
        have := go hc (Or.inl c1)
        simp only [c1, decide_true, if_true] at this
        simp only [↓r224_7, ↓r224_8, ↓r224_11, ↓r224_14, ↓r224_16, ↓r224_19, ↓r224_22, ↓r224_23, ↓r224_24, ↓r224_27, ↓r224_30, ↓r224_32, ↓r224_35, ↓r224_38, ↓r224_39, ↓r224_40, ↓r224_43, ↓r224_46, ↓r224_48, ↓r224_51, ↓r224_54, ↓r224_55, ↓r224_58, ↓r224_59, ↓r224_61, ↓r224_62, ↓r224_62r, ↓r224_63, ↓r224_66, ↓r224_67, ↓r224_68, ↓m_sign, ↓e1, q_le, q_lt, q_eq, q_e0, q_e1, q_0e, q_1e, ps_n0, q_0le, q_le0, q_0lt, q_m1e, q_em1, eS_17, eS_u17, c1, am_k_n, am_k_i, am_k_l, Bool.false_eq_true, hn, hn2, ht, hF, am_wt, am_wf, Option.isSome_some, am_rf_s, am_rf_n, ps_lit, nI_add, nI_1, pk_mul, ps_cl, ps_neg, ps_c0, ps_c1, ps_n01, ps_n11, ps_10, ps_b01, ps_e0, pu_Ine, pu_Ieq, pu_ne, pu_eq, am_k_n, am_k_i, am_k_r, am_k_u, am_k_l, am_sz_0, am_sz_i, am_sz_r, am_sz_u, am_sz_l, Option.toList_some, Option.toList_none, List.cons_append, List.nil_append, true_and, and_true, or_false, false_or, or_self, or_true, true_or, not_false_eq_true, not_true_eq_false, Classical.not_not, ne_eq, ps_e1, ps_em, ps_z, Nat.not_le, false_implies, true_implies, forall_const, ps_01, ps_1n, ps_0n, ps_m10, ps_m1n, lg_cmp_gt, lg_cmp_ge, lg_cmp_le, lg_cmp_lt, lg_cmp_eq, pu_rne, pu_req, pu_uro, RFc_n, Nat.reduceAdd, Nat.reduceMul, Nat.reduceLT, Nat.reduceLeDiff, Nat.reduceEqDiff, Nat.reduceSub]
        exact this _ _
      · by_cases c2 : tk i = 147
        · have hc : seM (tk i) = true := by rw [c2]; rfl
          have := go hc (Or.inr c2)
          simp only [c1, decide_false, Bool.false_eq_true, if_false] at this
          simp only [↓r224_7, ↓r224_8, ↓r224_11, ↓r224_14, ↓r224_16, ↓r224_19, ↓r224_22, ↓r224_23, ↓r224_24, ↓r224_27, ↓r224_30, ↓r224_32, ↓r224_35, ↓r224_38, ↓r224_39, ↓r224_40, ↓r224_43, ↓r224_46, ↓r224_48, ↓r224_51, ↓r224_54, ↓r224_55, ↓r224_58, ↓r224_59, ↓r224_61, ↓r224_62, ↓r224_62r, ↓r224_63, ↓r224_66, ↓r224_67, ↓r224_68, ↓m_sign, ↓e1, q_le, q_lt, q_eq, q_e0, q_e1, q_0e, q_1e, ps_n0, q_0le, q_le0, q_0lt, q_m1e, q_em1, eS_17, eS_u17, c2, am_k_n, am_k_i, am_k_l, Bool.false_eq_true, hn, hn2, ht, hF, am_wt, am_wf, Option.isSome_some, am_rf_s, am_rf_n, ps_lit, nI_add, nI_1, pk_mul, ps_cl, ps_neg, ps_c0, ps_c1, ps_n01, ps_n11, ps_10, ps_b01, ps_e0, pu_Ine, pu_Ieq, pu_ne, pu_eq, am_k_n, am_k_i, am_k_r, am_k_u, am_k_l, am_sz_0, am_sz_i, am_sz_r, am_sz_u, am_sz_l, Option.toList_some, Option.toList_none, List.cons_append, List.nil_append, true_and, and_true, or_false, false_or, or_self, or_true, true_or, not_false_eq_true, not_true_eq_false, Classical.not_not, ne_eq, ps_e1, ps_em, ps_z, Nat.not_le, false_implies, true_implies, forall_const, ps_01, ps_1n, ps_0n, ps_m10, ps_m1n, lg_cmp_gt, lg_cmp_ge, lg_cmp_le, lg_cmp_lt, lg_cmp_eq, pu_rne, pu_req, pu_uro, RFc_n, Nat.reduceAdd, Nat.reduceMul, Nat.reduceLT, Nat.reduceLeDiff, Nat.reduceEqDiff, Nat.reduceSub]
          exact this _ _
        · have hc : ¬ seM (tk i) = true := by
            unfold seM
            simp only [Bool.or_eq_true, beq_iff_eq]
            omega
          rw [if_neg hc] at hp
          cases hp
          simp only [↓r224_7, ↓r224_8, ↓r224_11, ↓r224_14, ↓r224_16, ↓r224_19, ↓r224_22, ↓r224_23, ↓r224_24, ↓r224_27, ↓r224_30, ↓r224_32, ↓r224_35, ↓r224_138, ↓r224_139, ↓m_sign, ↓e1, q_le, q_lt, q_eq, q_e0, q_e1, q_0e, q_1e, ps_n0, q_0le, q_le0, q_0lt, q_m1e, q_em1, eS_17, tkb, c1, c2, Bool.false_eq_true, hn, hn2, ht, hF, am_wt, am_wf, Option.isSome_some, am_rf_s, am_rf_n, ps_lit, nI_add, nI_1, pk_mul, ps_cl, ps_neg, ps_c0, ps_c1, ps_n01, ps_n11, ps_10, ps_b01, ps_e0, pu_Ine, pu_Ieq, pu_ne, pu_eq, am_k_n, am_k_i, am_k_r, am_k_u, am_k_l, am_sz_0, am_sz_i, am_sz_r, am_sz_u, am_sz_l, Option.toList_some, Option.toList_none, List.cons_append, List.nil_append, true_and, and_true, or_false, false_or, or_self, or_true, true_or, not_false_eq_true, not_true_eq_false, Classical.not_not, ne_eq, ps_e1, ps_em, ps_z, Nat.not_le, false_implies, true_implies, forall_const, ps_01, ps_1n, ps_0n, ps_m10, ps_m1n, lg_cmp_gt, lg_cmp_ge, lg_cmp_le, lg_cmp_lt, lg_cmp_eq, pu_rne, pu_req, pu_uro, RFc_n, Nat.reduceAdd, Nat.reduceMul, Nat.reduceLT, Nat.reduceLeDiff, Nat.reduceEqDiff, Nat.reduceSub]
          exact hQ0
  unfold pThen at hp0
  cases hs : P i0 q0 with
  | error x => rw [hs] at hp0; cases hp0
  | ok s =>
    rw [hs] at hp0
    obtain ⟨b1, b2, b3, b4⟩ := (hB i0 q0 hi0 hq0).1 s hs
    simp only [↓r224_0, ↓r224_1, ↓r224_2, Bool.false_eq_true, hn, hn2, ht, hF, am_wt, am_wf, Option.isSome_some, am_rf_s, am_rf_n, ps_lit, nI_add, nI_1, pk_mul, ps_cl, ps_neg, ps_c0, ps_c1, ps_n01, ps_n11, ps_10, ps_b01, ps_e0, pu_Ine, pu_Ieq, pu_ne, pu_eq, am_k_n, am_k_i, am_k_r, am_k_u, am_k_l, am_sz_0, am_sz_i, am_sz_r, am_sz_u, am_sz_l, Option.toList_some, Option.toList_none, List.cons_append, List.nil_append, true_and, and_true, or_false, false_or, or_self, or_true, true_or, not_false_eq_true, not_true_eq_false, Classical.not_not, ne_eq, ps_e1, ps_em, ps_z, Nat.not_le, false_implies, true_implies, forall_const, ps_01, ps_1n, ps_0n, ps_m10, ps_m1n, lg_cmp_gt, lg_cmp_ge, lg_cmp_le, lg_cmp_lt, lg_cmp_eq, pu_rne, pu_req, pu_uro, RFc_n, Nat.reduceAdd, Nat.reduceMul, Nat.reduceLT, Nat.reduceLeDiff, Nat.reduceEqDiff, Nat.reduceSub]
    refine hP d _ i0 q0 s lv b hi0 hq0 hs ?_
    simp only [↓r224_5, am_k_n, am_k_i, am_k_l, Bool.false_eq_true, hn, hn2, ht, hF, am_wt, am_wf, Option.isSome_some, am_rf_s, am_rf_n, ps_lit, nI_add, nI_1, pk_mul, ps_cl, ps_neg, ps_c0, ps_c1, ps_n01, ps_n11, ps_10, ps_b01, ps_e0, pu_Ine, pu_Ieq, pu_ne, pu_eq, am_k_n, am_k_i, am_k_r, am_k_u, am_k_l, am_sz_0, am_sz_i, am_sz_r, am_sz_u, am_sz_l, Option.toList_some, Option.toList_none, List.cons_append, List.nil_append, true_and, and_true, or_false, false_or, or_self, or_true, true_or, not_false_eq_true, not_true_eq_false, Classical.not_not, ne_eq, ps_e1, ps_em, ps_z, Nat.not_le, false_implies, true_implies, forall_const, ps_01, ps_1n, ps_0n, ps_m10, ps_m1n, lg_cmp_gt, lg_cmp_ge, lg_cmp_le, lg_cmp_lt, lg_cmp_eq, pu_rne, pu_req, pu_uro, RFc_n, Nat.reduceAdd, Nat.reduceMul, Nat.reduceLT, Nat.reduceLeDiff, Nat.reduceEqDiff, Nat.reduceSub]
    exact hl 400 s.1 s.2.1 s.2.2 b2 b4 (by omega) (hD _ _ s hs) hp0 _ _ _
theorem e_sum {k : Nat} {P : Nat → Nat → RD DI} (h : EH n t I F K j tk tv NT w) (hP : EvI X (k + 4) n sl t I J F j NT w 224 (fun l => [some (.ref 47), some (.int l), none, none, none, none, none]) P) (hB : BD NT P) (hD : BdI P) : EvI X (k + 5) n sl t I J F j NT w 223 (fun l => [some (.ref 47), some (.int l), none, none, none, none, none]) (pThen tk seA P (fun c a b => bi (opA c) a b)) := by
  intro d Q i0 q0 r0 lv b hi0 hq0 hp0 hQ0
  have hW := h.1
  obtain ⟨hn, hn2, ht, hF⟩ := id hW
  have h0 := h.2.1.1.2.1
  have hN := h.2.1.1.1
  have hww := h.2.2.2.2.1
  show am_W X (d + k + 5) 223 0 [some (.ref 47), some (.int (if lv = true then 1 else 0)), none, none, none, none, none] [] (n, sl, t, eS I j i0 b, J, F) Q
  have hl : ∀ g i q D, i ≤ NT → q ≤ 50 → NT < i + g → DBd D → pMore tk seA P (fun c a b => bi (opA c) a b) g i q D = .ok r0 → ∀ l4 l5 l6 : Option Value, am_W X (d + k + 5) 223 6 [some (.ref 47), some (.int (if lv = true then 1 else 0)), some (.long (jI (oc D w lv b).1)), none, l4, l5, l6] [] (n, sl, t, eS I j i (oc D w lv b).2, J, F) Q := by
    intro g
    induction g with
    | zero => intro i q D hi hq hg; omega
    | succ g ih =>
      intro i q D hi hq hg hDD hp l4 l5 l6
      rw [pMore] at hp
      have e1 := fun b Q => e_code (X := X) (d := d + k + 4) (Q := Q) (sl := sl) (J := J) (b := b) h hi
      have tkb : tk i < 2000000 := by
        by_cases q : i < NT
        · have := (h.2.1.2.2 i q).2.2.1
          omega
        · have : i = NT := by omega
          rw [this, h0]
          omega
      have go : seA (tk i) = true → (tk i = 143 ∨ tk i = 145) → ∀ l5 l6 : Option Value, am_W X (d + k + 5) 223 71 [some (.ref 47), some (.int (if lv = true then 1 else 0)), some (.long (jI (oc D w lv b).1)), none, some (.int (if decide (tk i = 143) = true then 1 else 0)), l5, l6] [] (n, sl, t, eS I j (i + 1) (oc D w lv b).2, J, F) Q := by
        intro hc hcc l5 l6
        rw [if_pos hc] at hp
        have hl : i < NT := tok_lt h0 hi (by omega)
        cases hs : P (i + 1) q with
        | error x => rw [hs] at hp; cases hp
        | ok s =>
          rw [hs] at hp
          dsimp only at hp
          obtain ⟨b1, b2, b3, b4⟩ := (hB (i + 1) q hl hq).1 s hs
          have hDs := hD _ _ s hs
          simp only [↓r223_71, ↓r223_72, ↓r223_73, Bool.false_eq_true, hn, hn2, ht, hF, am_wt, am_wf, Option.isSome_some, am_rf_s, am_rf_n, ps_lit, nI_add, nI_1, pk_mul, ps_cl, ps_neg, ps_c0, ps_c1, ps_n01, ps_n11, ps_10, ps_b01, ps_e0, pu_Ine, pu_Ieq, pu_ne, pu_eq, am_k_n, am_k_i, am_k_r, am_k_u, am_k_l, am_sz_0, am_sz_i, am_sz_r, am_sz_u, am_sz_l, Option.toList_some, Option.toList_none, List.cons_append, List.nil_append, true_and, and_true, or_false, false_or, or_self, or_true, true_or, not_false_eq_true, not_true_eq_false, Classical.not_not, ne_eq, ps_e1, ps_em, ps_z, Nat.not_le, false_implies, true_implies, forall_const, ps_01, ps_1n, ps_0n, ps_m10, ps_m1n, lg_cmp_gt, lg_cmp_ge, lg_cmp_le, lg_cmp_lt, lg_cmp_eq, pu_rne, pu_req, pu_uro, RFc_n, Nat.reduceAdd, Nat.reduceMul, Nat.reduceLT, Nat.reduceLeDiff, Nat.reduceEqDiff, Nat.reduceSub]
          refine hP d _ (i + 1) q s lv (oc D w lv b).2 hl hq hs ?_
          have er := res_A (c := tk i) (D := D) (E := s.2.2) (w := w) (lv := lv) (b := b) hww hDD hDs hcc
          have := ih s.1 s.2.1 ((fun c a b => bi (opA c) a b) (tk i) D s.2.2) b2 b4 (by omega) (bi_b opA_b) hp
          rw [← er] at this
          refine (e_opA (X := X) (d := d + k + 4) (Q := Q) (sl := sl) (J := J) (I := I) (i := s.1) (tm := decide (tk i = 143)) (lv := lv) (b := (oc s.2.2 w lv (oc D w lv b).2).2) hW (oc_b (lv := lv) (b := b) hww hDD) (oc_b (lv := lv) (b := (oc D w lv b).2) hww hDs) _ _ ?_)
          exact fun l4 l5 l6 => this l4 l5 l6
      rw [r223_6]
      by_cases c1 : tk i = 143
      · have hc : seA (tk i) = true := by rw [c1]; rfl
        have := go hc (Or.inl c1)
        simp only [c1, decide_true, if_true] at this
        simp only [↓r223_7, ↓r223_8, ↓r223_11, ↓r223_14, ↓r223_16, ↓r223_19, ↓r223_22, ↓r223_23, ↓r223_24, ↓r223_27, ↓r223_30, ↓r223_32, ↓r223_35, ↓r223_38, ↓r223_39, ↓r223_40, ↓r223_43, ↓r223_46, ↓r223_48, ↓r223_51, ↓r223_54, ↓r223_55, ↓r223_58, ↓r223_59, ↓r223_61, ↓r223_62, ↓r223_62r, ↓r223_63, ↓r223_66, ↓r223_67, ↓r223_68, ↓m_sign, ↓e1, q_le, q_lt, q_eq, q_e0, q_e1, q_0e, q_1e, ps_n0, q_0le, q_le0, q_0lt, q_m1e, q_em1, eS_17, eS_u17, c1, am_k_n, am_k_i, am_k_l, Bool.false_eq_true, hn, hn2, ht, hF, am_wt, am_wf, Option.isSome_some, am_rf_s, am_rf_n, ps_lit, nI_add, nI_1, pk_mul, ps_cl, ps_neg, ps_c0, ps_c1, ps_n01, ps_n11, ps_10, ps_b01, ps_e0, pu_Ine, pu_Ieq, pu_ne, pu_eq, am_k_n, am_k_i, am_k_r, am_k_u, am_k_l, am_sz_0, am_sz_i, am_sz_r, am_sz_u, am_sz_l, Option.toList_some, Option.toList_none, List.cons_append, List.nil_append, true_and, and_true, or_false, false_or, or_self, or_true, true_or, not_false_eq_true, not_true_eq_false, Classical.not_not, ne_eq, ps_e1, ps_em, ps_z, Nat.not_le, false_implies, true_implies, forall_const, ps_01, ps_1n, ps_0n, ps_m10, ps_m1n, lg_cmp_gt, lg_cmp_ge, lg_cmp_le, lg_cmp_lt, lg_cmp_eq, pu_rne, pu_req, pu_uro, RFc_n, Nat.reduceAdd, Nat.reduceMul, Nat.reduceLT, Nat.reduceLeDiff, Nat.reduceEqDiff, Nat.reduceSub]
        exact this _ _
      · by_cases c2 : tk i = 145
        · have hc : seA (tk i) = true := by rw [c2]; rfl
          have := go hc (Or.inr c2)
          simp only [c1, decide_false, Bool.false_eq_true, if_false] at this
          simp only [↓r223_7, ↓r223_8, ↓r223_11, ↓r223_14, ↓r223_16, ↓r223_19, ↓r223_22, ↓r223_23, ↓r223_24, ↓r223_27, ↓r223_30, ↓r223_32, ↓r223_35, ↓r223_38, ↓r223_39, ↓r223_40, ↓r223_43, ↓r223_46, ↓r223_48, ↓r223_51, ↓r223_54, ↓r223_55, ↓r223_58, ↓r223_59, ↓r223_61, ↓r223_62, ↓r223_62r, ↓r223_63, ↓r223_66, ↓r223_67, ↓r223_68, ↓m_sign, ↓e1, q_le, q_lt, q_eq, q_e0, q_e1, q_0e, q_1e, ps_n0, q_0le, q_le0, q_0lt, q_m1e, q_em1, eS_17, eS_u17, c2, am_k_n, am_k_i, am_k_l, Bool.false_eq_true, hn, hn2, ht, hF, am_wt, am_wf, Option.isSome_some, am_rf_s, am_rf_n, ps_lit, nI_add, nI_1, pk_mul, ps_cl, ps_neg, ps_c0, ps_c1, ps_n01, ps_n11, ps_10, ps_b01, ps_e0, pu_Ine, pu_Ieq, pu_ne, pu_eq, am_k_n, am_k_i, am_k_r, am_k_u, am_k_l, am_sz_0, am_sz_i, am_sz_r, am_sz_u, am_sz_l, Option.toList_some, Option.toList_none, List.cons_append, List.nil_append, true_and, and_true, or_false, false_or, or_self, or_true, true_or, not_false_eq_true, not_true_eq_false, Classical.not_not, ne_eq, ps_e1, ps_em, ps_z, Nat.not_le, false_implies, true_implies, forall_const, ps_01, ps_1n, ps_0n, ps_m10, ps_m1n, lg_cmp_gt, lg_cmp_ge, lg_cmp_le, lg_cmp_lt, lg_cmp_eq, pu_rne, pu_req, pu_uro, RFc_n, Nat.reduceAdd, Nat.reduceMul, Nat.reduceLT, Nat.reduceLeDiff, Nat.reduceEqDiff, Nat.reduceSub]
          exact this _ _
        · have hc : ¬ seA (tk i) = true := by
            unfold seA
            simp only [Bool.or_eq_true, beq_iff_eq]
            omega
          rw [if_neg hc] at hp
          cases hp
          simp only [↓r223_7, ↓r223_8, ↓r223_11, ↓r223_14, ↓r223_16, ↓r223_19, ↓r223_22, ↓r223_23, ↓r223_24, ↓r223_27, ↓r223_30, ↓r223_32, ↓r223_35, ↓r223_103, ↓r223_104, ↓m_sign, ↓e1, q_le, q_lt, q_eq, q_e0, q_e1, q_0e, q_1e, ps_n0, q_0le, q_le0, q_0lt, q_m1e, q_em1, eS_17, tkb, c1, c2, Bool.false_eq_true, hn, hn2, ht, hF, am_wt, am_wf, Option.isSome_some, am_rf_s, am_rf_n, ps_lit, nI_add, nI_1, pk_mul, ps_cl, ps_neg, ps_c0, ps_c1, ps_n01, ps_n11, ps_10, ps_b01, ps_e0, pu_Ine, pu_Ieq, pu_ne, pu_eq, am_k_n, am_k_i, am_k_r, am_k_u, am_k_l, am_sz_0, am_sz_i, am_sz_r, am_sz_u, am_sz_l, Option.toList_some, Option.toList_none, List.cons_append, List.nil_append, true_and, and_true, or_false, false_or, or_self, or_true, true_or, not_false_eq_true, not_true_eq_false, Classical.not_not, ne_eq, ps_e1, ps_em, ps_z, Nat.not_le, false_implies, true_implies, forall_const, ps_01, ps_1n, ps_0n, ps_m10, ps_m1n, lg_cmp_gt, lg_cmp_ge, lg_cmp_le, lg_cmp_lt, lg_cmp_eq, pu_rne, pu_req, pu_uro, RFc_n, Nat.reduceAdd, Nat.reduceMul, Nat.reduceLT, Nat.reduceLeDiff, Nat.reduceEqDiff, Nat.reduceSub]
          exact hQ0
  unfold pThen at hp0
  cases hs : P i0 q0 with
  | error x => rw [hs] at hp0; cases hp0
  | ok s =>
    rw [hs] at hp0
    obtain ⟨b1, b2, b3, b4⟩ := (hB i0 q0 hi0 hq0).1 s hs
    simp only [↓r223_0, ↓r223_1, ↓r223_2, Bool.false_eq_true, hn, hn2, ht, hF, am_wt, am_wf, Option.isSome_some, am_rf_s, am_rf_n, ps_lit, nI_add, nI_1, pk_mul, ps_cl, ps_neg, ps_c0, ps_c1, ps_n01, ps_n11, ps_10, ps_b01, ps_e0, pu_Ine, pu_Ieq, pu_ne, pu_eq, am_k_n, am_k_i, am_k_r, am_k_u, am_k_l, am_sz_0, am_sz_i, am_sz_r, am_sz_u, am_sz_l, Option.toList_some, Option.toList_none, List.cons_append, List.nil_append, true_and, and_true, or_false, false_or, or_self, or_true, true_or, not_false_eq_true, not_true_eq_false, Classical.not_not, ne_eq, ps_e1, ps_em, ps_z, Nat.not_le, false_implies, true_implies, forall_const, ps_01, ps_1n, ps_0n, ps_m10, ps_m1n, lg_cmp_gt, lg_cmp_ge, lg_cmp_le, lg_cmp_lt, lg_cmp_eq, pu_rne, pu_req, pu_uro, RFc_n, Nat.reduceAdd, Nat.reduceMul, Nat.reduceLT, Nat.reduceLeDiff, Nat.reduceEqDiff, Nat.reduceSub]
    refine hP d _ i0 q0 s lv b hi0 hq0 hs ?_
    simp only [↓r223_5, am_k_n, am_k_i, am_k_l, Bool.false_eq_true, hn, hn2, ht, hF, am_wt, am_wf, Option.isSome_some, am_rf_s, am_rf_n, ps_lit, nI_add, nI_1, pk_mul, ps_cl, ps_neg, ps_c0, ps_c1, ps_n01, ps_n11, ps_10, ps_b01, ps_e0, pu_Ine, pu_Ieq, pu_ne, pu_eq, am_k_n, am_k_i, am_k_r, am_k_u, am_k_l, am_sz_0, am_sz_i, am_sz_r, am_sz_u, am_sz_l, Option.toList_some, Option.toList_none, List.cons_append, List.nil_append, true_and, and_true, or_false, false_or, or_self, or_true, true_or, not_false_eq_true, not_true_eq_false, Classical.not_not, ne_eq, ps_e1, ps_em, ps_z, Nat.not_le, false_implies, true_implies, forall_const, ps_01, ps_1n, ps_0n, ps_m10, ps_m1n, lg_cmp_gt, lg_cmp_ge, lg_cmp_le, lg_cmp_lt, lg_cmp_eq, pu_rne, pu_req, pu_uro, RFc_n, Nat.reduceAdd, Nat.reduceMul, Nat.reduceLT, Nat.reduceLeDiff, Nat.reduceEqDiff, Nat.reduceSub]
    exact hl 400 s.1 s.2.1 s.2.2 b2 b4 (by omega) (hD _ _ s hs) hp0 _ _ _
end MF
