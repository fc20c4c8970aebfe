/-! the nearest set: the reference -/
section NR
variable {X : am_X} {d : Nat} {Q : Option Value → am_H → Prop} {n sl : Nat} {t : Nat → Nat × Nat} {I : Nat → Nat → Int32} {J : Nat → Nat → Int64} {F : Nat → Nat → Option Nat} {h : am_H}
variable {K : Nat → Int32} {N T : Nat} {lw : Nat → List CL}
theorem sm_sw (c : Nat → Bool) (G : Nat → Nat → Nat) (M : Nat) : ∀ j, sm (fun f => if c f = true then sm (G f) j else 0) M = sm (fun i => sm (fun f => if c f = true then G f i else 0) M) j := by
  intro j
  induction j with
  | zero =>
    rw [sm]
    have : ∀ m, sm (fun f => if c f = true then sm (G f) 0 else 0) m = 0 := by
      intro m
      induction m with
      | zero => rfl
      | succ m ih =>
        rw [sm, ih]
        show 0 + (if c m = true then 0 else 0) = 0
        rw [ite_self]
    exact this M
  | succ j ih =>
    rw [sm, ← ih, ← sm_ad]
    refine sm_c _ (fun f _ => ?_)
    rw [sm]
    by_cases h : c f = true
    · rw [if_pos h, if_pos h, if_pos h]
    · rw [if_neg h, if_neg h, if_neg h]
theorem sm_if (c : Nat → Bool) (p : Bool) (G : Nat → Nat) (M : Nat) : sm (fun f => if c f = true then (if p = true then G f else 0) else 0) M = if p = true then sm (fun f => if c f = true then G f else 0) M else 0 := by
  cases p with
  | true => rfl
  | false =>
    induction M with
    | zero => rfl
    | succ M ih =>
      rw [sm, ih]
      simp
theorem sm_one (c : Nat → Bool) {u v : Nat} : ∀ M, sm (fun f => if c f = true then (if u = f then v else 0) else 0) M = if u < M ∧ c u = true then v else 0 := by
  intro M
  induction M with
  | zero => rw [if_neg (fun q => absurd q.1 (by omega))]; rfl
  | succ M ih =>
    rw [sm, ih]
    by_cases h : u = M
    · subst h
      rw [if_neg (fun q => absurd q.1 (by omega)), Nat.zero_add, if_pos rfl]
      by_cases hc : c u = true
      · rw [if_pos hc, if_pos ⟨by omega, hc⟩]
      · rw [if_neg hc, if_neg (fun q => hc q.2)]
    · rw [if_neg h, ite_self, Nat.add_zero]
      by_cases hc : u < M ∧ c u = true
      · rw [if_pos hc, if_pos ⟨by omega, hc.2⟩]
      · rw [if_neg hc, if_neg (fun q => hc ⟨by omega, q.2⟩)]
/-- a pair at the set in which it is not alike -/
def atU (K : Nat → Int32) (g : Nat → Nat → Nat) (f a b : Nat) : Nat := if unl K a b 8 = f then g a b else 0
theorem t2_sw {g : Nat → Nat → Nat} {p q : Nat → Bool} {l : List Nat} {s : Nat} : sm (fun f => if decide (f &&& s = 0) = true then t2 (atU K g f) p q l l.length else 0) 256 = t2 (fun a b => if unl K a b 8 &&& s = 0 then g a b else 0) p q l l.length := by
  unfold t2
  rw [sm_sw]
  refine sm_c _ (fun i _ => ?_)
  rw [sm_if]
  by_cases hp : p (l.getD i 0) = true
  · rw [if_pos hp, if_pos hp]
    unfold t1
    rw [sm_sw]
    refine sm_c _ (fun k _ => ?_)
    rw [sm_if]
    by_cases hq : q (l.getD k 0) = true
    · rw [if_pos hq, if_pos hq]
      unfold atU
      rw [sm_one]
      have hu : unl K (l.getD i 0) (l.getD k 0) 8 < 256 := unl_lt
      by_cases hc : unl K (l.getD i 0) (l.getD k 0) 8 &&& s = 0
      · rw [if_pos ⟨hu, decide_eq_true hc⟩]
        exact (if_pos hc).symm
      · rw [if_neg (fun q => hc (of_decide_eq_true q.2))]
        exact (if_neg hc).symm
    · rw [if_neg hq, if_neg hq]
  · rw [if_neg hp, if_neg hp]
def gWn (th : Nat → Int32) (a b : Nat) : Nat := if th b < th a then 1 else 0
def gLn (th : Nat → Int32) (a b : Nat) : Nat := if th a < th b then 1 else 0
theorem t2_c {g g' : Nat → Nat → Nat} {p q : Nat → Bool} {l : List Nat} {j : Nat} (h : ∀ a b, g a b = g' a b) : t2 g p q l j = t2 g' p q l j := by
  have : g = g' := by
    funext a b
    exact h a b
  rw [this]
theorem t2_W {l : List Nat} {s : Nat} {p q : Nat → Bool} (hs : s < 256) : sm (fun f => if decide (f &&& s = 0) = true then t2 (atU K (gWn (fTh K)) f) p q l l.length else 0) 256 = t2 (cW K s (fTh K)) p q l l.length := by
  rw [t2_sw]
  refine t2_c (fun a b => ?_)
  unfold cW gWn
  by_cases h : alq K s a b = true
  · rw [if_pos h, if_pos ((unl_q hs).symm ▸ h)]
  · rw [if_neg h, if_neg (fun q => h ((unl_q hs) ▸ q))]
theorem t2_L {l : List Nat} {s : Nat} {p q : Nat → Bool} (hs : s < 256) : sm (fun f => if decide (f &&& s = 0) = true then t2 (atU K (gLn (fTh K)) f) p q l l.length else 0) 256 = t2 (cL K s (fTh K)) p q l l.length := by
  rw [t2_sw]
  refine t2_c (fun a b => ?_)
  unfold cL gLn
  by_cases h : alq K s a b = true
  · rw [if_pos h, if_pos ((unl_q hs).symm ▸ h)]
  · rw [if_neg h, if_neg (fun q => h ((unl_q hs) ▸ q))]
/-- a sum over pairs of LONG and SHORT ones is less than 120 * 120 -/
theorem t2_lt {g : Nat → Nat → Nat} {l : List Nat} (hl : l.length ≤ 120) (hg : ∀ a b, g a b ≤ 1) : t2 g (pL K) (pS K) l l.length < 14400 := by
  have hsm : ∀ j, sm (fun i => if pL K (l.getD i 0) = true then 1 else 0) j + sm (fun i => if pS K (l.getD i 0) = true then 1 else 0) j ≤ j := by
    intro j
    induction j with
    | zero => exact Nat.le_refl 0
    | succ j ih =>
      rw [sm, sm]
      have : (if pL K (l.getD j 0) = true then 1 else 0) + (if pS K (l.getD j 0) = true then 1 else 0) ≤ 1 := by
        by_cases h1 : pS K (l.getD j 0) = true
        · have h2 : ¬ pL K (l.getD j 0) = true := fun q => by
            have := fSh_n (pS_e.mp h1).2
            rw [(pL_e.mp q).2] at this
            cases this
          rw [if_pos h1, if_neg h2]
          omega
        · rw [if_neg h1]
          split <;> omega
      omega
  have h1 : ∀ a j, t1 g (pS K) a l j ≤ sm (fun i => if pS K (l.getD i 0) = true then 1 else 0) j := by
    intro a j
    unfold t1
    induction j with
    | zero => exact Nat.le_refl 0
    | succ j ih =>
      rw [sm, sm]
      have : (if pS K (l.getD j 0) = true then g a (l.getD j 0) else 0) ≤ (if pS K (l.getD j 0) = true then 1 else 0) := by
        split
        · exact hg _ _
        · omega
      omega
  have h2 : ∀ j, t2 g (pL K) (pS K) l j ≤ sm (fun i => if pL K (l.getD i 0) = true then 1 else 0) j * sm (fun i => if pS K (l.getD i 0) = true then 1 else 0) l.length := by
    intro j
    unfold t2
    induction j with
    | zero => simp [sm]
    | succ j ih =>
      rw [sm, sm, Nat.add_mul]
      have : (if pL K (l.getD j 0) = true then t1 g (pS K) (l.getD j 0) l l.length else 0) ≤ (if pL K (l.getD j 0) = true then 1 else 0) * sm (fun i => if pS K (l.getD i 0) = true then 1 else 0) l.length := by
        split
        · rw [Nat.one_mul]; exact h1 _ _
        · omega
      omega
  have h3 := hsm l.length
  have h4 := h2 l.length
  generalize sm (fun i => if pL K (l.getD i 0) = true then 1 else 0) l.length = P at h3 h4
  generalize sm (fun i => if pS K (l.getD i 0) = true then 1 else 0) l.length = S at h3 h4
  by_cases hS : S = 120
  · have : P = 0 := by omega
    subst this
    omega
  · have : P * S ≤ 120 * 119 := Nat.mul_le_mul (by omega) (by omega)
    omega
def mo (K : Nat → Int32) (g : Nat → Nat → Nat) (l : List Nat) (i : Nat) : Nat → Int32 := fun f => nI (t2 (atU K g f) (pL K) (pS K) l i)
def mi (K : Nat → Int32) (g : Nat → Nat → Nat) (l : List Nat) (i a k : Nat) : Nat → Int32 := fun f => nI (t2 (atU K g f) (pL K) (pS K) l i + t1 (atU K g f) (pS K) a l k)
theorem mi_0 {g : Nat → Nat → Nat} {l : List Nat} {i a : Nat} : mi K g l i a 0 = mo K g l i := rfl
theorem mi_e {g : Nat → Nat → Nat} {l : List Nat} {i : Nat} (h : pL K (l.getD i 0) = true) : mi K g l i (l.getD i 0) l.length = mo K g l (i + 1) := by
  funext f
  unfold mi mo
  have : t2 (atU K g f) (pL K) (pS K) l (i + 1) = t2 (atU K g f) (pL K) (pS K) l i + (if pL K (l.getD i 0) = true then t1 (atU K g f) (pS K) (l.getD i 0) l l.length else 0) := rfl
  rw [this, if_pos h]
theorem mo_n {g : Nat → Nat → Nat} {l : List Nat} {i : Nat} (h : ¬ pL K (l.getD i 0) = true) : mo K g l (i + 1) = mo K g l i := by
  funext f
  unfold mo
  have : t2 (atU K g f) (pL K) (pS K) l (i + 1) = t2 (atU K g f) (pL K) (pS K) l i + (if pL K (l.getD i 0) = true then t1 (atU K g f) (pS K) (l.getD i 0) l l.length else 0) := rfl
  rw [this, if_neg h, Nat.add_zero]
theorem mi_n {g : Nat → Nat → Nat} {l : List Nat} {i a k : Nat} (h : ¬ pS K (l.getD k 0) = true) : mi K g l i a (k + 1) = mi K g l i a k := by
  funext f
  unfold mi
  have : t1 (atU K g f) (pS K) a l (k + 1) = t1 (atU K g f) (pS K) a l k + (if pS K (l.getD k 0) = true then atU K g f a (l.getD k 0) else 0) := rfl
  rw [this, if_neg h, Nat.add_zero]
theorem mi_s {g : Nat → Nat → Nat} {l : List Nat} {i a k : Nat} (h : pS K (l.getD k 0) = true) : mi K g l i a (k + 1) = upd (mi K g l i a k) (unl K a (l.getD k 0) 8) (mi K g l i a k (unl K a (l.getD k 0) 8) + nI (g a (l.getD k 0))) := by
  funext f
  have e : t1 (atU K g f) (pS K) a l (k + 1) = t1 (atU K g f) (pS K) a l k + (if pS K (l.getD k 0) = true then atU K g f a (l.getD k 0) else 0) := rfl
  unfold upd
  by_cases q : f = unl K a (l.getD k 0) 8
  · rw [if_pos q, ← q]
    unfold mi
    rw [e, if_pos h, nI_add]
    unfold atU
    rw [if_pos q.symm, Nat.add_assoc]
  · rw [if_neg q]
    unfold mi
    rw [e, if_pos h]
    unfold atU
    rw [if_neg (fun z => q z.symm), Nat.add_zero]
theorem m_cnt {R : Prop} {l : List Nat} (hCK : CK n t F (I 1 4) (I 2) (I 3) (I 49) K N) (hG : GH (I 47 24) (I 59) l N) (hR : ∀ l1 l2 l3 l4 l5 l6 : Option Value, am_W X (d + 3) 273 183 [some (.ref 47), l1, l2, l3, l4, l5, l6] [] (n, sl, t, ns2 64 65 I (mo K (gWn (fTh K)) l l.length) (mo K (gLn (fTh K)) l l.length), J, F) Q ↔ R) : am_W X (d + 3) 273 0 [some (.ref 47), none, none, none, none, none, none] [] (n, sl, t, I, J, F) Q ↔ R := by
  have hW : WS n t F := hCK.1
  obtain ⟨hn, hn2, ht, hF⟩ := id hW
  obtain ⟨h1, h2, h3⟩ := hG
  have hN := CK_N hCK
  have hin : ∀ (i a : Nat), a < N → (∀ l3 l4 l5 l6 : Option Value, am_W X (d + 3) 273 177 [some (.ref 47), some (.int (nI i)), some (.int (nI a)), l3, l4, l5, l6] [] (n, sl, t, ns2 64 65 I (mi K (gWn (fTh K)) l i a l.length) (mi K (gLn (fTh K)) l i a l.length), J, F) Q ↔ R) → ∀ l4 l5 l6 : Option Value, am_W X (d + 3) 273 67 [some (.ref 47), some (.int (nI i)), some (.int (nI a)), some (.int 0), l4, l5, l6] [] (n, sl, t, ns2 64 65 I (mi K (gWn (fTh K)) l i a 0) (mi K (gLn (fTh K)) l i a 0), J, F) Q ↔ R := by
    intro i a ha hR2
    refine lp0 (A := fun k => ∀ l4 l5 l6 : Option Value, am_W X (d + 3) 273 67 [some (.ref 47), some (.int (nI i)), some (.int (nI a)), some (.int (nI k)), l4, l5, l6] [] (n, sl, t, ns2 64 65 I (mi K (gWn (fTh K)) l i a k) (mi K (gLn (fTh K)) l i a k), J, F) Q ↔ R) (N := l.length) ?_ ?_
    · intro k hk ih l4 l5 l6
      obtain ⟨g1, g2⟩ := h3 k hk
      have hu : unl K a (l.getD k 0) 8 < 256 := unl_lt
      have z1 : k < 2000000 ∧ l.length < 2000000 ∧ k < 120 ∧ unl K a (l.getD k 0) 8 < 2000000 := by omega
      have z2 : ¬ l.length ≤ k := by omega
      have hCK28 : ∀ v w, CK n t F (ns2 64 65 I v w 1 4) (ns2 64 65 I v w 2) (ns2 64 65 I v w 3) (ns2 64 65 I v w 49) K N := fun v w => hCK
      have e1 := fun v w Q => m_unlike (X := X) (d := d + 1) (Q := Q) (sl := sl) (J := J) (I := ns2 64 65 I v w) (hCK28 v w) ha g2
      rw [r273_67]
      by_cases q1 : fSh K (l.getD k 0) = true
      · by_cases q2 : fFo K (l.getD k 0) = true
        · have q3 : pS K (l.getD k 0) = true := pS_e.mpr ⟨q2, q1⟩
          have x1 := mi_s (g := gWn (fTh K)) (i := i) (a := a) q3
          have x2 := mi_s (g := gLn (fTh K)) (i := i) (a := a) q3
          rw [x1, x2] at ih
          unfold gWn gLn at ih ⊢
          by_cases c1 : fTh K a < fTh K (l.getD k 0)
          · have c2 : ¬ fTh K (l.getD k 0) < fTh K a := fun q => Int32.lt_irrefl (Int32.lt_trans c1 q)
            rw [if_neg c2, if_pos c1] at ih
            simp only [ps_n0, Int32.add_zero] at ih
            simp only [↓r273_68, ↓r273_69, ↓r273_72, ↓r273_75, ↓r273_76, ↓r273_79, ↓r273_80, ↓r273_80k, ↓r273_81, ↓r273_83, ↓r273_84, ↓r273_86, ↓r273_89, ↓r273_92, ↓r273_93, ↓r273_95, ↓r273_98, ↓r273_101, ↓r273_104, ↓r273_105, ↓r273_106, ↓r273_108, ↓r273_111, ↓r273_113, ↓r273_114, ↓r273_117, ↓r273_119, ↓r273_120, ↓r273_120k, ↓r273_121, ↓r273_122, ↓r273_123, ↓r273_126, ↓r273_127, ↓r273_129, ↓r273_132, ↓r273_135, ↓r273_136, ↓r273_139, ↓r273_140, ↓r273_141, ↓r273_142, ↓r273_143, ↓r273_146, ↓r273_148, ↓r273_149, ↓r273_149k, ↓r273_150, ↓r273_151, ↓r273_152, ↓r273_155, ↓r273_156, ↓r273_158, ↓r273_161, ↓r273_164, ↓r273_165, ↓r273_168, ↓r273_169, ↓r273_170, ↓r273_171, ↓r273_174, ↓e1, ↓k_at (K := K) (N := N), ↓k_isTried (K := K) (N := N), ↓k_side (K := K) (N := N), ↓k_thing (K := K) (N := N), ↓k_isFound (K := K) (N := N), ↓m_factOf (K := K) (N := N), ↓m_isTried (K := K) (N := N), ↓m_took (K := K) (N := N), ↓m_waited (K := K) (N := N), ↓m_isLong (K := K) (N := N), ↓m_isShort (K := K) (N := N), ↓m_thingOf (K := K) (N := N), ↓m_isFound (K := K) (N := N), ↓m_many (K := K) (N := N), ↓c_within, ↓s_lies, hCK, b01, b11, hCK28, q_le, q_lt, q_eq, q_e0, q_e1, q_0e, q_1e, ps_n0, q_0le, q_le0, q_0lt, q_m1e, q_em1, h1, g1, g2, ha, hu, z1, z2, q1, q2, ns2_a, ns2_b, ns2_ua, ns2_ub, ns2_n, Int32.not_lt.mp c2, Int32.not_le.mpr c1, Int32.add_zero, if_true, Bool.false_eq_true, hn, hn2, ht, hF, am_wt, am_wf, Option.isSome_some, am_rf_s, am_rf_n, ps_lit, nI_add, nI_1, pk_mul, ps_cl, ps_neg, ps_c0, ps_c1, ps_n01, ps_n11, ps_10, ps_b01, ps_e0, pu_Ine, pu_Ieq, pu_ne, pu_eq, am_k_n, am_k_i, am_k_r, am_k_u, am_k_l, am_sz_0, am_sz_i, am_sz_r, am_sz_u, am_sz_l, Option.toList_some, Option.toList_none, List.cons_append, List.nil_append, true_and, and_true, or_false, false_or, or_self, or_true, true_or, not_false_eq_true, not_true_eq_false, Classical.not_not, ne_eq, ps_e1, ps_em, ps_z, Nat.not_le, false_implies, true_implies, forall_const, ps_01, ps_1n, ps_0n, ps_m10, ps_m1n, lg_cmp_gt, lg_cmp_ge, lg_cmp_le, lg_cmp_lt, lg_cmp_eq, pu_rne, pu_req, pu_uro, RFc_n, Nat.reduceAdd, Nat.reduceMul, Nat.reduceLT, Nat.reduceLeDiff, Nat.reduceEqDiff, Nat.reduceSub]
            exact ih _ _ _
          · by_cases c2 : fTh K (l.getD k 0) < fTh K a
            · rw [if_pos c2, if_neg c1] at ih
              simp only [ps_n0, Int32.add_zero] at ih
              simp only [↓r273_68, ↓r273_69, ↓r273_72, ↓r273_75, ↓r273_76, ↓r273_79, ↓r273_80, ↓r273_80k, ↓r273_81, ↓r273_83, ↓r273_84, ↓r273_86, ↓r273_89, ↓r273_92, ↓r273_93, ↓r273_95, ↓r273_98, ↓r273_101, ↓r273_104, ↓r273_105, ↓r273_106, ↓r273_108, ↓r273_111, ↓r273_113, ↓r273_114, ↓r273_117, ↓r273_119, ↓r273_120, ↓r273_120k, ↓r273_121, ↓r273_122, ↓r273_123, ↓r273_126, ↓r273_127, ↓r273_129, ↓r273_132, ↓r273_135, ↓r273_136, ↓r273_139, ↓r273_140, ↓r273_141, ↓r273_142, ↓r273_143, ↓r273_146, ↓r273_148, ↓r273_149, ↓r273_149k, ↓r273_150, ↓r273_151, ↓r273_152, ↓r273_155, ↓r273_156, ↓r273_158, ↓r273_161, ↓r273_164, ↓r273_165, ↓r273_168, ↓r273_169, ↓r273_170, ↓r273_171, ↓r273_174, ↓e1, ↓k_at (K := K) (N := N), ↓k_isTried (K := K) (N := N), ↓k_side (K := K) (N := N), ↓k_thing (K := K) (N := N), ↓k_isFound (K := K) (N := N), ↓m_factOf (K := K) (N := N), ↓m_isTried (K := K) (N := N), ↓m_took (K := K) (N := N), ↓m_waited (K := K) (N := N), ↓m_isLong (K := K) (N := N), ↓m_isShort (K := K) (N := N), ↓m_thingOf (K := K) (N := N), ↓m_isFound (K := K) (N := N), ↓m_many (K := K) (N := N), ↓c_within, ↓s_lies, hCK, b01, b11, hCK28, q_le, q_lt, q_eq, q_e0, q_e1, q_0e, q_1e, ps_n0, q_0le, q_le0, q_0lt, q_m1e, q_em1, h1, g1, g2, ha, hu, z1, z2, q1, q2, ns2_a, ns2_b, ns2_ua, ns2_ub, ns2_n, Int32.not_lt.mp c1, Int32.not_le.mpr c2, Int32.add_zero, if_true, Bool.false_eq_true, hn, hn2, ht, hF, am_wt, am_wf, Option.isSome_some, am_rf_s, am_rf_n, ps_lit, nI_add, nI_1, pk_mul, ps_cl, ps_neg, ps_c0, ps_c1, ps_n01, ps_n11, ps_10, ps_b01, ps_e0, pu_Ine, pu_Ieq, pu_ne, pu_eq, am_k_n, am_k_i, am_k_r, am_k_u, am_k_l, am_sz_0, am_sz_i, am_sz_r, am_sz_u, am_sz_l, Option.toList_some, Option.toList_none, List.cons_append, List.nil_append, true_and, and_true, or_false, false_or, or_self, or_true, true_or, not_false_eq_true, not_true_eq_false, Classical.not_not, ne_eq, ps_e1, ps_em, ps_z, Nat.not_le, false_implies, true_implies, forall_const, ps_01, ps_1n, ps_0n, ps_m10, ps_m1n, lg_cmp_gt, lg_cmp_ge, lg_cmp_le, lg_cmp_lt, lg_cmp_eq, pu_rne, pu_req, pu_uro, RFc_n, Nat.reduceAdd, Nat.reduceMul, Nat.reduceLT, Nat.reduceLeDiff, Nat.reduceEqDiff, Nat.reduceSub]
              exact ih _ _ _
            · rw [if_neg c2, if_neg c1] at ih
              simp only [ps_n0, Int32.add_zero] at ih
              simp only [↓r273_68, ↓r273_69, ↓r273_72, ↓r273_75, ↓r273_76, ↓r273_79, ↓r273_80, ↓r273_80k, ↓r273_81, ↓r273_83, ↓r273_84, ↓r273_86, ↓r273_89, ↓r273_92, ↓r273_93, ↓r273_95, ↓r273_98, ↓r273_101, ↓r273_104, ↓r273_105, ↓r273_106, ↓r273_108, ↓r273_111, ↓r273_113, ↓r273_114, ↓r273_117, ↓r273_119, ↓r273_120, ↓r273_120k, ↓r273_121, ↓r273_122, ↓r273_123, ↓r273_126, ↓r273_127, ↓r273_129, ↓r273_132, ↓r273_135, ↓r273_136, ↓r273_139, ↓r273_140, ↓r273_141, ↓r273_142, ↓r273_143, ↓r273_146, ↓r273_148, ↓r273_149, ↓r273_149k, ↓r273_150, ↓r273_151, ↓r273_152, ↓r273_155, ↓r273_156, ↓r273_158, ↓r273_161, ↓r273_164, ↓r273_165, ↓r273_168, ↓r273_169, ↓r273_170, ↓r273_171, ↓r273_174, ↓e1, ↓k_at (K := K) (N := N), ↓k_isTried (K := K) (N := N), ↓k_side (K := K) (N := N), ↓k_thing (K := K) (N := N), ↓k_isFound (K := K) (N := N), ↓m_factOf (K := K) (N := N), ↓m_isTried (K := K) (N := N), ↓m_took (K := K) (N := N), ↓m_waited (K := K) (N := N), ↓m_isLong (K := K) (N := N), ↓m_isShort (K := K) (N := N), ↓m_thingOf (K := K) (N := N), ↓m_isFound (K := K) (N := N), ↓m_many (K := K) (N := N), ↓c_within, ↓s_lies, hCK, b01, b11, hCK28, q_le, q_lt, q_eq, q_e0, q_e1, q_0e, q_1e, ps_n0, q_0le, q_le0, q_0lt, q_m1e, q_em1, h1, g1, g2, ha, hu, z1, z2, q1, q2, ns2_a, ns2_b, ns2_ua, ns2_ub, ns2_n, Int32.not_lt.mp c1, Int32.not_lt.mp c2, Int32.add_zero, if_true, Bool.false_eq_true, hn, hn2, ht, hF, am_wt, am_wf, Option.isSome_some, am_rf_s, am_rf_n, ps_lit, nI_add, nI_1, pk_mul, ps_cl, ps_neg, ps_c0, ps_c1, ps_n01, ps_n11, ps_10, ps_b01, ps_e0, pu_Ine, pu_Ieq, pu_ne, pu_eq, am_k_n, am_k_i, am_k_r, am_k_u, am_k_l, am_sz_0, am_sz_i, am_sz_r, am_sz_u, am_sz_l, Option.toList_some, Option.toList_none, List.cons_append, List.nil_append, true_and, and_true, or_false, false_or, or_self, or_true, true_or, not_false_eq_true, not_true_eq_false, Classical.not_not, ne_eq, ps_e1, ps_em, ps_z, Nat.not_le, false_implies, true_implies, forall_const, ps_01, ps_1n, ps_0n, ps_m10, ps_m1n, lg_cmp_gt, lg_cmp_ge, lg_cmp_le, lg_cmp_lt, lg_cmp_eq, pu_rne, pu_req, pu_uro, RFc_n, Nat.reduceAdd, Nat.reduceMul, Nat.reduceLT, Nat.reduceLeDiff, Nat.reduceEqDiff, Nat.reduceSub]
              exact ih _ _ _
        · have q3 : ¬ pS K (l.getD k 0) = true := fun q => q2 (pS_e.mp q).1
          rw [mi_n q3, mi_n q3] at ih
          simp only [↓r273_68, ↓r273_69, ↓r273_72, ↓r273_75, ↓r273_76, ↓r273_79, ↓r273_80, ↓r273_80k, ↓r273_81, ↓r273_83, ↓r273_84, ↓r273_86, ↓r273_89, ↓r273_92, ↓r273_93, ↓r273_95, ↓r273_98, ↓r273_101, ↓r273_171, ↓r273_174, ↓k_at (K := K) (N := N), ↓k_isTried (K := K) (N := N), ↓k_side (K := K) (N := N), ↓k_thing (K := K) (N := N), ↓k_isFound (K := K) (N := N), ↓m_factOf (K := K) (N := N), ↓m_isTried (K := K) (N := N), ↓m_took (K := K) (N := N), ↓m_waited (K := K) (N := N), ↓m_isLong (K := K) (N := N), ↓m_isShort (K := K) (N := N), ↓m_thingOf (K := K) (N := N), ↓m_isFound (K := K) (N := N), ↓m_many (K := K) (N := N), ↓c_within, ↓s_lies, hCK, b01, b11, hCK28, q_le, q_lt, q_eq, q_e0, q_e1, q_0e, q_1e, ps_n0, q_0le, q_le0, q_0lt, q_m1e, q_em1, h1, g1, g2, z1, z2, q1, q2, ns2_n, if_true, if_false, Bool.false_eq_true, hn, hn2, ht, hF, am_wt, am_wf, Option.isSome_some, am_rf_s, am_rf_n, ps_lit, nI_add, nI_1, pk_mul, ps_cl, ps_neg, ps_c0, ps_c1, ps_n01, ps_n11, ps_10, ps_b01, ps_e0, pu_Ine, pu_Ieq, pu_ne, pu_eq, am_k_n, am_k_i, am_k_r, am_k_u, am_k_l, am_sz_0, am_sz_i, am_sz_r, am_sz_u, am_sz_l, Option.toList_some, Option.toList_none, List.cons_append, List.nil_append, true_and, and_true, or_false, false_or, or_self, or_true, true_or, not_false_eq_true, not_true_eq_false, Classical.not_not, ne_eq, ps_e1, ps_em, ps_z, Nat.not_le, false_implies, true_implies, forall_const, ps_01, ps_1n, ps_0n, ps_m10, ps_m1n, lg_cmp_gt, lg_cmp_ge, lg_cmp_le, lg_cmp_lt, lg_cmp_eq, pu_rne, pu_req, pu_uro, RFc_n, Nat.reduceAdd, Nat.reduceMul, Nat.reduceLT, Nat.reduceLeDiff, Nat.reduceEqDiff, Nat.reduceSub]
          exact ih _ _ _
      · have q3 : ¬ pS K (l.getD k 0) = true := fun q => q1 (pS_e.mp q).2
        rw [mi_n q3, mi_n q3] at ih
        simp only [↓r273_68, ↓r273_69, ↓r273_72, ↓r273_75, ↓r273_76, ↓r273_79, ↓r273_80, ↓r273_80k, ↓r273_81, ↓r273_83, ↓r273_84, ↓r273_86, ↓r273_89, ↓r273_92, ↓r273_93, ↓r273_95, ↓r273_98, ↓r273_101, ↓r273_171, ↓r273_174, ↓k_at (K := K) (N := N), ↓k_isTried (K := K) (N := N), ↓k_side (K := K) (N := N), ↓k_thing (K := K) (N := N), ↓k_isFound (K := K) (N := N), ↓m_factOf (K := K) (N := N), ↓m_isTried (K := K) (N := N), ↓m_took (K := K) (N := N), ↓m_waited (K := K) (N := N), ↓m_isLong (K := K) (N := N), ↓m_isShort (K := K) (N := N), ↓m_thingOf (K := K) (N := N), ↓m_isFound (K := K) (N := N), ↓m_many (K := K) (N := N), ↓c_within, ↓s_lies, hCK, b01, b11, hCK28, q_le, q_lt, q_eq, q_e0, q_e1, q_0e, q_1e, ps_n0, q_0le, q_le0, q_0lt, q_m1e, q_em1, h1, g1, g2, z1, z2, q1, ns2_n, if_true, if_false, Bool.false_eq_true, hn, hn2, ht, hF, am_wt, am_wf, Option.isSome_some, am_rf_s, am_rf_n, ps_lit, nI_add, nI_1, pk_mul, ps_cl, ps_neg, ps_c0, ps_c1, ps_n01, ps_n11, ps_10, ps_b01, ps_e0, pu_Ine, pu_Ieq, pu_ne, pu_eq, am_k_n, am_k_i, am_k_r, am_k_u, am_k_l, am_sz_0, am_sz_i, am_sz_r, am_sz_u, am_sz_l, Option.toList_some, Option.toList_none, List.cons_append, List.nil_append, true_and, and_true, or_false, false_or, or_self, or_true, true_or, not_false_eq_true, not_true_eq_false, Classical.not_not, ne_eq, ps_e1, ps_em, ps_z, Nat.not_le, false_implies, true_implies, forall_const, ps_01, ps_1n, ps_0n, ps_m10, ps_m1n, lg_cmp_gt, lg_cmp_ge, lg_cmp_le, lg_cmp_lt, lg_cmp_eq, pu_rne, pu_req, pu_uro, RFc_n, Nat.reduceAdd, Nat.reduceMul, Nat.reduceLT, Nat.reduceLeDiff, Nat.reduceEqDiff, Nat.reduceSub]
        exact ih _ _ _
    · intro l4 l5 l6
      rw [r273_67]
      simp only [↓r273_68, ↓r273_69, ↓r273_72, h1, ns2_n, Int32.le_refl, Bool.false_eq_true, hn, hn2, ht, hF, am_wt, am_wf, Option.isSome_some, am_rf_s, am_rf_n, ps_lit, nI_add, nI_1, pk_mul, ps_cl, ps_neg, ps_c0, ps_c1, ps_n01, ps_n11, ps_10, ps_b01, ps_e0, pu_Ine, pu_Ieq, pu_ne, pu_eq, am_k_n, am_k_i, am_k_r, am_k_u, am_k_l, am_sz_0, am_sz_i, am_sz_r, am_sz_u, am_sz_l, Option.toList_some, Option.toList_none, List.cons_append, List.nil_append, true_and, and_true, or_false, false_or, or_self, or_true, true_or, not_false_eq_true, not_true_eq_false, Classical.not_not, ne_eq, ps_e1, ps_em, ps_z, Nat.not_le, false_implies, true_implies, forall_const, ps_01, ps_1n, ps_0n, ps_m10, ps_m1n, lg_cmp_gt, lg_cmp_ge, lg_cmp_le, lg_cmp_lt, lg_cmp_eq, pu_rne, pu_req, pu_uro, RFc_n, Nat.reduceAdd, Nat.reduceMul, Nat.reduceLT, Nat.reduceLeDiff, Nat.reduceEqDiff, Nat.reduceSub]
      exact hR2 _ _ _ _
  have hout : ∀ l2 l3 l4 l5 l6 : Option Value, am_W X (d + 3) 273 31 [some (.ref 47), some (.int 0), l2, l3, l4, l5, l6] [] (n, sl, t, ns2 64 65 I (mo K (gWn (fTh K)) l 0) (mo K (gLn (fTh K)) l 0), J, F) Q ↔ R := by
    refine lp0 (A := fun i => ∀ l2 l3 l4 l5 l6 : Option Value, am_W X (d + 3) 273 31 [some (.ref 47), some (.int (nI i)), l2, l3, l4, l5, l6] [] (n, sl, t, ns2 64 65 I (mo K (gWn (fTh K)) l i) (mo K (gLn (fTh K)) l i), J, F) Q ↔ R) (N := l.length) ?_ ?_
    · intro i hi ih l2 l3 l4 l5 l6
      obtain ⟨g1, g2⟩ := h3 i hi
      have z1 : i < 2000000 ∧ l.length < 2000000 ∧ i < 120 := by omega
      have z2 : ¬ l.length ≤ i := by omega
      have hCK28 : ∀ v w, CK n t F (ns2 64 65 I v w 1 4) (ns2 64 65 I v w 2) (ns2 64 65 I v w 3) (ns2 64 65 I v w 49) K N := fun v w => hCK
      rw [r273_31]
      by_cases q1 : fLo K (l.getD i 0) = true
      · by_cases q2 : fFo K (l.getD i 0) = true
        · have q3 : pL K (l.getD i 0) = true := pL_e.mpr ⟨q2, q1⟩
          have := hin i (l.getD i 0) g2 (fun l3 l4 l5 l6 => by
            rw [mi_e q3, mi_e q3]
            simp only [↓r273_177, ↓r273_180, Bool.false_eq_true, hn, hn2, ht, hF, am_wt, am_wf, Option.isSome_some, am_rf_s, am_rf_n, ps_lit, nI_add, nI_1, pk_mul, ps_cl, ps_neg, ps_c0, ps_c1, ps_n01, ps_n11, ps_10, ps_b01, ps_e0, pu_Ine, pu_Ieq, pu_ne, pu_eq, am_k_n, am_k_i, am_k_r, am_k_u, am_k_l, am_sz_0, am_sz_i, am_sz_r, am_sz_u, am_sz_l, Option.toList_some, Option.toList_none, List.cons_append, List.nil_append, true_and, and_true, or_false, false_or, or_self, or_true, true_or, not_false_eq_true, not_true_eq_false, Classical.not_not, ne_eq, ps_e1, ps_em, ps_z, Nat.not_le, false_implies, true_implies, forall_const, ps_01, ps_1n, ps_0n, ps_m10, ps_m1n, lg_cmp_gt, lg_cmp_ge, lg_cmp_le, lg_cmp_lt, lg_cmp_eq, pu_rne, pu_req, pu_uro, RFc_n, Nat.reduceAdd, Nat.reduceMul, Nat.reduceLT, Nat.reduceLeDiff, Nat.reduceEqDiff, Nat.reduceSub]
            exact ih _ _ _ _ _) l4 l5 l6
          rw [mi_0, mi_0] at this
          simp only [↓r273_32, ↓r273_33, ↓r273_36, ↓r273_39, ↓r273_40, ↓r273_43, ↓r273_44, ↓r273_44k, ↓r273_45, ↓r273_46, ↓r273_47, ↓r273_48, ↓r273_51, ↓r273_54, ↓r273_55, ↓r273_56, ↓r273_59, ↓r273_62, ↓r273_65, ↓r273_66, ↓k_at (K := K) (N := N), ↓k_isTried (K := K) (N := N), ↓k_side (K := K) (N := N), ↓k_thing (K := K) (N := N), ↓k_isFound (K := K) (N := N), ↓m_factOf (K := K) (N := N), ↓m_isTried (K := K) (N := N), ↓m_took (K := K) (N := N), ↓m_waited (K := K) (N := N), ↓m_isLong (K := K) (N := N), ↓m_isShort (K := K) (N := N), ↓m_thingOf (K := K) (N := N), ↓m_isFound (K := K) (N := N), ↓m_many (K := K) (N := N), ↓c_within, ↓s_lies, hCK, b01, b11, hCK28, q_le, q_lt, q_eq, q_e0, q_e1, q_0e, q_1e, ps_n0, q_0le, q_le0, q_0lt, q_m1e, q_em1, h1, g1, g2, z1, z2, q1, q2, ns2_n, if_true, Bool.false_eq_true, hn, hn2, ht, hF, am_wt, am_wf, Option.isSome_some, am_rf_s, am_rf_n, ps_lit, nI_add, nI_1, pk_mul, ps_cl, ps_neg, ps_c0, ps_c1, ps_n01, ps_n11, ps_10, ps_b01, ps_e0, pu_Ine, pu_Ieq, pu_ne, pu_eq, am_k_n, am_k_i, am_k_r, am_k_u, am_k_l, am_sz_0, am_sz_i, am_sz_r, am_sz_u, am_sz_l, Option.toList_some, Option.toList_none, List.cons_append, List.nil_append, true_and, and_true, or_false, false_or, or_self, or_true, true_or, not_false_eq_true, not_true_eq_false, Classical.not_not, ne_eq, ps_e1, ps_em, ps_z, Nat.not_le, false_implies, true_implies, forall_const, ps_01, ps_1n, ps_0n, ps_m10, ps_m1n, lg_cmp_gt, lg_cmp_ge, lg_cmp_le, lg_cmp_lt, lg_cmp_eq, pu_rne, pu_req, pu_uro, RFc_n, Nat.reduceAdd, Nat.reduceMul, Nat.reduceLT, Nat.reduceLeDiff, Nat.reduceEqDiff, Nat.reduceSub]
          exact this
        · have q3 : ¬ pL K (l.getD i 0) = true := fun q => q2 (pL_e.mp q).1
          rw [mo_n q3, mo_n q3] at ih
          simp only [↓r273_32, ↓r273_33, ↓r273_36, ↓r273_39, ↓r273_40, ↓r273_43, ↓r273_44, ↓r273_44k, ↓r273_45, ↓r273_46, ↓r273_47, ↓r273_48, ↓r273_51, ↓r273_54, ↓r273_55, ↓r273_56, ↓r273_59, ↓r273_62, ↓r273_177, ↓r273_180, ↓k_at (K := K) (N := N), ↓k_isTried (K := K) (N := N), ↓k_side (K := K) (N := N), ↓k_thing (K := K) (N := N), ↓k_isFound (K := K) (N := N), ↓m_factOf (K := K) (N := N), ↓m_isTried (K := K) (N := N), ↓m_took (K := K) (N := N), ↓m_waited (K := K) (N := N), ↓m_isLong (K := K) (N := N), ↓m_isShort (K := K) (N := N), ↓m_thingOf (K := K) (N := N), ↓m_isFound (K := K) (N := N), ↓m_many (K := K) (N := N), ↓c_within, ↓s_lies, hCK, b01, b11, hCK28, q_le, q_lt, q_eq, q_e0, q_e1, q_0e, q_1e, ps_n0, q_0le, q_le0, q_0lt, q_m1e, q_em1, h1, g1, g2, z1, z2, q1, q2, ns2_n, if_true, if_false, Bool.false_eq_true, hn, hn2, ht, hF, am_wt, am_wf, Option.isSome_some, am_rf_s, am_rf_n, ps_lit, nI_add, nI_1, pk_mul, ps_cl, ps_neg, ps_c0, ps_c1, ps_n01, ps_n11, ps_10, ps_b01, ps_e0, pu_Ine, pu_Ieq, pu_ne, pu_eq, am_k_n, am_k_i, am_k_r, am_k_u, am_k_l, am_sz_0, am_sz_i, am_sz_r, am_sz_u, am_sz_l, Option.toList_some, Option.toList_none, List.cons_append, List.nil_append, true_and, and_true, or_false, false_or, or_self, or_true, true_or, not_false_eq_true, not_true_eq_false, Classical.not_not, ne_eq, ps_e1, ps_em, ps_z, Nat.not_le, false_implies, true_implies, forall_const, ps_01, ps_1n, ps_0n, ps_m10, ps_m1n, lg_cmp_gt, lg_cmp_ge, lg_cmp_le, lg_cmp_lt, lg_cmp_eq, pu_rne, pu_req, pu_uro, RFc_n, Nat.reduceAdd, Nat.reduceMul, Nat.reduceLT, Nat.reduceLeDiff, Nat.reduceEqDiff, Nat.reduceSub]
          exact ih _ _ _ _ _
      · have q3 : ¬ pL K (l.getD i 0) = true := fun q => q1 (pL_e.mp q).2
        rw [mo_n q3, mo_n q3] at ih
        simp only [↓r273_32, ↓r273_33, ↓r273_36, ↓r273_39, ↓r273_40, ↓r273_43, ↓r273_44, ↓r273_44k, ↓r273_45, ↓r273_46, ↓r273_47, ↓r273_48, ↓r273_51, ↓r273_54, ↓r273_55, ↓r273_56, ↓r273_59, ↓r273_62, ↓r273_177, ↓r273_180, ↓k_at (K := K) (N := N), ↓k_isTried (K := K) (N := N), ↓k_side (K := K) (N := N), ↓k_thing (K := K) (N := N), ↓k_isFound (K := K) (N := N), ↓m_factOf (K := K) (N := N), ↓m_isTried (K := K) (N := N), ↓m_took (K := K) (N := N), ↓m_waited (K := K) (N := N), ↓m_isLong (K := K) (N := N), ↓m_isShort (K := K) (N := N), ↓m_thingOf (K := K) (N := N), ↓m_isFound (K := K) (N := N), ↓m_many (K := K) (N := N), ↓c_within, ↓s_lies, hCK, b01, b11, hCK28, q_le, q_lt, q_eq, q_e0, q_e1, q_0e, q_1e, ps_n0, q_0le, q_le0, q_0lt, q_m1e, q_em1, h1, g1, g2, z1, z2, q1, ns2_n, if_true, if_false, Bool.false_eq_true, hn, hn2, ht, hF, am_wt, am_wf, Option.isSome_some, am_rf_s, am_rf_n, ps_lit, nI_add, nI_1, pk_mul, ps_cl, ps_neg, ps_c0, ps_c1, ps_n01, ps_n11, ps_10, ps_b01, ps_e0, pu_Ine, pu_Ieq, pu_ne, pu_eq, am_k_n, am_k_i, am_k_r, am_k_u, am_k_l, am_sz_0, am_sz_i, am_sz_r, am_sz_u, am_sz_l, Option.toList_some, Option.toList_none, List.cons_append, List.nil_append, true_and, and_true, or_false, false_or, or_self, or_true, true_or, not_false_eq_true, not_true_eq_false, Classical.not_not, ne_eq, ps_e1, ps_em, ps_z, Nat.not_le, false_implies, true_implies, forall_const, ps_01, ps_1n, ps_0n, ps_m10, ps_m1n, lg_cmp_gt, lg_cmp_ge, lg_cmp_le, lg_cmp_lt, lg_cmp_eq, pu_rne, pu_req, pu_uro, RFc_n, Nat.reduceAdd, Nat.reduceMul, Nat.reduceLT, Nat.reduceLeDiff, Nat.reduceEqDiff, Nat.reduceSub]
        exact ih _ _ _ _ _
    · intro l2 l3 l4 l5 l6
      rw [r273_31]
      simp only [↓r273_32, ↓r273_33, ↓r273_36, h1, ns2_n, Int32.le_refl, Bool.false_eq_true, hn, hn2, ht, hF, am_wt, am_wf, Option.isSome_some, am_rf_s, am_rf_n, ps_lit, nI_add, nI_1, pk_mul, ps_cl, ps_neg, ps_c0, ps_c1, ps_n01, ps_n11, ps_10, ps_b01, ps_e0, pu_Ine, pu_Ieq, pu_ne, pu_eq, am_k_n, am_k_i, am_k_r, am_k_u, am_k_l, am_sz_0, am_sz_i, am_sz_r, am_sz_u, am_sz_l, Option.toList_some, Option.toList_none, List.cons_append, List.nil_append, true_and, and_true, or_false, false_or, or_self, or_true, true_or, not_false_eq_true, not_true_eq_false, Classical.not_not, ne_eq, ps_e1, ps_em, ps_z, Nat.not_le, false_implies, true_implies, forall_const, ps_01, ps_1n, ps_0n, ps_m10, ps_m1n, lg_cmp_gt, lg_cmp_ge, lg_cmp_le, lg_cmp_lt, lg_cmp_eq, pu_rne, pu_req, pu_uro, RFc_n, Nat.reduceAdd, Nat.reduceMul, Nat.reduceLT, Nat.reduceLeDiff, Nat.reduceEqDiff, Nat.reduceSub]
      exact hR _ _ _ _ _ _
  have hz : am_W X (d + 3) 273 2 [some (.ref 47), some (.int 0), none, none, none, none, none] [] (n, sl, t, am_ro (am_ro I 64 (fun k => if k < 0 then 0 else I 64 k)) 65 (fun k => if k < 0 then 0 else I 65 k), J, F) Q ↔ R := by
    refine lp0 (A := fun i => am_W X (d + 3) 273 2 [some (.ref 47), some (.int (nI i)), none, none, none, none, none] [] (n, sl, t, am_ro (am_ro I 64 (fun k => if k < i then 0 else I 64 k)) 65 (fun k => if k < i then 0 else I 65 k), J, F) Q ↔ R) (N := 256) ?_ ?_
    · intro i hi ih
      have z1 : i < 2000000 ∧ i < 256 := by omega
      have z2 : ¬ 256 ≤ i := by omega
      have e1 : ∀ g : Nat → Int32, upd (fun k => if k < i then 0 else g k) i 0 = fun k => if k < i + 1 then 0 else g k := by
        intro g
        funext k
        unfold upd
        by_cases h : k = i
        · rw [if_pos h, if_pos (by omega)]
        · rw [if_neg h]
          show (if k < i then 0 else g k) = if k < i + 1 then 0 else g k
          by_cases h2 : k < i
          · rw [if_pos h2, if_pos (by omega)]
          · rw [if_neg h2, if_neg (by omega)]
      have e2 : ∀ f g h : Nat → Int32, am_ro (am_ro (am_ro I 64 f) 65 g) 64 h = am_ro (am_ro I 64 h) 65 g := by
        intro f g h
        rw [pu_rol (by decide), pu_ror]
      rw [← e1, ← e1] at ih
      rw [r273_2]
      simp only [↓r273_3, ↓r273_6, ↓r273_9, ↓r273_10, ↓r273_13, ↓r273_14, ↓r273_15, ↓r273_16, ↓r273_17, ↓r273_20, ↓r273_21, ↓r273_22, ↓r273_23, ↓r273_26, q_le, q_lt, q_eq, q_e0, q_e1, q_0e, q_1e, ps_n0, q_0le, q_le0, q_0lt, q_m1e, q_em1, z1, z2, pu_uI, pu_ror, e2, Bool.false_eq_true, hn, hn2, ht, hF, am_wt, am_wf, Option.isSome_some, am_rf_s, am_rf_n, ps_lit, nI_add, nI_1, pk_mul, ps_cl, ps_neg, ps_c0, ps_c1, ps_n01, ps_n11, ps_10, ps_b01, ps_e0, pu_Ine, pu_Ieq, pu_ne, pu_eq, am_k_n, am_k_i, am_k_r, am_k_u, am_k_l, am_sz_0, am_sz_i, am_sz_r, am_sz_u, am_sz_l, Option.toList_some, Option.toList_none, List.cons_append, List.nil_append, true_and, and_true, or_false, false_or, or_self, or_true, true_or, not_false_eq_true, not_true_eq_false, Classical.not_not, ne_eq, ps_e1, ps_em, ps_z, Nat.not_le, false_implies, true_implies, forall_const, ps_01, ps_1n, ps_0n, ps_m10, ps_m1n, lg_cmp_gt, lg_cmp_ge, lg_cmp_le, lg_cmp_lt, lg_cmp_eq, pu_rne, pu_req, pu_uro, RFc_n, Nat.reduceAdd, Nat.reduceMul, Nat.reduceLT, Nat.reduceLeDiff, Nat.reduceEqDiff, Nat.reduceSub]
      exact ih
    · rw [r273_2]
      simp only [↓r273_3, ↓r273_6, ↓r273_29, ↓r273_30, q_le, q_lt, q_eq, q_e0, q_e1, q_0e, q_1e, ps_n0, q_0le, q_le0, q_0lt, q_m1e, q_em1, Bool.false_eq_true, hn, hn2, ht, hF, am_wt, am_wf, Option.isSome_some, am_rf_s, am_rf_n, ps_lit, nI_add, nI_1, pk_mul, ps_cl, ps_neg, ps_c0, ps_c1, ps_n01, ps_n11, ps_10, ps_b01, ps_e0, pu_Ine, pu_Ieq, pu_ne, pu_eq, am_k_n, am_k_i, am_k_r, am_k_u, am_k_l, am_sz_0, am_sz_i, am_sz_r, am_sz_u, am_sz_l, Option.toList_some, Option.toList_none, List.cons_append, List.nil_append, true_and, and_true, or_false, false_or, or_self, or_true, true_or, not_false_eq_true, not_true_eq_false, Classical.not_not, ne_eq, ps_e1, ps_em, ps_z, Nat.not_le, false_implies, true_implies, forall_const, ps_01, ps_1n, ps_0n, ps_m10, ps_m1n, lg_cmp_gt, lg_cmp_ge, lg_cmp_le, lg_cmp_lt, lg_cmp_eq, pu_rne, pu_req, pu_uro, RFc_n, Nat.reduceAdd, Nat.reduceMul, Nat.reduceLT, Nat.reduceLeDiff, Nat.reduceEqDiff, Nat.reduceSub]
      have := hout none none none none none
      exact this
  rw [← hz]
  have e0 : am_ro (am_ro I 64 (fun k => if k < 0 then 0 else I 64 k)) 65 (fun k => if k < 0 then 0 else I 65 k) = I := by
    have : (fun k => if k < 0 then 0 else I 64 k) = I 64 := by funext k; simp
    have h2 : (fun k => if k < 0 then 0 else I 65 k) = I 65 := by funext k; simp
    rw [this, h2, pu_roI, pu_roI]
  rw [e0]
  simp only [↓r273_0, ↓r273_1, Bool.false_eq_true, hn, hn2, ht, hF, am_wt, am_wf, Option.isSome_some, am_rf_s, am_rf_n, ps_lit, nI_add, nI_1, pk_mul, ps_cl, ps_neg, ps_c0, ps_c1, ps_n01, ps_n11, ps_10, ps_b01, ps_e0, pu_Ine, pu_Ieq, pu_ne, pu_eq, am_k_n, am_k_i, am_k_r, am_k_u, am_k_l, am_sz_0, am_sz_i, am_sz_r, am_sz_u, am_sz_l, Option.toList_some, Option.toList_none, List.cons_append, List.nil_append, true_and, and_true, or_false, false_or, or_self, or_true, true_or, not_false_eq_true, not_true_eq_false, Classical.not_not, ne_eq, ps_e1, ps_em, ps_z, Nat.not_le, false_implies, true_implies, forall_const, ps_01, ps_1n, ps_0n, ps_m10, ps_m1n, lg_cmp_gt, lg_cmp_ge, lg_cmp_le, lg_cmp_lt, lg_cmp_eq, pu_rne, pu_req, pu_uro, RFc_n, Nat.reduceAdd, Nat.reduceMul, Nat.reduceLT, Nat.reduceLeDiff, Nat.reduceEqDiff, Nat.reduceSub]
theorem m_sel {v w : Nat → Nat} {a b : Nat → Nat} (hW : WS n t F) (ha : ∀ s, s < 256 → sm (fun f => if decide (f &&& s = 0) = true then a f else 0) 256 = v s) (hb : ∀ s, s < 256 → sm (fun f => if decide (f &&& s = 0) = true then b f else 0) 256 = w s) (h : ∀ s, v s < 14400 ∧ w s < 14400) : ∀ l4 l5 l6 : Option Value, am_W X (d + 3) 273 189 [some (.ref 47), some (.int (-1)), some (.int 0), some (.int 0), l4, l5, l6] [] (n, sl, t, ns2 64 65 I (fun f => nI (a f)) (fun f => nI (b f)), J, F) Q ↔ Q (some (.int (chv (bsel v w 256)))) (n, sl, t, ns2 64 65 I (fun f => nI (a f)) (fun f => nI (b f)), J, F) := by
  obtain ⟨hn, hn2, ht, hF⟩ := id hW
  refine lp0 (A := fun s => ∀ l4 l5 l6 : Option Value, am_W X (d + 3) 273 189 [some (.ref 47), some (.int (chv (bsel v w s))), some (.int (lrv (bsel v w s))), some (.int (nI s)), l4, l5, l6] [] (n, sl, t, ns2 64 65 I (fun f => nI (a f)) (fun f => nI (b f)), J, F) Q ↔ Q (some (.int (chv (bsel v w 256)))) (n, sl, t, ns2 64 65 I (fun f => nI (a f)) (fun f => nI (b f)), J, F)) (N := 256) ?_ ?_
  · intro s hs ih l4 l5 l6
    have hbb := bsel_b h s
    have hws := h s
    have y1 : s < 2000000 ∧ s < 256 ∧ v s + w s < 2000000 ∧ v s < 2000000 ∧ w s < 2000000 := by omega
    have y2 : ¬ 256 ≤ s := by omega
    have hf : farN (v s) (w s) < 14400 := by
      unfold farN
      split <;> omega
    have hf2 : farN (v s) (w s) < 2000000 := by omega
    have hx : ∀ x y : Int32, am_W X (d + 3) 273 253 [some (.ref 47), some (.int x), some (.int y), some (.int (nI s)), some (.int (nI (v s))), some (.int (nI (w s))), some (.int (nI 256))] [] (n, sl, t, ns2 64 65 I (fun f => nI (a f)) (fun f => nI (b f)), J, F) Q ↔ am_W X (d + 3) 273 275 [some (.ref 47), some (.int x), some (.int y), some (.int (nI s)), some (.int (nI (v s))), some (.int (nI (w s))), some (.int (nI (farN (v s) (w s))))] [] (n, sl, t, ns2 64 65 I (fun f => nI (a f)) (fun f => nI (b f)), J, F) Q := by
      intro x y
      unfold farN
      by_cases c : w s < v s
      · have c2 : ¬ v s ≤ w s := by omega
        rw [if_pos c]
        simp only [↓r273_253, ↓r273_255, ↓r273_257, ↓r273_260, ↓r273_262, ↓r273_264, ↓r273_265, ↓r273_268, ↓r273_270, ↓r273_272, ↓r273_273, q_le, q_lt, q_eq, q_e0, q_e1, q_0e, q_1e, ps_n0, q_0le, q_le0, q_0lt, q_m1e, q_em1, y1, c2, nI_sub (show w s ≤ v s by omega), Bool.false_eq_true, hn, hn2, ht, hF, am_wt, am_wf, Option.isSome_some, am_rf_s, am_rf_n, ps_lit, nI_add, nI_1, pk_mul, ps_cl, ps_neg, ps_c0, ps_c1, ps_n01, ps_n11, ps_10, ps_b01, ps_e0, pu_Ine, pu_Ieq, pu_ne, pu_eq, am_k_n, am_k_i, am_k_r, am_k_u, am_k_l, am_sz_0, am_sz_i, am_sz_r, am_sz_u, am_sz_l, Option.toList_some, Option.toList_none, List.cons_append, List.nil_append, true_and, and_true, or_false, false_or, or_self, or_true, true_or, not_false_eq_true, not_true_eq_false, Classical.not_not, ne_eq, ps_e1, ps_em, ps_z, Nat.not_le, false_implies, true_implies, forall_const, ps_01, ps_1n, ps_0n, ps_m10, ps_m1n, lg_cmp_gt, lg_cmp_ge, lg_cmp_le, lg_cmp_lt, lg_cmp_eq, pu_rne, pu_req, pu_uro, RFc_n, Nat.reduceAdd, Nat.reduceMul, Nat.reduceLT, Nat.reduceLeDiff, Nat.reduceEqDiff, Nat.reduceSub]
      · have c2 : v s ≤ w s := by omega
        rw [if_neg c]
        simp only [↓r273_253, ↓r273_255, ↓r273_257, ↓r273_260, ↓r273_262, ↓r273_264, ↓r273_265, ↓r273_268, ↓r273_270, ↓r273_272, ↓r273_273, q_le, q_lt, q_eq, q_e0, q_e1, q_0e, q_1e, ps_n0, q_0le, q_le0, q_0lt, q_m1e, q_em1, y1, c2, nI_sub c2, Bool.false_eq_true, hn, hn2, ht, hF, am_wt, am_wf, Option.isSome_some, am_rf_s, am_rf_n, ps_lit, nI_add, nI_1, pk_mul, ps_cl, ps_neg, ps_c0, ps_c1, ps_n01, ps_n11, ps_10, ps_b01, ps_e0, pu_Ine, pu_Ieq, pu_ne, pu_eq, am_k_n, am_k_i, am_k_r, am_k_u, am_k_l, am_sz_0, am_sz_i, am_sz_r, am_sz_u, am_sz_l, Option.toList_some, Option.toList_none, List.cons_append, List.nil_append, true_and, and_true, or_false, false_or, or_self, or_true, true_or, not_false_eq_true, not_true_eq_false, Classical.not_not, ne_eq, ps_e1, ps_em, ps_z, Nat.not_le, false_implies, true_implies, forall_const, ps_01, ps_1n, ps_0n, ps_m10, ps_m1n, lg_cmp_gt, lg_cmp_ge, lg_cmp_le, lg_cmp_lt, lg_cmp_eq, pu_rne, pu_req, pu_uro, RFc_n, Nat.reduceAdd, Nat.reduceMul, Nat.reduceLT, Nat.reduceLeDiff, Nat.reduceEqDiff, Nat.reduceSub]
    have hsum : ∀ x y : Int32, am_W X (d + 3) 273 205 [some (.ref 47), some (.int x), some (.int y), some (.int (nI s)), some (.int 0), some (.int 0), some (.int 0)] [] (n, sl, t, ns2 64 65 I (fun f => nI (a f)) (fun f => nI (b f)), J, F) Q ↔ am_W X (d + 3) 273 253 [some (.ref 47), some (.int x), some (.int y), some (.int (nI s)), some (.int (nI (v s))), some (.int (nI (w s))), some (.int (nI 256))] [] (n, sl, t, ns2 64 65 I (fun f => nI (a f)) (fun f => nI (b f)), J, F) Q := by
      intro x y
      refine lp0 (A := fun f => am_W X (d + 3) 273 205 [some (.ref 47), some (.int x), some (.int y), some (.int (nI s)), some (.int (nI (sm (fun f => if decide (f &&& s = 0) = true then a f else 0) f))), some (.int (nI (sm (fun f => if decide (f &&& s = 0) = true then b f else 0) f))), some (.int (nI f))] [] (n, sl, t, ns2 64 65 I (fun f => nI (a f)) (fun f => nI (b f)), J, F) Q ↔ am_W X (d + 3) 273 253 [some (.ref 47), some (.int x), some (.int y), some (.int (nI s)), some (.int (nI (v s))), some (.int (nI (w s))), some (.int (nI 256))] [] (n, sl, t, ns2 64 65 I (fun f => nI (a f)) (fun f => nI (b f)), J, F) Q) (N := 256) ?_ ?_
      · intro f hf ih2
        have hle : f &&& s ≤ f := Nat.and_le_left
        have x1 : f < 2000000 ∧ f < 256 ∧ f &&& s < 2000000 := by omega
        have x2 : ¬ 256 ≤ f := by omega
        rw [sm, sm] at ih2
        rw [r273_205]
        by_cases c : f &&& s = 0
        · have c2 : decide (f &&& s = 0) = true := decide_eq_true c
          simp only [c2, if_true] at ih2
          simp only [↓r273_207, ↓r273_210, ↓r273_213, ↓r273_215, ↓r273_216, ↓r273_217, ↓r273_220, ↓r273_223, ↓r273_225, ↓r273_226, ↓r273_229, ↓r273_231, ↓r273_231k, ↓r273_232, ↓r273_233, ↓r273_235, ↓r273_237, ↓r273_238, ↓r273_241, ↓r273_243, ↓r273_243k, ↓r273_244, ↓r273_245, ↓r273_247, ↓r273_250, q_le, q_lt, q_eq, q_e0, q_e1, q_0e, q_1e, ps_n0, q_0le, q_le0, q_0lt, q_m1e, q_em1, nI_and, c, x1, x2, y1, ns2_a, ns2_b, Bool.false_eq_true, hn, hn2, ht, hF, am_wt, am_wf, Option.isSome_some, am_rf_s, am_rf_n, ps_lit, nI_add, nI_1, pk_mul, ps_cl, ps_neg, ps_c0, ps_c1, ps_n01, ps_n11, ps_10, ps_b01, ps_e0, pu_Ine, pu_Ieq, pu_ne, pu_eq, am_k_n, am_k_i, am_k_r, am_k_u, am_k_l, am_sz_0, am_sz_i, am_sz_r, am_sz_u, am_sz_l, Option.toList_some, Option.toList_none, List.cons_append, List.nil_append, true_and, and_true, or_false, false_or, or_self, or_true, true_or, not_false_eq_true, not_true_eq_false, Classical.not_not, ne_eq, ps_e1, ps_em, ps_z, Nat.not_le, false_implies, true_implies, forall_const, ps_01, ps_1n, ps_0n, ps_m10, ps_m1n, lg_cmp_gt, lg_cmp_ge, lg_cmp_le, lg_cmp_lt, lg_cmp_eq, pu_rne, pu_req, pu_uro, RFc_n, Nat.reduceAdd, Nat.reduceMul, Nat.reduceLT, Nat.reduceLeDiff, Nat.reduceEqDiff, Nat.reduceSub]
          exact ih2
        · have c2 : decide (f &&& s = 0) = false := decide_eq_false c
          simp only [c2, if_false, Nat.add_zero, Bool.false_eq_true, hn, hn2, ht, hF, am_wt, am_wf, Option.isSome_some, am_rf_s, am_rf_n, ps_lit, nI_add, nI_1, pk_mul, ps_cl, ps_neg, ps_c0, ps_c1, ps_n01, ps_n11, ps_10, ps_b01, ps_e0, pu_Ine, pu_Ieq, pu_ne, pu_eq, am_k_n, am_k_i, am_k_r, am_k_u, am_k_l, am_sz_0, am_sz_i, am_sz_r, am_sz_u, am_sz_l, Option.toList_some, Option.toList_none, List.cons_append, List.nil_append, true_and, and_true, or_false, false_or, or_self, or_true, true_or, not_false_eq_true, not_true_eq_false, Classical.not_not, ne_eq, ps_e1, ps_em, ps_z, Nat.not_le, false_implies, true_implies, forall_const, ps_01, ps_1n, ps_0n, ps_m10, ps_m1n, lg_cmp_gt, lg_cmp_ge, lg_cmp_le, lg_cmp_lt, lg_cmp_eq, pu_rne, pu_req, pu_uro, RFc_n, Nat.reduceAdd, Nat.reduceMul, Nat.reduceLT, Nat.reduceLeDiff, Nat.reduceEqDiff, Nat.reduceSub] at ih2
          simp only [↓r273_207, ↓r273_210, ↓r273_213, ↓r273_215, ↓r273_216, ↓r273_217, ↓r273_220, ↓r273_223, ↓r273_225, ↓r273_226, ↓r273_229, ↓r273_231, ↓r273_231k, ↓r273_232, ↓r273_233, ↓r273_235, ↓r273_237, ↓r273_238, ↓r273_241, ↓r273_243, ↓r273_243k, ↓r273_244, ↓r273_245, ↓r273_247, ↓r273_250, q_le, q_lt, q_eq, q_e0, q_e1, q_0e, q_1e, ps_n0, q_0le, q_le0, q_0lt, q_m1e, q_em1, nI_and, c, x1, x2, y1, Bool.false_eq_true, hn, hn2, ht, hF, am_wt, am_wf, Option.isSome_some, am_rf_s, am_rf_n, ps_lit, nI_add, nI_1, pk_mul, ps_cl, ps_neg, ps_c0, ps_c1, ps_n01, ps_n11, ps_10, ps_b01, ps_e0, pu_Ine, pu_Ieq, pu_ne, pu_eq, am_k_n, am_k_i, am_k_r, am_k_u, am_k_l, am_sz_0, am_sz_i, am_sz_r, am_sz_u, am_sz_l, Option.toList_some, Option.toList_none, List.cons_append, List.nil_append, true_and, and_true, or_false, false_or, or_self, or_true, true_or, not_false_eq_true, not_true_eq_false, Classical.not_not, ne_eq, ps_e1, ps_em, ps_z, Nat.not_le, false_implies, true_implies, forall_const, ps_01, ps_1n, ps_0n, ps_m10, ps_m1n, lg_cmp_gt, lg_cmp_ge, lg_cmp_le, lg_cmp_lt, lg_cmp_eq, pu_rne, pu_req, pu_uro, RFc_n, Nat.reduceAdd, Nat.reduceMul, Nat.reduceLT, Nat.reduceLeDiff, Nat.reduceEqDiff, Nat.reduceSub]
          exact ih2
      · rw [r273_205, ha s hs, hb s hs]
        simp only [↓r273_207, ↓r273_210, q_le, q_lt, q_eq, q_e0, q_e1, q_0e, q_1e, ps_n0, q_0le, q_le0, q_0lt, q_m1e, q_em1, Bool.false_eq_true, hn, hn2, ht, hF, am_wt, am_wf, Option.isSome_some, am_rf_s, am_rf_n, ps_lit, nI_add, nI_1, pk_mul, ps_cl, ps_neg, ps_c0, ps_c1, ps_n01, ps_n11, ps_10, ps_b01, ps_e0, pu_Ine, pu_Ieq, pu_ne, pu_eq, am_k_n, am_k_i, am_k_r, am_k_u, am_k_l, am_sz_0, am_sz_i, am_sz_r, am_sz_u, am_sz_l, Option.toList_some, Option.toList_none, List.cons_append, List.nil_append, true_and, and_true, or_false, false_or, or_self, or_true, true_or, not_false_eq_true, not_true_eq_false, Classical.not_not, ne_eq, ps_e1, ps_em, ps_z, Nat.not_le, false_implies, true_implies, forall_const, ps_01, ps_1n, ps_0n, ps_m10, ps_m1n, lg_cmp_gt, lg_cmp_ge, lg_cmp_le, lg_cmp_lt, lg_cmp_eq, pu_rne, pu_req, pu_uro, RFc_n, Nat.reduceAdd, Nat.reduceMul, Nat.reduceLT, Nat.reduceLeDiff, Nat.reduceEqDiff, Nat.reduceSub]
    rw [bsel] at ih
    rw [r273_189]
    simp only [↓r273_190, ↓r273_193, ↓r273_196, ↓r273_197, ↓r273_199, ↓r273_200, ↓r273_202, ↓r273_203, q_le, q_lt, q_eq, q_e0, q_e1, q_0e, q_1e, ps_n0, q_0le, q_le0, q_0lt, q_m1e, q_em1, y1, y2, Bool.false_eq_true, hn, hn2, ht, hF, am_wt, am_wf, Option.isSome_some, am_rf_s, am_rf_n, ps_lit, nI_add, nI_1, pk_mul, ps_cl, ps_neg, ps_c0, ps_c1, ps_n01, ps_n11, ps_10, ps_b01, ps_e0, pu_Ine, pu_Ieq, pu_ne, pu_eq, am_k_n, am_k_i, am_k_r, am_k_u, am_k_l, am_sz_0, am_sz_i, am_sz_r, am_sz_u, am_sz_l, Option.toList_some, Option.toList_none, List.cons_append, List.nil_append, true_and, and_true, or_false, false_or, or_self, or_true, true_or, not_false_eq_true, not_true_eq_false, Classical.not_not, ne_eq, ps_e1, ps_em, ps_z, Nat.not_le, false_implies, true_implies, forall_const, ps_01, ps_1n, ps_0n, ps_m10, ps_m1n, lg_cmp_gt, lg_cmp_ge, lg_cmp_le, lg_cmp_lt, lg_cmp_eq, pu_rne, pu_req, pu_uro, RFc_n, Nat.reduceAdd, Nat.reduceMul, Nat.reduceLT, Nat.reduceLeDiff, Nat.reduceEqDiff, Nat.reduceSub]
    rw [hsum, hx]
    by_cases h0 : v s + w s = 0
    · rw [if_pos h0] at ih
      simp only [↓r273_275, ↓r273_277, ↓r273_279, ↓r273_280, ↓r273_302, ↓r273_305, q_le, q_lt, q_eq, q_e0, q_e1, q_0e, q_1e, ps_n0, q_0le, q_le0, q_0lt, q_m1e, q_em1, y1, h0, Bool.false_eq_true, hn, hn2, ht, hF, am_wt, am_wf, Option.isSome_some, am_rf_s, am_rf_n, ps_lit, nI_add, nI_1, pk_mul, ps_cl, ps_neg, ps_c0, ps_c1, ps_n01, ps_n11, ps_10, ps_b01, ps_e0, pu_Ine, pu_Ieq, pu_ne, pu_eq, am_k_n, am_k_i, am_k_r, am_k_u, am_k_l, am_sz_0, am_sz_i, am_sz_r, am_sz_u, am_sz_l, Option.toList_some, Option.toList_none, List.cons_append, List.nil_append, true_and, and_true, or_false, false_or, or_self, or_true, true_or, not_false_eq_true, not_true_eq_false, Classical.not_not, ne_eq, ps_e1, ps_em, ps_z, Nat.not_le, false_implies, true_implies, forall_const, ps_01, ps_1n, ps_0n, ps_m10, ps_m1n, lg_cmp_gt, lg_cmp_ge, lg_cmp_le, lg_cmp_lt, lg_cmp_eq, pu_rne, pu_req, pu_uro, RFc_n, Nat.reduceAdd, Nat.reduceMul, Nat.reduceLT, Nat.reduceLeDiff, Nat.reduceEqDiff, Nat.reduceSub]
      exact ih _ _ _
    · rw [if_neg h0] at ih
      cases hc : bsel v w s with
      | none =>
        rw [hc] at ih
        simp only [chv, lrv] at ih ⊢
        simp only [↓r273_275, ↓r273_277, ↓r273_279, ↓r273_280, ↓r273_283, ↓r273_284, ↓r273_285, ↓r273_288, ↓r273_290, ↓r273_291, ↓r273_294, ↓r273_297, ↓r273_298, ↓r273_299, ↓r273_301, ↓r273_302, ↓r273_305, q_le, q_lt, q_eq, q_e0, q_e1, q_0e, q_1e, ps_n0, q_0le, q_le0, q_0lt, q_m1e, q_em1, y1, h0, Bool.false_eq_true, hn, hn2, ht, hF, am_wt, am_wf, Option.isSome_some, am_rf_s, am_rf_n, ps_lit, nI_add, nI_1, pk_mul, ps_cl, ps_neg, ps_c0, ps_c1, ps_n01, ps_n11, ps_10, ps_b01, ps_e0, pu_Ine, pu_Ieq, pu_ne, pu_eq, am_k_n, am_k_i, am_k_r, am_k_u, am_k_l, am_sz_0, am_sz_i, am_sz_r, am_sz_u, am_sz_l, Option.toList_some, Option.toList_none, List.cons_append, List.nil_append, true_and, and_true, or_false, false_or, or_self, or_true, true_or, not_false_eq_true, not_true_eq_false, Classical.not_not, ne_eq, ps_e1, ps_em, ps_z, Nat.not_le, false_implies, true_implies, forall_const, ps_01, ps_1n, ps_0n, ps_m10, ps_m1n, lg_cmp_gt, lg_cmp_ge, lg_cmp_le, lg_cmp_lt, lg_cmp_eq, pu_rne, pu_req, pu_uro, RFc_n, Nat.reduceAdd, Nat.reduceMul, Nat.reduceLT, Nat.reduceLeDiff, Nat.reduceEqDiff, Nat.reduceSub]
        exact ih _ _ _
      | some p =>
        rw [hc] at ih
        obtain ⟨p1, p2⟩ := hbb p hc
        have p3 : p.2 < 2000000 ∧ p.1 < 2000000 := by omega
        dsimp only at ih
        by_cases hd : farN (v s) (w s) < p.2
        · rw [if_pos hd] at ih
          simp only [chv, lrv] at ih ⊢
          simp only [↓r273_275, ↓r273_277, ↓r273_279, ↓r273_280, ↓r273_283, ↓r273_284, ↓r273_285, ↓r273_288, ↓r273_290, ↓r273_291, ↓r273_294, ↓r273_297, ↓r273_298, ↓r273_299, ↓r273_301, ↓r273_302, ↓r273_305, q_le, q_lt, q_eq, q_e0, q_e1, q_0e, q_1e, ps_n0, q_0le, q_le0, q_0lt, q_m1e, q_em1, y1, h0, hd, hf2, p3, Bool.false_eq_true, hn, hn2, ht, hF, am_wt, am_wf, Option.isSome_some, am_rf_s, am_rf_n, ps_lit, nI_add, nI_1, pk_mul, ps_cl, ps_neg, ps_c0, ps_c1, ps_n01, ps_n11, ps_10, ps_b01, ps_e0, pu_Ine, pu_Ieq, pu_ne, pu_eq, am_k_n, am_k_i, am_k_r, am_k_u, am_k_l, am_sz_0, am_sz_i, am_sz_r, am_sz_u, am_sz_l, Option.toList_some, Option.toList_none, List.cons_append, List.nil_append, true_and, and_true, or_false, false_or, or_self, or_true, true_or, not_false_eq_true, not_true_eq_false, Classical.not_not, ne_eq, ps_e1, ps_em, ps_z, Nat.not_le, false_implies, true_implies, forall_const, ps_01, ps_1n, ps_0n, ps_m10, ps_m1n, lg_cmp_gt, lg_cmp_ge, lg_cmp_le, lg_cmp_lt, lg_cmp_eq, pu_rne, pu_req, pu_uro, RFc_n, Nat.reduceAdd, Nat.reduceMul, Nat.reduceLT, Nat.reduceLeDiff, Nat.reduceEqDiff, Nat.reduceSub]
          exact ih _ _ _
        · rw [if_neg hd] at ih
          simp only [chv, lrv] at ih ⊢
          simp only [↓r273_275, ↓r273_277, ↓r273_279, ↓r273_280, ↓r273_283, ↓r273_284, ↓r273_285, ↓r273_288, ↓r273_290, ↓r273_291, ↓r273_294, ↓r273_297, ↓r273_298, ↓r273_299, ↓r273_301, ↓r273_302, ↓r273_305, q_le, q_lt, q_eq, q_e0, q_e1, q_0e, q_1e, ps_n0, q_0le, q_le0, q_0lt, q_m1e, q_em1, y1, h0, hd, hf2, p3, Bool.false_eq_true, hn, hn2, ht, hF, am_wt, am_wf, Option.isSome_some, am_rf_s, am_rf_n, ps_lit, nI_add, nI_1, pk_mul, ps_cl, ps_neg, ps_c0, ps_c1, ps_n01, ps_n11, ps_10, ps_b01, ps_e0, pu_Ine, pu_Ieq, pu_ne, pu_eq, am_k_n, am_k_i, am_k_r, am_k_u, am_k_l, am_sz_0, am_sz_i, am_sz_r, am_sz_u, am_sz_l, Option.toList_some, Option.toList_none, List.cons_append, List.nil_append, true_and, and_true, or_false, false_or, or_self, or_true, true_or, not_false_eq_true, not_true_eq_false, Classical.not_not, ne_eq, ps_e1, ps_em, ps_z, Nat.not_le, false_implies, true_implies, forall_const, ps_01, ps_1n, ps_0n, ps_m10, ps_m1n, lg_cmp_gt, lg_cmp_ge, lg_cmp_le, lg_cmp_lt, lg_cmp_eq, pu_rne, pu_req, pu_uro, RFc_n, Nat.reduceAdd, Nat.reduceMul, Nat.reduceLT, Nat.reduceLeDiff, Nat.reduceEqDiff, Nat.reduceSub]
          exact ih _ _ _
  · intro l4 l5 l6
    rw [r273_189]
    simp only [↓r273_190, ↓r273_193, ↓r273_308, ↓r273_309, q_le, q_lt, q_eq, q_e0, q_e1, q_0e, q_1e, ps_n0, q_0le, q_le0, q_0lt, q_m1e, q_em1, Bool.false_eq_true, hn, hn2, ht, hF, am_wt, am_wf, Option.isSome_some, am_rf_s, am_rf_n, ps_lit, nI_add, nI_1, pk_mul, ps_cl, ps_neg, ps_c0, ps_c1, ps_n01, ps_n11, ps_10, ps_b01, ps_e0, pu_Ine, pu_Ieq, pu_ne, pu_eq, am_k_n, am_k_i, am_k_r, am_k_u, am_k_l, am_sz_0, am_sz_i, am_sz_r, am_sz_u, am_sz_l, Option.toList_some, Option.toList_none, List.cons_append, List.nil_append, true_and, and_true, or_false, false_or, or_self, or_true, true_or, not_false_eq_true, not_true_eq_false, Classical.not_not, ne_eq, ps_e1, ps_em, ps_z, Nat.not_le, false_implies, true_implies, forall_const, ps_01, ps_1n, ps_0n, ps_m10, ps_m1n, lg_cmp_gt, lg_cmp_ge, lg_cmp_le, lg_cmp_lt, lg_cmp_eq, pu_rne, pu_req, pu_uro, RFc_n, Nat.reduceAdd, Nat.reduceMul, Nat.reduceLT, Nat.reduceLeDiff, Nat.reduceEqDiff, Nat.reduceSub]
theorem m_near {l : List Nat} (hCK : CK n t F (I 1 4) (I 2) (I 3) (I 49) K N) (hG : GH (I 47 24) (I 59) l N) : am_W X (d + 3) 273 0 [some (.ref 47), none, none, none, none, none, none] [] (n, sl, t, I, J, F) Q ↔ Q (some (.int (chv (bsel (fun s => t2 (cW K s (fTh K)) (pL K) (pS K) l l.length) (fun s => t2 (cL K s (fTh K)) (pL K) (pS K) l l.length) 256)))) (n, sl, t, ns2 64 65 I (mo K (gWn (fTh K)) l l.length) (mo K (gLn (fTh K)) l l.length), J, F) := by
  have hW : WS n t F := hCK.1
  obtain ⟨hn, hn2, ht, hF⟩ := id hW
  have hl := hG.2.1
  refine m_cnt hCK hG (fun l1 l2 l3 l4 l5 l6 => ?_)
  have e := m_sel (X := X) (d := d) (Q := Q) (sl := sl) (J := J) (I := I) (a := fun f => t2 (atU K (gWn (fTh K)) f) (pL K) (pS K) l l.length) (b := fun f => t2 (atU K (gLn (fTh K)) f) (pL K) (pS K) l l.length) (v := fun s => t2 (cW K s (fTh K)) (pL K) (pS K) l l.length) (w := fun s => t2 (cL K s (fTh K)) (pL K) (pS K) l l.length) hW (fun s hs => t2_W hs) (fun s hs => t2_L hs) (fun s => ⟨t2_lt hl (fun a b => by unfold cW; split <;> (try split) <;> omega), t2_lt hl (fun a b => by unfold cL; split <;> (try split) <;> omega)⟩) l4 l5 l6
  refine Iff.trans ?_ e
  simp only [↓r273_183, ↓r273_184, ↓r273_185, ↓r273_186, ↓r273_187, ↓r273_188, Bool.false_eq_true, hn, hn2, ht, hF, am_wt, am_wf, Option.isSome_some, am_rf_s, am_rf_n, ps_lit, nI_add, nI_1, pk_mul, ps_cl, ps_neg, ps_c0, ps_c1, ps_n01, ps_n11, ps_10, ps_b01, ps_e0, pu_Ine, pu_Ieq, pu_ne, pu_eq, am_k_n, am_k_i, am_k_r, am_k_u, am_k_l, am_sz_0, am_sz_i, am_sz_r, am_sz_u, am_sz_l, Option.toList_some, Option.toList_none, List.cons_append, List.nil_append, true_and, and_true, or_false, false_or, or_self, or_true, true_or, not_false_eq_true, not_true_eq_false, Classical.not_not, ne_eq, ps_e1, ps_em, ps_z, Nat.not_le, false_implies, true_implies, forall_const, ps_01, ps_1n, ps_0n, ps_m10, ps_m1n, lg_cmp_gt, lg_cmp_ge, lg_cmp_le, lg_cmp_lt, lg_cmp_eq, pu_rne, pu_req, pu_uro, RFc_n, Nat.reduceAdd, Nat.reduceMul, Nat.reduceLT, Nat.reduceLeDiff, Nat.reduceEqDiff, Nat.reduceSub]
  exact Iff.rfl
end NR
