/-! calls, one on each side: trial -/
section TL
variable {X : am_X} {d : Nat} {Q : Option Value → am_H → Prop} {n sl : Nat} {t : Nat → Nat × Nat} {I : Nat → Nat → Int32} {J : Nat → Nat → Int64} {F : Nat → Nat → Option Nat} {h : am_H}
variable {K : Nat → Int32} {N T : Nat} {lw : Nat → List CL}
/-- one of the first m is v -/
def awd (f : Nat → Int32) (v : Int32) : Nat → Bool
  | 0 => false
  | m + 1 => awd f v m || decide (f m = v)
theorem awd_f {f : Nat → Int32} {v : Int32} : ∀ m, awd f v m = false → ∀ i, i < m → f i ≠ v := by
  intro m
  induction m with
  | zero => intro _ i hi; omega
  | succ m ih =>
    intro h i hi
    rw [awd, Bool.or_eq_false_iff, decide_eq_false_iff_not] at h
    by_cases e : i = m
    · rw [e]; exact h.2
    · exact ih h.1 i (by omega)
theorem awd_m {f : Nat → Int32} {v : Int32} {i : Nat} (h : f i = v) : ∀ m, i < m → awd f v m = true := by
  intro m
  induction m with
  | zero => intro hi; omega
  | succ m ih =>
    intro hi
    rw [awd]
    by_cases e : i = m
    · rw [← e, h]; simp
    · rw [ih (by omega), Bool.true_or]
theorem c_hasw {a s ls k : Nat} (hn2 : n ≤ 1000000) (ha : a < n) (hs : s < n) (ta : t a = (5, 2)) (ts : t s = (20, ls)) (fa : F a 0 = some s) (hl : ls ≤ 400) : am_W X d 100 0 [some (.ref a), some (.int (nI k)), none, none] [] (n, sl, t, I, J, F) Q ↔ Q (some (.int (if awd (I s) (nI (1001 + k)) ls = true then 1 else 0))) (n, sl, t, I, J, F) := by
  have hs2 : s < 1000000 := by omega
  have hx : awd (I s) (nI (1001 + k)) 0 = false → (am_W X d 100 4 [some (.ref a), some (.int (nI k)), some (.int 0), some (.int 0)] [] (n, sl, t, I, J, F) Q ↔ Q (some (.int (if awd (I s) (nI (1001 + k)) ls = true then 1 else 0))) (n, sl, t, I, J, F)) := by
    refine lp0 (A := fun i => awd (I s) (nI (1001 + k)) i = false → (am_W X d 100 4 [some (.ref a), some (.int (nI k)), some (.int 0), some (.int (nI i))] [] (n, sl, t, I, J, F) Q ↔ Q (some (.int (if awd (I s) (nI (1001 + k)) ls = true then 1 else 0))) (n, sl, t, I, J, F))) (N := ls) ?_ ?_
    · intro i hi ih hf
      have z1 : i < 2000000 ∧ ls < 2000000 := by omega
      have z2 : ¬ ls ≤ i := by omega
      rw [r100_4]
      by_cases h : I s i = nI (1001 + k)
      · rw [awd_m h ls hi]
        simp only [↓r100_5, ↓r100_6, ↓r100_9, ↓r100_9k, ↓r100_10, ↓r100_13, ↓r100_14, ↓r100_17, ↓r100_18, ↓r100_21, ↓r100_22, ↓r100_22k, ↓r100_23, ↓r100_26, ↓r100_27, ↓r100_28, ↓r100_31, ↓r100_32, ↓r100_35, ↓r100_36, ↓r100_37, ↓r100_40, q_le, q_lt, q_eq, q_e0, q_e1, q_0e, q_1e, ps_n0, q_0le, q_le0, q_0lt, q_m1e, q_em1, ha, hs, hs2, ta, ts, fa, h, z1, z2, hi, am_rf_s, Bool.false_eq_true, ps_lit, nI_add, nI_1, pk_mul, ps_cl, ps_neg, ps_c0, ps_c1, ps_n01, ps_n11, ps_10, ps_01, ps_1n, ps_0n, ps_b01, ps_e0, am_k_n, am_k_i, am_k_r, am_k_u, am_k_l, am_sz_0, am_sz_i, am_sz_r, am_sz_u, am_sz_l, Option.toList_some, Option.toList_none, List.cons_append, List.nil_append, true_and, and_true, or_false, false_or, or_self, or_true, true_or, and_self, if_true, if_false, not_false_eq_true, not_true_eq_false, Classical.not_not, ne_eq, ps_e1, ps_em, ps_z, Nat.not_le, false_implies, true_implies, forall_const, Nat.reduceAdd, Nat.reduceMul, Nat.reduceLT, Nat.reduceLeDiff, Nat.reduceEqDiff, Nat.reduceSub]
        rw [r100_4]
        by_cases h2 : ls ≤ i + 1
        · have z3 : i + 1 < 2000000 := by omega
          simp only [↓r100_5, ↓r100_6, ↓r100_9, ↓r100_9k, ↓r100_10, ↓r100_43, ↓r100_44, q_le, q_lt, q_eq, q_e0, q_e1, q_0e, q_1e, ps_n0, q_0le, q_le0, q_0lt, q_m1e, q_em1, ha, hs, hs2, ta, ts, fa, h2, z1, z3, am_rf_s, Bool.false_eq_true, ps_lit, nI_add, nI_1, pk_mul, ps_cl, ps_neg, ps_c0, ps_c1, ps_n01, ps_n11, ps_10, ps_01, ps_1n, ps_0n, ps_b01, ps_e0, am_k_n, am_k_i, am_k_r, am_k_u, am_k_l, am_sz_0, am_sz_i, am_sz_r, am_sz_u, am_sz_l, Option.toList_some, Option.toList_none, List.cons_append, List.nil_append, true_and, and_true, or_false, false_or, or_self, or_true, true_or, and_self, if_true, if_false, not_false_eq_true, not_true_eq_false, Classical.not_not, ne_eq, ps_e1, ps_em, ps_z, Nat.not_le, false_implies, true_implies, forall_const, Nat.reduceAdd, Nat.reduceMul, Nat.reduceLT, Nat.reduceLeDiff, Nat.reduceEqDiff, Nat.reduceSub]
        · have z3 : i + 1 < 2000000 := by omega
          simp only [↓r100_5, ↓r100_6, ↓r100_9, ↓r100_9k, ↓r100_10, ↓r100_13, ↓r100_14, ↓r100_43, ↓r100_44, q_le, q_lt, q_eq, q_e0, q_e1, q_0e, q_1e, ps_n0, q_0le, q_le0, q_0lt, q_m1e, q_em1, ha, hs, hs2, ta, ts, fa, h2, z1, z3, am_rf_s, Bool.false_eq_true, ps_lit, nI_add, nI_1, pk_mul, ps_cl, ps_neg, ps_c0, ps_c1, ps_n01, ps_n11, ps_10, ps_01, ps_1n, ps_0n, ps_b01, ps_e0, am_k_n, am_k_i, am_k_r, am_k_u, am_k_l, am_sz_0, am_sz_i, am_sz_r, am_sz_u, am_sz_l, Option.toList_some, Option.toList_none, List.cons_append, List.nil_append, true_and, and_true, or_false, false_or, or_self, or_true, true_or, and_self, if_true, if_false, not_false_eq_true, not_true_eq_false, Classical.not_not, ne_eq, ps_e1, ps_em, ps_z, Nat.not_le, false_implies, true_implies, forall_const, Nat.reduceAdd, Nat.reduceMul, Nat.reduceLT, Nat.reduceLeDiff, Nat.reduceEqDiff, Nat.reduceSub]
      · have ih' := ih (by rw [awd, hf, Bool.false_or, decide_eq_false_iff_not]; exact h)
        simp only [↓r100_5, ↓r100_6, ↓r100_9, ↓r100_9k, ↓r100_10, ↓r100_13, ↓r100_14, ↓r100_17, ↓r100_18, ↓r100_21, ↓r100_22, ↓r100_22k, ↓r100_23, ↓r100_26, ↓r100_27, ↓r100_28, ↓r100_31, ↓r100_32, ↓r100_35, ↓r100_36, ↓r100_37, ↓r100_40, q_le, q_lt, q_eq, q_e0, q_e1, q_0e, q_1e, ps_n0, q_0le, q_le0, q_0lt, q_m1e, q_em1, ha, hs, hs2, ta, ts, fa, h, z1, z2, hi, am_rf_s, Bool.false_eq_true, ps_lit, nI_add, nI_1, pk_mul, ps_cl, ps_neg, ps_c0, ps_c1, ps_n01, ps_n11, ps_10, ps_01, ps_1n, ps_0n, ps_b01, ps_e0, am_k_n, am_k_i, am_k_r, am_k_u, am_k_l, am_sz_0, am_sz_i, am_sz_r, am_sz_u, am_sz_l, Option.toList_some, Option.toList_none, List.cons_append, List.nil_append, true_and, and_true, or_false, false_or, or_self, or_true, true_or, and_self, if_true, if_false, not_false_eq_true, not_true_eq_false, Classical.not_not, ne_eq, ps_e1, ps_em, ps_z, Nat.not_le, false_implies, true_implies, forall_const, Nat.reduceAdd, Nat.reduceMul, Nat.reduceLT, Nat.reduceLeDiff, Nat.reduceEqDiff, Nat.reduceSub]
        exact ih'
    · intro hf
      rw [r100_4, hf]
      simp only [↓r100_5, ↓r100_6, ↓r100_9, ↓r100_9k, ↓r100_10, ↓r100_43, ↓r100_44, ha, hs, hs2, ta, ts, fa, Int32.le_refl, am_rf_s, Bool.false_eq_true, ps_lit, nI_add, nI_1, pk_mul, ps_cl, ps_neg, ps_c0, ps_c1, ps_n01, ps_n11, ps_10, ps_01, ps_1n, ps_0n, ps_b01, ps_e0, am_k_n, am_k_i, am_k_r, am_k_u, am_k_l, am_sz_0, am_sz_i, am_sz_r, am_sz_u, am_sz_l, Option.toList_some, Option.toList_none, List.cons_append, List.nil_append, true_and, and_true, or_false, false_or, or_self, or_true, true_or, and_self, if_true, if_false, not_false_eq_true, not_true_eq_false, Classical.not_not, ne_eq, ps_e1, ps_em, ps_z, Nat.not_le, false_implies, true_implies, forall_const, Nat.reduceAdd, Nat.reduceMul, Nat.reduceLT, Nat.reduceLeDiff, Nat.reduceEqDiff, Nat.reduceSub]
  rw [← hx rfl]
  simp only [↓r100_0, ↓r100_1, ↓r100_2, ↓r100_3, am_k_i]
/-- a word that a law doesn't have makes no difference -/
theorem k_hasw (hC : CX n t I F K N T lw) {j a : Nat} (hj : j < T) (ha : F 5 j = some a) {k : Nat} (hk : k < 11) : ∃ b : Bool, (∀ (X : am_X) (d : Nat) (Q : Option Value → am_H → Prop) (sl : Nat) (J : Nat → Nat → Int64) (I' : Nat → Nat → Int32), SC I I' → (am_W X d 100 0 [some (.ref a), some (.int (nI (pw k))), none, none] [] (n, sl, t, I', J, F) Q ↔ Q (some (.int (if b = true then 1 else 0))) (n, sl, t, I', J, F))) ∧ (b = false → ∀ h w w', (∀ q, q < 11 → q ≠ k → w q = w' q) → told (lw j) h w = told (lw j) h w') := by
  obtain ⟨hW, _, _, _, hl⟩ := hC
  obtain ⟨a', s, c, ls, lc, ea, ⟨h1, h2, h3, h4, h5, h6⟩, ⟨h7, h8, _⟩, ⟨h9, _⟩, _, h10, _⟩ := hl j hj
  rw [ha] at ea
  cases ea
  refine ⟨awd (I s) (nI (1001 + pw k)) ls, fun X d Q sl J I' hS => ?_, fun hb => ?_⟩
  · rw [c_hasw hW.2.1 h2 h4 h7 h8 h9 h10.1, SC_c hS (fun k => scr_hi h3)]
  · exact h10.2.2 k hk (awd_f ls hb)
/-- the first of the greatest -/
def isB (G : Nat → Nat) (m b : Nat) : Prop := b < m ∧ ∀ i, i < m → G i ≤ G b ∧ (i < b → G i < G b)
theorem isB_u {G : Nat → Nat} {m b c : Nat} (h1 : isB G m b) (h2 : isB G m c) : b = c := by
  have a1 := h1.2 c h2.1
  have a2 := h2.2 b h1.1
  rcases Nat.lt_trichotomy b c with q | q | q
  · have := a2.2 q; omega
  · exact q
  · have := a1.2 q; omega
theorem isB_s {G : Nat → Nat} {m b : Nat} (h : isB G m b) : isB G (m + 1) (if G b < G m then m else b) := by
  by_cases c : G b < G m
  · rw [if_pos c]
    refine ⟨by omega, fun i hi => ?_⟩
    by_cases e : i = m
    · subst e
      exact ⟨Nat.le_refl _, fun q => by omega⟩
    · have := (h.2 i (by omega)).1
      exact ⟨by omega, fun _ => by omega⟩
  · rw [if_neg c]
    refine ⟨by have := h.1; omega, fun i hi => ?_⟩
    by_cases e : i = m
    · subst e
      exact ⟨by omega, fun q => by have := h.1; omega⟩
    · exact h.2 i (by omega)
theorem isB_ex {G : Nat → Nat} : ∀ m, ∃ b, isB G (m + 1) b := by
  intro m
  induction m with
  | zero => exact ⟨0, by omega, fun i hi => by obtain rfl : i = 0 := (by omega); exact ⟨Nat.le_refl _, fun q => absurd q (Nat.lt_irrefl _)⟩⟩
  | succ m ih =>
    obtain ⟨b, hb⟩ := ih
    exact ⟨_, isB_s hb⟩
/-- the best so far, of the ways below wy and the deals below de -/
def tB (g : Nat → Nat → Nat) (D wy de : Nat) (mo fo : Int32) : Prop := (wy = 0 ∧ de = 0 ∧ mo = -1 ∧ fo = -1) ∨ ∃ w d, (d < D ∧ (w < wy ∨ w = wy ∧ d < de)) ∧ mo = nI (g w d) ∧ fo = nI (3 * w + d) ∧ ∀ w' d', d' < D → (w' < wy ∨ w' = wy ∧ d' < de) → g w' d' ≤ g w d ∧ (3 * w' + d' < 3 * w + d → g w' d' < g w d)
theorem tB_s {g : Nat → Nat → Nat} {D wy de : Nat} {mo fo : Int32} (hD : D ≤ 3) (hde : de < D) (hg : ∀ w d, g w d < 2000000) (h : tB g D wy de mo fo) : tB g D wy (de + 1) (if nI (g wy de) ≤ mo then mo else nI (g wy de)) (if nI (g wy de) ≤ mo then fo else nI (3 * wy + de)) := by
  rcases h with ⟨h1, h2, h3, h4⟩ | ⟨w, d, h1, h2, h3, h4⟩
  · subst h1
    subst h2
    have : ¬ nI (g 0 0) ≤ mo := by
      rw [h3]
      exact Int32.not_le.mpr (by
        rw [Int32.lt_iff_toInt_lt, nI_toInt (by have := hg 0 0; omega)]
        have e : (-1 : Int32).toInt = -1 := by decide
        omega)
    rw [if_neg this, if_neg this]
    refine Or.inr ⟨0, 0, ⟨hde, Or.inr ⟨rfl, by omega⟩⟩, rfl, rfl, fun w' d' h5 h6 => ?_⟩
    have e1 : w' = 0 := by omega
    have e2 : d' = 0 := by omega
    subst e1
    subst e2
    exact ⟨Nat.le_refl _, fun q => by omega⟩
  · have e0 : (nI (g wy de) ≤ mo) ↔ g wy de ≤ g w d := by
      rw [h2]
      exact nI_leI (by have := hg wy de; omega) (by have := hg w d; omega)
    by_cases c : g wy de ≤ g w d
    · rw [if_pos (e0.mpr c), if_pos (e0.mpr c)]
      refine Or.inr ⟨w, d, ⟨h1.1, by omega⟩, h2, h3, fun w' d' h5 h6 => ?_⟩
      by_cases e : w' = wy ∧ d' = de
      · rw [e.1, e.2]
        exact ⟨c, fun q => by omega⟩
      · exact h4 w' d' h5 (by omega)
    · rw [if_neg (fun q => c (e0.mp q)), if_neg (fun q => c (e0.mp q))]
      refine Or.inr ⟨wy, de, ⟨hde, Or.inr ⟨rfl, by omega⟩⟩, rfl, rfl, fun w' d' h5 h6 => ?_⟩
      by_cases e : w' = wy ∧ d' = de
      · rw [e.1, e.2]
        exact ⟨Nat.le_refl _, fun q => by omega⟩
      · have := (h4 w' d' h5 (by omega)).1
        exact ⟨by omega, fun _ => by omega⟩
theorem tB_n {g : Nat → Nat → Nat} {D wy : Nat} {mo fo : Int32} (hD : 0 < D) (h : tB g D wy D mo fo) : tB g D (wy + 1) 0 mo fo := by
  rcases h with ⟨_, h2, _, _⟩ | ⟨w, d, h1, h2, h3, h4⟩
  · omega
  · refine Or.inr ⟨w, d, ⟨h1.1, by omega⟩, h2, h3, fun w' d' h5 h6 => h4 w' d' h5 (by omega)⟩
theorem c_trial {I' : Nat → Nat → Int32} {j1 j2 a1 a2 W D : Nat} {x y z : Int32} {l : List Nat} (hC : CX n t I F K N T lw) (h1 : j1 < T) (h2 : j2 < T) (e1 : F 5 j1 = some a1) (e2 : F 5 j2 = some a2) (hW1 : 0 < W) (hW : W ≤ 24) (hD1 : 0 < D) (hD : D ≤ 3) (hS : SC I I') (hG : GH (I' 15 1) (I' 16) l N)
    (hQ : ∀ f13 f14 mo fo, tB (fun wy de => sm (fun i => pdv K (lw j1) (lw j2) wy de (l.getD i 0)) l.length) D W 0 mo fo → Q (some (.int fo)) (n, sl, t, am_ro (am_ro I' 13 f13) 14 f14, J, F)) : am_W X (d + 8) 113 106 [some (.ref 0), some (.int x), some (.int y), some (.int z), some (.ref a1), some (.ref a2), some (.int (nI W)), some (.int (nI D)), some (.int (-1)), some (.int (-1)), some (.int 0), none, none] [] (n, sl, t, I', J, F) Q := by
  have hWS := hC.1
  obtain ⟨hn, hn2, ht, hF⟩ := id hWS
  have hK := hC.2.1
  have hl := hG.2.1
  generalize hg : (fun wy de => sm (fun i => pdv K (lw j1) (lw j2) wy de (l.getD i 0)) l.length) = g at hQ
  have hgi : ∀ wy de, g wy de = sm (fun i => pdv K (lw j1) (lw j2) wy de (l.getD i 0)) l.length := fun wy de => by rw [← hg]
  have hgb : ∀ wy de, g wy de < 2000000 := fun wy de => by
    rw [hgi]
    have := sm_le (f := fun i => pdv K (lw j1) (lw j2) wy de (l.getD i 0)) (b := 200) l.length (fun i _ => pdv_le hK)
    omega
  have hx : ∀ f13 f14 mo fo, ∀ l11 l12 : Option Value, tB g D 0 0 mo fo → am_W X (d + 8) 113 106 [some (.ref 0), some (.int x), some (.int y), some (.int z), some (.ref a1), some (.ref a2), some (.int (nI W)), some (.int (nI D)), some (.int mo), some (.int fo), some (.int 0), l11, l12] [] (n, sl, t, am_ro (am_ro I' 13 f13) 14 f14, J, F) Q := by
    refine lp0 (A := fun wy => ∀ f13 f14 mo fo, ∀ l11 l12 : Option Value, tB g D wy 0 mo fo → am_W X (d + 8) 113 106 [some (.ref 0), some (.int x), some (.int y), some (.int z), some (.ref a1), some (.ref a2), some (.int (nI W)), some (.int (nI D)), some (.int mo), some (.int fo), some (.int (nI wy)), l11, l12] [] (n, sl, t, am_ro (am_ro I' 13 f13) 14 f14, J, F) Q) (N := W) ?_ ?_
    · intro wy hwy ih f13 f14 mo fo l11 l12 hB
      have z1 : wy < 2000000 ∧ W < 2000000 ∧ D < 2000000 := by omega
      have z2 : ¬ W ≤ wy := by omega
      have hin : ∀ f13 f14 mo fo, ∀ l12 : Option Value, tB g D wy 0 mo fo → am_W X (d + 8) 113 116 [some (.ref 0), some (.int x), some (.int y), some (.int z), some (.ref a1), some (.ref a2), some (.int (nI W)), some (.int (nI D)), some (.int mo), some (.int fo), some (.int (nI wy)), some (.int 0), l12] [] (n, sl, t, am_ro (am_ro I' 13 f13) 14 f14, J, F) Q := by
        refine lp0 (A := fun de => ∀ f13 f14 mo fo, ∀ l12 : Option Value, tB g D wy de mo fo → am_W X (d + 8) 113 116 [some (.ref 0), some (.int x), some (.int y), some (.int z), some (.ref a1), some (.ref a2), some (.int (nI W)), some (.int (nI D)), some (.int mo), some (.int fo), some (.int (nI wy)), some (.int (nI de)), l12] [] (n, sl, t, am_ro (am_ro I' 13 f13) 14 f14, J, F) Q) (N := D) ?_ ?_
        · intro de hde ih2 f13 f14 mo fo l12 hB
          have z3 : de < 2000000 := by omega
          have z4 : ¬ D ≤ de := by omega
          have hB2 := tB_s hD hde hgb hB
          rw [r113_116]
          simp only [↓r113_118, ↓r113_120, ↓r113_123, ↓r113_124, ↓r113_124n, ↓r113_126, ↓r113_126n, ↓r113_128, ↓r113_130, ↓r113_132, q_le, q_lt, q_eq, q_e0, q_e1, q_0e, q_1e, ps_n0, q_0le, q_le0, q_0lt, q_m1e, q_em1, z1, z3, z4, Bool.false_eq_true, hn, hn2, ht, hF, am_wt, am_wf, Option.isSome_some, am_rf_s, am_rf_n, ps_lit, nI_add, nI_1, pk_mul, ps_cl, ps_neg, ps_c0, ps_c1, ps_n01, ps_n11, ps_10, ps_b01, ps_e0, pu_Ine, pu_Ieq, pu_ne, pu_eq, am_k_n, am_k_i, am_k_r, am_k_u, am_k_l, am_sz_0, am_sz_i, am_sz_r, am_sz_u, am_sz_l, Option.toList_some, Option.toList_none, List.cons_append, List.nil_append, true_and, and_true, or_false, false_or, or_self, or_true, true_or, not_false_eq_true, not_true_eq_false, Classical.not_not, ne_eq, ps_e1, ps_em, ps_z, Nat.not_le, false_implies, true_implies, forall_const, ps_01, ps_1n, ps_0n, ps_m10, ps_m1n, lg_cmp_gt, lg_cmp_ge, lg_cmp_le, lg_cmp_lt, lg_cmp_eq, pu_rne, pu_req, pu_uro, RFc_n, Nat.reduceAdd, Nat.reduceMul, Nat.reduceLT, Nat.reduceLeDiff, Nat.reduceEqDiff, Nat.reduceSub]
          refine c_partAll hC h1 h2 e1 e2 (by omega) (by omega) (SC_13 hS) (by rw [pu_rne (by decide), pu_rne (by decide), pu_rne (by decide), pu_rne (by decide)]; exact hG) (fun a b => ?_)
          rw [← hgi]
          by_cases c : nI (g wy de) ≤ mo
          · rw [if_pos c, if_pos c] at hB2
            simp only [↓r113_135, ↓r113_137, ↓r113_139, ↓r113_141, ↓r113_144, ↓r113_146, ↓r113_148, ↓r113_149, ↓r113_151, ↓r113_152, ↓r113_154, ↓r113_155, ↓r113_157, ↓r113_160, c, pu_rol, pu_ror, Bool.false_eq_true, hn, hn2, ht, hF, am_wt, am_wf, Option.isSome_some, am_rf_s, am_rf_n, ps_lit, nI_add, nI_1, pk_mul, ps_cl, ps_neg, ps_c0, ps_c1, ps_n01, ps_n11, ps_10, ps_b01, ps_e0, pu_Ine, pu_Ieq, pu_ne, pu_eq, am_k_n, am_k_i, am_k_r, am_k_u, am_k_l, am_sz_0, am_sz_i, am_sz_r, am_sz_u, am_sz_l, Option.toList_some, Option.toList_none, List.cons_append, List.nil_append, true_and, and_true, or_false, false_or, or_self, or_true, true_or, not_false_eq_true, not_true_eq_false, Classical.not_not, ne_eq, ps_e1, ps_em, ps_z, Nat.not_le, false_implies, true_implies, forall_const, ps_01, ps_1n, ps_0n, ps_m10, ps_m1n, lg_cmp_gt, lg_cmp_ge, lg_cmp_le, lg_cmp_lt, lg_cmp_eq, pu_rne, pu_req, pu_uro, RFc_n, Nat.reduceAdd, Nat.reduceMul, Nat.reduceLT, Nat.reduceLeDiff, Nat.reduceEqDiff, Nat.reduceSub]
            exact ih2 a b mo fo _ hB2
          · rw [if_neg c, if_neg c] at hB2
            simp only [↓r113_135, ↓r113_137, ↓r113_139, ↓r113_141, ↓r113_144, ↓r113_146, ↓r113_148, ↓r113_149, ↓r113_151, ↓r113_152, ↓r113_154, ↓r113_155, ↓r113_157, ↓r113_160, c, pu_rol, pu_ror, Bool.false_eq_true, hn, hn2, ht, hF, am_wt, am_wf, Option.isSome_some, am_rf_s, am_rf_n, ps_lit, nI_add, nI_1, pk_mul, ps_cl, ps_neg, ps_c0, ps_c1, ps_n01, ps_n11, ps_10, ps_b01, ps_e0, pu_Ine, pu_Ieq, pu_ne, pu_eq, am_k_n, am_k_i, am_k_r, am_k_u, am_k_l, am_sz_0, am_sz_i, am_sz_r, am_sz_u, am_sz_l, Option.toList_some, Option.toList_none, List.cons_append, List.nil_append, true_and, and_true, or_false, false_or, or_self, or_true, true_or, not_false_eq_true, not_true_eq_false, Classical.not_not, ne_eq, ps_e1, ps_em, ps_z, Nat.not_le, false_implies, true_implies, forall_const, ps_01, ps_1n, ps_0n, ps_m10, ps_m1n, lg_cmp_gt, lg_cmp_ge, lg_cmp_le, lg_cmp_lt, lg_cmp_eq, pu_rne, pu_req, pu_uro, RFc_n, Nat.reduceAdd, Nat.reduceMul, Nat.reduceLT, Nat.reduceLeDiff, Nat.reduceEqDiff, Nat.reduceSub]
            exact ih2 a b _ _ _ hB2
        · intro f13 f14 mo fo l12 hB
          rw [r113_116]
          simp only [↓r113_118, ↓r113_120, ↓r113_163, ↓r113_166, Int32.le_refl, Bool.false_eq_true, hn, hn2, ht, hF, am_wt, am_wf, Option.isSome_some, am_rf_s, am_rf_n, ps_lit, nI_add, nI_1, pk_mul, ps_cl, ps_neg, ps_c0, ps_c1, ps_n01, ps_n11, ps_10, ps_b01, ps_e0, pu_Ine, pu_Ieq, pu_ne, pu_eq, am_k_n, am_k_i, am_k_r, am_k_u, am_k_l, am_sz_0, am_sz_i, am_sz_r, am_sz_u, am_sz_l, Option.toList_some, Option.toList_none, List.cons_append, List.nil_append, true_and, and_true, or_false, false_or, or_self, or_true, true_or, not_false_eq_true, not_true_eq_false, Classical.not_not, ne_eq, ps_e1, ps_em, ps_z, Nat.not_le, false_implies, true_implies, forall_const, ps_01, ps_1n, ps_0n, ps_m10, ps_m1n, lg_cmp_gt, lg_cmp_ge, lg_cmp_le, lg_cmp_lt, lg_cmp_eq, pu_rne, pu_req, pu_uro, RFc_n, Nat.reduceAdd, Nat.reduceMul, Nat.reduceLT, Nat.reduceLeDiff, Nat.reduceEqDiff, Nat.reduceSub]
          exact ih f13 f14 mo fo _ _ (tB_n hD1 hB)
      rw [r113_106]
      simp only [↓r113_108, ↓r113_110, ↓r113_113, ↓r113_114, q_le, q_lt, q_eq, q_e0, q_e1, q_0e, q_1e, ps_n0, q_0le, q_le0, q_0lt, q_m1e, q_em1, z1, z2, Bool.false_eq_true, hn, hn2, ht, hF, am_wt, am_wf, Option.isSome_some, am_rf_s, am_rf_n, ps_lit, nI_add, nI_1, pk_mul, ps_cl, ps_neg, ps_c0, ps_c1, ps_n01, ps_n11, ps_10, ps_b01, ps_e0, pu_Ine, pu_Ieq, pu_ne, pu_eq, am_k_n, am_k_i, am_k_r, am_k_u, am_k_l, am_sz_0, am_sz_i, am_sz_r, am_sz_u, am_sz_l, Option.toList_some, Option.toList_none, List.cons_append, List.nil_append, true_and, and_true, or_false, false_or, or_self, or_true, true_or, not_false_eq_true, not_true_eq_false, Classical.not_not, ne_eq, ps_e1, ps_em, ps_z, Nat.not_le, false_implies, true_implies, forall_const, ps_01, ps_1n, ps_0n, ps_m10, ps_m1n, lg_cmp_gt, lg_cmp_ge, lg_cmp_le, lg_cmp_lt, lg_cmp_eq, pu_rne, pu_req, pu_uro, RFc_n, Nat.reduceAdd, Nat.reduceMul, Nat.reduceLT, Nat.reduceLeDiff, Nat.reduceEqDiff, Nat.reduceSub]
      exact hin f13 f14 mo fo _ hB
    · intro f13 f14 mo fo l11 l12 hB
      rw [r113_106]
      simp only [↓r113_108, ↓r113_110, ↓r113_169, ↓r113_171, Int32.le_refl, Bool.false_eq_true, hn, hn2, ht, hF, am_wt, am_wf, Option.isSome_some, am_rf_s, am_rf_n, ps_lit, nI_add, nI_1, pk_mul, ps_cl, ps_neg, ps_c0, ps_c1, ps_n01, ps_n11, ps_10, ps_b01, ps_e0, pu_Ine, pu_Ieq, pu_ne, pu_eq, am_k_n, am_k_i, am_k_r, am_k_u, am_k_l, am_sz_0, am_sz_i, am_sz_r, am_sz_u, am_sz_l, Option.toList_some, Option.toList_none, List.cons_append, List.nil_append, true_and, and_true, or_false, false_or, or_self, or_true, true_or, not_false_eq_true, not_true_eq_false, Classical.not_not, ne_eq, ps_e1, ps_em, ps_z, Nat.not_le, false_implies, true_implies, forall_const, ps_01, ps_1n, ps_0n, ps_m10, ps_m1n, lg_cmp_gt, lg_cmp_ge, lg_cmp_le, lg_cmp_lt, lg_cmp_eq, pu_rne, pu_req, pu_uro, RFc_n, Nat.reduceAdd, Nat.reduceMul, Nat.reduceLT, Nat.reduceLeDiff, Nat.reduceEqDiff, Nat.reduceSub]
      exact hQ f13 f14 mo fo hB
  have h3 := hx (I' 13) (I' 14) (-1) (-1) none none (Or.inl ⟨rfl, rfl, rfl, rfl⟩)
  rw [pu_roI, pu_roI] at h3
  exact h3
theorem m_trial {j1 j2 k0 : Nat} {z : Int32} {l : List Nat} (hC : CX n t I F K N T lw) (h1 : j1 < T) (h2 : j2 < T) (hG : GH (I 47 24) (I 59) l N) (hB : isB (fun k => sm (fun i => pdv K (lw j1) (lw j2) (k / 3) (k % 3) (l.getD i 0)) l.length) 72 k0)
    (hQ : ∀ I' J', SC I I' → Q (some (.int (nI k0))) (n, sl, t, I', J', F)) : am_W X (d + 47) 262 26 [some (.ref 47), some (.int (nI j1)), some (.int (nI j2)), some (.int z), some (.int 0), some (.int (-1)), some (.int 0), none] [] (n, sl, t, I, J, F) Q := by
  have hWS := hC.1
  obtain ⟨hn, hn2, ht, hF⟩ := id hWS
  have hK := hC.2.1
  have hl := hG.2.1
  generalize hg : (fun k => sm (fun i => pdv K (lw j1) (lw j2) (k / 3) (k % 3) (l.getD i 0)) l.length) = g at hB
  have hgi : ∀ k, g k = sm (fun i => pdv K (lw j1) (lw j2) (k / 3) (k % 3) (l.getD i 0)) l.length := fun k => by rw [← hg]
  have hgb : ∀ k, g k < 2000000 := fun k => by
    rw [hgi]
    have := sm_le (f := fun i => pdv K (lw j1) (lw j2) (k / 3) (k % 3) (l.getD i 0)) (b := 200) l.length (fun i _ => pdv_le hK)
    omega
  have hx : ∀ I' J', SC I I' → GH (I' 47 24) (I' 59) l N → ∀ (be mo : Int32) (l7 : Option Value), ((0 = 0 ∧ be = 0 ∧ mo = -1) ∨ ∃ b, isB g 0 b ∧ be = nI b ∧ mo = nI (g b)) → am_W X (d + 47) 262 26 [some (.ref 47), some (.int (nI j1)), some (.int (nI j2)), some (.int z), some (.int be), some (.int mo), some (.int 0), l7] [] (n, sl, t, I', J', F) Q := by
    refine lp0 (A := fun k => ∀ I' J', SC I I' → GH (I' 47 24) (I' 59) l N → ∀ (be mo : Int32) (l7 : Option Value), ((k = 0 ∧ be = 0 ∧ mo = -1) ∨ ∃ b, isB g k b ∧ be = nI b ∧ mo = nI (g b)) → am_W X (d + 47) 262 26 [some (.ref 47), some (.int (nI j1)), some (.int (nI j2)), some (.int z), some (.int be), some (.int mo), some (.int (nI k)), l7] [] (n, sl, t, I', J', F) Q) (N := 72) ?_ ?_
    · intro k hk ih I' J' hS hG' be mo l7 hb
      have z1 : k < 2000000 := by omega
      have z2 : ¬ 72 ≤ k := by omega
      have e2 : ¬ nI 3 = 0 := by decide
      have e3 : nI k / nI 3 = nI (k / 3) := pk_div (by omega) (by decide) (by decide)
      have e4 : nI k - nI (k / 3 * 3) = nI (k % 3) := by
        rw [← pk_mul, ← e3]
        exact pk_rem (by omega) (by decide) (by decide)
      rw [r262_26]
      simp only [↓r262_28, ↓r262_30, ↓r262_33, ↓r262_34, ↓r262_35, ↓r262_36, ↓r262_38, ↓r262_39, ↓r262_40, ↓r262_42, ↓r262_43, ↓r262_44, q_le, q_lt, q_eq, q_e0, q_e1, q_0e, q_1e, ps_n0, q_0le, q_le0, q_0lt, q_m1e, q_em1, e2, e3, e4, z1, z2, Bool.false_eq_true, hn, hn2, ht, hF, am_wt, am_wf, Option.isSome_some, am_rf_s, am_rf_n, ps_lit, nI_add, nI_1, pk_mul, ps_cl, ps_neg, ps_c0, ps_c1, ps_n01, ps_n11, ps_10, ps_b01, ps_e0, pu_Ine, pu_Ieq, pu_ne, pu_eq, am_k_n, am_k_i, am_k_r, am_k_u, am_k_l, am_sz_0, am_sz_i, am_sz_r, am_sz_u, am_sz_l, Option.toList_some, Option.toList_none, List.cons_append, List.nil_append, true_and, and_true, or_false, false_or, or_self, or_true, true_or, not_false_eq_true, not_true_eq_false, Classical.not_not, ne_eq, ps_e1, ps_em, ps_z, Nat.not_le, false_implies, true_implies, forall_const, ps_01, ps_1n, ps_0n, ps_m10, ps_m1n, lg_cmp_gt, lg_cmp_ge, lg_cmp_le, lg_cmp_lt, lg_cmp_eq, pu_rne, pu_req, pu_uro, RFc_n, Nat.reduceAdd, Nat.reduceMul, Nat.reduceLT, Nat.reduceLeDiff, Nat.reduceEqDiff, Nat.reduceSub]
      refine m_part (CX_sc hC hS (fun _ _ _ => rfl)) h1 h2 (by omega) (by omega) hG' (fun f47 f58 f63 g47 q1 q2 => ?_)
      rw [← hgi]
      have hG2 : GH (am_ro (am_ro (am_ro I' 47 f47) 58 f58) 63 f63 47 24) (am_ro (am_ro (am_ro I' 47 f47) 58 f58) 63 f63 59) l N := by
        rw [pu_rne (by decide), pu_rne (by decide), pu_req, pu_rne (by decide), pu_rne (by decide), pu_rne (by decide), q1 24 (by decide) (by decide) (by decide) (by decide)]
        exact hG'
      have hS2 := SC_t hS (SC_63 (f58 := f58) (f63 := f63) q1)
      generalize am_ro (am_ro (am_ro I' 47 f47) 58 f58) 63 f63 = I2 at hG2 hS2
      by_cases c : mo < nI (g k)
      · have ih' := ih I2 (am_ro J' 47 g47) hS2 hG2 (nI k) (nI (g k)) (some (.int (nI (g k)))) (Or.inr ⟨k, by
          rcases hb with ⟨b1, b2, b3⟩ | ⟨b, b1, b2, b3⟩
          · subst b1
            exact ⟨by omega, fun i hi => by obtain rfl : i = 0 := (by omega); exact ⟨Nat.le_refl _, fun q => absurd q (Nat.lt_irrefl _)⟩⟩
          · have := isB_s b1
            rw [if_pos (by rw [b3] at c; exact (nI_ltI (by have := hgb b; omega) (by have := hgb k; omega)).mp c)] at this
            exact this, rfl, rfl⟩)
        simp only [↓r262_47, ↓r262_49, ↓r262_51, ↓r262_53, ↓r262_56, ↓r262_59, ↓r262_61, ↓r262_63, ↓r262_65, ↓r262_67, ↓r262_70, c, Bool.false_eq_true, hn, hn2, ht, hF, am_wt, am_wf, Option.isSome_some, am_rf_s, am_rf_n, ps_lit, nI_add, nI_1, pk_mul, ps_cl, ps_neg, ps_c0, ps_c1, ps_n01, ps_n11, ps_10, ps_b01, ps_e0, pu_Ine, pu_Ieq, pu_ne, pu_eq, am_k_n, am_k_i, am_k_r, am_k_u, am_k_l, am_sz_0, am_sz_i, am_sz_r, am_sz_u, am_sz_l, Option.toList_some, Option.toList_none, List.cons_append, List.nil_append, true_and, and_true, or_false, false_or, or_self, or_true, true_or, not_false_eq_true, not_true_eq_false, Classical.not_not, ne_eq, ps_e1, ps_em, ps_z, Nat.not_le, false_implies, true_implies, forall_const, ps_01, ps_1n, ps_0n, ps_m10, ps_m1n, lg_cmp_gt, lg_cmp_ge, lg_cmp_le, lg_cmp_lt, lg_cmp_eq, pu_rne, pu_req, pu_uro, RFc_n, Nat.reduceAdd, Nat.reduceMul, Nat.reduceLT, Nat.reduceLeDiff, Nat.reduceEqDiff, Nat.reduceSub]
        exact ih'
      · have hb' : ∃ b, isB g k b ∧ be = nI b ∧ mo = nI (g b) := by
          rcases hb with ⟨b1, b2, b3⟩ | q
          · exact absurd (by
              rw [b3, Int32.lt_iff_toInt_lt, nI_toInt (by have := hgb k; omega)]
              have e : (-1 : Int32).toInt = -1 := by decide
              omega) c
          · exact q
        have ih' := ih I2 (am_ro J' 47 g47) hS2 hG2 be mo (some (.int (nI (g k)))) (Or.inr (by
          obtain ⟨b, b1, b2, b3⟩ := hb'
          have := isB_s b1
          rw [if_neg (fun q => c (by rw [b3]; exact nI_lt q (by have := hgb k; omega)))] at this
          exact ⟨b, this, b2, b3⟩))
        simp only [↓r262_47, ↓r262_49, ↓r262_51, ↓r262_53, ↓r262_56, ↓r262_59, ↓r262_61, ↓r262_63, ↓r262_65, ↓r262_67, ↓r262_70, c, Bool.false_eq_true, hn, hn2, ht, hF, am_wt, am_wf, Option.isSome_some, am_rf_s, am_rf_n, ps_lit, nI_add, nI_1, pk_mul, ps_cl, ps_neg, ps_c0, ps_c1, ps_n01, ps_n11, ps_10, ps_b01, ps_e0, pu_Ine, pu_Ieq, pu_ne, pu_eq, am_k_n, am_k_i, am_k_r, am_k_u, am_k_l, am_sz_0, am_sz_i, am_sz_r, am_sz_u, am_sz_l, Option.toList_some, Option.toList_none, List.cons_append, List.nil_append, true_and, and_true, or_false, false_or, or_self, or_true, true_or, not_false_eq_true, not_true_eq_false, Classical.not_not, ne_eq, ps_e1, ps_em, ps_z, Nat.not_le, false_implies, true_implies, forall_const, ps_01, ps_1n, ps_0n, ps_m10, ps_m1n, lg_cmp_gt, lg_cmp_ge, lg_cmp_le, lg_cmp_lt, lg_cmp_eq, pu_rne, pu_req, pu_uro, RFc_n, Nat.reduceAdd, Nat.reduceMul, Nat.reduceLT, Nat.reduceLeDiff, Nat.reduceEqDiff, Nat.reduceSub]
        exact ih'
    · intro I' J' hS hG' be mo l7 hb
      rw [r262_26]
      simp only [↓r262_28, ↓r262_30, ↓r262_73, ↓r262_75, Int32.le_refl, Bool.false_eq_true, hn, hn2, ht, hF, am_wt, am_wf, Option.isSome_some, am_rf_s, am_rf_n, ps_lit, nI_add, nI_1, pk_mul, ps_cl, ps_neg, ps_c0, ps_c1, ps_n01, ps_n11, ps_10, ps_b01, ps_e0, pu_Ine, pu_Ieq, pu_ne, pu_eq, am_k_n, am_k_i, am_k_r, am_k_u, am_k_l, am_sz_0, am_sz_i, am_sz_r, am_sz_u, am_sz_l, Option.toList_some, Option.toList_none, List.cons_append, List.nil_append, true_and, and_true, or_false, false_or, or_self, or_true, true_or, not_false_eq_true, not_true_eq_false, Classical.not_not, ne_eq, ps_e1, ps_em, ps_z, Nat.not_le, false_implies, true_implies, forall_const, ps_01, ps_1n, ps_0n, ps_m10, ps_m1n, lg_cmp_gt, lg_cmp_ge, lg_cmp_le, lg_cmp_lt, lg_cmp_eq, pu_rne, pu_req, pu_uro, RFc_n, Nat.reduceAdd, Nat.reduceMul, Nat.reduceLT, Nat.reduceLeDiff, Nat.reduceEqDiff, Nat.reduceSub]
      rcases hb with ⟨b1, _⟩ | ⟨b, b1, b2, b3⟩
      · omega
      · rw [b2, isB_u b1 hB]
        exact hQ _ _ hS
  exact hx I J (SC_r I) hG 0 (-1) none (Or.inl ⟨rfl, rfl, rfl⟩)
theorem pdv_w {l1 l2 : List CL} {wy wy' de de' c : Nat} (h1 : told l1 2 (wdt K c (nI wy) (nI de)) = told l1 2 (wdt K c (nI wy') (nI de'))) (h2 : told l2 2 (wdt K c (nI wy) (nI de)) = told l2 2 (wdt K c (nI wy') (nI de'))) : pdv K l1 l2 wy de c = pdv K l1 l2 wy' de' c := by
  unfold pdv wtV
  rw [h1, h2]
theorem pr_trial {x y g : Int32} {i : Nat} (hX : XS X) (hi : i < 600) (hV : Inv i (n, sl, t, I, J, F)) : PR X i 113 262 [some (.ref 0), some (.int x), some (.int y), some (.int g), none, none, none, none, none, none, none, none, none] [some (.ref 47), some (.int x), some (.int y), some (.int g), none, none, none, none] (n, sl, t, I, J, F) := by
  obtain ⟨N, T, lw, hC⟩ := CX_of hV; obtain ⟨hW, hK, _, ⟨hs, hc, hr, hu, hm⟩, hl⟩ := id hC; have hN := hK.1; obtain ⟨hn, hn2, ht, hF⟩ := id hW
  have hT := hK.2.1
  by_cases hgood : isT T x ∧ isT T y ∧ isG T g
  · obtain ⟨h1, h2, hg⟩ := hgood
    obtain ⟨j1, hj1, rfl⟩ := isT_c hT h1
    obtain ⟨j2, hj2, rfl⟩ := isT_c hT h2
    obtain ⟨a1, ea1, _, b1, t1, _⟩ := CX_law hC hj1
    obtain ⟨a2, ea2, _, b2, t2, _⟩ := CX_law hC hj2
    obtain ⟨k0, hk0⟩ := isB_ex (G := fun k => sm (fun i => pdv (I 49) (lw j1) (lw j2) (k / 3) (k % 3) ((grp (inG (I 49) lw g) N).getD i 0)) (grp (inG (I 49) lw g) N).length) 71
    obtain ⟨w1, hw1, iw1⟩ := k_hasw hC hj1 ea1 (k := 5) (by decide)
    obtain ⟨w2, hw2, iw2⟩ := k_hasw hC hj2 ea2 (k := 5) (by decide)
    obtain ⟨d1, hd1, id1⟩ := k_hasw hC hj1 ea1 (k := 8) (by decide)
    obtain ⟨d2, hd2, id2⟩ := k_hasw hC hj2 ea2 (k := 8) (by decide)
    refine PR_ask (v := nI k0) hi hV ?_ ?_
    · intro Q hQ
      simp only [↓r113_0, ↓r113_1, ↓r113_4, ↓r113_5, ↓r113_8, ↓r113_8n, ↓r113_10, ↓r113_11, ↓r113_14, ↓r113_15, ↓r113_18, ↓r113_18n, ↓r113_20, ↓r113_20n, ↓r113_22, ↓r113_22n, ↓r113_25, ↓r113_25n, ↓r113_27, ↓r113_27n, ↓r113_30, ↓r113_31, ↓r113_32, ↓r113_35, ↓r113_36, ↓k_law1 hC hj1 ea1, ↓k_law1 hC hj2 ea2, Bool.false_eq_true, hn, hn2, ht, hF, am_wt, am_wf, Option.isSome_some, am_rf_s, am_rf_n, ps_lit, nI_add, nI_1, pk_mul, ps_cl, ps_neg, ps_c0, ps_c1, ps_n01, ps_n11, ps_10, ps_b01, ps_e0, pu_Ine, pu_Ieq, pu_ne, pu_eq, am_k_n, am_k_i, am_k_r, am_k_u, am_k_l, am_sz_0, am_sz_i, am_sz_r, am_sz_u, am_sz_l, Option.toList_some, Option.toList_none, List.cons_append, List.nil_append, true_and, and_true, or_false, false_or, or_self, or_true, true_or, not_false_eq_true, not_true_eq_false, Classical.not_not, ne_eq, ps_e1, ps_em, ps_z, Nat.not_le, false_implies, true_implies, forall_const, ps_01, ps_1n, ps_0n, ps_m10, ps_m1n, lg_cmp_gt, lg_cmp_ge, lg_cmp_le, lg_cmp_lt, lg_cmp_eq, pu_rne, pu_req, pu_uro, RFc_n, Nat.reduceAdd, Nat.reduceMul, Nat.reduceLT, Nat.reduceLeDiff, Nat.reduceEqDiff, Nat.reduceSub]
      refine c_gather (Or.inl rfl) hC hg (fun f13 f14 => ?_)
      have s1 := SC_gather (I := I) (f13 := f13) (f14 := f14) (l := grp (inG (I 49) lw g) N) (Or.inl rfl)
      have hG1 := GH_c (I := I) (l := []) (f13 := f13) (f14 := f14) (g := 15) (p := inG (I 49) lw g) hN
      generalize gI (am_ro (am_ro I 13 f13) 14 f14) 15 (grp (inG (I 49) lw g) N) = I1 at s1 hG1
      have q1 := fun Q => hw1 X 58 Q sl J I1 s1
      have q2 := fun Q => hw2 X 58 Q sl J I1 s1
      have q3 := fun Q => hd1 X 58 Q sl J I1 s1
      have q4 := fun Q => hd2 X 58 Q sl J I1 s1
      simp only [show pw 5 = 5 from rfl, show pw 8 = 8 from rfl] at q1 q2 q3 q4
      have fin : ∀ W D : Nat, 0 < W → W ≤ 24 → 0 < D → D ≤ 3 → (W = 24 ∨ W = 1 ∧ w1 = false ∧ w2 = false) → (D = 3 ∨ D = 1 ∧ d1 = false ∧ d2 = false) → am_W X 59 113 106 [some (.ref 0), some (.int (nI j1)), some (.int (nI j2)), some (.int g), some (.ref a1), some (.ref a2), some (.int (nI W)), some (.int (nI D)), some (.int (-1)), some (.int (-1)), some (.int 0), none, none] [] (n, sl, t, I1, J, F) Q := by
        intro W D hW1 hW24 hD1 hD3 hWw hDd
        refine c_trial hC hj1 hj2 ea1 ea2 hW1 hW24 hD1 hD3 s1 hG1 (fun f13 f14 mo fo hB => ?_)
        have ef : fo = nI k0 := by
          rcases hB with ⟨h, _⟩ | ⟨w, d, c1, c2, c3, c4⟩
          · omega
          · rw [c3]
            congr 1
            refine isB_u ⟨by omega, fun i hi' => ?_⟩ hk0
            have ei : ∀ i, i < 72 → ∃ w' d', w' < W ∧ d' < D ∧ 3 * w' + d' ≤ i ∧ sm (fun k => pdv (I 49) (lw j1) (lw j2) (i / 3) (i % 3) ((grp (inG (I 49) lw g) N).getD k 0)) (grp (inG (I 49) lw g) N).length = sm (fun k => pdv (I 49) (lw j1) (lw j2) w' d' ((grp (inG (I 49) lw g) N).getD k 0)) (grp (inG (I 49) lw g) N).length := by
              intro i hi'
              have pickW : ∃ w', w' < W ∧ w' ≤ i / 3 ∧ ∀ de c, pdv (I 49) (lw j1) (lw j2) (i / 3) de c = pdv (I 49) (lw j1) (lw j2) w' de c := by
                rcases hWw with e | ⟨e, e1, e2⟩
                · exact ⟨i / 3, by omega, Nat.le_refl _, fun _ _ => rfl⟩
                · exact ⟨0, by omega, Nat.zero_le _, fun de c => pdv_w (iw1 e1 _ _ _ (fun q _ hq => by unfold wdt; rw [if_neg hq, if_neg hq])) (iw2 e2 _ _ _ (fun q _ hq => by unfold wdt; rw [if_neg hq, if_neg hq]))⟩
              have pickD : ∃ d', d' < D ∧ d' ≤ i % 3 ∧ ∀ wy c, pdv (I 49) (lw j1) (lw j2) wy (i % 3) c = pdv (I 49) (lw j1) (lw j2) wy d' c := by
                rcases hDd with e | ⟨e, e1, e2⟩
                · exact ⟨i % 3, by omega, Nat.le_refl _, fun _ _ => rfl⟩
                · exact ⟨0, by omega, Nat.zero_le _, fun wy c => pdv_w (id1 e1 _ _ _ (fun q _ hq => by unfold wdt; rw [if_neg hq, if_neg hq])) (id2 e2 _ _ _ (fun q _ hq => by unfold wdt; rw [if_neg hq, if_neg hq]))⟩
              obtain ⟨w', p1, p2, p3⟩ := pickW
              obtain ⟨d', p4, p5, p6⟩ := pickD
              exact ⟨w', d', p1, p4, by omega, sm_c _ (fun k _ => by rw [p3, p6])⟩
            have e1 : (3 * w + d) / 3 = w := by omega
            have e2 : (3 * w + d) % 3 = d := by omega
            obtain ⟨w', d', p1, p2, p3, p4⟩ := ei i hi'
            have := c4 w' d' p2 (Or.inl p1)
            dsimp only at this ⊢
            rw [e1, e2, p4]
            exact ⟨this.1, fun q => this.2 (by omega)⟩
        rw [ef]
        exact hQ _ ⟨rfl, rfl, rfl, SC_13 s1, fun _ _ _ => rfl⟩
      have c24 : (24 : Nat) ≤ 24 := by decide
      cases w1 <;> cases w2 <;> cases d1 <;> cases d2 <;> simp only [↓r113_39, ↓r113_42, ↓r113_43, ↓r113_44, ↓r113_44n, ↓r113_46, ↓r113_47, ↓r113_50, ↓r113_53, ↓r113_53n, ↓r113_55, ↓r113_56, ↓r113_59, ↓r113_62, ↓r113_64, ↓r113_67, ↓r113_68, ↓r113_70, ↓r113_70n, ↓r113_72, ↓r113_74, ↓r113_77, ↓r113_80, ↓r113_80n, ↓r113_82, ↓r113_84, ↓r113_87, ↓r113_90, ↓r113_91, ↓r113_94, ↓r113_95, ↓r113_97, ↓r113_98, ↓r113_100, ↓r113_101, ↓r113_103, ↓r113_104, ↓q1, ↓q2, ↓q3, ↓q4, b1, b2, t1, t2, if_true, if_false, Bool.false_eq_true, hn, hn2, ht, hF, am_wt, am_wf, Option.isSome_some, am_rf_s, am_rf_n, ps_lit, nI_add, nI_1, pk_mul, ps_cl, ps_neg, ps_c0, ps_c1, ps_n01, ps_n11, ps_10, ps_b01, ps_e0, pu_Ine, pu_Ieq, pu_ne, pu_eq, am_k_n, am_k_i, am_k_r, am_k_u, am_k_l, am_sz_0, am_sz_i, am_sz_r, am_sz_u, am_sz_l, Option.toList_some, Option.toList_none, List.cons_append, List.nil_append, true_and, and_true, or_false, false_or, or_self, or_true, true_or, not_false_eq_true, not_true_eq_false, Classical.not_not, ne_eq, ps_e1, ps_em, ps_z, Nat.not_le, false_implies, true_implies, forall_const, ps_01, ps_1n, ps_0n, ps_m10, ps_m1n, lg_cmp_gt, lg_cmp_ge, lg_cmp_le, lg_cmp_lt, lg_cmp_eq, pu_rne, pu_req, pu_uro, RFc_n, Nat.reduceAdd, Nat.reduceMul, Nat.reduceLT, Nat.reduceLeDiff, Nat.reduceEqDiff, Nat.reduceSub]
      · exact fin 1 1 (by decide) (by decide) (by decide) (by decide) (Or.inr ⟨rfl, rfl, rfl⟩) (Or.inr ⟨rfl, rfl, rfl⟩)
      · exact fin 1 3 (by decide) (by decide) (by decide) (by decide) (Or.inr ⟨rfl, rfl, rfl⟩) (Or.inl rfl)
      · exact fin 1 3 (by decide) (by decide) (by decide) (by decide) (Or.inr ⟨rfl, rfl, rfl⟩) (Or.inl rfl)
      · exact fin 1 3 (by decide) (by decide) (by decide) (by decide) (Or.inr ⟨rfl, rfl, rfl⟩) (Or.inl rfl)
      · exact fin 24 1 (by decide) (by decide) (by decide) (by decide) (Or.inl rfl) (Or.inr ⟨rfl, rfl, rfl⟩)
      · exact fin 24 3 (by decide) (by decide) (by decide) (by decide) (Or.inl rfl) (Or.inl rfl)
      · exact fin 24 3 (by decide) (by decide) (by decide) (by decide) (Or.inl rfl) (Or.inl rfl)
      · exact fin 24 3 (by decide) (by decide) (by decide) (by decide) (Or.inl rfl) (Or.inl rfl)
      · exact fin 24 1 (by decide) (by decide) (by decide) (by decide) (Or.inl rfl) (Or.inr ⟨rfl, rfl, rfl⟩)
      · exact fin 24 3 (by decide) (by decide) (by decide) (by decide) (Or.inl rfl) (Or.inl rfl)
      · exact fin 24 3 (by decide) (by decide) (by decide) (by decide) (Or.inl rfl) (Or.inl rfl)
      · exact fin 24 3 (by decide) (by decide) (by decide) (by decide) (Or.inl rfl) (Or.inl rfl)
      · exact fin 24 1 (by decide) (by decide) (by decide) (by decide) (Or.inl rfl) (Or.inr ⟨rfl, rfl, rfl⟩)
      · exact fin 24 3 (by decide) (by decide) (by decide) (by decide) (Or.inl rfl) (Or.inl rfl)
      · exact fin 24 3 (by decide) (by decide) (by decide) (by decide) (Or.inl rfl) (Or.inl rfl)
      · exact fin 24 3 (by decide) (by decide) (by decide) (by decide) (Or.inl rfl) (Or.inl rfl)
    · rintro ⟨n', sl', t', I', J', F'⟩ ⟨e1, e2, e3, e4, e5⟩; dsimp only at e1 e2 e3 e4 e5; subst e1; subst e2; subst e3; have hC' := CX_sc hC e4 e5; obtain ⟨hn, hn2, ht, hF⟩ := id hC'.1; intro Q hQ
      simp only [↓r262_0, ↓r262_1, ↓r262_2, ↓r262_3, ↓r262_4, ↓r262_7, ↓r262_10, ↓r262_11, ↓r262_12, ↓r262_13, ↓r262_14, ↓m_areAsked1 hC' hj1 hj2 hg, Bool.false_eq_true, hn, hn2, ht, hF, am_wt, am_wf, Option.isSome_some, am_rf_s, am_rf_n, ps_lit, nI_add, nI_1, pk_mul, ps_cl, ps_neg, ps_c0, ps_c1, ps_n01, ps_n11, ps_10, ps_b01, ps_e0, pu_Ine, pu_Ieq, pu_ne, pu_eq, am_k_n, am_k_i, am_k_r, am_k_u, am_k_l, am_sz_0, am_sz_i, am_sz_r, am_sz_u, am_sz_l, Option.toList_some, Option.toList_none, List.cons_append, List.nil_append, true_and, and_true, or_false, false_or, or_self, or_true, true_or, not_false_eq_true, not_true_eq_false, Classical.not_not, ne_eq, ps_e1, ps_em, ps_z, Nat.not_le, false_implies, true_implies, forall_const, ps_01, ps_1n, ps_0n, ps_m10, ps_m1n, lg_cmp_gt, lg_cmp_ge, lg_cmp_le, lg_cmp_lt, lg_cmp_eq, pu_rne, pu_req, pu_uro, RFc_n, Nat.reduceAdd, Nat.reduceMul, Nat.reduceLT, Nat.reduceLeDiff, Nat.reduceEqDiff, Nat.reduceSub]
      refine s_gathers hC' hg (fun f47 f58 g47 q1 q2 => ?_)
      have s2 := SC_gathers (f58 := f58) (r := ro_g (I' 59) (grp (inG (I 49) lw g) N)) q1
      have hC1 := CX_sc hC' s2 (fun _ _ _ => rfl)
      have hG1 := GH_m (I := I') (f58 := f58) (r := I' 59) hN q2
      generalize am_ro (am_ro (am_ro I' 47 f47) 58 f58) 59 (ro_g (I' 59) (grp (inG (I 49) lw g) N)) = I1 at s2 hC1 hG1
      simp only [↓r262_17, ↓r262_18, ↓r262_20, ↓r262_21, ↓r262_23, ↓r262_24, Bool.false_eq_true, hn, hn2, ht, hF, am_wt, am_wf, Option.isSome_some, am_rf_s, am_rf_n, ps_lit, nI_add, nI_1, pk_mul, ps_cl, ps_neg, ps_c0, ps_c1, ps_n01, ps_n11, ps_10, ps_b01, ps_e0, pu_Ine, pu_Ieq, pu_ne, pu_eq, am_k_n, am_k_i, am_k_r, am_k_u, am_k_l, am_sz_0, am_sz_i, am_sz_r, am_sz_u, am_sz_l, Option.toList_some, Option.toList_none, List.cons_append, List.nil_append, true_and, and_true, or_false, false_or, or_self, or_true, true_or, not_false_eq_true, not_true_eq_false, Classical.not_not, ne_eq, ps_e1, ps_em, ps_z, Nat.not_le, false_implies, true_implies, forall_const, ps_01, ps_1n, ps_0n, ps_m10, ps_m1n, lg_cmp_gt, lg_cmp_ge, lg_cmp_le, lg_cmp_lt, lg_cmp_eq, pu_rne, pu_req, pu_uro, RFc_n, Nat.reduceAdd, Nat.reduceMul, Nat.reduceLT, Nat.reduceLeDiff, Nat.reduceEqDiff, Nat.reduceSub]
      exact m_trial hC1 hj1 hj2 hG1 hk0 (fun I2 J2 s3 => hQ _ ⟨rfl, rfl, rfl, SC_t s2 s3, fun _ _ _ => rfl⟩)
  · refine PR_ask (v := -1) hi hV ?_ ?_
    · intro Q hQ
      have fin := hQ _ SCH_r
      by_cases h1 : isT T x
      · obtain ⟨j1, hj1, rfl⟩ := isT_c hT h1
        obtain ⟨a1, ea1, _, b1, t1, _⟩ := CX_law hC hj1
        by_cases h2 : isT T y
        · obtain ⟨j2, hj2, rfl⟩ := isT_c hT h2
          obtain ⟨a2, ea2, _, b2, t2, _⟩ := CX_law hC hj2
          have h5 : ¬ isG T g := fun q => hgood ⟨h1, h2, q⟩
          simp only [↓r113_0, ↓r113_1, ↓r113_4, ↓r113_5, ↓r113_8, ↓r113_8n, ↓r113_10, ↓r113_11, ↓r113_14, ↓r113_15, ↓r113_18, ↓r113_18n, ↓r113_20, ↓r113_20n, ↓r113_22, ↓r113_22n, ↓r113_25, ↓r113_25n, ↓r113_27, ↓r113_27n, ↓r113_30, ↓r113_31, ↓r113_32, ↓r113_35, ↓r113_36, ↓r113_39, ↓r113_42, ↓r113_43, ↓k_law1 hC hj1 ea1, ↓k_law1 hC hj2 ea2, ↓c_gather0 hC h5, Bool.false_eq_true, hn, hn2, ht, hF, am_wt, am_wf, Option.isSome_some, am_rf_s, am_rf_n, ps_lit, nI_add, nI_1, pk_mul, ps_cl, ps_neg, ps_c0, ps_c1, ps_n01, ps_n11, ps_10, ps_b01, ps_e0, pu_Ine, pu_Ieq, pu_ne, pu_eq, am_k_n, am_k_i, am_k_r, am_k_u, am_k_l, am_sz_0, am_sz_i, am_sz_r, am_sz_u, am_sz_l, Option.toList_some, Option.toList_none, List.cons_append, List.nil_append, true_and, and_true, or_false, false_or, or_self, or_true, true_or, not_false_eq_true, not_true_eq_false, Classical.not_not, ne_eq, ps_e1, ps_em, ps_z, Nat.not_le, false_implies, true_implies, forall_const, ps_01, ps_1n, ps_0n, ps_m10, ps_m1n, lg_cmp_gt, lg_cmp_ge, lg_cmp_le, lg_cmp_lt, lg_cmp_eq, pu_rne, pu_req, pu_uro, RFc_n, Nat.reduceAdd, Nat.reduceMul, Nat.reduceLT, Nat.reduceLeDiff, Nat.reduceEqDiff, Nat.reduceSub]
          exact fin
        · simp only [↓r113_0, ↓r113_1, ↓r113_4, ↓r113_5, ↓r113_8, ↓r113_8n, ↓r113_10, ↓r113_11, ↓r113_14, ↓r113_15, ↓r113_18, ↓r113_18n, ↓r113_20, ↓r113_20n, ↓r113_22, ↓r113_22n, ↓r113_25, ↓r113_25n, ↓r113_27, ↓r113_27n, ↓r113_30, ↓r113_31, ↓r113_32, ↓r113_35, ↓r113_36, ↓r113_39, ↓r113_42, ↓r113_43, ↓k_law1 hC hj1 ea1, ↓k_law0 hC h2, Bool.false_eq_true, hn, hn2, ht, hF, am_wt, am_wf, Option.isSome_some, am_rf_s, am_rf_n, ps_lit, nI_add, nI_1, pk_mul, ps_cl, ps_neg, ps_c0, ps_c1, ps_n01, ps_n11, ps_10, ps_b01, ps_e0, pu_Ine, pu_Ieq, pu_ne, pu_eq, am_k_n, am_k_i, am_k_r, am_k_u, am_k_l, am_sz_0, am_sz_i, am_sz_r, am_sz_u, am_sz_l, Option.toList_some, Option.toList_none, List.cons_append, List.nil_append, true_and, and_true, or_false, false_or, or_self, or_true, true_or, not_false_eq_true, not_true_eq_false, Classical.not_not, ne_eq, ps_e1, ps_em, ps_z, Nat.not_le, false_implies, true_implies, forall_const, ps_01, ps_1n, ps_0n, ps_m10, ps_m1n, lg_cmp_gt, lg_cmp_ge, lg_cmp_le, lg_cmp_lt, lg_cmp_eq, pu_rne, pu_req, pu_uro, RFc_n, Nat.reduceAdd, Nat.reduceMul, Nat.reduceLT, Nat.reduceLeDiff, Nat.reduceEqDiff, Nat.reduceSub]
          exact fin
      · by_cases h2 : isT T y
        · obtain ⟨j2, hj2, rfl⟩ := isT_c hT h2
          obtain ⟨a2, ea2, _, b2, t2, _⟩ := CX_law hC hj2
          simp only [↓r113_0, ↓r113_1, ↓r113_4, ↓r113_5, ↓r113_8, ↓r113_8n, ↓r113_10, ↓r113_11, ↓r113_14, ↓r113_15, ↓r113_18, ↓r113_18n, ↓r113_20, ↓r113_20n, ↓r113_22, ↓r113_22n, ↓r113_25, ↓r113_25n, ↓r113_27, ↓r113_27n, ↓r113_30, ↓r113_31, ↓r113_32, ↓r113_35, ↓r113_36, ↓r113_39, ↓r113_42, ↓r113_43, ↓k_law0 hC h1, ↓k_law1 hC hj2 ea2, Bool.false_eq_true, hn, hn2, ht, hF, am_wt, am_wf, Option.isSome_some, am_rf_s, am_rf_n, ps_lit, nI_add, nI_1, pk_mul, ps_cl, ps_neg, ps_c0, ps_c1, ps_n01, ps_n11, ps_10, ps_b01, ps_e0, pu_Ine, pu_Ieq, pu_ne, pu_eq, am_k_n, am_k_i, am_k_r, am_k_u, am_k_l, am_sz_0, am_sz_i, am_sz_r, am_sz_u, am_sz_l, Option.toList_some, Option.toList_none, List.cons_append, List.nil_append, true_and, and_true, or_false, false_or, or_self, or_true, true_or, not_false_eq_true, not_true_eq_false, Classical.not_not, ne_eq, ps_e1, ps_em, ps_z, Nat.not_le, false_implies, true_implies, forall_const, ps_01, ps_1n, ps_0n, ps_m10, ps_m1n, lg_cmp_gt, lg_cmp_ge, lg_cmp_le, lg_cmp_lt, lg_cmp_eq, pu_rne, pu_req, pu_uro, RFc_n, Nat.reduceAdd, Nat.reduceMul, Nat.reduceLT, Nat.reduceLeDiff, Nat.reduceEqDiff, Nat.reduceSub]
          exact fin
        · simp only [↓r113_0, ↓r113_1, ↓r113_4, ↓r113_5, ↓r113_8, ↓r113_8n, ↓r113_10, ↓r113_11, ↓r113_14, ↓r113_15, ↓r113_18, ↓r113_18n, ↓r113_20, ↓r113_20n, ↓r113_22, ↓r113_22n, ↓r113_25, ↓r113_25n, ↓r113_27, ↓r113_27n, ↓r113_30, ↓r113_31, ↓r113_32, ↓r113_35, ↓r113_36, ↓r113_39, ↓r113_42, ↓r113_43, ↓k_law0 hC h1, ↓k_law0 hC h2, Bool.false_eq_true, hn, hn2, ht, hF, am_wt, am_wf, Option.isSome_some, am_rf_s, am_rf_n, ps_lit, nI_add, nI_1, pk_mul, ps_cl, ps_neg, ps_c0, ps_c1, ps_n01, ps_n11, ps_10, ps_b01, ps_e0, pu_Ine, pu_Ieq, pu_ne, pu_eq, am_k_n, am_k_i, am_k_r, am_k_u, am_k_l, am_sz_0, am_sz_i, am_sz_r, am_sz_u, am_sz_l, Option.toList_some, Option.toList_none, List.cons_append, List.nil_append, true_and, and_true, or_false, false_or, or_self, or_true, true_or, not_false_eq_true, not_true_eq_false, Classical.not_not, ne_eq, ps_e1, ps_em, ps_z, Nat.not_le, false_implies, true_implies, forall_const, ps_01, ps_1n, ps_0n, ps_m10, ps_m1n, lg_cmp_gt, lg_cmp_ge, lg_cmp_le, lg_cmp_lt, lg_cmp_eq, pu_rne, pu_req, pu_uro, RFc_n, Nat.reduceAdd, Nat.reduceMul, Nat.reduceLT, Nat.reduceLeDiff, Nat.reduceEqDiff, Nat.reduceSub]
          exact fin
    · rintro ⟨n', sl', t', I', J', F'⟩ ⟨e1, e2, e3, e4, e5⟩; dsimp only at e1 e2 e3 e4 e5; subst e1; subst e2; subst e3; have hC' := CX_sc hC e4 e5; obtain ⟨hn, hn2, ht, hF⟩ := id hC'.1; intro Q hQ
      simp only [↓r262_0, ↓r262_1, ↓r262_2, ↓r262_3, ↓r262_4, ↓r262_7, ↓r262_10, ↓r262_11, ↓m_areAsked0 hC' hgood, Bool.false_eq_true, hn, hn2, ht, hF, am_wt, am_wf, Option.isSome_some, am_rf_s, am_rf_n, ps_lit, nI_add, nI_1, pk_mul, ps_cl, ps_neg, ps_c0, ps_c1, ps_n01, ps_n11, ps_10, ps_b01, ps_e0, pu_Ine, pu_Ieq, pu_ne, pu_eq, am_k_n, am_k_i, am_k_r, am_k_u, am_k_l, am_sz_0, am_sz_i, am_sz_r, am_sz_u, am_sz_l, Option.toList_some, Option.toList_none, List.cons_append, List.nil_append, true_and, and_true, or_false, false_or, or_self, or_true, true_or, not_false_eq_true, not_true_eq_false, Classical.not_not, ne_eq, ps_e1, ps_em, ps_z, Nat.not_le, false_implies, true_implies, forall_const, ps_01, ps_1n, ps_0n, ps_m10, ps_m1n, lg_cmp_gt, lg_cmp_ge, lg_cmp_le, lg_cmp_lt, lg_cmp_eq, pu_rne, pu_req, pu_uro, RFc_n, Nat.reduceAdd, Nat.reduceMul, Nat.reduceLT, Nat.reduceLeDiff, Nat.reduceEqDiff, Nat.reduceSub]
      exact hQ _ SCH_r
end TL
