/-! calls, one on each side: run, the class's world -/
section RV2
variable {X : am_X} {d : Nat} {Q : Option Value → am_H → Prop} {n sl : Nat} {t : Nat → Nat × Nat} {I : Nat → Nat → Int32} {J : Nat → Nat → Int64} {F : Nat → Nat → Option Nat} {h : am_H}
variable {K : Nat → Int32} {N T : Nat} {lw : Nat → List CL}
/-- the words of a child whose waiting was drawn -/
def wdr (K : Nat → Int32) (c w : Nat) : Nat → Int32 := fun k => if k = 10 then nI (10 * w) else wd K c 0 k
theorem wdr_WV {c w : Nat} (hK : KW K N T) (hc : c < N) (hw : w ≤ 20) : WV (wdr K c w) := by
  intro k hk
  unfold wdr
  split
  · exact ⟨10 * w, by omega, rfl⟩
  · exact wd_WV hK hc (mi := 0) (by omega) k hk
/-- the chance of a child in a minute -/
def chm (K : Nat → Int32) (l : List CL) (c : Nat) : Nat → Nat := fun m => chV l (wd K c (nI m))
/-- the seed ahead of a child -/
def rsd (K : Nat → Int32) (l : List CL) (E q0 : Nat) : Nat → Nat
  | 0 => q0
  | c + 1 => (wout (chm K l c) E 0 (rsd K l E q0 c)).2
def rwt (K : Nat → Int32) (l : List CL) (E q0 c : Nat) : Nat := (wout (chm K l c) E 0 (rsd K l E q0 c)).1
def rla (K : Nat → Int32) (l : List CL) (E q0 c : Nat) : Nat := laV l (wdr K c (rwt K l E q0 c))
theorem rsd_lt {l : List CL} {E q0 : Nat} (h : q0 < 1000003) : ∀ c, rsd K l E q0 c < 1000003 := by
  intro c
  induction c with
  | zero => exact h
  | succ c ih => exact wout_q _ _ _ ih
theorem rwt_le {l : List CL} {E q0 c : Nat} : rwt K l E q0 c ≤ E := by
  have := (wout_le (ch := chm K l c) E 0 (rsd K l E q0 c)).2
  unfold rwt
  omega
def tlr (f : Nat → Int32) (a b e : Nat → Int32) (c : Nat) : Nat → Int32 := fun i => if i < 3 * c then (if i % 3 = 0 then a (i / 3) else if i % 3 = 1 then b (i / 3) else e (i / 3)) else f i
theorem tlr_s {f a b e : Nat → Int32} {c : Nat} : upd (upd (upd (tlr f a b e c) (3 * c) (a c)) (3 * c + 1) (b c)) (3 * c + 2) (e c) = tlr f a b e (c + 1) := by
  funext i
  unfold upd tlr
  by_cases h2 : i = 3 * c + 2
  · rw [if_pos h2, if_pos (show i < 3 * (c + 1) by omega), if_neg (by omega), if_neg (by omega), show i / 3 = c by omega]
  · rw [if_neg h2]
    by_cases h1 : i = 3 * c + 1
    · rw [if_pos h1, if_pos (show i < 3 * (c + 1) by omega), if_neg (by omega), if_pos (by omega), show i / 3 = c by omega]
    · rw [if_neg h1]
      by_cases h0 : i = 3 * c
      · rw [if_pos h0, if_pos (show i < 3 * (c + 1) by omega), if_pos (by omega), show i / 3 = c by omega]
      · rw [if_neg h0]
        by_cases h : i < 3 * c
        · rw [if_pos h, if_pos (show i < 3 * (c + 1) by omega)]
        · rw [if_neg h, if_neg (show ¬ i < 3 * (c + 1) by omega)]
theorem tlr_0 {f a b e : Nat → Int32} : tlr f a b e 0 = f := by
  funext i
  unfold tlr
  rw [if_neg (by omega)]
theorem cl_play {j a E q0 : Nat} {I1 : Nat → Nat → Int32} (hC : CX n t I F K N T lw) (hj : j < T) (ha : F 5 j = some a) (hE : E ≤ 20) (hq : q0 < 1000003) (hS : ∀ s, 73 ≤ s → I1 s = I s) (h41 : I1 41 2 = nI N) (h42 : ∀ i, i < 15 * N → I1 42 i = K i)
    (hQ : ∀ f13 f14, Q (some (.int (nI (cnt (fun k => decide (E ≤ rwt K (lw j) E q0 k)) N)))) (n, sl, t, am_ro (am_ro (am_ro (am_ro I1 13 f13) 14 f14) 43 (tlr (I1 43) (fun k => nI (rwt K (lw j) E q0 k)) (fun k => if rwt K (lw j) E q0 k < E then 1 else 0) (fun k => nI (rla K (lw j) E q0 k)) N)) 44 (upd (I1 44) 0 (nI (rsd K (lw j) E q0 N))), J, F)) :
    ∀ f13 f14, ∀ l8 : Option Value, am_W X (d + 7) 150 45 [some (.ref 41), some (.ref 1), some (.ref a), some (.ref 12), some (.ref 44), some (.int (nI E)), some (.int 0), some (.int 0), l8] [] (n, sl, t, am_ro (am_ro (am_ro (am_ro I1 13 f13) 14 f14) 43 (tlr (I1 43) (fun k => nI (rwt K (lw j) E q0 k)) (fun k => if rwt K (lw j) E q0 k < E then 1 else 0) (fun k => nI (rla K (lw j) E q0 k)) 0)) 44 (upd (I1 44) 0 (nI (rsd K (lw j) E q0 0))), J, F) Q := by
  have hW := hC.1
  obtain ⟨hn, hn2, ht, hF⟩ := id hW
  have hK := hC.2.1
  have hN := hK.1
  obtain ⟨_, ea, a1, a2, ta, _⟩ := CX_law hC hj
  rw [ha] at ea
  cases ea
  refine lp0 (A := fun c => ∀ f13 f14, ∀ l8 : Option Value, am_W X (d + 7) 150 45 [some (.ref 41), some (.ref 1), some (.ref a), some (.ref 12), some (.ref 44), some (.int (nI E)), some (.int (nI (cnt (fun k => decide (E ≤ rwt K (lw j) E q0 k)) c))), some (.int (nI c)), l8] [] (n, sl, t, am_ro (am_ro (am_ro (am_ro I1 13 f13) 14 f14) 43 (tlr (I1 43) (fun k => nI (rwt K (lw j) E q0 k)) (fun k => if rwt K (lw j) E q0 k < E then 1 else 0) (fun k => nI (rla K (lw j) E q0 k)) c)) 44 (upd (I1 44) 0 (nI (rsd K (lw j) E q0 c))), J, F) Q) (N := N) ?_ ?_
  · intro c hc ih f13 f14 l8
    have z1 : c < 2000000 ∧ N < 2000000 ∧ E < 2000000 ∧ 3 * c < 2000000 ∧ 3 * c < 360 ∧ 3 * c + 1 < 2000000 ∧ 3 * c + 1 < 360 ∧ 3 * c + 2 < 2000000 ∧ 3 * c + 2 < 360 ∧ 3 * c < 1999999 ∧ 3 * c < 1999998 ∧ 3 * c < 359 ∧ 3 * c < 358 := by omega
    have z2 : ¬ N ≤ c := by omega
    have z3 : ¬ 120 ≤ c := by omega
    have e0 : c * 3 = 3 * c := by omega
    have hqc := rsd_lt (K := K) (l := lw j) (E := E) hq c
    have hwE := rwt_le (K := K) (l := lw j) (E := E) (q0 := q0) (c := c)
    have zw : rwt K (lw j) E q0 c < 2000000 := by omega
    generalize htl : tlr (I1 43) (fun k => nI (rwt K (lw j) E q0 k)) (fun k => if rwt K (lw j) E q0 k < E then 1 else 0) (fun k => nI (rla K (lw j) E q0 k)) c = tl at *
    have ea2 := fun Q => c_ask42 (X := X) (d := d + 5) (Q := Q) (sl := sl) (J := J) (I := am_ro (am_ro (am_ro (am_ro I1 13 f13) 14 f14) 43 tl) 44 (upd (I1 44) 0 (nI (rsd K (lw j) E q0 c)))) (c := c) hW (by omega)
    have h13 : ∀ k, k < 11 → k ≠ 9 → upd (va_cpy (I1 42) f13 (15 * c) 0 10) 10 0 (pw k) = wd K c 0 k := fun k hk hk9 => by
      rw [ask_r _ _ _ _ hk]
      unfold wd
      by_cases k1 : k < 9
      · rw [if_pos k1, if_pos k1, h42 _ (by omega)]
      · rw [if_neg k1, if_neg k1, if_neg hk9, if_neg hk9, h42 _ (by omega)]
    rw [r150_45]
    simp only [↓r150_47, ↓r150_48, ↓r150_51, ↓r150_54, ↓r150_56, ↓r150_58, ↓r150_61, ↓r150_61n, ↓r150_62, ↓r150_63, ↓r150_66, ↓r150_68, ↓r150_71, ↓r150_71n, ↓r150_72, ↓r150_74, ↓r150_74n, ↓r150_75, ↓r150_75n, ↓r150_77, ↓ea2, q_le, q_lt, q_eq, q_e0, q_e1, q_0e, q_1e, ps_n0, q_0le, q_le0, q_0lt, q_m1e, q_em1, h41, z1, z2, z3, a2, ta, pu_rol, pu_ror, Bool.false_eq_true, hn, hn2, ht, hF, am_wt, am_wf, Option.isSome_some, am_rf_s, am_rf_n, ps_lit, nI_add, nI_1, pk_mul, ps_cl, ps_neg, ps_c0, ps_c1, ps_n01, ps_n11, ps_10, ps_b01, ps_e0, pu_Ine, pu_Ieq, pu_ne, pu_eq, am_k_n, am_k_i, am_k_r, am_k_u, am_k_l, am_sz_0, am_sz_i, am_sz_r, am_sz_u, am_sz_l, Option.toList_some, Option.toList_none, List.cons_append, List.nil_append, true_and, and_true, or_false, false_or, or_self, or_true, true_or, not_false_eq_true, not_true_eq_false, Classical.not_not, ne_eq, ps_e1, ps_em, ps_z, Nat.not_le, false_implies, true_implies, forall_const, ps_01, ps_1n, ps_0n, ps_m10, ps_m1n, lg_cmp_gt, lg_cmp_ge, lg_cmp_le, lg_cmp_lt, lg_cmp_eq, pu_rne, pu_req, pu_uro, RFc_n, Nat.reduceAdd, Nat.reduceMul, Nat.reduceLT, Nat.reduceLeDiff, Nat.reduceEqDiff, Nat.reduceSub]
    generalize hrow : upd (va_cpy (I1 42) f13 (15 * c) 0 10) 10 0 = row at h13
    have hI' : am_ro (am_ro (am_ro (am_ro I1 13 row) 14 f14) 43 tl) 44 (upd (I1 44) 0 (nI (rsd K (lw j) E q0 c))) = am_ro (am_ro (am_ro (am_ro (am_ro (am_ro I1 13 row) 14 f14) 43 tl) 13 row) 14 f14) 44 (upd ((am_ro (am_ro (am_ro I1 13 row) 14 f14) 43 tl) 44) 0 (nI (rsd K (lw j) E q0 c))) := by
      simp only [pu_rol, pu_ror, pu_rne, ne_eq, not_false_eq_true, Nat.reduceAdd, Nat.reduceMul, Nat.reduceLT, Nat.reduceLeDiff, Nat.reduceEqDiff, Nat.reduceSub]
    have hwo := c_waitOut (X := X) (d := d) (Q := fun v h' => am_W X (d + 7) 150 80 [some (.ref 41), some (.ref 1), some (.ref a), some (.ref 12), some (.ref 44), some (.int (nI E)), some (.int (nI (cnt (fun k => decide (E ≤ rwt K (lw j) E q0 k)) c))), some (.int (nI c)), l8] (v.toList ++ []) h' Q) (sl := sl) (J := J) (I' := am_ro (am_ro (am_ro I1 13 row) 14 f14) 43 tl) hC hj ha hc hE (fun s hs => by rw [pu_rne (by omega), pu_rne (by omega), pu_rne (by omega)]; exact hS s hs) (fun k hk hk9 => by rw [pu_rne (by decide), pu_rne (by decide), pu_req]; exact h13 k hk hk9) E 0 (rsd K (lw j) E q0 c) (by omega) hqc row f14 (fun k _ => by rw [pu_rne (by decide), pu_rne (by decide), pu_req]) (fun g13 g14 hg => ?_)
    · simp only [↓r151_0, ↓r151_1, Bool.false_eq_true, hn, hn2, ht, hF, am_wt, am_wf, Option.isSome_some, am_rf_s, am_rf_n, ps_lit, nI_add, nI_1, pk_mul, ps_cl, ps_neg, ps_c0, ps_c1, ps_n01, ps_n11, ps_10, ps_b01, ps_e0, pu_Ine, pu_Ieq, pu_ne, pu_eq, am_k_n, am_k_i, am_k_r, am_k_u, am_k_l, am_sz_0, am_sz_i, am_sz_r, am_sz_u, am_sz_l, Option.toList_some, Option.toList_none, List.cons_append, List.nil_append, true_and, and_true, or_false, false_or, or_self, or_true, true_or, not_false_eq_true, not_true_eq_false, Classical.not_not, ne_eq, ps_e1, ps_em, ps_z, Nat.not_le, false_implies, true_implies, forall_const, ps_01, ps_1n, ps_0n, ps_m10, ps_m1n, lg_cmp_gt, lg_cmp_ge, lg_cmp_le, lg_cmp_lt, lg_cmp_eq, pu_rne, pu_req, pu_uro, RFc_n, Nat.reduceAdd, Nat.reduceMul, Nat.reduceLT, Nat.reduceLeDiff, Nat.reduceEqDiff, Nat.reduceSub]
      rw [hI']
      exact hwo
    · have hg' : ∀ k, k ≠ 10 → g13 k = row k := fun k hk => by
        have := hg k hk
        rw [pu_rne (by decide), pu_rne (by decide), pu_req] at this
        exact this
      have x1 : (wout (fun m => chV (lw j) (wd K c (nI m))) E 0 (rsd K (lw j) E q0 c)).1 = rwt K (lw j) E q0 c := rfl
      have x2 : (wout (fun m => chV (lw j) (wd K c (nI m))) E 0 (rsd K (lw j) E q0 c)).2 = rsd K (lw j) E q0 (c + 1) := rfl
      rw [x1, x2]
      have hla : ∀ (tl2 : Nat → Int32) (L : am_L) (st : List Value), (∀ h13 h14, am_W X (d + 7) 150 143 L (.int (nI (rla K (lw j) E q0 c)) :: st) (n, sl, t, am_ro (am_ro (am_ro (am_ro I1 13 h13) 14 h14) 43 tl2) 44 (upd (I1 44) 0 (nI (rsd K (lw j) E q0 (c + 1)))), J, F) Q) → am_W X (d + 6) 152 0 [some (.ref 12), some (.ref a), none] [] (n, sl, t, am_ro (am_ro (am_ro (am_ro I1 13 (upd g13 9 (nI (10 * rwt K (lw j) E q0 c)))) 14 g14) 43 tl2) 44 (upd (I1 44) 0 (nI (rsd K (lw j) E q0 (c + 1)))), J, F) (fun v h' => am_W X (d + 7) 150 143 L (v.toList ++ st) h' Q) := by
        intro tl2 L st hh
        refine c_laterBy (d := d + 1) hC hj ha (w := wdr K c (rwt K (lw j) E q0 c)) (wdr_WV hK hc (by omega)) rfl (fun s hs => by rw [pu_rne (by omega), pu_rne (by omega), pu_rne (by omega), pu_rne (by omega)]; exact hS s hs) (fun k hk hk9 => ?_) (fun f => ?_)
        · rw [pu_rne (by decide), pu_rne (by decide), pu_rne (by decide), pu_req]
          unfold wdr
          by_cases k10 : k = 10
          · subst k10
            show upd g13 9 (nI (10 * rwt K (lw j) E q0 c)) 9 = _
            rw [pu_eq, if_pos rfl]
          · have p9 : pw k ≠ 9 := by unfold pw; split <;> omega
            have p10 : pw k ≠ 10 := by unfold pw; split <;> omega
            rw [if_neg k10, pu_ne p9, hg' _ p10]
            exact h13 k hk hk9
        · have := hh (upd (upd g13 9 (nI (10 * rwt K (lw j) E q0 c))) 10 0) f
          simp only [pu_rne, pu_req, pu_rol, pu_ror, ne_eq, not_false_eq_true, Nat.reduceAdd, Nat.reduceMul, Nat.reduceLT, Nat.reduceLeDiff, Nat.reduceEqDiff, Nat.reduceSub]
          exact this
      by_cases q : rwt K (lw j) E q0 c < E
      · have q1 : ¬ E ≤ rwt K (lw j) E q0 c := by omega
        have ih' := fun f13 f14 l8 => ih f13 f14 l8
        rw [← tlr_s, htl, cnt_s0 (p := fun k => decide (E ≤ rwt K (lw j) E q0 k)) (decide_eq_false q1)] at ih'
        simp only [if_pos q] at ih'
        simp only [↓r150_80, ↓r150_82, ↓r150_82n, ↓r150_83, ↓r150_86, ↓r150_88, ↓r150_90, ↓r150_92, ↓r150_93, ↓r150_94, ↓r150_95, ↓r150_98, ↓r150_100, ↓r150_101, ↓r150_102, ↓r150_104, ↓r150_105, ↓r150_106, ↓r150_109, ↓r150_111, ↓r150_112, ↓r150_113, ↓r150_114, ↓r150_115, ↓r150_117, ↓r150_119, ↓r150_122, ↓r150_123, ↓r150_126, ↓r150_127, ↓r150_128, ↓r150_129, ↓r150_132, ↓r150_134, ↓r150_135, ↓r150_136, ↓r150_137, ↓r150_138, ↓r150_138n, ↓r150_139, ↓r150_139n, ↓r150_140, q_le, q_lt, q_eq, q_e0, q_e1, q_0e, q_1e, ps_n0, q_0le, q_le0, q_0lt, q_m1e, q_em1, z1, zw, q1, e0, a2, ta, pu_uI, pu_rol, pu_ror, Bool.false_eq_true, hn, hn2, ht, hF, am_wt, am_wf, Option.isSome_some, am_rf_s, am_rf_n, ps_lit, nI_add, nI_1, pk_mul, ps_cl, ps_neg, ps_c0, ps_c1, ps_n01, ps_n11, ps_10, ps_b01, ps_e0, pu_Ine, pu_Ieq, pu_ne, pu_eq, am_k_n, am_k_i, am_k_r, am_k_u, am_k_l, am_sz_0, am_sz_i, am_sz_r, am_sz_u, am_sz_l, Option.toList_some, Option.toList_none, List.cons_append, List.nil_append, true_and, and_true, or_false, false_or, or_self, or_true, true_or, not_false_eq_true, not_true_eq_false, Classical.not_not, ne_eq, ps_e1, ps_em, ps_z, Nat.not_le, false_implies, true_implies, forall_const, ps_01, ps_1n, ps_0n, ps_m10, ps_m1n, lg_cmp_gt, lg_cmp_ge, lg_cmp_le, lg_cmp_lt, lg_cmp_eq, pu_rne, pu_req, pu_uro, RFc_n, Nat.reduceAdd, Nat.reduceMul, Nat.reduceLT, Nat.reduceLeDiff, Nat.reduceEqDiff, Nat.reduceSub]
        refine hla _ _ _ (fun h13 h14 => ?_)
        simp only [↓r150_143, ↓r150_144, ↓r150_146, ↓r150_148, ↓r150_151, ↓r150_154, ↓r150_157, q_le, q_lt, q_eq, q_e0, q_e1, q_0e, q_1e, ps_n0, q_0le, q_le0, q_0lt, q_m1e, q_em1, z1, zw, q1, q, e0, pu_uI, pu_rol, pu_ror, Bool.false_eq_true, hn, hn2, ht, hF, am_wt, am_wf, Option.isSome_some, am_rf_s, am_rf_n, ps_lit, nI_add, nI_1, pk_mul, ps_cl, ps_neg, ps_c0, ps_c1, ps_n01, ps_n11, ps_10, ps_b01, ps_e0, pu_Ine, pu_Ieq, pu_ne, pu_eq, am_k_n, am_k_i, am_k_r, am_k_u, am_k_l, am_sz_0, am_sz_i, am_sz_r, am_sz_u, am_sz_l, Option.toList_some, Option.toList_none, List.cons_append, List.nil_append, true_and, and_true, or_false, false_or, or_self, or_true, true_or, not_false_eq_true, not_true_eq_false, Classical.not_not, ne_eq, ps_e1, ps_em, ps_z, Nat.not_le, false_implies, true_implies, forall_const, ps_01, ps_1n, ps_0n, ps_m10, ps_m1n, lg_cmp_gt, lg_cmp_ge, lg_cmp_le, lg_cmp_lt, lg_cmp_eq, pu_rne, pu_req, pu_uro, RFc_n, Nat.reduceAdd, Nat.reduceMul, Nat.reduceLT, Nat.reduceLeDiff, Nat.reduceEqDiff, Nat.reduceSub]
        exact ih' _ _ _
      · have q1 : E ≤ rwt K (lw j) E q0 c := by omega
        have ih' := fun f13 f14 l8 => ih f13 f14 l8
        rw [← tlr_s, htl, cnt_s1 (p := fun k => decide (E ≤ rwt K (lw j) E q0 k)) (decide_eq_true q1)] at ih'
        simp only [if_neg q] at ih'
        simp only [↓r150_80, ↓r150_82, ↓r150_82n, ↓r150_83, ↓r150_86, ↓r150_88, ↓r150_90, ↓r150_92, ↓r150_93, ↓r150_94, ↓r150_95, ↓r150_98, ↓r150_100, ↓r150_101, ↓r150_102, ↓r150_104, ↓r150_105, ↓r150_106, ↓r150_109, ↓r150_111, ↓r150_112, ↓r150_113, ↓r150_114, ↓r150_115, ↓r150_117, ↓r150_119, ↓r150_122, ↓r150_123, ↓r150_126, ↓r150_127, ↓r150_128, ↓r150_129, ↓r150_132, ↓r150_134, ↓r150_135, ↓r150_136, ↓r150_137, ↓r150_138, ↓r150_138n, ↓r150_139, ↓r150_139n, ↓r150_140, q_le, q_lt, q_eq, q_e0, q_e1, q_0e, q_1e, ps_n0, q_0le, q_le0, q_0lt, q_m1e, q_em1, z1, zw, q1, e0, a2, ta, pu_uI, pu_rol, pu_ror, Bool.false_eq_true, hn, hn2, ht, hF, am_wt, am_wf, Option.isSome_some, am_rf_s, am_rf_n, ps_lit, nI_add, nI_1, pk_mul, ps_cl, ps_neg, ps_c0, ps_c1, ps_n01, ps_n11, ps_10, ps_b01, ps_e0, pu_Ine, pu_Ieq, pu_ne, pu_eq, am_k_n, am_k_i, am_k_r, am_k_u, am_k_l, am_sz_0, am_sz_i, am_sz_r, am_sz_u, am_sz_l, Option.toList_some, Option.toList_none, List.cons_append, List.nil_append, true_and, and_true, or_false, false_or, or_self, or_true, true_or, not_false_eq_true, not_true_eq_false, Classical.not_not, ne_eq, ps_e1, ps_em, ps_z, Nat.not_le, false_implies, true_implies, forall_const, ps_01, ps_1n, ps_0n, ps_m10, ps_m1n, lg_cmp_gt, lg_cmp_ge, lg_cmp_le, lg_cmp_lt, lg_cmp_eq, pu_rne, pu_req, pu_uro, RFc_n, Nat.reduceAdd, Nat.reduceMul, Nat.reduceLT, Nat.reduceLeDiff, Nat.reduceEqDiff, Nat.reduceSub]
        refine hla _ _ _ (fun h13 h14 => ?_)
        simp only [↓r150_143, ↓r150_144, ↓r150_146, ↓r150_148, ↓r150_151, ↓r150_154, ↓r150_157, q_le, q_lt, q_eq, q_e0, q_e1, q_0e, q_1e, ps_n0, q_0le, q_le0, q_0lt, q_m1e, q_em1, z1, zw, q1, q, e0, pu_uI, pu_rol, pu_ror, Bool.false_eq_true, hn, hn2, ht, hF, am_wt, am_wf, Option.isSome_some, am_rf_s, am_rf_n, ps_lit, nI_add, nI_1, pk_mul, ps_cl, ps_neg, ps_c0, ps_c1, ps_n01, ps_n11, ps_10, ps_b01, ps_e0, pu_Ine, pu_Ieq, pu_ne, pu_eq, am_k_n, am_k_i, am_k_r, am_k_u, am_k_l, am_sz_0, am_sz_i, am_sz_r, am_sz_u, am_sz_l, Option.toList_some, Option.toList_none, List.cons_append, List.nil_append, true_and, and_true, or_false, false_or, or_self, or_true, true_or, not_false_eq_true, not_true_eq_false, Classical.not_not, ne_eq, ps_e1, ps_em, ps_z, Nat.not_le, false_implies, true_implies, forall_const, ps_01, ps_1n, ps_0n, ps_m10, ps_m1n, lg_cmp_gt, lg_cmp_ge, lg_cmp_le, lg_cmp_lt, lg_cmp_eq, pu_rne, pu_req, pu_uro, RFc_n, Nat.reduceAdd, Nat.reduceMul, Nat.reduceLT, Nat.reduceLeDiff, Nat.reduceEqDiff, Nat.reduceSub]
        exact ih' _ _ _
  · intro f13 f14 l8
    rw [r150_45]
    simp only [↓r150_47, ↓r150_48, ↓r150_51, ↓r150_160, ↓r150_162, h41, Int32.le_refl, Bool.false_eq_true, hn, hn2, ht, hF, am_wt, am_wf, Option.isSome_some, am_rf_s, am_rf_n, ps_lit, nI_add, nI_1, pk_mul, ps_cl, ps_neg, ps_c0, ps_c1, ps_n01, ps_n11, ps_10, ps_b01, ps_e0, pu_Ine, pu_Ieq, pu_ne, pu_eq, am_k_n, am_k_i, am_k_r, am_k_u, am_k_l, am_sz_0, am_sz_i, am_sz_r, am_sz_u, am_sz_l, Option.toList_some, Option.toList_none, List.cons_append, List.nil_append, true_and, and_true, or_false, false_or, or_self, or_true, true_or, not_false_eq_true, not_true_eq_false, Classical.not_not, ne_eq, ps_e1, ps_em, ps_z, Nat.not_le, false_implies, true_implies, forall_const, ps_01, ps_1n, ps_0n, ps_m10, ps_m1n, lg_cmp_gt, lg_cmp_ge, lg_cmp_le, lg_cmp_lt, lg_cmp_eq, pu_rne, pu_req, pu_uro, RFc_n, Nat.reduceAdd, Nat.reduceMul, Nat.reduceLT, Nat.reduceLeDiff, Nat.reduceEqDiff, Nat.reduceSub]
    exact hQ f13 f14
end RV2
