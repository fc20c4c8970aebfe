/-! groups -/
section GR
variable {X : am_X} {d : Nat} {Q : Option Value → am_H → Prop} {n sl : Nat} {t : Nat → Nat × Nat} {I : Nat → Nat → Int32} {J : Nat → Nat → Int64} {F : Nat → Nat → Option Nat} {h : am_H}
variable {K : Nat → Int32} {N T : Nat} {lw : Nat → List CL}
theorem c_tell (hC : CX n t I F K N T lw) {j a hd : Nat} (hj : j < T) (ha : F 5 j = some a) (hh : hd < 4) {w : Nat → Int32} (hw : WV w) {I' : Nat → Nat → Int32} (hS : SC I I') (h13 : ∀ k, k < 11 → I' 13 (pw k) = w k) (hQ : ∀ f, Q (some (.int (tva hd (told (lw j) (hd + 1) w)))) (n, sl, t, am_ro I' 14 f, J, F)) : am_W X (d + 4) 69 0 [some (.ref a), some (.int (nI hd)), some (.ref 12), none, none, none, none, none] [] (n, sl, t, I', J, F) Q := by
  obtain ⟨hW, _, _, _, hl⟩ := hC
  obtain ⟨a', s, c, ls, lc, ea, ⟨h1, h2, h3, h4, h5, h6⟩, h7, h8, _, h9, _⟩ := hl j hj
  rw [ha] at ea
  cases ea
  exact h9.2.1 X d Q n sl t I' J F a s c hd w hW ⟨h3, h5⟩ ⟨h2, h4, h6⟩ h7 h8 (SC_c hS (fun k => scr_hi h3)) (SC_c hS (fun k => scr_hi h5)) hh hw h13 hQ
theorem s_asks (hC : CX n t I F K N T lw) {j hd : Nat} (hj : j < T) (hh : 1 ≤ hd ∧ hd < 5) {w : Nat → Int32} (hw : WV w) {I' : Nat → Nat → Int32} (h49 : I' 49 = K) (h58 : ∀ k, k < 11 → I' 58 k = w k) (hQ : ∀ (f : Nat → Int32) (g : Nat → Int64), (∀ k, k ≠ 17 → k ≠ 18 → k ≠ 19 → k ≠ 22 → f k = I' 47 k) → f 22 = (if (told (lw j) hd w).isSome then 1 else 0) → g 21 = Int64.ofInt ((told (lw j) hd w).getD 0) → Q none (n, sl, t, am_ro I' 47 f, am_ro J 47 g, F)) : am_W X (d + 44) 221 0 [some (.ref 47), some (.int (nI j)), some (.int (nI hd)), none, none, none, none, none] [] (n, sl, t, I', J, F) Q := by
  obtain ⟨hW, _, _, _, hl⟩ := hC
  obtain ⟨a', s, c, ls, lc, ea, _, _, _, _, _, h9⟩ := hl j hj
  exact h9 X d Q n sl t I' J F hd w hW (fun k _ _ => by rw [h49]) hh.1 hh.2 hw h58 hQ
/-- the children of a group -/
def inG (K : Nat → Int32) (lw : Nat → List CL) (x : Int32) : Nat → Bool := fun c => if x = -1 then true else (told (lw x.toNatClampNeg) 4 (wd K c 0)).isSome
/-- a group that is there -/
def isG (T : Nat) (x : Int32) : Prop := x = -1 ∨ ∃ j, j < T ∧ x = nI j
theorem isG_n {x : Int32} (hT : T ≤ 10) (h : ¬ isG T x) : ¬ x = -1 ∧ ¬ (0 ≤ x ∧ x ≤ nI T - 1) := by
  refine ⟨fun q => h (Or.inl q), fun q => ?_⟩
  obtain ⟨k, hk, e⟩ := ps_chE (by omega) q
  exact h (Or.inr ⟨k, hk, e⟩)
theorem nI_m1 {k : Nat} (h : k < 2000000) : ¬ nI k = -1 := by
  intro q
  have := nI_pos (n := k) (by omega)
  rw [q] at this
  exact this (by decide)
theorem c_gadd {g q : Nat} {x : Int32} (hn2 : n ≤ 1000000) (g1 : g < n) (g2 : g + 1 < n) (g3 : t g = (4, 2)) (g4 : t (g + 1) = (20, 120)) (g5 : F g 0 = some (g + 1)) (hq : q < 120) (hz : I g 1 = nI q) : am_W X d 66 0 [some (.ref g), some (.int x)] [] (n, sl, t, I, J, F) Q ↔ Q none (n, sl, t, am_ro (am_ro I g (upd (I g) 1 (nI (q + 1)))) (g + 1) (upd (I (g + 1)) q x), J, F) := by
  have e1 : ¬ nI 120 ≤ nI q := nI_ge (by omega) (by decide)
  have z1 : q < 2000000 := by omega
  have z2 : g ≠ g + 1 := by omega
  have z3 : g < g + 1 := by omega
  simp only [↓r66_0, ↓r66_1, ↓r66_4, ↓r66_6, ↓r66_9, ↓r66_10, ↓r66_13, ↓r66_14, ↓r66_17, ↓r66_18, ↓r66_19, ↓r66_20, ↓r66_20r, ↓r66_21, ↓r66_24, ↓r66_25, ↓r66_26, ↓r66_29, g1, g2, g3, g4, g5, hz, e1, hq, z1, z2, z3, pu_uI, pu_rol, pu_rne, pu_req, am_rf_s, ps_lit, nI_add, nI_1, pk_mul, ps_cl, ps_neg, ps_c0, ps_c1, ps_n01, ps_n11, ps_10, ps_01, ps_1n, ps_0n, ps_b01, ps_e0, am_k_n, am_k_i, am_k_r, am_k_u, am_k_l, am_sz_0, am_sz_i, am_sz_r, am_sz_u, am_sz_l, Option.toList_some, Option.toList_none, List.cons_append, List.nil_append, true_and, and_true, or_false, false_or, or_self, or_true, true_or, and_self, if_true, if_false, not_false_eq_true, not_true_eq_false, Classical.not_not, ne_eq, ps_e1, ps_em, ps_z, Nat.not_le, false_implies, true_implies, forall_const, Nat.reduceAdd, Nat.reduceMul, Nat.reduceLT, Nat.reduceLeDiff, Nat.reduceEqDiff, Nat.reduceSub]
theorem c_add15 {q : Nat} {x : Int32} (hW : WS n t F) (hq : q < 120) (hz : I 15 1 = nI q) : am_W X d 66 0 [some (.ref 15), some (.int x)] [] (n, sl, t, I, J, F) Q ↔ Q none (n, sl, t, am_ro (am_ro I 15 (upd (I 15) 1 (nI (q + 1)))) 16 (upd (I 16) q x), J, F) := by
  obtain ⟨hn, hn2, ht, hF⟩ := id hW
  exact c_gadd hn2 (hn _ (by decide)) (hn _ (by decide)) (ht _ (by decide)) (ht _ (by decide)) (hF _ _ rfl) hq hz
theorem c_add17 {q : Nat} {x : Int32} (hW : WS n t F) (hq : q < 120) (hz : I 17 1 = nI q) : am_W X d 66 0 [some (.ref 17), some (.int x)] [] (n, sl, t, I, J, F) Q ↔ Q none (n, sl, t, am_ro (am_ro I 17 (upd (I 17) 1 (nI (q + 1)))) 18 (upd (I 18) q x), J, F) := by
  obtain ⟨hn, hn2, ht, hF⟩ := id hW
  exact c_gadd hn2 (hn _ (by decide)) (hn _ (by decide)) (ht _ (by decide)) (ht _ (by decide)) (hF _ _ rfl) hq hz
theorem c_add29 {q : Nat} {x : Int32} (hW : WS n t F) (hq : q < 120) (hz : I 29 1 = nI q) : am_W X d 66 0 [some (.ref 29), some (.int x)] [] (n, sl, t, I, J, F) Q ↔ Q none (n, sl, t, am_ro (am_ro I 29 (upd (I 29) 1 (nI (q + 1)))) 30 (upd (I 30) q x), J, F) := by
  obtain ⟨hn, hn2, ht, hF⟩ := id hW
  exact c_gadd hn2 (hn _ (by decide)) (hn _ (by decide)) (ht _ (by decide)) (ht _ (by decide)) (hF _ _ rfl) hq hz
theorem c_add31 {q : Nat} {x : Int32} (hW : WS n t F) (hq : q < 120) (hz : I 31 1 = nI q) : am_W X d 66 0 [some (.ref 31), some (.int x)] [] (n, sl, t, I, J, F) Q ↔ Q none (n, sl, t, am_ro (am_ro I 31 (upd (I 31) 1 (nI (q + 1)))) 32 (upd (I 32) q x), J, F) := by
  obtain ⟨hn, hn2, ht, hF⟩ := id hW
  exact c_gadd hn2 (hn _ (by decide)) (hn _ (by decide)) (ht _ (by decide)) (ht _ (by decide)) (hF _ _ rfl) hq hz
theorem c_add33 {q : Nat} {x : Int32} (hW : WS n t F) (hq : q < 120) (hz : I 33 1 = nI q) : am_W X d 66 0 [some (.ref 33), some (.int x)] [] (n, sl, t, I, J, F) Q ↔ Q none (n, sl, t, am_ro (am_ro I 33 (upd (I 33) 1 (nI (q + 1)))) 34 (upd (I 34) q x), J, F) := by
  obtain ⟨hn, hn2, ht, hF⟩ := id hW
  exact c_gadd hn2 (hn _ (by decide)) (hn _ (by decide)) (ht _ (by decide)) (ht _ (by decide)) (hF _ _ rfl) hq hz
/-- a group of the class that holds these -/
def gI (I : Nat → Nat → Int32) (g : Nat) (l : List Nat) : Nat → Nat → Int32 := am_ro (am_ro I g (upd (I g) 1 (nI l.length))) (g + 1) (ro_g (I (g + 1)) l)
theorem gI_g {g : Nat} {l : List Nat} : gI I g l g 1 = nI l.length := by
  unfold gI
  rw [pu_rne (by omega), pu_req, pu_eq]
theorem gI_m {g : Nat} {l : List Nat} : gI I g l (g + 1) = ro_g (I (g + 1)) l := by
  unfold gI
  rw [pu_req]
theorem gI_n {g a : Nat} {l : List Nat} (h1 : a ≠ g) (h2 : a ≠ g + 1) : gI I g l a = I a := by
  unfold gI
  rw [pu_rne h2, pu_rne h1]
theorem gI_s {g c : Nat} {l : List Nat} : am_ro (am_ro (gI I g l) g (upd (gI I g l g) 1 (nI (l.length + 1)))) (g + 1) (upd (gI I g l (g + 1)) l.length (nI c)) = gI I g (l ++ [c]) := by
  funext a
  by_cases h2 : a = g + 1
  · subst h2
    rw [pu_req, gI_m, gI_m, ro_gs]
  · rw [pu_rne h2]
    by_cases h1 : a = g
    · subst h1
      rw [pu_req]
      unfold gI
      rw [pu_rne (by omega), pu_req, pu_rne (by omega), pu_req, pu_uu, List.length_append, List.length_singleton]
    · rw [pu_rne h1, gI_n h1 h2, gI_n h1 h2]
theorem c_gaddI {g : Nat} {c : Nat} {l : List Nat} (hn2 : n ≤ 1000000) (g1 : g < n) (g2 : g + 1 < n) (g3 : t g = (4, 2)) (g4 : t (g + 1) = (20, 120)) (g5 : F g 0 = some (g + 1)) (hq : l.length < 120) : am_W X d 66 0 [some (.ref g), some (.int (nI c))] [] (n, sl, t, gI I g l, J, F) Q ↔ Q none (n, sl, t, gI I g (l ++ [c]), J, F) := by
  rw [c_gadd hn2 g1 g2 g3 g4 g5 hq gI_g, gI_s]
theorem gI_0 {g : Nat} : am_uI I g 1 0 = gI I g [] := by
  unfold gI
  rw [ro_g0, pu_uI]
  have e : am_ro I g (upd (I g) 1 (nI ([] : List Nat).length)) (g + 1) = I (g + 1) := pu_rne (by omega)
  have e2 := pu_roI (I := am_ro I g (upd (I g) 1 (nI ([] : List Nat).length))) (a := g + 1)
  rw [e] at e2
  rw [e2]
  rfl
/-- everybody -/
def allG : Nat → Bool := fun _ => true
theorem grp_all (j : Nat) : grp allG (j + 1) = grp allG j ++ [j] := rfl
theorem grp_alen : ∀ j, (grp allG j).length = j := by
  intro j
  induction j with
  | zero => rfl
  | succ j ih => rw [grp_all, List.length_append, List.length_singleton, ih]
theorem c_takeAll {g N : Nat} (hn2 : n ≤ 1000000) (g1 : g < n) (g2 : g + 1 < n) (g3 : t g = (4, 2)) (g4 : t (g + 1) = (20, 120)) (g5 : F g 0 = some (g + 1)) (hN : N ≤ 120) : am_W X (d + 1) 65 0 [some (.ref g), some (.int (nI N)), none] [] (n, sl, t, I, J, F) Q ↔ Q none (n, sl, t, gI I g (grp allG N), J, F) := by
  have hx : ∀ m j, j + m = N → (am_W X (d + 1) 65 7 [some (.ref g), some (.int (nI N)), some (.int (nI j))] [] (n, sl, t, gI I g (grp allG j), J, F) Q ↔ Q none (n, sl, t, gI I g (grp allG N), J, F)) := by
    intro m
    induction m with
    | zero =>
      intro j hj
      obtain rfl : j = N := by omega
      rw [r65_7]
      simp only [↓r65_8, ↓r65_9, ↓r65_12, ↓r65_13, ↓r65_14, ↓r65_17, ↓r65_20, ↓r65_23, Int32.le_refl, ps_lit, nI_add, nI_1, pk_mul, ps_cl, ps_neg, ps_c0, ps_c1, ps_n01, ps_n11, ps_10, ps_01, ps_1n, ps_0n, ps_b01, ps_e0, am_k_n, am_k_i, am_k_r, am_k_u, am_k_l, am_sz_0, am_sz_i, am_sz_r, am_sz_u, am_sz_l, Option.toList_some, Option.toList_none, List.cons_append, List.nil_append, true_and, and_true, or_false, false_or, or_self, or_true, true_or, and_self, if_true, if_false, not_false_eq_true, not_true_eq_false, Classical.not_not, ne_eq, ps_e1, ps_em, ps_z, Nat.not_le, false_implies, true_implies, forall_const, Nat.reduceAdd, Nat.reduceMul, Nat.reduceLT, Nat.reduceLeDiff, Nat.reduceEqDiff, Nat.reduceSub]
    | succ m ih =>
      intro j hj
      rw [r65_7]
      have e1 : ¬ nI N ≤ nI j := nI_ge (by omega) (by omega)
      have e2 := fun Q => c_gaddI (X := X) (d := d) (Q := Q) (sl := sl) (J := J) (I := I) (c := j) (l := grp allG j) hn2 g1 g2 g3 g4 g5 (by rw [grp_alen]; omega)
      have e3 := ih (j + 1) (by omega)
      rw [grp_all] at e3
      simp only [↓r65_8, ↓r65_9, ↓r65_12, ↓r65_13, ↓r65_14, ↓r65_17, ↓r65_20, ↓r65_23, ↓e2, e1, g1, g3, ps_lit, nI_add, nI_1, pk_mul, ps_cl, ps_neg, ps_c0, ps_c1, ps_n01, ps_n11, ps_10, ps_01, ps_1n, ps_0n, ps_b01, ps_e0, am_k_n, am_k_i, am_k_r, am_k_u, am_k_l, am_sz_0, am_sz_i, am_sz_r, am_sz_u, am_sz_l, Option.toList_some, Option.toList_none, List.cons_append, List.nil_append, true_and, and_true, or_false, false_or, or_self, or_true, true_or, and_self, if_true, if_false, not_false_eq_true, not_true_eq_false, Classical.not_not, ne_eq, ps_e1, ps_em, ps_z, Nat.not_le, false_implies, true_implies, forall_const, Nat.reduceAdd, Nat.reduceMul, Nat.reduceLT, Nat.reduceLeDiff, Nat.reduceEqDiff, Nat.reduceSub]
      exact e3
  have e := hx N 0 (by omega)
  rw [show gI I g (grp allG 0) = am_uI I g 1 0 from gI_0.symm] at e
  rw [← e]
  simp only [↓r65_0, ↓r65_1, ↓r65_2, ↓r65_5, ↓r65_6, g1, g3, ps_lit, nI_add, nI_1, pk_mul, ps_cl, ps_neg, ps_c0, ps_c1, ps_n01, ps_n11, ps_10, ps_01, ps_1n, ps_0n, ps_b01, ps_e0, am_k_n, am_k_i, am_k_r, am_k_u, am_k_l, am_sz_0, am_sz_i, am_sz_r, am_sz_u, am_sz_l, Option.toList_some, Option.toList_none, List.cons_append, List.nil_append, true_and, and_true, or_false, false_or, or_self, or_true, true_or, and_self, if_true, if_false, not_false_eq_true, not_true_eq_false, Classical.not_not, ne_eq, ps_e1, ps_em, ps_z, Nat.not_le, false_implies, true_implies, forall_const, Nat.reduceAdd, Nat.reduceMul, Nat.reduceLT, Nat.reduceLeDiff, Nat.reduceEqDiff, Nat.reduceSub]
  exact Iff.rfl
theorem ask_r (f g : Nat → Int32) (c k : Nat) (hk : k < 11) : upd (va_cpy f g (15 * c) 0 10) 10 0 (pw k) = wd f c 0 k := by
  unfold upd wd va_cpy
  match k, hk with
  | 0, _ => rfl
  | 1, _ => rfl
  | 2, _ => rfl
  | 3, _ => rfl
  | 4, _ => rfl
  | 5, _ => rfl
  | 6, _ => rfl
  | 7, _ => rfl
  | 8, _ => rfl
  | 9, _ => rfl
  | 10, _ => rfl
theorem c_ask {c : Nat} (hW : WS n t F) (hc : c < 120) : am_W X (d + 1) 68 0 [some (.ref 12), some (.ref 2), some (.int (nI c)), none] [] (n, sl, t, I, J, F) Q ↔ Q none (n, sl, t, am_ro I 13 (upd (va_cpy (I 2) (I 13) (15 * c) 0 10) 10 0), J, F) := by
  obtain ⟨hn, hn2, ht, hF⟩ := id hW
  have e0 : (0 : Int32) ≤ nI c := nI_le (a := 0) (Nat.zero_le c) (by omega)
  have e1 : nI c ≤ nI 119 := nI_le (by omega) (by decide)
  have e2 : ¬ nI 1800 < nI (15 * c + 15) := nI_nlt (by omega) (by decide)
  have e3 : c * 15 = 15 * c := by omega
  have z1 : 15 * c < 2000000 := by omega
  have z2 : 15 * c + 10 ≤ 1800 := by omega
  have e4 : ¬ nI (15 * c) < 0 := nI_pos (by omega)
  simp only [↓r68_0, ↓r68_1, ↓r68_3, ↓r68_4, ↓r68_5, ↓r68_6, ↓r68_7, ↓r68_9, ↓r68_12, ↓r68_15, ↓r68_16, ↓r68_18, ↓r68_19, ↓r68_19n, ↓r68_20, ↓r68_20k, ↓r68_21, ↓r68_24, ↓r68_24n, ↓r68_25, ↓r68_26, ↓r68_27, ↓r68_30, ↓r68_31, ↓r68_33, ↓r68_36, ↓r68_37, ↓r68_40, ↓r68_42, ↓r68_43, ↓r68_44, ↓c_within, e0, e1, e2, e3, e4, z1, z2, and_self, if_true, pu_uI, pu_ror, pu_req, hn, hn2, ht, hF, am_wt, am_wf, Option.isSome_some, am_rf_s, am_rf_n, ps_lit, nI_add, nI_1, pk_mul, ps_cl, ps_neg, ps_c0, ps_c1, ps_n01, ps_n11, ps_10, ps_b01, ps_e0, pu_Ine, pu_Ieq, pu_ne, pu_eq, am_k_n, am_k_i, am_k_r, am_k_u, am_k_l, am_sz_0, am_sz_i, am_sz_r, am_sz_u, am_sz_l, Option.toList_some, Option.toList_none, List.cons_append, List.nil_append, true_and, and_true, or_false, false_or, or_self, or_true, true_or, not_false_eq_true, not_true_eq_false, Classical.not_not, ne_eq, ps_e1, ps_em, ps_z, Nat.not_le, false_implies, true_implies, forall_const, ps_01, ps_1n, ps_0n, ps_m10, ps_m1n, lg_cmp_gt, lg_cmp_ge, lg_cmp_le, lg_cmp_lt, lg_cmp_eq, pu_rne, pu_req, pu_uro, RFc_n, Nat.reduceAdd, Nat.reduceMul, Nat.reduceLT, Nat.reduceLeDiff, Nat.reduceEqDiff, Nat.reduceSub]
theorem c_lawAt {j a : Nat} (hW : WS n t F) (hT : T ≤ 10) (hc : I 1 5 = nI T) (hj : j < T) (ha : F 5 j = some a) : am_W X (d + 1) 67 0 [some (.ref 1), some (.int (nI j))] [] (n, sl, t, I, J, F) Q ↔ Q (some (.ref a)) (n, sl, t, I, J, F) := by
  obtain ⟨hn, hn2, ht, hF⟩ := id hW
  have e1 := ps_chT hj (by omega)
  have z1 : j < 2000000 := by omega
  have z2 : j < 10 := by omega
  simp only [↓r67_0, ↓r67_1, ↓r67_2, ↓r67_3, ↓r67_6, ↓r67_7, ↓r67_8, ↓r67_11, ↓r67_14, ↓r67_15, ↓r67_18, ↓r67_19, ↓r67_20, ↓r67_23, ↓r67_24, ↓r67_24n, ↓c_within, hc, e1, z1, z2, ha, if_true, hn, hn2, ht, hF, am_wt, am_wf, Option.isSome_some, am_rf_s, am_rf_n, ps_lit, nI_add, nI_1, pk_mul, ps_cl, ps_neg, ps_c0, ps_c1, ps_n01, ps_n11, ps_10, ps_b01, ps_e0, pu_Ine, pu_Ieq, pu_ne, pu_eq, am_k_n, am_k_i, am_k_r, am_k_u, am_k_l, am_sz_0, am_sz_i, am_sz_r, am_sz_u, am_sz_l, Option.toList_some, Option.toList_none, List.cons_append, List.nil_append, true_and, and_true, or_false, false_or, or_self, or_true, true_or, not_false_eq_true, not_true_eq_false, Classical.not_not, ne_eq, ps_e1, ps_em, ps_z, Nat.not_le, false_implies, true_implies, forall_const, ps_01, ps_1n, ps_0n, ps_m10, ps_m1n, lg_cmp_gt, lg_cmp_ge, lg_cmp_le, lg_cmp_lt, lg_cmp_eq, pu_rne, pu_req, pu_uro, RFc_n, Nat.reduceAdd, Nat.reduceMul, Nat.reduceLT, Nat.reduceLeDiff, Nat.reduceEqDiff, Nat.reduceSub]
theorem c_lawAt0 {x : Int32} (hW : WS n t F) (hc : I 1 5 = nI T) (hx : ¬ (0 ≤ x ∧ x ≤ nI T - 1)) : am_W X (d + 1) 67 0 [some (.ref 1), some (.int x)] [] (n, sl, t, I, J, F) Q ↔ Q (some .null) (n, sl, t, I, J, F) := by
  obtain ⟨hn, hn2, ht, hF⟩ := id hW
  simp only [↓r67_0, ↓r67_1, ↓r67_2, ↓r67_3, ↓r67_6, ↓r67_7, ↓r67_8, ↓r67_11, ↓r67_14, ↓r67_15, ↓r67_18, ↓r67_19, ↓r67_20, ↓r67_23, ↓r67_24, ↓r67_24n, ↓c_within, hc, hx, if_false, hn, hn2, ht, hF, am_wt, am_wf, Option.isSome_some, am_rf_s, am_rf_n, ps_lit, nI_add, nI_1, pk_mul, ps_cl, ps_neg, ps_c0, ps_c1, ps_n01, ps_n11, ps_10, ps_b01, ps_e0, pu_Ine, pu_Ieq, pu_ne, pu_eq, am_k_n, am_k_i, am_k_r, am_k_u, am_k_l, am_sz_0, am_sz_i, am_sz_r, am_sz_u, am_sz_l, Option.toList_some, Option.toList_none, List.cons_append, List.nil_append, true_and, and_true, or_false, false_or, or_self, or_true, true_or, not_false_eq_true, not_true_eq_false, Classical.not_not, ne_eq, ps_e1, ps_em, ps_z, Nat.not_le, false_implies, true_implies, forall_const, ps_01, ps_1n, ps_0n, ps_m10, ps_m1n, lg_cmp_gt, lg_cmp_ge, lg_cmp_le, lg_cmp_lt, lg_cmp_eq, pu_rne, pu_req, pu_uro, RFc_n, Nat.reduceAdd, Nat.reduceMul, Nat.reduceLT, Nat.reduceLeDiff, Nat.reduceEqDiff, Nat.reduceSub]
end GR
