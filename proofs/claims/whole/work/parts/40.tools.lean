/-! tools: rows in order, runs are unique, calls that only ask -/
section TO
variable {X : am_X} {d : Nat} {Q : Option Value → am_H → Prop} {n sl : Nat} {t : Nat → Nat × Nat} {I : Nat → Nat → Int32} {J : Nat → Nat → Int64} {F : Nat → Nat → Option Nat} {h : am_H}
theorem pu_ror {α : Type} {T : Nat → α} {a : Nat} {f g : α} : am_ro (am_ro T a f) a g = am_ro T a g := by
  funext b
  unfold am_ro
  by_cases h : b = a
  · simp [h]
  · simp [h]
theorem pu_rol {α : Type} {T : Nat → α} {a b : Nat} {f g : α} (h : a < b) : am_ro (am_ro T b f) a g = am_ro (am_ro T a g) b f := by
  funext c
  unfold am_ro
  by_cases h1 : c = a
  · rw [if_pos h1, if_neg (by omega), if_pos h1]
  · rw [if_neg h1, if_neg h1]
theorem pu_uJ {T : Nat → Nat → Int64} {a k : Nat} {v : Int64} : am_uJ T a k v = am_ro T a (vp_updL (T a) k v) := rfl
theorem pu_uF {T : Nat → Nat → Option Nat} {a k : Nat} {v : Option Nat} : am_uF T a k v = am_ro T a (va_up (T a) k v) := rfl
theorem pu_roJ {T : Nat → Nat → Int64} {a : Nat} : am_ro T a (T a) = T := by
  funext b
  unfold am_ro
  by_cases h : b = a
  · simp [h]
  · simp [h]
theorem pu_uu {f : Nat → Int32} {k : Nat} {x y : Int32} : upd (upd f k x) k y = upd f k y := by
  funext j
  unfold upd
  by_cases h : j = k
  · simp [h]
  · simp [h]
theorem am_W_ex {A : Type} {P : A → Prop} {m pc : Nat} {L : am_L} {st : List Value} {v : Option Value} {S : A → am_H} (H : ∀ Q : Option Value → am_H → Prop, (∀ f, P f → Q v (S f)) → am_W X d m pc L st h Q) : ∃ f, P f ∧ ∀ Q : Option Value → am_H → Prop, am_W X d m pc L st h Q ↔ Q v (S f) := by
  obtain ⟨n1, v1, g1, e1, f, hf, q1, q2⟩ := H (fun r h' => ∃ f, P f ∧ r = v ∧ h' = S f) (fun f hf => ⟨f, hf, rfl, rfl⟩)
  subst q1
  subst q2
  refine ⟨f, hf, fun Q => ⟨fun ⟨n2, v2, g2, e2, q⟩ => ?_, fun q => ⟨n1, _, _, e1, q⟩⟩⟩
  have a1 := am_le2 X (Nat.le_max_left n1 n2) e1
  have a2 := am_le2 X (Nat.le_max_right n1 n2) e2
  rw [a1] at a2
  cases a2
  exact q
theorem am_W_mono {m pc : Nat} {L : am_L} {st : List Value} {Q Q' : Option Value → am_H → Prop} (H : am_W X d m pc L st h Q) (hq : ∀ v h', Q v h' → Q' v h') : am_W X d m pc L st h Q' := by
  obtain ⟨n1, v1, g1, e1, q1⟩ := H
  exact ⟨n1, v1, g1, e1, hq _ _ q1⟩
/-- how many of the first j have p -/
def cnt (p : Nat → Bool) : Nat → Nat
  | 0 => 0
  | j + 1 => cnt p j + (if p j then 1 else 0)
theorem cnt_le (p : Nat → Bool) : ∀ j, cnt p j ≤ j := by
  intro j
  induction j with
  | zero => exact Nat.le_refl 0
  | succ j ih =>
    unfold cnt
    split <;> omega
theorem cnt_c {p q : Nat → Bool} : ∀ j, (∀ i, i < j → p i = q i) → cnt p j = cnt q j := by
  intro j
  induction j with
  | zero => intro _; rfl
  | succ j ih =>
    intro h
    unfold cnt
    rw [ih (fun i hi => h i (by omega)), h j (by omega)]
theorem cnt_s1 {p : Nat → Bool} {j : Nat} (h : p j = true) : cnt p (j + 1) = cnt p j + 1 := by rw [cnt, if_pos h]
theorem cnt_s0 {p : Nat → Bool} {j : Nat} (h : p j = false) : cnt p (j + 1) = cnt p j := by rw [cnt, h]; rfl
theorem ps_n0 : nI 0 = 0 := rfl
theorem q_le {a b : Nat} (ha : a < 2000000) (hb : b < 2000000) : (nI a ≤ nI b) = (a ≤ b) := propext (nI_leI (by omega) (by omega))
theorem q_lt {a b : Nat} (ha : a < 2000000) (hb : b < 2000000) : (nI a < nI b) = (a < b) := propext (nI_ltI (by omega) (by omega))
theorem q_eq {a b : Nat} (ha : a < 2000000) (hb : b < 2000000) : (nI a = nI b) = (a = b) := propext (nI_eq (by omega) (by omega))
theorem q_e0 {a : Nat} (ha : a < 2000000) : (nI a = 0) = (a = 0) := q_eq (b := 0) ha (by decide)
theorem q_e1 {a : Nat} (ha : a < 2000000) : (nI a = 1) = (a = 1) := q_eq (b := 1) ha (by decide)
theorem q_0e {a : Nat} (ha : a < 2000000) : (0 = nI a) = (0 = a) := q_eq (a := 0) (by decide) ha
theorem q_1e {a : Nat} (ha : a < 2000000) : (1 = nI a) = (1 = a) := q_eq (a := 1) (by decide) ha
theorem q_0le {a : Nat} (ha : a < 2000000) : (0 ≤ nI a) = True := by
  simp only [eq_iff_iff, iff_true]
  exact nI_le (a := 0) (Nat.zero_le a) (by omega)
theorem q_le0 {a : Nat} (ha : a < 2000000) : (nI a ≤ 0) = (a ≤ 0) := q_le (b := 0) ha (by decide)
theorem q_0lt {a : Nat} (ha : a < 2000000) : (0 < nI a) = (0 < a) := q_lt (a := 0) (by decide) ha
theorem q_em1 {a : Nat} (ha : a < 2000000) : (nI a = -1) = False := by
  simp only [eq_iff_iff, iff_false]
  intro q
  have := nI_pos (n := a) (by omega)
  rw [q] at this
  exact this (by decide)
theorem q_m1e {a : Nat} (ha : a < 2000000) : (-1 = nI a) = False := by
  have := q_em1 ha
  simp only [eq_iff_iff, iff_false] at this ⊢
  exact fun q => this q.symm
/-- a loop, goal first -/
theorem lp {A : Nat → Prop} {N : Nat} (hs : ∀ j, j < N → A (j + 1) → A j) (hN : A N) : ∀ m j, j + m = N → A j := by
  intro m
  induction m with
  | zero =>
    intro j hj
    obtain rfl : j = N := by omega
    exact hN
  | succ m ih =>
    intro j hj
    exact hs j (by omega) (ih (j + 1) (by omega))
theorem lp0 {A : Nat → Prop} {N : Nat} (hs : ∀ j, j < N → A (j + 1) → A j) (hN : A N) : A 0 := lp hs hN N 0 (by omega)
/-- scratch alone has changed -/
def SCH (h h' : am_H) : Prop := h'.1 = h.1 ∧ h'.2.1 = h.2.1 ∧ h'.2.2.1 = h.2.2.1 ∧ SC h.2.2.2.1 h'.2.2.2.1 ∧ ∀ a k, ¬ (a = 28 ∧ k = 8) → h'.2.2.2.2.2 a k = h.2.2.2.2.2 a k
theorem SCH_r : SCH h h := ⟨rfl, rfl, rfl, SC_r _, fun _ _ _ => rfl⟩
theorem SCH_t {h h' h'' : am_H} (a : SCH h h') (b : SCH h' h'') : SCH h h'' := ⟨b.1.trans a.1, b.2.1.trans a.2.1, b.2.2.1.trans a.2.2.1, SC_t a.2.2.2.1 b.2.2.2.1, fun x k q => (b.2.2.2.2 x k q).trans (a.2.2.2.2 x k q)⟩
theorem Inv_sc0 {i : Nat} {h h' : am_H} (hV : Inv i h) (hi : i < 600) (hS : SCH h h') : Inv i h' := by
  obtain ⟨n, sl, t, I, J, F⟩ := h
  obtain ⟨n', sl', t', I', J', F'⟩ := h'
  obtain ⟨a, b, c, e, f⟩ := hS
  dsimp only at a b c e f
  subst a
  subst b
  subst c
  have r := Inv_sc (J' := J') hV hi f e
  exact ⟨r.1, hV.2.1, r.2.2⟩
theorem Inv_next {i : Nat} {h : am_H} (hV : Inv i h) (hi : i < 600) : Inv (i + 1) h := by
  obtain ⟨n, sl, t, I, J, F⟩ := h
  exact Inv_sc hV hi (fun _ _ _ => rfl) (SC_r I)
/-- a call that only asks answers v -/
def ASK (X : am_X) (m : Nat) (L : am_L) (v : Int32) (h : am_H) : Prop := ∀ Q : Option Value → am_H → Prop, (∀ h', SCH h h' → Q (some (.int v)) h') → am_W X 59 m 0 L [] h Q
theorem PR_ask {i mc mr : Nat} {Lc Lr : am_L} {v : Int32} {h : am_H} (hi : i < 600) (hV : Inv i h) (h1 : ASK X mc Lc v h) (h2 : ∀ h', SCH h h' → ASK X mr Lr v h') : PR X i mc mr Lc Lr h := by
  refine h1 _ (fun h' hS => ⟨v, rfl, h2 h' hS _ (fun h'' hS2 => ⟨rfl, ?_⟩)⟩)
  exact Inv_next (Inv_sc0 hV hi (SCH_t hS hS2)) hi
/-- children, terms, texts: what a call finds -/
def CX (n : Nat) (t : Nat → Nat × Nat) (I : Nat → Nat → Int32) (F : Nat → Nat → Option Nat) (K : Nat → Int32) (N T : Nat) (lw : Nat → List CL) : Prop :=
  WS n t F ∧ KW K N T ∧ I 49 = K ∧ (I 1 4 = nI N ∧ I 1 5 = nI T ∧ (∀ j, j < 15 * N → I 2 j = K j) ∧ (∀ j, j < 3 → I 3 j = K (1808 + j)) ∧ ∀ j, j < 8 → I 4 j = K (1800 + j)) ∧
  ∀ j, j < T → ∃ a s c ls lc, F 5 j = some a ∧ (73 ≤ a ∧ a < n ∧ 73 ≤ s ∧ s < n ∧ 73 ≤ c ∧ c < n) ∧ (t a = (5, 2) ∧ t s = (20, ls) ∧ t c = (20, lc)) ∧ (F a 0 = some s ∧ F a 1 = some c) ∧ TB (lw j) ∧ LC (I s) ls (I c) lc (lw j) ∧ LM K j (lw j)
theorem CX_of {i : Nat} (hV : Inv i (n, sl, t, I, J, F)) : ∃ N T lw, CX n t I F (I 49) N T lw := by
  obtain ⟨w, _, ⟨N, T, hK, hs, hc, hr, hu, hm⟩, _, _, _, _, _, ow, hl, _⟩ := hV
  dsimp only at *
  have hT := hK.2.1
  have hKT := hK.2.2.2.1
  have hx : ∀ j, ∃ l, j < T → ∃ a s c ls lc, F 5 j = some a ∧ (73 ≤ a ∧ a < n ∧ 73 ≤ s ∧ s < n ∧ 73 ≤ c ∧ c < n) ∧ (t a = (5, 2) ∧ t s = (20, ls) ∧ t c = (20, lc)) ∧ (F a 0 = some s ∧ F a 1 = some c) ∧ TB l ∧ LC (I s) ls (I c) lc l ∧ LM (I 49) j l := by
    intro j
    by_cases hj : j < T
    · obtain ⟨a, ea, s, c, ls, lc, h1, _, h2, h3, l, h4, h5, h6⟩ := hl.2 j (by rw [hKT, nI_clamp (by omega)]; exact hj)
      exact ⟨l, fun _ => ⟨a, s, c, ls, lc, ea, h1, h2, h3, h4, h5, h6⟩⟩
    · exact ⟨[], fun q => absurd q hj⟩
  obtain ⟨lw, hlw⟩ := Classical.axiomOfChoice hx
  exact ⟨N, T, lw, w, hK, rfl, ⟨hs, hc, hr, hu, hm⟩, hlw⟩
theorem scr_hi {s k : Nat} (hs : 73 ≤ s) : scr s k = false := by
  unfold scr
  split <;> first | omega | rfl
theorem CX_sc {I' : Nat → Nat → Int32} {F' : Nat → Nat → Option Nat} {K : Nat → Int32} {N T : Nat} {lw : Nat → List CL} (h : CX n t I F K N T lw) (hS : SC I I') (hF : ∀ a k, ¬ (a = 28 ∧ k = 8) → F' a k = F a k) : CX n t I' F' K N T lw := by
  obtain ⟨⟨w1, w2, w3, w4⟩, hK, h49, ⟨hs, hc, hr, hu, hm⟩, hl⟩ := h
  refine ⟨⟨w1, w2, w3, fun a k hk => ?_⟩, hK, ?_, ⟨?_, ?_, fun j hj => ?_, fun j hj => ?_, fun j hj => ?_⟩, fun j hj => ?_⟩
  · rw [hF a k (fun q => by rw [q.1, q.2] at hk; simp [am_wf] at hk)]
    exact w4 a k hk
  · rw [SC_c hS (a := 49) (fun _ => rfl)]; exact h49
  · rw [hS 1 4 rfl]; exact hs
  · rw [hS 1 5 rfl]; exact hc
  · rw [hS 2 j rfl]; exact hr j hj
  · rw [hS 3 j rfl]; exact hu j hj
  · rw [hS 4 j rfl]; exact hm j hj
  · obtain ⟨a, s, c, ls, lc, ea, h1, h2, ⟨h3, h3'⟩, h4, h5, h6⟩ := hl j hj
    refine ⟨a, s, c, ls, lc, ?_, h1, h2, ⟨?_, ?_⟩, h4, ?_, h6⟩
    · rw [hF 5 j (fun q => absurd q.1 (by decide))]; exact ea
    · rw [hF a 0 (fun q => by omega)]; exact h3
    · rw [hF a 1 (fun q => by omega)]; exact h3'
    · rw [SC_c hS (a := s) (fun k => scr_hi h1.2.2.1), SC_c hS (a := c) (fun k => scr_hi h1.2.2.2.2.1)]; exact h5
theorem CX_h {h h' : am_H} {K : Nat → Int32} {N T : Nat} {lw : Nat → List CL} (hC : CX h.1 h.2.2.1 h.2.2.2.1 h.2.2.2.2.2 K N T lw) (hS : SCH h h') : CX h'.1 h'.2.2.1 h'.2.2.2.1 h'.2.2.2.2.2 K N T lw := by
  rw [hS.1, hS.2.2.1]
  exact CX_sc hC hS.2.2.2.1 hS.2.2.2.2
/-- what a child is asked by, in the reference's order -/
def wd (K : Nat → Int32) (c : Nat) (mi : Int32) : Nat → Int32 := fun j => if j < 9 then K (15 * c + j) else if j = 9 then mi else K (15 * c + 9)
theorem fm_le (f : Nat) : fm f ≤ 999 := by
  unfold fm
  split <;> decide
theorem wd_WV {K : Nat → Int32} {N T c mi : Nat} (h : KW K N T) (hc : c < N) (hm : mi ≤ 1000) : WV (wd K c (nI mi)) := by
  intro k hk
  have hR := h.2.2.2.2.1 c hc
  unfold wd
  by_cases h1 : k < 9
  · obtain ⟨w, hw, e⟩ := RW_lt hR (f := k) (by omega)
    rw [if_pos h1]
    exact ⟨w, by have := fm_le k; omega, e⟩
  · rw [if_neg h1]
    by_cases h2 : k = 9
    · rw [if_pos h2]
      exact ⟨mi, hm, rfl⟩
    · rw [if_neg h2]
      obtain ⟨w, hw, e⟩ := RW_lt hR (f := 9) (by omega)
      exact ⟨w, by have := fm_le 9; omega, e⟩
/-- some of the children, in order -/
def grp (p : Nat → Bool) : Nat → List Nat
  | 0 => []
  | j + 1 => grp p j ++ (if p j then [j] else [])
theorem grp_le (p : Nat → Bool) : ∀ j, (grp p j).length ≤ j := by
  intro j
  induction j with
  | zero => exact Nat.le_refl 0
  | succ j ih =>
    rw [grp, List.length_append]
    split
    · rw [List.length_singleton]; omega
    · rw [List.length_nil]; omega
theorem grp_mem {p : Nat → Bool} {c : Nat} : ∀ {j}, c ∈ grp p j → c < j ∧ p c = true := by
  intro j
  induction j with
  | zero => intro h; cases h
  | succ j ih =>
    intro h
    rw [grp] at h
    rcases List.mem_append.mp h with q | q
    · exact ⟨by have := (ih q).1; omega, (ih q).2⟩
    · by_cases hp : p j = true
      · rw [if_pos hp] at q
        rw [List.mem_singleton.mp q]
        exact ⟨by omega, hp⟩
      · rw [if_neg hp] at q
        cases q
theorem grp_at {p : Nat → Bool} {j k : Nat} (hk : k < (grp p j).length) : (grp p j).getD k 0 < j := by
  rw [List.getD_eq_getElem?_getD, List.getElem?_eq_getElem hk, Option.getD_some]
  exact (grp_mem (List.getElem_mem hk)).1
/-- a row that is filled by a list -/
def ro_g (f : Nat → Int32) (l : List Nat) : Nat → Int32 := fun k => if k < l.length then nI (l.getD k 0) else f k
theorem ro_g0 (f : Nat → Int32) : ro_g f [] = f := by
  funext k
  unfold ro_g
  rw [if_neg (by simp)]
theorem ro_gs (f : Nat → Int32) (l : List Nat) (c : Nat) : upd (ro_g f l) l.length (nI c) = ro_g f (l ++ [c]) := by
  funext k
  unfold upd ro_g
  rw [List.length_append, List.length_singleton]
  by_cases h1 : k = l.length
  · rw [if_pos h1, if_pos (by omega), h1, List.getD_eq_getElem?_getD, List.getElem?_append_right (Nat.le_refl _), Nat.sub_self]
    rfl
  · rw [if_neg h1]
    by_cases h2 : k < l.length
    · rw [if_pos h2, if_pos (by omega), List.getD_eq_getElem?_getD, List.getD_eq_getElem?_getD, List.getElem?_append_left h2]
    · rw [if_neg h2, if_neg (by omega)]
theorem ro_gk {f : Nat → Int32} {l : List Nat} {k : Nat} (h : k < l.length) : ro_g f l k = nI (l.getD k 0) := by
  unfold ro_g
  rw [if_pos h]
end TO
