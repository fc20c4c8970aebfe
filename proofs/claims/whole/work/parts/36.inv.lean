/-! WHAT HOLDS BETWEEN CALLS: the class's cells and the reference's tell the same -/
/-- the words' numbers, as the class has them -/
def pw : Nat → Nat := fun k => match k with
  | 9 => 10
  | 10 => 9
  | k => k
def WV (w : Nat → Int32) : Prop := ∀ k, k < 11 → ∃ v, v ≤ 1000 ∧ w k = nI v
def tva (h : Nat) : Option Int → Int32
  | none => -2000000000
  | some v => if h = 3 then 1 else Int32.ofInt v
/-- what a law of the class tells, and which words it doesn't have -/
def LC (s : Nat → Int32) (ls : Nat) (c : Nat → Int32) (lc : Nat) (l : List CL) : Prop := ls ≤ 400 ∧
  (∀ (X : am_X) (d : Nat) (Q : Option Value → am_H → Prop) (n sl : Nat) (t : Nat → Nat × Nat) (I : Nat → Nat → Int32) (J : Nat → Nat → Int64) (F : Nat → Nat → Option Nat) (a sa ca h : Nat) (w : Nat → Int32), WS n t F → (73 ≤ sa ∧ 73 ≤ ca) → (a < n ∧ sa < n ∧ ca < n) → (t a = (5, 2) ∧ t sa = (20, ls) ∧ t ca = (20, lc)) → (F a 0 = some sa ∧ F a 1 = some ca) → I sa = s → I ca = c → h < 4 → WV w → (∀ k, k < 11 → I 13 (pw k) = w k) → (∀ f, Q (some (.int (tva h (told l (h + 1) w)))) (n, sl, t, am_ro I 14 f, J, F)) → am_W X (d + 4) 69 0 [some (.ref a), some (.int (nI h)), some (.ref 12), none, none, none, none, none] [] (n, sl, t, I, J, F) Q) ∧
  ∀ k, k < 11 → (∀ i, i < ls → s i ≠ nI (1001 + pw k)) → ∀ h w w', (∀ j, j < 11 → j ≠ k → w j = w' j) → told l h w = told l h w'
/-- where a text of the reference is kept -/
def TX (j k : Nat) : Prop := k = 1813 + j ∨ (1823 + 400 * j ≤ k ∧ k < 2223 + 400 * j) ∨ (5823 + 400 * j ≤ k ∧ k < 6223 + 400 * j)
/-- what a text of the reference tells -/
def LM (K : Nat → Int32) (j : Nat) (l : List CL) : Prop := ∀ (X : am_X) (d : Nat) (Q : Option Value → am_H → Prop) (n sl : Nat) (t : Nat → Nat × Nat) (I : Nat → Nat → Int32) (J : Nat → Nat → Int64) (F : Nat → Nat → Option Nat) (h : Nat) (w : Nat → Int32), WS n t F → (∀ k, 1812 ≤ k → TX j k → I 49 k = K k) → 1 ≤ h → h < 5 → WV w → (∀ k, k < 11 → I 58 k = w k) →
  (∀ (f : Nat → Int32) (g : Nat → Int64), (∀ k, k ≠ 17 → k ≠ 18 → k ≠ 19 → k ≠ 22 → f k = I 47 k) → f 22 = (if (told l h w).isSome then 1 else 0) → g 21 = Int64.ofInt ((told l h w).getD 0) → Q none (n, sl, t, am_ro I 47 f, am_ro J 47 g, F)) → am_W X (d + 44) 221 0 [some (.ref 47), some (.int (nI j)), some (.int (nI h)), none, none, none, none, none] [] (n, sl, t, I, J, F) Q
def TB (l : List CL) : Prop := ∀ h w v, WV w → told l h w = some v → -1000000000 ≤ v ∧ v ≤ 1000000000
/-- a text as it is kept by the class (steps, clauses) and by the reference (tokens) -/
def LREL (s : Nat → Int32) (ls : Nat) (c : Nat → Int32) (lc : Nat) (K : Nat → Int32) (j : Nat) : Prop := ∃ l, TB l ∧ LC s ls c lc l ∧ LM K j l
theorem LREL_x {s : Nat → Int32} {ls : Nat} {c : Nat → Int32} {lc j : Nat} {K K' : Nat → Int32} (h : ∀ k, 1812 ≤ k → TX j k → K' k = K k) (q : LREL s ls c lc K j) : LREL s ls c lc K' j := by
  obtain ⟨l, h1, h2, h3⟩ := q
  refine ⟨l, h1, h2, ?_⟩
  intro X d Q n sl t I J F h' w a1 a2 a3 a4 a5 a6 a7
  exact h3 X d Q n sl t I J F h' w a1 (fun k q1 q2 => (a2 k q1 q2).trans (h k q1 q2)) a3 a4 a5 a6 a7
theorem LREL_k {s : Nat → Int32} {ls : Nat} {c : Nat → Int32} {lc j : Nat} {K K' : Nat → Int32} (hj : j < 10) (h : ∀ k, 1812 ≤ k → k < 9823 → K' k = K k) (q : LREL s ls c lc K j) : LREL s ls c lc K' j :=
  LREL_x (fun k h1 h2 => h k h1 (by unfold TX at h2; omega)) q
def fm : Nat → Nat := fun f => match f with
  | 0 => 5
  | 4 => 7
  | 5 => 23
  | 8 => 2
  | 9 => 200
  | 10 => 3
  | 11 => 999
  | 12 => 999
  | 13 => 999
  | 14 => 999
  | _ => 9
/-- what may stand in a child's row -/
def RV (f : Nat) (v : Int32) : Prop := (11 ≤ f ∧ v = -1) ∨ ∃ w, w ≤ fm f ∧ v = nI w
def RW (r : Nat → Int32) : Prop := ∀ f, f < 15 → RV f (r f)
theorem RW_lt {r : Nat → Int32} (h : RW r) {f : Nat} (hf : f < 11) : ∃ w, w ≤ fm f ∧ r f = nI w := by
  rcases h f (by omega) with q | q
  · omega
  · exact q
/-- terms and meanings -/
def TW (K : Nat → Int32) : Prop := (∃ v, v ≤ 200 ∧ K 1808 = nI v) ∧ (∃ v, v < 4 ∧ K 1809 = nI v) ∧ (∃ v, 1 ≤ v ∧ v ≤ 20 ∧ K 1810 = nI v) ∧ ∀ f, f < 8 → ∃ v, v ≤ 2 ∧ K (1800 + f) = nI v
/-- all that is kept: N children, T texts -/
def KW (K : Nat → Int32) (N T : Nat) : Prop := N ≤ 120 ∧ T ≤ 10 ∧ K 1811 = nI N ∧ K 1812 = nI T ∧ (∀ c, c < N → RW (fun f => K (15 * c + f))) ∧ TW K
/-- the class's children and the reference's row -/
def KR (s c : Int32) (r u m K : Nat → Int32) : Prop := ∃ N T, KW K N T ∧ s = nI N ∧ c = nI T ∧ (∀ j, j < 15 * N → r j = K j) ∧ (∀ j, j < 3 → u j = K (1808 + j)) ∧ ∀ j, j < 8 → m j = K (1800 + j)
/-- a law of the class, and the text of the reference -/
def LWo (n : Nat) (t : Nat → Nat × Nat) (I : Nat → Nat → Int32) (F : Nat → Nat → Option Nat) (ow : Nat → Nat) (a : Nat) (K : Nat → Int32) (j : Nat) : Prop :=
  ∃ s c ls lc, (73 ≤ a ∧ a < n ∧ 73 ≤ s ∧ s < n ∧ 73 ≤ c ∧ c < n) ∧ (ow a = 1 ∧ ow s = 1 ∧ ow c = 1) ∧ (t a = (5, 2) ∧ t s = (20, ls) ∧ t c = (20, lc)) ∧ (F a 0 = some s ∧ F a 1 = some c) ∧ LREL (I s) ls (I c) lc K j
def LWs (n : Nat) (t : Nat → Nat × Nat) (I : Nat → Nat → Int32) (F : Nat → Nat → Option Nat) (ow : Nat → Nat) (la : Nat → Option Nat) (K : Nat → Int32) : Prop :=
  (∀ j a, j < 10 → la j = some a → 73 ≤ a ∧ a < n ∧ (t a).1 = 5) ∧ ∀ j, j < (K 1812).toNatClampNeg → ∃ a, la j = some a ∧ LWo n t I F ow a K j
def IMo (n : Nat) (t : Nat → Nat × Nat) (I : Nat → Nat → Int32) (F : Nat → Nat → Option Nat) (ow : Nat → Nat) (k b : Nat) (K : Nat → Int32) : Prop :=
  (73 ≤ b ∧ b + 4 < n) ∧ (∀ i, i < 5 → ow (b + i) = 2 + k) ∧ (t b = (1, 6) ∧ t (b + 1) = (20, 1800) ∧ t (b + 2) = (20, 3) ∧ t (b + 3) = (20, 8) ∧ t (b + 4) = (24, 10)) ∧ (F b 0 = some (b + 1) ∧ F b 1 = some (b + 2) ∧ F b 2 = some (b + 3) ∧ F b 3 = some (b + 4)) ∧ KR (I b 4) (I b 5) (I (b + 1)) (I (b + 2)) (I (b + 3)) K ∧ LWs n t I F ow (F (b + 4)) K
def IMs (n : Nat) (t : Nat → Nat × Nat) (I : Nat → Nat → Int32) (F : Nat → Nat → Option Nat) (ow : Nat → Nat) (g i50 : Nat → Int32) (im : Nat → Option Nat) : Prop :=
  ∀ k, k < 2 → (g k = 0 ∧ im k = none) ∨ (g k = 1 ∧ ∃ b, im k = some b ∧ IMo n t I F ow k b (fun i => i50 (9823 * k + i)))
/-- the world that was drawn last -/
def WD (s st : Int32) (r l : Nat → Int32) (m : Int32) (wm wt wl wf : Nat → Int32) : Prop :=
  (st = 0 ∧ m = -1) ∨ (st = 1 ∧ ∃ M, M ≤ 120 ∧ s = nI M ∧ m = nI M ∧ ∀ c, c < M → (∃ v, v ≤ 20 ∧ l (3 * c) = nI v ∧ wm c = nI v) ∧ (∃ v, v ≤ 1 ∧ l (3 * c + 1) = nI v ∧ wt c = nI v) ∧ (∃ v, v ≤ 999 ∧ l (3 * c + 2) = nI v ∧ wl c = nI v) ∧ ∀ f, f < 8 → r (15 * c + f) = wf (8 * c + f))
/-- the tape -/
def TP (a : Int32) (b : Nat → Int32) (c : Int32) (e : Nat → Int32) : Prop := ∃ m, m ≤ 400 ∧ a = nI m ∧ c = nI m ∧ ∀ j, j < m → b j = e j ∧ (e j).toInt8.toInt32 = e j
/-- refusals, status -/
def RS (a b : Nat → Int32) (c e : Int32) : Prop := (∀ j, j < 7 → a j = b j) ∧ c = e
def wordsL : List Int32 := [99, 104, 97, 110, 99, 101, 32, 119, 97, 105, 116, 115, 32, 108, 97, 116, 101, 114, 32, 105, 110, 32, 105, 102, 32, 111, 114, 32, 97, 110, 100, 32, 110, 111, 116, 32, 104, 111, 117, 115, 101, 32, 119, 105, 116, 32, 108, 105, 107, 101, 115, 32, 104, 117, 110, 103, 114, 121, 32, 110, 117, 114, 115, 101, 114, 121, 32, 119, 97, 121, 32, 107, 101, 112, 116, 32, 98, 114, 111, 107, 101, 110, 32, 100, 101, 97, 108, 116, 32, 109, 105, 110, 117, 116, 101, 32, 119, 97, 105, 116, 101, 100, 32]
def WO (f : Nat → Int32) : Prop := ∀ j, j < 103 → f j = wordsL.getD j 0
def tlN : Nat → Nat := fun j => match j with
  | 2 => 1
  | _ => 0
def tmN : Nat → Nat := fun j => match j with
  | 0 => 200
  | 1 => 3
  | _ => 20
def XS (X : am_X) : Prop := ((X 1).1 = 8 ∧ ∀ j, j < 8 → (X 1).2 j = nI (fm j)) ∧ ((X 2).1 = 3 ∧ ∀ j, j < 3 → (X 2).2 j = nI (tlN j)) ∧ ((X 3).1 = 3 ∧ ∀ j, j < 3 → (X 3).2 j = nI (tmN j))
/-- what holds between calls -/
def Inv (i : Nat) (h : am_H) : Prop :=
  WS h.1 h.2.2.1 h.2.2.2.2.2 ∧ (h.1 ≤ 73 + 5 * i ∧ h.2.1 ≤ 100000 + 2000 * i ∧ i ≤ 600) ∧
  KR (h.2.2.2.1 1 4) (h.2.2.2.1 1 5) (h.2.2.2.1 2) (h.2.2.2.1 3) (h.2.2.2.1 4) (h.2.2.2.1 49) ∧
  RS (h.2.2.2.1 46) (h.2.2.2.1 48) (h.2.2.2.1 0 14) (h.2.2.2.1 47 0) ∧ h.2.2.2.1 9 10 = h.2.2.2.1 47 9 ∧
  TP (h.2.2.2.1 7 1) (h.2.2.2.1 8) (h.2.2.2.1 47 8) (h.2.2.2.1 53) ∧ WO (h.2.2.2.1 52) ∧
  WD (h.2.2.2.1 41 2) (h.2.2.2.1 41 3) (h.2.2.2.1 42) (h.2.2.2.1 43) (h.2.2.2.1 47 38) (h.2.2.2.1 69) (h.2.2.2.1 70) (h.2.2.2.1 71) (h.2.2.2.1 72) ∧
  ∃ ow, LWs h.1 h.2.2.1 h.2.2.2.1 h.2.2.2.2.2 ow (h.2.2.2.2.2 5) (h.2.2.2.1 49) ∧ IMs h.1 h.2.2.1 h.2.2.2.1 h.2.2.2.2.2 ow (h.2.2.2.1 51) (h.2.2.2.1 50) (h.2.2.2.2.2 6)
/-- one call on both sides: the same answer, and what holds between calls holds again -/
def PR (X : am_X) (i mc mr : Nat) (Lc Lr : am_L) (h : am_H) : Prop := am_W X 59 mc 0 Lc [] h (fun r h1 => ∃ v, r = some (.int v) ∧ am_W X 59 mr 0 Lr [] h1 (fun r2 h2 => r2 = some (.int v) ∧ Inv (i + 1) h2))
/-- cells from 73 on (laws, images) are as they were -/
def FR (I I' : Nat → Nat → Int32) : Prop := ∀ s, 73 ≤ s → I' s = I s
theorem FR_r (I : Nat → Nat → Int32) : FR I I := fun _ _ => rfl
theorem FR_u {I I' : Nat → Nat → Int32} {a k : Nat} {v : Int32} (ha : a < 73) (h : FR I I') : FR I (am_uI I' a k v) := fun s hs => by rw [pu_Ine (by omega)]; exact h s hs
theorem FR_o {I I' : Nat → Nat → Int32} {a : Nat} {f : Nat → Int32} (ha : a < 73) (h : FR I I') : FR I (am_ro I' a f) := fun s hs => by rw [pu_rne (by omega)]; exact h s hs
theorem LWo_fr {n n' : Nat} {t t' : Nat → Nat × Nat} {I I' : Nat → Nat → Int32} {F F' : Nat → Nat → Option Nat} {ow : Nat → Nat} {a : Nat} {K K' : Nat → Int32} {j : Nat} (hn : n ≤ n') (ht : ∀ s, 73 ≤ s → s < n → t' s = t s) (hF : ∀ s, 73 ≤ s → s < n → ow s = 1 → F' s = F s) (hI : ∀ s, 73 ≤ s → s < n → ow s = 1 → I' s = I s) (hL : ∀ s ls c lc, LREL s ls c lc K j → LREL s ls c lc K' j) (h : LWo n t I F ow a K j) : LWo n' t' I' F' ow a K' j := by
  obtain ⟨s, c, ls, lc, ⟨h1, h2, h3, h4, h5, h6⟩, ⟨o1, o2, o3⟩, ⟨t1, t2, t3⟩, ⟨f1, f2⟩, hr⟩ := h
  refine ⟨s, c, ls, lc, ⟨h1, by omega, h3, by omega, h5, by omega⟩, ⟨o1, o2, o3⟩, ⟨?_, ?_, ?_⟩, ⟨?_, ?_⟩, ?_⟩
  · rw [ht a h1 h2]; exact t1
  · rw [ht s h3 h4]; exact t2
  · rw [ht c h5 h6]; exact t3
  · rw [hF a h1 h2 o1]; exact f1
  · rw [hF a h1 h2 o1]; exact f2
  · rw [hI s h3 h4 o2, hI c h5 h6 o3]; exact hL _ _ _ _ hr
theorem LWs_fr {n n' : Nat} {t t' : Nat → Nat × Nat} {I I' : Nat → Nat → Int32} {F F' : Nat → Nat → Option Nat} {ow : Nat → Nat} {la : Nat → Option Nat} {K : Nat → Int32} (hn : n ≤ n') (ht : ∀ s, 73 ≤ s → s < n → t' s = t s) (hF : ∀ s, 73 ≤ s → s < n → ow s = 1 → F' s = F s) (hI : ∀ s, 73 ≤ s → s < n → ow s = 1 → I' s = I s) (h : LWs n t I F ow la K) : LWs n' t' I' F' ow la K := by
  refine ⟨fun j a hj e => ?_, fun j hj => ?_⟩
  · obtain ⟨a1, a2, a3⟩ := h.1 j a hj e
    exact ⟨a1, by omega, by rw [ht a a1 a2]; exact a3⟩
  · obtain ⟨a, e, w⟩ := h.2 j hj
    exact ⟨a, e, LWo_fr hn ht hF hI (fun _ _ _ _ q => q) w⟩
theorem IMo_fr {n n' : Nat} {t t' : Nat → Nat × Nat} {I I' : Nat → Nat → Int32} {F F' : Nat → Nat → Option Nat} {ow : Nat → Nat} {k b : Nat} {K : Nat → Int32} (hn : n ≤ n') (ht : ∀ s, 73 ≤ s → s < n → t' s = t s) (hF : ∀ s, 73 ≤ s → s < n → (ow s = 1 ∨ ow s = 2 + k) → F' s = F s) (hI : ∀ s, 73 ≤ s → s < n → (ow s = 1 ∨ ow s = 2 + k) → I' s = I s) (h : IMo n t I F ow k b K) : IMo n' t' I' F' ow k b K := by
  obtain ⟨⟨b1, b2⟩, o, ⟨t0, t1, t2, t3, t4⟩, ⟨f0, f1, f2, f3⟩, hk, hl⟩ := h
  have o0 := o 0 (by omega)
  have o1 := o 1 (by omega)
  have o2 := o 2 (by omega)
  have o3 := o 3 (by omega)
  have o4 := o 4 (by omega)
  rw [Nat.add_zero] at o0
  refine ⟨⟨b1, by omega⟩, o, ⟨?_, ?_, ?_, ?_, ?_⟩, ⟨?_, ?_, ?_, ?_⟩, ?_, ?_⟩
  · rw [ht b (by omega) (by omega)]; exact t0
  · rw [ht (b + 1) (by omega) (by omega)]; exact t1
  · rw [ht (b + 2) (by omega) (by omega)]; exact t2
  · rw [ht (b + 3) (by omega) (by omega)]; exact t3
  · rw [ht (b + 4) (by omega) (by omega)]; exact t4
  · rw [hF b (by omega) (by omega) (Or.inr o0)]; exact f0
  · rw [hF b (by omega) (by omega) (Or.inr o0)]; exact f1
  · rw [hF b (by omega) (by omega) (Or.inr o0)]; exact f2
  · rw [hF b (by omega) (by omega) (Or.inr o0)]; exact f3
  · rw [hI b (by omega) (by omega) (Or.inr o0), hI (b + 1) (by omega) (by omega) (Or.inr o1), hI (b + 2) (by omega) (by omega) (Or.inr o2), hI (b + 3) (by omega) (by omega) (Or.inr o3)]; exact hk
  · rw [hF (b + 4) (by omega) (by omega) (Or.inr o4)]
    exact LWs_fr hn ht (fun s h1 h2 h3 => hF s h1 h2 (Or.inl h3)) (fun s h1 h2 h3 => hI s h1 h2 (Or.inl h3)) hl
theorem IMs_fr {n n' : Nat} {t t' : Nat → Nat × Nat} {I I' : Nat → Nat → Int32} {F F' : Nat → Nat → Option Nat} {ow : Nat → Nat} {g i50 : Nat → Int32} {im : Nat → Option Nat} (hn : n ≤ n') (ht : ∀ s, 73 ≤ s → s < n → t' s = t s) (hF : ∀ s, 73 ≤ s → s < n → F' s = F s) (hI : ∀ s, 73 ≤ s → s < n → I' s = I s) (h : IMs n t I F ow g i50 im) : IMs n' t' I' F' ow g i50 im := fun k hk => by
  rcases h k hk with q | ⟨q, b, e, w⟩
  · exact Or.inl q
  · exact Or.inr ⟨q, b, e, IMo_fr hn ht (fun s h1 h2 _ => hF s h1 h2) (fun s h1 h2 _ => hI s h1 h2) w⟩
/-- a call that makes no cell and leaves texts and images -/
theorem Inv_up {i n sl : Nat} {t : Nat → Nat × Nat} {I I' : Nat → Nat → Int32} {J J' : Nat → Nat → Int64} {F F' : Nat → Nat → Option Nat} (h : Inv i (n, sl, t, I, J, F)) (hi : i < 600) (hF : ∀ a k, ¬ (a = 28 ∧ k = 8) → F' a k = F a k) (hR : FR I I')
    (h1 : KR (I 1 4) (I 1 5) (I 2) (I 3) (I 4) (I 49) → KR (I' 1 4) (I' 1 5) (I' 2) (I' 3) (I' 4) (I' 49))
    (h2 : RS (I 46) (I 48) (I 0 14) (I 47 0) → RS (I' 46) (I' 48) (I' 0 14) (I' 47 0)) (h3 : I 9 10 = I 47 9 → I' 9 10 = I' 47 9)
    (h4 : TP (I 7 1) (I 8) (I 47 8) (I 53) → TP (I' 7 1) (I' 8) (I' 47 8) (I' 53)) (h5 : I' 52 = I 52)
    (h6 : WD (I 41 2) (I 41 3) (I 42) (I 43) (I 47 38) (I 69) (I 70) (I 71) (I 72) → WD (I' 41 2) (I' 41 3) (I' 42) (I' 43) (I' 47 38) (I' 69) (I' 70) (I' 71) (I' 72))
    (h7 : ∀ k, 1812 ≤ k → I' 49 k = I 49 k) (h8 : I' 51 = I 51) (h9 : I' 50 = I 50) : Inv (i + 1) (n, sl, t, I', J', F') := by
  obtain ⟨⟨w1, w2, w3, w4⟩, ⟨m1, m2, m3⟩, k1, k2, k3, k4, k5, k6, ow, k7, k8⟩ := h
  have hF2 : ∀ s, 73 ≤ s → F' s = F s := fun s hs => by
    funext k
    exact hF s k (fun q => by omega)
  dsimp only at *
  have e5 : F' 5 = F 5 := by
    funext k
    exact hF 5 k (fun q => absurd q.1 (by decide))
  have e6 : F' 6 = F 6 := by
    funext k
    exact hF 6 k (fun q => absurd q.1 (by decide))
  refine ⟨⟨w1, w2, w3, fun a k hk => ?_⟩, ⟨by dsimp only; omega, by dsimp only; omega, by omega⟩, h1 k1, h2 k2, h3 k3, h4 k4, ?_, h6 k6, ow, ?_, ?_⟩
  · dsimp only
    rw [hF a k (fun q => by rw [q.1, q.2] at hk; simp [am_wf] at hk)]
    exact w4 a k hk
  · dsimp only; rw [h5]; exact k5
  · dsimp only
    rw [e5]
    refine ⟨k7.1, fun j hj => ?_⟩
    rw [h7 1812 (Nat.le_refl _)] at hj
    obtain ⟨a, ea, wa⟩ := k7.2 j hj
    obtain ⟨N, T, ⟨hN, hT, hKN, hKT, _⟩, _⟩ := k1
    rw [hKT, nI_clamp (by omega)] at hj
    exact ⟨a, ea, LWo_fr (Nat.le_refl _) (fun _ _ _ => rfl) (fun s h1 _ _ => hF2 s h1) (fun s h1 _ _ => hR s h1) (fun s ls c lc q => LREL_k (by omega) (fun k hk _ => h7 k hk) q) wa⟩
  · dsimp only
    rw [e6, h8, h9]
    exact IMs_fr (Nat.le_refl _) (fun _ _ _ => rfl) (fun s h1 _ => hF2 s h1) (fun s h1 _ => hR s h1) k8
/-- cells that hold nothing between calls -/
def scr (a k : Nat) : Bool := match a with
  | 9 => k != 10
  | 10 => true
  | 11 => true
  | 13 => true
  | 14 => true
  | 15 => true
  | 16 => true
  | 17 => true
  | 18 => true
  | 19 => true
  | 20 => true
  | 21 => true
  | 22 => true
  | 23 => true
  | 25 => true
  | 26 => true
  | 27 => true
  | 28 => true
  | 29 => true
  | 30 => true
  | 31 => true
  | 32 => true
  | 33 => true
  | 34 => true
  | 35 => true
  | 36 => true
  | 37 => true
  | 38 => true
  | 39 => true
  | 44 => true
  | 45 => true
  | 47 => k != 0 && k != 8 && k != 9 && k != 38
  | 54 => true
  | 55 => true
  | 56 => true
  | 57 => true
  | 58 => true
  | 59 => true
  | 63 => true
  | 64 => true
  | 65 => true
  | 66 => true
  | 67 => true
  | 68 => true
  | _ => false
/-- what is kept between calls is as it was -/
def SC (I I' : Nat → Nat → Int32) : Prop := ∀ a k, scr a k = false → I' a k = I a k
theorem SC_r (I : Nat → Nat → Int32) : SC I I := fun _ _ _ => rfl
theorem SC_t {I I' I'' : Nat → Nat → Int32} (h : SC I I') (h2 : SC I' I'') : SC I I'' := fun a k q => (h2 a k q).trans (h a k q)
theorem SC_u {I I' : Nat → Nat → Int32} {a k : Nat} {v : Int32} (h : SC I I') (q : scr a k = true) : SC I (am_uI I' a k v) := fun b j hb => by
  by_cases e : b = a
  · subst e
    by_cases e2 : j = k
    · subst e2; rw [q] at hb; cases hb
    · rw [pu_Ieq, pu_ne e2]; exact h b j hb
  · rw [pu_Ine e]; exact h b j hb
theorem SC_o {I I' : Nat → Nat → Int32} {a : Nat} {f : Nat → Int32} (h : SC I I') (q : ∀ k, scr a k = true) : SC I (am_ro I' a f) := fun b j hb => by
  by_cases e : b = a
  · subst e; rw [q j] at hb; cases hb
  · rw [pu_rne e]; exact h b j hb
theorem SC_c {I I' : Nat → Nat → Int32} (h : SC I I') {a : Nat} (q : ∀ k, scr a k = false) : I' a = I a := by
  funext k
  exact h a k (q k)
theorem Inv_sc {i n sl : Nat} {t : Nat → Nat × Nat} {I I' : Nat → Nat → Int32} {J J' : Nat → Nat → Int64} {F F' : Nat → Nat → Option Nat} (h : Inv i (n, sl, t, I, J, F)) (hi : i < 600) (hF : ∀ a k, ¬ (a = 28 ∧ k = 8) → F' a k = F a k) (hS : SC I I') : Inv (i + 1) (n, sl, t, I', J', F') := by
  have hR : FR I I' := fun s hs => by
    funext k
    refine hS s k ?_
    unfold scr
    split <;> first | omega | rfl
  refine Inv_up h hi hF hR (fun q => ?_) (fun q => ?_) (fun q => ?_) (fun q => ?_) ?_ (fun q => ?_) (fun k hk => ?_) ?_ ?_
  · rw [hS 1 4 rfl, hS 1 5 rfl, SC_c hS (a := 2) (fun _ => rfl), SC_c hS (a := 3) (fun _ => rfl), SC_c hS (a := 4) (fun _ => rfl), SC_c hS (a := 49) (fun _ => rfl)]; exact q
  · rw [hS 0 14 rfl, hS 47 0 rfl, SC_c hS (a := 46) (fun _ => rfl), SC_c hS (a := 48) (fun _ => rfl)]; exact q
  · rw [hS 9 10 rfl, hS 47 9 rfl]; exact q
  · rw [hS 7 1 rfl, hS 47 8 rfl, SC_c hS (a := 8) (fun _ => rfl), SC_c hS (a := 53) (fun _ => rfl)]; exact q
  · exact SC_c hS (a := 52) (fun _ => rfl)
  · rw [hS 41 2 rfl, hS 41 3 rfl, hS 47 38 rfl, SC_c hS (a := 42) (fun _ => rfl), SC_c hS (a := 43) (fun _ => rfl), SC_c hS (a := 69) (fun _ => rfl), SC_c hS (a := 70) (fun _ => rfl), SC_c hS (a := 71) (fun _ => rfl), SC_c hS (a := 72) (fun _ => rfl)]; exact q
  · exact hS 49 k rfl
  · exact SC_c hS (a := 51) (fun _ => rfl)
  · exact SC_c hS (a := 50) (fun _ => rfl)
/-- the same but for children, terms, meanings and the status -/
def scr2 (a k : Nat) : Bool := scr a k || (a == 1 && k == 4) || a == 2 || a == 3 || a == 4 || (a == 49 && decide (k < 1812)) || (a == 0 && k == 14) || (a == 47 && k == 0)
def SC2 (I I' : Nat → Nat → Int32) : Prop := ∀ a k, scr2 a k = false → I' a k = I a k
theorem SC2_r (I : Nat → Nat → Int32) : SC2 I I := fun _ _ _ => rfl
theorem SC2_u {I I' : Nat → Nat → Int32} {a k : Nat} {v : Int32} (q : scr2 a k = true) (h : SC2 I I') : SC2 I (am_uI I' a k v) := fun b j hb => by
  by_cases e : b = a
  · subst e
    by_cases e2 : j = k
    · subst e2; rw [q] at hb; cases hb
    · rw [pu_Ieq, pu_ne e2]; exact h b j hb
  · rw [pu_Ine e]; exact h b j hb
theorem SC2_o {I I' : Nat → Nat → Int32} {a : Nat} {f : Nat → Int32} (q : ∀ k, scr2 a k = true) (h : SC2 I I') : SC2 I (am_ro I' a f) := fun b j hb => by
  by_cases e : b = a
  · subst e; rw [q j] at hb; cases hb
  · rw [pu_rne e]; exact h b j hb
theorem SC2_49 {k : Nat} (h : k < 1812) : scr2 49 k = true := by simp [scr2, h]
theorem SC2_c {I I' : Nat → Nat → Int32} (h : SC2 I I') {a : Nat} (q : ∀ k, scr2 a k = false) : I' a = I a := by
  funext k
  exact h a k (q k)
theorem Inv_kc {i n sl : Nat} {t : Nat → Nat × Nat} {I I' : Nat → Nat → Int32} {J J' : Nat → Nat → Int64} {F : Nat → Nat → Option Nat} (h : Inv i (n, sl, t, I, J, F)) (hi : i < 600) (hS : SC2 I I') (hst : I' 0 14 = I' 47 0) (hK : KR (I' 1 4) (I 1 5) (I' 2) (I' 3) (I' 4) (I' 49)) : Inv (i + 1) (n, sl, t, I', J', F) := by
  have hR : FR I I' := fun s hs => by
    funext k
    refine hS s k ?_
    have e1 : scr s k = false := by
      unfold scr
      split <;> first | omega | rfl
    have e2 : ∀ m, m < 73 → (s == m) = false := fun m hm => by simp; omega
    simp [scr2, e1, e2]
  refine Inv_up h hi (fun _ _ _ => rfl) hR (fun q => ?_) (fun q => ?_) (fun q => ?_) (fun q => ?_) ?_ (fun q => ?_) (fun k hk => ?_) ?_ ?_
  · rw [hS 1 5 rfl]; exact hK
  · rw [SC2_c hS (a := 46) (fun _ => rfl), SC2_c hS (a := 48) (fun _ => rfl)]; exact ⟨q.1, hst⟩
  · rw [hS 9 10 rfl, hS 47 9 rfl]; exact q
  · rw [hS 7 1 rfl, hS 47 8 rfl, SC2_c hS (a := 8) (fun _ => rfl), SC2_c hS (a := 53) (fun _ => rfl)]; exact q
  · exact SC2_c hS (a := 52) (fun _ => rfl)
  · rw [hS 41 2 rfl, hS 41 3 rfl, hS 47 38 rfl, SC2_c hS (a := 42) (fun _ => rfl), SC2_c hS (a := 43) (fun _ => rfl), SC2_c hS (a := 69) (fun _ => rfl), SC2_c hS (a := 70) (fun _ => rfl), SC2_c hS (a := 71) (fun _ => rfl), SC2_c hS (a := 72) (fun _ => rfl)]; exact q
  · exact hS 49 k (by simp [scr2, scr]; omega)
  · exact SC2_c hS (a := 51) (fun _ => rfl)
  · exact SC2_c hS (a := 50) (fun _ => rfl)
theorem KR_row {s c : Int32} {r u m K : Nat → Int32} {N T k f : Nat} {v : Int32} (h : KW K N T) (hs : s = nI N) (hc : c = nI T) (hr : ∀ j, j < 15 * N → r j = K j) (hu : ∀ j, j < 3 → u j = K (1808 + j)) (hm : ∀ j, j < 8 → m j = K (1800 + j)) (hk : k < N) (hf : f < 15) (hv : RV f v) : KR s c (upd r (15 * k + f) v) u m (upd K (15 * k + f) v) := by
  obtain ⟨h1, h2, h3, h4, h5, h6, h7, h8, h9⟩ := h
  refine ⟨N, T, ⟨h1, h2, ?_, ?_, fun c' hc' f' hf' => ?_, ?_, ?_, ?_, fun f' hf' => ?_⟩, hs, hc, fun j hj => ?_, fun j hj => ?_, fun j hj => ?_⟩
  · rw [pu_ne (by omega)]; exact h3
  · rw [pu_ne (by omega)]; exact h4
  · dsimp only
    by_cases e : c' = k ∧ f' = f
    · rw [e.1, e.2, pu_eq]; exact hv
    · rw [pu_ne (by omega)]; exact h5 c' hc' f' hf'
  · rw [pu_ne (by omega)]; exact h6
  · rw [pu_ne (by omega)]; exact h7
  · rw [pu_ne (by omega)]; exact h8
  · rw [pu_ne (by omega)]; exact h9 f' hf'
  · by_cases e : j = 15 * k + f
    · rw [e, pu_eq, pu_eq]
    · rw [pu_ne e, pu_ne e]; exact hr j hj
  · rw [pu_ne (by omega)]; exact hu j hj
  · rw [pu_ne (by omega)]; exact hm j hj
theorem Inv_rf {i n sl : Nat} {t : Nat → Nat × Nat} {I : Nat → Nat → Int32} {J : Nat → Nat → Int64} {F : Nat → Nat → Option Nat} (h : Inv i (n, sl, t, I, J, F)) (hi : i < 600) (j : Nat) : Inv (i + 1) (n, sl, t, RFm (RFc I j) j, J, F) := by
  refine Inv_up h hi (fun _ _ _ => rfl) ?_ ?_ ?_ ?_ ?_ ?_ ?_ ?_ ?_ ?_
  · unfold RFm RFc
    exact FR_u (by decide) (FR_u (by decide) (FR_u (by decide) (FR_u (by decide) (FR_r I))))
  · exact id
  · intro q
    refine ⟨fun k hk => ?_, ?_⟩
    · by_cases e : k = j
      · subst e
        simp [RFm, RFc, pu_Ine, pu_Ieq, pu_eq, q.1 k hk]
      · simp [RFm, RFc, pu_Ine, pu_Ieq, pu_ne e, q.1 k hk]
    · simp [RFm, RFc, pu_Ine, pu_Ieq, pu_eq]
  · intro q; simp [RFm, RFc, pu_Ine, pu_Ieq, pu_ne, q]
  · intro q; simpa [RFm, RFc, pu_Ine, pu_Ieq, pu_ne] using q
  · rfl
  · intro q; simpa [RFm, RFc, pu_Ine, pu_Ieq, pu_ne] using q
  · intro k _; rfl
  · rfl
  · rfl
/-! the class: children -/
section CC
variable {X : am_X} {d : Nat} {Q : Option Value → am_H → Prop} {n sl : Nat} {t : Nat → Nat × Nat} {I : Nat → Nat → Int32} {J : Nat → Nat → Int64} {F : Nat → Nat → Option Nat} {h : am_H}
theorem c_rf1 (hW : WS n t F) : am_W X (d + 1) 14 0 [some (.ref 0), some (.int (-1))] [] (n, sl, t, I, J, F) Q ↔ Q (some (.int (-1))) (n, sl, t, RFc I 1, J, F) := c_refuse hW (j := 1) (by decide) (by decide)
theorem c_rf2 (hW : WS n t F) : am_W X (d + 1) 14 0 [some (.ref 0), some (.int (-2))] [] (n, sl, t, I, J, F) Q ↔ Q (some (.int (-2))) (n, sl, t, RFc I 2, J, F) := c_refuse hW (j := 2) (by decide) (by decide)
theorem c_rf3 (hW : WS n t F) : am_W X (d + 1) 14 0 [some (.ref 0), some (.int (-3))] [] (n, sl, t, I, J, F) Q ↔ Q (some (.int (-3))) (n, sl, t, RFc I 3, J, F) := c_refuse hW (j := 3) (by decide) (by decide)
theorem c_rf5 (hW : WS n t F) : am_W X (d + 1) 14 0 [some (.ref 0), some (.int (-5))] [] (n, sl, t, I, J, F) Q ↔ Q (some (.int (-5))) (n, sl, t, RFc I 5, J, F) := c_refuse hW (j := 5) (by decide) (by decide)
theorem c_rf6 (hW : WS n t F) : am_W X (d + 1) 14 0 [some (.ref 0), some (.int (-6))] [] (n, sl, t, I, J, F) Q ↔ Q (some (.int (-6))) (n, sl, t, RFc I 6, J, F) := c_refuse hW (j := 6) (by decide) (by decide)
/-- a fact that can be -/
def FC (f v : Int32) : Prop := ∃ j, j < 8 ∧ f = nI j ∧ 0 ≤ v ∧ v ≤ nI (fm j)
theorem c_factCan1 {f v : Int32} (hX : XS X) (hn2 : n ≤ 1000000) (hf : FC f v) : am_W X (d + 1) 12 0 [some (.int f), some (.int v)] [] (n, sl, t, I, J, F) Q ↔ Q (some (.int 1)) (n, sl, t, I, J, F) := by
  obtain ⟨j, hj, rfl, h1, h2⟩ := hf
  have hq : j < 2000000 := by omega
  have h0 : (0 : Int32) ≤ nI j := nI_le (a := 0) (Nat.zero_le j) (by omega)
  have h7 : nI j ≤ nI 7 := nI_le (by omega) (by decide)
  simp only [↓r12_0, ↓r12_1, ↓r12_2, ↓r12_4, ↓r12_7, ↓r12_10, ↓r12_11, ↓r12_12, ↓r12_15, ↓r12_16, ↓r12_16k, ↓r12_17, ↓r12_20, ↓r12_23, ↓r12_24, ↓r12_27, ↓r12_28, ↓c_within, hX.1.1, hX.1.2 j hj, hj, hq, h0, h7, h1, h2, hn2, ps_lit, nI_add, nI_1, pk_mul, ps_cl, ps_neg, ps_c0, ps_c1, ps_n01, ps_n11, ps_10, ps_01, ps_1n, ps_0n, ps_b01, ps_e0, am_k_n, am_k_i, am_k_r, am_k_u, am_k_l, am_sz_0, am_sz_i, am_sz_r, am_sz_u, am_sz_l, Option.toList_some, Option.toList_none, List.cons_append, List.nil_append, true_and, and_true, or_false, false_or, or_self, or_true, true_or, and_self, if_true, if_false, not_false_eq_true, not_true_eq_false, Classical.not_not, ne_eq, ps_e1, ps_em, ps_z, Nat.not_le, false_implies, true_implies, forall_const, Nat.reduceAdd, Nat.reduceMul, Nat.reduceLT, Nat.reduceLeDiff, Nat.reduceEqDiff, Nat.reduceSub]
theorem c_factCan0 {f v : Int32} (hX : XS X) (hn2 : n ≤ 1000000) (hf : ¬ FC f v) : am_W X (d + 1) 12 0 [some (.int f), some (.int v)] [] (n, sl, t, I, J, F) Q ↔ Q (some (.int 0)) (n, sl, t, I, J, F) := by
  by_cases h7 : 0 ≤ f ∧ f ≤ nI 7
  · obtain ⟨j, hj, rfl⟩ := ps_rng (by decide) h7
    have hj8 : j < 8 := by omega
    have hq : j < 2000000 := by omega
    have hb : ¬ (0 ≤ v ∧ v ≤ nI (fm j)) := fun q => hf ⟨j, hj8, rfl, q.1, q.2⟩
    simp only [↓r12_0, ↓r12_1, ↓r12_2, ↓r12_4, ↓r12_7, ↓r12_10, ↓r12_11, ↓r12_12, ↓r12_15, ↓r12_16, ↓r12_16k, ↓r12_17, ↓r12_20, ↓r12_23, ↓r12_24, ↓r12_27, ↓r12_28, ↓c_within, hX.1.1, hX.1.2 j hj8, hj8, hq, h7.1, h7.2, hb, hn2, ps_lit, nI_add, nI_1, pk_mul, ps_cl, ps_neg, ps_c0, ps_c1, ps_n01, ps_n11, ps_10, ps_01, ps_1n, ps_0n, ps_b01, ps_e0, am_k_n, am_k_i, am_k_r, am_k_u, am_k_l, am_sz_0, am_sz_i, am_sz_r, am_sz_u, am_sz_l, Option.toList_some, Option.toList_none, List.cons_append, List.nil_append, true_and, and_true, or_false, false_or, or_self, or_true, true_or, and_self, if_true, if_false, not_false_eq_true, not_true_eq_false, Classical.not_not, ne_eq, ps_e1, ps_em, ps_z, Nat.not_le, false_implies, true_implies, forall_const, Nat.reduceAdd, Nat.reduceMul, Nat.reduceLT, Nat.reduceLeDiff, Nat.reduceEqDiff, Nat.reduceSub]
  · simp only [↓r12_0, ↓r12_1, ↓r12_2, ↓r12_4, ↓r12_7, ↓r12_10, ↓r12_11, ↓r12_12, ↓r12_15, ↓r12_16, ↓r12_16k, ↓r12_17, ↓r12_20, ↓r12_23, ↓r12_24, ↓r12_27, ↓r12_28, ↓c_within, h7, ps_lit, nI_add, nI_1, pk_mul, ps_cl, ps_neg, ps_c0, ps_c1, ps_n01, ps_n11, ps_10, ps_01, ps_1n, ps_0n, ps_b01, ps_e0, am_k_n, am_k_i, am_k_r, am_k_u, am_k_l, am_sz_0, am_sz_i, am_sz_r, am_sz_u, am_sz_l, Option.toList_some, Option.toList_none, List.cons_append, List.nil_append, true_and, and_true, or_false, false_or, or_self, or_true, true_or, and_self, if_true, if_false, not_false_eq_true, not_true_eq_false, Classical.not_not, ne_eq, ps_e1, ps_em, ps_z, Nat.not_le, false_implies, true_implies, forall_const, Nat.reduceAdd, Nat.reduceMul, Nat.reduceLT, Nat.reduceLeDiff, Nat.reduceEqDiff, Nat.reduceSub]
theorem c_put {k f N : Nat} {v : Int32} (hW : WS n t F) (hk : k < N) (hN : N ≤ 120) (hS : I 1 4 = nI N) (hf : f < 15) : am_W X (d + 2) 16 0 [some (.ref 1), some (.int (nI k)), some (.int (nI f)), some (.int v), none] [] (n, sl, t, I, J, F) Q ↔ Q (some (.int (I 2 (15 * k + f)))) (n, sl, t, am_uI I 2 (15 * k + f) v, J, F) := by
  obtain ⟨hn, hn2, ht, hF⟩ := id hW
  have hq : 15 * k + f < 2000000 := by omega
  have hq2 : 15 * k + f < 1800 := by omega
  have e3 : (0 : Int32) ≤ nI f := nI_le (a := 0) (Nat.zero_le f) (by omega)
  have e4 : nI f ≤ nI 14 := nI_le (by omega) (by decide)
  have e5 : k * 15 + f = 15 * k + f := by omega
  simp only [↓r16_0, ↓r16_1, ↓r16_2, ↓r16_3, ↓r16_6, ↓r16_8, ↓r16_9, ↓r16_10, ↓r16_13, ↓r16_16, ↓r16_17, ↓r16_18, ↓r16_20, ↓r16_23, ↓r16_26, ↓r16_27, ↓r16_30, ↓r16_31, ↓r16_33, ↓r16_34, ↓r16_35, ↓r16_36, ↓r16_37, ↓r16_38, ↓r16_40, ↓c_at hW hk hN hS hf, ↓c_has hW, ↓c_within, hS, ps_chT hk (by omega), e3, e4, e5, hq, hq2, and_self, if_true, hn, hn2, ht, hF, am_wt, am_wf, Option.isSome_some, am_rf_s, am_rf_n, ps_lit, nI_add, nI_1, pk_mul, ps_cl, ps_neg, ps_c0, ps_c1, ps_n01, ps_n11, ps_10, ps_b01, ps_e0, pu_Ine, pu_Ieq, pu_ne, pu_eq, am_k_n, am_k_i, am_k_r, am_k_u, am_k_l, am_sz_0, am_sz_i, am_sz_r, am_sz_u, am_sz_l, Option.toList_some, Option.toList_none, List.cons_append, List.nil_append, true_and, and_true, or_false, false_or, or_self, or_true, true_or, not_false_eq_true, not_true_eq_false, Classical.not_not, ne_eq, ps_e1, ps_em, ps_z, Nat.not_le, false_implies, true_implies, forall_const, ps_01, ps_1n, ps_0n, ps_m10, ps_m1n, lg_cmp_gt, lg_cmp_ge, lg_cmp_le, lg_cmp_lt, lg_cmp_eq, pu_rne, pu_req, pu_uro, RFc_n, Nat.reduceAdd, Nat.reduceMul, Nat.reduceLT, Nat.reduceLeDiff, Nat.reduceEqDiff, Nat.reduceSub]
theorem c_isTried {k N : Nat} (hW : WS n t F) (hk : k < N) (hN : N ≤ 120) (hS : I 1 4 = nI N) : am_W X (d + 1) 28 0 [some (.ref 1), some (.int (nI k))] [] (n, sl, t, I, J, F) Q ↔ Q (some (.int (if I 2 (15 * k + 10) = 0 ∨ I 2 (15 * k + 10) = 1 then 1 else 0))) (n, sl, t, I, J, F) := by
  obtain ⟨hn, hn2, ht, hF⟩ := id hW
  simp only [↓r28_0, ↓r28_1, ↓r28_2, ↓r28_4, ↓r28_7, ↓r28_10, ↓c_at hW hk hN hS (show 10 < 15 by decide), ↓c_meansTried, hn, hn2, ht, hF, am_wt, am_wf, Option.isSome_some, am_rf_s, am_rf_n, ps_lit, nI_add, nI_1, pk_mul, ps_cl, ps_neg, ps_c0, ps_c1, ps_n01, ps_n11, ps_10, ps_b01, ps_e0, pu_Ine, pu_Ieq, pu_ne, pu_eq, am_k_n, am_k_i, am_k_r, am_k_u, am_k_l, am_sz_0, am_sz_i, am_sz_r, am_sz_u, am_sz_l, Option.toList_some, Option.toList_none, List.cons_append, List.nil_append, true_and, and_true, or_false, false_or, or_self, or_true, true_or, not_false_eq_true, not_true_eq_false, Classical.not_not, ne_eq, ps_e1, ps_em, ps_z, Nat.not_le, false_implies, true_implies, forall_const, ps_01, ps_1n, ps_0n, ps_m10, ps_m1n, lg_cmp_gt, lg_cmp_ge, lg_cmp_le, lg_cmp_lt, lg_cmp_eq, pu_rne, pu_req, pu_uro, RFc_n, Nat.reduceAdd, Nat.reduceMul, Nat.reduceLT, Nat.reduceLeDiff, Nat.reduceEqDiff, Nat.reduceSub]
theorem c_side {k N : Nat} (hW : WS n t F) (hk : k < N) (hN : N ≤ 120) (hS : I 1 4 = nI N) : am_W X (d + 2) 27 0 [some (.ref 1), some (.int (nI k))] [] (n, sl, t, I, J, F) Q ↔ Q (some (.int (if I 2 (15 * k + 10) = 0 ∨ I 2 (15 * k + 10) = 1 then (if I 3 0 ≤ I 2 (15 * k + 9) then 1 else if I 2 (15 * k + 10) = 0 then nI 2 else 0) else 0))) (n, sl, t, I, J, F) := by
  obtain ⟨hn, hn2, ht, hF⟩ := id hW
  simp only [↓r27_0, ↓r27_1, ↓r27_2, ↓r27_5, ↓r27_8, ↓r27_9, ↓r27_10, ↓r27_11, ↓r27_12, ↓r27_14, ↓r27_17, ↓r27_18, ↓r27_21, ↓r27_22, ↓r27_22k, ↓r27_23, ↓r27_26, ↓r27_27, ↓r27_28, ↓r27_29, ↓r27_30, ↓r27_32, ↓r27_35, ↓r27_38, ↓r27_39, ↓r27_42, ↓r27_43, ↓c_at hW hk hN hS (show 10 < 15 by decide), ↓c_at hW hk hN hS (show 9 < 15 by decide), ↓c_isTried hW hk hN hS, hn, hn2, ht, hF, am_wt, am_wf, Option.isSome_some, am_rf_s, am_rf_n, ps_lit, nI_add, nI_1, pk_mul, ps_cl, ps_neg, ps_c0, ps_c1, ps_n01, ps_n11, ps_10, ps_b01, ps_e0, pu_Ine, pu_Ieq, pu_ne, pu_eq, am_k_n, am_k_i, am_k_r, am_k_u, am_k_l, am_sz_0, am_sz_i, am_sz_r, am_sz_u, am_sz_l, Option.toList_some, Option.toList_none, List.cons_append, List.nil_append, true_and, and_true, or_false, false_or, or_self, or_true, true_or, not_false_eq_true, not_true_eq_false, Classical.not_not, ne_eq, ps_e1, ps_em, ps_z, Nat.not_le, false_implies, true_implies, forall_const, ps_01, ps_1n, ps_0n, ps_m10, ps_m1n, lg_cmp_gt, lg_cmp_ge, lg_cmp_le, lg_cmp_lt, lg_cmp_eq, pu_rne, pu_req, pu_uro, RFc_n, Nat.reduceAdd, Nat.reduceMul, Nat.reduceLT, Nat.reduceLeDiff, Nat.reduceEqDiff, Nat.reduceSub]
  by_cases h1 : I 2 (15 * k + 10) = 0 <;> by_cases h2 : I 2 (15 * k + 10) = 1 <;> by_cases h3 : I 2 (15 * k + 9) < I 3 0 <;> simp [h1, h2, h3, ← Int32.not_lt]
theorem c_thing {k N th : Nat} (hW : WS n t F) (hk : k < N) (hN : N ≤ 120) (hS : I 1 4 = nI N) (hth : th < 4) (hT : I 3 1 = nI th) : am_W X (d + 1) 77 0 [some (.ref 1), some (.int (nI k))] [] (n, sl, t, I, J, F) Q ↔ Q (some (.int (I 2 (15 * k + (11 + th))))) (n, sl, t, I, J, F) := by
  obtain ⟨hn, hn2, ht, hF⟩ := id hW
  simp only [↓r77_0, ↓r77_1, ↓r77_2, ↓r77_4, ↓r77_5, ↓r77_8, ↓r77_9, ↓r77_9k, ↓r77_10, ↓r77_11, ↓r77_14, hT, ↓c_at hW hk hN hS (show 11 + th < 15 by omega), hn, hn2, ht, hF, am_wt, am_wf, Option.isSome_some, am_rf_s, am_rf_n, ps_lit, nI_add, nI_1, pk_mul, ps_cl, ps_neg, ps_c0, ps_c1, ps_n01, ps_n11, ps_10, ps_b01, ps_e0, pu_Ine, pu_Ieq, pu_ne, pu_eq, am_k_n, am_k_i, am_k_r, am_k_u, am_k_l, am_sz_0, am_sz_i, am_sz_r, am_sz_u, am_sz_l, Option.toList_some, Option.toList_none, List.cons_append, List.nil_append, true_and, and_true, or_false, false_or, or_self, or_true, true_or, not_false_eq_true, not_true_eq_false, Classical.not_not, ne_eq, ps_e1, ps_em, ps_z, Nat.not_le, false_implies, true_implies, forall_const, ps_01, ps_1n, ps_0n, ps_m10, ps_m1n, lg_cmp_gt, lg_cmp_ge, lg_cmp_le, lg_cmp_lt, lg_cmp_eq, pu_rne, pu_req, pu_uro, RFc_n, Nat.reduceAdd, Nat.reduceMul, Nat.reduceLT, Nat.reduceLeDiff, Nat.reduceEqDiff, Nat.reduceSub]
theorem c_isFound {k N th : Nat} (hW : WS n t F) (hk : k < N) (hN : N ≤ 120) (hS : I 1 4 = nI N) (hth : th < 4) (hT : I 3 1 = nI th) : am_W X (d + 2) 76 0 [some (.ref 1), some (.int (nI k))] [] (n, sl, t, I, J, F) Q ↔ Q (some (.int (if ¬ I 2 (15 * k + (11 + th)) = -1 then 1 else 0))) (n, sl, t, I, J, F) := by
  obtain ⟨hn, hn2, ht, hF⟩ := id hW
  simp only [↓r76_0, ↓r76_1, ↓r76_2, ↓r76_5, ↓r76_6, ↓r76_9, ↓r76_10, ↓r76_13, ↓r76_14, ↓c_thing hW hk hN hS hth hT, hn, hn2, ht, hF, am_wt, am_wf, Option.isSome_some, am_rf_s, am_rf_n, ps_lit, nI_add, nI_1, pk_mul, ps_cl, ps_neg, ps_c0, ps_c1, ps_n01, ps_n11, ps_10, ps_b01, ps_e0, pu_Ine, pu_Ieq, pu_ne, pu_eq, am_k_n, am_k_i, am_k_r, am_k_u, am_k_l, am_sz_0, am_sz_i, am_sz_r, am_sz_u, am_sz_l, Option.toList_some, Option.toList_none, List.cons_append, List.nil_append, true_and, and_true, or_false, false_or, or_self, or_true, true_or, not_false_eq_true, not_true_eq_false, Classical.not_not, ne_eq, ps_e1, ps_em, ps_z, Nat.not_le, false_implies, true_implies, forall_const, ps_01, ps_1n, ps_0n, ps_m10, ps_m1n, lg_cmp_gt, lg_cmp_ge, lg_cmp_le, lg_cmp_lt, lg_cmp_eq, pu_rne, pu_req, pu_uro, RFc_n, Nat.reduceAdd, Nat.reduceMul, Nat.reduceLT, Nat.reduceLeDiff, Nat.reduceEqDiff, Nat.reduceSub]
  by_cases h9 : I 2 (15 * k + (11 + th)) = -1 <;> simp [h9]
/-- a row of which nothing is known, as far as j -/
def blk (r : Nat → Int32) (N j : Nat) : Nat → Int32 := fun i => if 15 * N ≤ i ∧ i < 15 * N + j then (if 11 ≤ i - 15 * N then -1 else 0) else r i
theorem blk_s (r : Nat → Int32) (N j : Nat) : upd (blk r N j) (15 * N + j) (if 11 ≤ j then -1 else 0) = blk r N (j + 1) := by
  funext i
  unfold upd blk
  by_cases h1 : i = 15 * N + j
  · subst h1
    simp
  · by_cases h2 : 15 * N ≤ i ∧ i < 15 * N + j
    · rw [if_neg h1, if_pos h2, if_pos (show 15 * N ≤ i ∧ i < 15 * N + (j + 1) by omega)]
    · rw [if_neg h1, if_neg h2, if_neg (by omega)]
theorem blk_0 (r : Nat → Int32) (N : Nat) : blk r N 0 = r := by
  funext i
  unfold blk
  rw [if_neg (by omega)]
theorem l_addChild {N : Nat} (hW : WS n t F) (hN : N < 120) (hS : I 1 4 = nI (N + 1)) : ∀ m j, j + m = 15 → (am_W X (d + 3) 15 28 [some (.ref 1), some (.int (nI N)), some (.int (nI j))] [] (n, sl, t, am_ro I 2 (blk (I 2) N j), J, F) Q ↔ Q (some (.int (nI N))) (n, sl, t, am_ro I 2 (upd (blk (I 2) N 15) (15 * N + 10) (nI 3)), J, F)) := by
  obtain ⟨hn, hn2, ht, hF⟩ := id hW
  intro m
  induction m with
  | zero =>
    intro j hj
    obtain rfl : j = 15 := by omega
    rw [r15_28]
    have e := fun Q => c_put (X := X) (d := d) (Q := Q) (I := am_ro I 2 (blk (I 2) N 15)) (k := N) (f := 10) (N := N + 1) (v := nI 3) (J := J) (sl := sl) hW (by omega) (by omega) (by rw [pu_rne (by decide)]; exact hS) (by decide)
    simp only [↓r15_0, ↓r15_1, ↓r15_4, ↓r15_6, ↓r15_9, ↓r15_10, ↓r15_11, ↓r15_12, ↓r15_15, ↓r15_16, ↓r15_17, ↓r15_17r, ↓r15_18, ↓r15_21, ↓r15_22, ↓r15_23, ↓r15_26, ↓r15_27, ↓r15_29, ↓r15_31, ↓r15_34, ↓r15_35, ↓r15_36, ↓r15_37, ↓r15_38, ↓r15_40, ↓r15_43, ↓r15_44, ↓r15_47, ↓r15_48, ↓r15_51, ↓r15_51r, ↓r15_52, ↓r15_55, ↓r15_58, ↓r15_59, ↓r15_60, ↓r15_62, ↓r15_63, ↓r15_66, ↓r15_66r, ↓r15_67, ↓r15_68, ↓e, Int32.le_refl, hn, hn2, ht, hF, am_wt, am_wf, Option.isSome_some, am_rf_s, am_rf_n, ps_lit, nI_add, nI_1, pk_mul, ps_cl, ps_neg, ps_c0, ps_c1, ps_n01, ps_n11, ps_10, ps_b01, ps_e0, pu_Ine, pu_Ieq, pu_ne, pu_eq, am_k_n, am_k_i, am_k_r, am_k_u, am_k_l, am_sz_0, am_sz_i, am_sz_r, am_sz_u, am_sz_l, Option.toList_some, Option.toList_none, List.cons_append, List.nil_append, true_and, and_true, or_false, false_or, or_self, or_true, true_or, not_false_eq_true, not_true_eq_false, Classical.not_not, ne_eq, ps_e1, ps_em, ps_z, Nat.not_le, false_implies, true_implies, forall_const, ps_01, ps_1n, ps_0n, ps_m10, ps_m1n, lg_cmp_gt, lg_cmp_ge, lg_cmp_le, lg_cmp_lt, lg_cmp_eq, pu_rne, pu_req, pu_uro, RFc_n, Nat.reduceAdd, Nat.reduceMul, Nat.reduceLT, Nat.reduceLeDiff, Nat.reduceEqDiff, Nat.reduceSub]
  | succ m ih =>
    intro j hj
    rw [r15_28]
    have e1 : ¬ nI 15 ≤ nI j := nI_ge (by omega) (by decide)
    by_cases h11 : 11 ≤ j
    · have e2 : ¬ nI j < nI 11 := nI_nlt (by omega) (by omega)
      have e := fun Q => c_put (X := X) (d := d) (Q := Q) (I := am_ro I 2 (blk (I 2) N j)) (k := N) (f := j) (N := N + 1) (v := -1) (J := J) (sl := sl) hW (by omega) (by omega) (by rw [pu_rne (by decide)]; exact hS) (by omega)
      simp only [↓r15_0, ↓r15_1, ↓r15_4, ↓r15_6, ↓r15_9, ↓r15_10, ↓r15_11, ↓r15_12, ↓r15_15, ↓r15_16, ↓r15_17, ↓r15_17r, ↓r15_18, ↓r15_21, ↓r15_22, ↓r15_23, ↓r15_26, ↓r15_27, ↓r15_29, ↓r15_31, ↓r15_34, ↓r15_35, ↓r15_36, ↓r15_37, ↓r15_38, ↓r15_40, ↓r15_43, ↓r15_44, ↓r15_47, ↓r15_48, ↓r15_51, ↓r15_51r, ↓r15_52, ↓r15_55, ↓r15_58, ↓r15_59, ↓r15_60, ↓r15_62, ↓r15_63, ↓r15_66, ↓r15_66r, ↓r15_67, ↓r15_68, ↓e, e1, e2, hn, hn2, ht, hF, am_wt, am_wf, Option.isSome_some, am_rf_s, am_rf_n, ps_lit, nI_add, nI_1, pk_mul, ps_cl, ps_neg, ps_c0, ps_c1, ps_n01, ps_n11, ps_10, ps_b01, ps_e0, pu_Ine, pu_Ieq, pu_ne, pu_eq, am_k_n, am_k_i, am_k_r, am_k_u, am_k_l, am_sz_0, am_sz_i, am_sz_r, am_sz_u, am_sz_l, Option.toList_some, Option.toList_none, List.cons_append, List.nil_append, true_and, and_true, or_false, false_or, or_self, or_true, true_or, not_false_eq_true, not_true_eq_false, Classical.not_not, ne_eq, ps_e1, ps_em, ps_z, Nat.not_le, false_implies, true_implies, forall_const, ps_01, ps_1n, ps_0n, ps_m10, ps_m1n, lg_cmp_gt, lg_cmp_ge, lg_cmp_le, lg_cmp_lt, lg_cmp_eq, pu_rne, pu_req, pu_uro, RFc_n, Nat.reduceAdd, Nat.reduceMul, Nat.reduceLT, Nat.reduceLeDiff, Nat.reduceEqDiff, Nat.reduceSub]
      have e3 := blk_s (I 2) N j
      rw [if_pos h11] at e3
      rw [e3]
      exact ih (j + 1) (by omega)
    · have e2 : nI j < nI 11 := nI_lt (by omega) (by omega)
      have e := fun Q => c_put (X := X) (d := d) (Q := Q) (I := am_ro I 2 (blk (I 2) N j)) (k := N) (f := j) (N := N + 1) (v := 0) (J := J) (sl := sl) hW (by omega) (by omega) (by rw [pu_rne (by decide)]; exact hS) (by omega)
      simp only [↓r15_0, ↓r15_1, ↓r15_4, ↓r15_6, ↓r15_9, ↓r15_10, ↓r15_11, ↓r15_12, ↓r15_15, ↓r15_16, ↓r15_17, ↓r15_17r, ↓r15_18, ↓r15_21, ↓r15_22, ↓r15_23, ↓r15_26, ↓r15_27, ↓r15_29, ↓r15_31, ↓r15_34, ↓r15_35, ↓r15_36, ↓r15_37, ↓r15_38, ↓r15_40, ↓r15_43, ↓r15_44, ↓r15_47, ↓r15_48, ↓r15_51, ↓r15_51r, ↓r15_52, ↓r15_55, ↓r15_58, ↓r15_59, ↓r15_60, ↓r15_62, ↓r15_63, ↓r15_66, ↓r15_66r, ↓r15_67, ↓r15_68, ↓e, e1, e2, hn, hn2, ht, hF, am_wt, am_wf, Option.isSome_some, am_rf_s, am_rf_n, ps_lit, nI_add, nI_1, pk_mul, ps_cl, ps_neg, ps_c0, ps_c1, ps_n01, ps_n11, ps_10, ps_b01, ps_e0, pu_Ine, pu_Ieq, pu_ne, pu_eq, am_k_n, am_k_i, am_k_r, am_k_u, am_k_l, am_sz_0, am_sz_i, am_sz_r, am_sz_u, am_sz_l, Option.toList_some, Option.toList_none, List.cons_append, List.nil_append, true_and, and_true, or_false, false_or, or_self, or_true, true_or, not_false_eq_true, not_true_eq_false, Classical.not_not, ne_eq, ps_e1, ps_em, ps_z, Nat.not_le, false_implies, true_implies, forall_const, ps_01, ps_1n, ps_0n, ps_m10, ps_m1n, lg_cmp_gt, lg_cmp_ge, lg_cmp_le, lg_cmp_lt, lg_cmp_eq, pu_rne, pu_req, pu_uro, RFc_n, Nat.reduceAdd, Nat.reduceMul, Nat.reduceLT, Nat.reduceLeDiff, Nat.reduceEqDiff, Nat.reduceSub]
      have e3 := blk_s (I 2) N j
      rw [if_neg h11] at e3
      rw [e3]
      exact ih (j + 1) (by omega)
theorem c_addChild {N : Nat} (hW : WS n t F) (hN : N < 120) (hS : I 1 4 = nI N) : am_W X (d + 3) 15 0 [some (.ref 1), none, none] [] (n, sl, t, I, J, F) Q ↔ Q (some (.int (nI N))) (n, sl, t, am_ro (am_uI I 1 4 (nI (N + 1))) 2 (upd (blk (I 2) N 15) (15 * N + 10) (nI 3)), J, F) := by
  obtain ⟨hn, hn2, ht, hF⟩ := id hW
  have e1 : nI N < nI 120 := nI_lt (by omega) (by decide)
  have e := l_addChild (X := X) (d := d) (Q := Q) (sl := sl) (J := J) (I := am_uI I 1 4 (nI (N + 1))) hW hN (by rw [pu_Ieq, pu_eq]) 15 0 rfl
  rw [blk_0] at e
  simp only [pu_Ine, pu_roI, ne_eq, Nat.reduceEqDiff, not_false_eq_true] at e
  have e9 : am_ro (am_uI I 1 4 (nI (N + 1))) 2 (I 2) = am_uI I 1 4 (nI (N + 1)) := by
    have := pu_roI (I := am_uI I 1 4 (nI (N + 1))) (a := 2)
    rw [pu_Ine (by decide)] at this
    exact this
  rw [e9] at e
  rw [← e]
  simp only [↓r15_0, ↓r15_1, ↓r15_4, ↓r15_6, ↓r15_9, ↓r15_10, ↓r15_11, ↓r15_12, ↓r15_15, ↓r15_16, ↓r15_17, ↓r15_17r, ↓r15_18, ↓r15_21, ↓r15_22, ↓r15_23, ↓r15_26, ↓r15_27, hS, e1, hn, hn2, ht, hF, am_wt, am_wf, Option.isSome_some, am_rf_s, am_rf_n, ps_lit, nI_add, nI_1, pk_mul, ps_cl, ps_neg, ps_c0, ps_c1, ps_n01, ps_n11, ps_10, ps_b01, ps_e0, pu_Ine, pu_Ieq, pu_ne, pu_eq, am_k_n, am_k_i, am_k_r, am_k_u, am_k_l, am_sz_0, am_sz_i, am_sz_r, am_sz_u, am_sz_l, Option.toList_some, Option.toList_none, List.cons_append, List.nil_append, true_and, and_true, or_false, false_or, or_self, or_true, true_or, not_false_eq_true, not_true_eq_false, Classical.not_not, ne_eq, ps_e1, ps_em, ps_z, Nat.not_le, false_implies, true_implies, forall_const, ps_01, ps_1n, ps_0n, ps_m10, ps_m1n, lg_cmp_gt, lg_cmp_ge, lg_cmp_le, lg_cmp_lt, lg_cmp_eq, pu_rne, pu_req, pu_uro, RFc_n, Nat.reduceAdd, Nat.reduceMul, Nat.reduceLT, Nat.reduceLeDiff, Nat.reduceEqDiff, Nat.reduceSub]
  exact Iff.rfl
end CC
/-! specs whose premises simp can meet by itself -/
section AU
variable {X : am_X} {d : Nat} {Q : Option Value → am_H → Prop} {n sl : Nat} {t : Nat → Nat × Nat} {I : Nat → Nat → Int32} {J : Nat → Nat → Int64} {F : Nat → Nat → Option Nat} {h : am_H}
theorem au_N {s : Int32} {k : Nat} (h : nI k < s) (hk : k < 120) (hs : s ≤ nI 120) : ∃ N, k < N ∧ N ≤ 120 ∧ s = nI N := by
  have h0 : ¬ s < 0 := fun q => by
    have h1 := Int32.lt_trans h q
    exact nI_pos (n := k) (by omega) h1
  obtain ⟨N, hN, rfl⟩ := nI_of h0
  exact ⟨N, (nI_ltI (by omega) hN).mp h, (nI_leI hN (by decide)).mp hs, rfl⟩
theorem c_atx {k f : Nat} (hW : WS n t F) (hk : k < 120) (h1 : nI k < I 1 4) (h2 : I 1 4 ≤ nI 120) (hf : f < 15) : am_W X d 17 0 [some (.ref 1), some (.int (nI k)), some (.int (nI f)), none] [] (n, sl, t, I, J, F) Q ↔ Q (some (.int (I 2 (15 * k + f)))) (n, sl, t, I, J, F) := by
  obtain ⟨N, a, b, c⟩ := au_N h1 hk h2
  exact c_at hW a b c hf
theorem c_putx {k f : Nat} {v : Int32} (hW : WS n t F) (hk : k < 120) (h1 : nI k < I 1 4) (h2 : I 1 4 ≤ nI 120) (hf : f < 15) : am_W X (d + 2) 16 0 [some (.ref 1), some (.int (nI k)), some (.int (nI f)), some (.int v), none] [] (n, sl, t, I, J, F) Q ↔ Q (some (.int (I 2 (15 * k + f)))) (n, sl, t, am_uI I 2 (15 * k + f) v, J, F) := by
  obtain ⟨N, a, b, c⟩ := au_N h1 hk h2
  exact c_put hW a b c hf
theorem c_isTriedx {k : Nat} (hW : WS n t F) (hk : k < 120) (h1 : nI k < I 1 4) (h2 : I 1 4 ≤ nI 120) : am_W X (d + 1) 28 0 [some (.ref 1), some (.int (nI k))] [] (n, sl, t, I, J, F) Q ↔ Q (some (.int (if I 2 (15 * k + 10) = 0 ∨ I 2 (15 * k + 10) = 1 then 1 else 0))) (n, sl, t, I, J, F) := by
  obtain ⟨N, a, b, c⟩ := au_N h1 hk h2
  exact c_isTried hW a b c
theorem c_sidex {k : Nat} (hW : WS n t F) (hk : k < 120) (h1 : nI k < I 1 4) (h2 : I 1 4 ≤ nI 120) : am_W X (d + 2) 27 0 [some (.ref 1), some (.int (nI k))] [] (n, sl, t, I, J, F) Q ↔ Q (some (.int (if I 2 (15 * k + 10) = 0 ∨ I 2 (15 * k + 10) = 1 then (if I 3 0 ≤ I 2 (15 * k + 9) then 1 else if I 2 (15 * k + 10) = 0 then nI 2 else 0) else 0))) (n, sl, t, I, J, F) := by
  obtain ⟨N, a, b, c⟩ := au_N h1 hk h2
  exact c_side hW a b c
theorem c_thingx {k : Nat} (hW : WS n t F) (hk : k < 120) (h1 : nI k < I 1 4) (h2 : I 1 4 ≤ nI 120) (h3 : I 3 1 = nI (I 3 1).toNatClampNeg) (h4 : (I 3 1).toNatClampNeg < 4) : am_W X (d + 1) 77 0 [some (.ref 1), some (.int (nI k))] [] (n, sl, t, I, J, F) Q ↔ Q (some (.int (I 2 (15 * k + (11 + (I 3 1).toNatClampNeg))))) (n, sl, t, I, J, F) := by
  obtain ⟨N, a, b, c⟩ := au_N h1 hk h2
  exact c_thing hW a b c h4 h3
theorem c_isFoundx {k : Nat} (hW : WS n t F) (hk : k < 120) (h1 : nI k < I 1 4) (h2 : I 1 4 ≤ nI 120) (h3 : I 3 1 = nI (I 3 1).toNatClampNeg) (h4 : (I 3 1).toNatClampNeg < 4) : am_W X (d + 2) 76 0 [some (.ref 1), some (.int (nI k))] [] (n, sl, t, I, J, F) Q ↔ Q (some (.int (if ¬ I 2 (15 * k + (11 + (I 3 1).toNatClampNeg)) = -1 then 1 else 0))) (n, sl, t, I, J, F) := by
  obtain ⟨N, a, b, c⟩ := au_N h1 hk h2
  exact c_isFound hW a b c h4 h3
theorem s_factOfx {k f : Nat} (hW : WS n t F) (hk : k < 120) (hf : f < 15) : am_W X d 184 0 [some (.ref 47), some (.int (nI k)), some (.int (nI f))] [] (n, sl, t, I, J, F) Q ↔ Q (some (.int (I 49 (15 * k + f)))) (n, sl, t, I, J, F) := s_factOf hW (by omega)
theorem s_thingOfx {k : Nat} (hW : WS n t F) (hk : k < 120) (h3 : I 49 1809 = nI (I 49 1809).toNatClampNeg) (h4 : (I 49 1809).toNatClampNeg < 4) : am_W X (d + 1) 233 0 [some (.ref 47), some (.int (nI k))] [] (n, sl, t, I, J, F) Q ↔ Q (some (.int (I 49 (15 * k + (11 + (I 49 1809).toNatClampNeg))))) (n, sl, t, I, J, F) := s_thingOf hW hk h4 h3
theorem s_isFoundx {k : Nat} (hW : WS n t F) (hk : k < 120) (h3 : I 49 1809 = nI (I 49 1809).toNatClampNeg) (h4 : (I 49 1809).toNatClampNeg < 4) : am_W X (d + 2) 232 0 [some (.ref 47), some (.int (nI k))] [] (n, sl, t, I, J, F) Q ↔ Q (some (.int (if ¬ I 49 (15 * k + (11 + (I 49 1809).toNatClampNeg)) = -1 then 1 else 0))) (n, sl, t, I, J, F) := s_isFound hW hk h4 h3
theorem s_replacesx {k f : Nat} {v : Int32} (hW : WS n t F) (hk : k < 120) (hf : f < 15) : am_W X (d + 1) 178 0 [some (.ref 47), some (.int (nI (15 * k + f))), some (.int v), none] [] (n, sl, t, I, J, F) Q ↔ Q (some (.int (I 49 (15 * k + f)))) (n, sl, t, am_uI (am_uI I 49 (15 * k + f) v) 47 0 0, J, F) := s_replaces hW (by omega)
theorem c_put0 {k : Nat} {v : Int32} (hW : WS n t F) (hk : k < 120) (h1 : nI k < I 1 4) (h2 : I 1 4 ≤ nI 120) : am_W X (d + 2) 16 0 [some (.ref 1), some (.int (nI k)), some (.int 0), some (.int v), none] [] (n, sl, t, I, J, F) Q ↔ Q (some (.int (I 2 (15 * k)))) (n, sl, t, am_uI I 2 (15 * k) v, J, F) := c_putx (f := 0) hW hk h1 h2 (by decide)
theorem c_put1 {k : Nat} {v : Int32} (hW : WS n t F) (hk : k < 120) (h1 : nI k < I 1 4) (h2 : I 1 4 ≤ nI 120) : am_W X (d + 2) 16 0 [some (.ref 1), some (.int (nI k)), some (.int 1), some (.int v), none] [] (n, sl, t, I, J, F) Q ↔ Q (some (.int (I 2 (15 * k + 1)))) (n, sl, t, am_uI I 2 (15 * k + 1) v, J, F) := c_putx (f := 1) hW hk h1 h2 (by decide)
theorem s_at0 {k : Nat} : am_W X d 174 0 [some (.ref 47), some (.int (nI k)), some (.int 0)] [] (n, sl, t, I, J, F) Q ↔ Q (some (.int (nI (15 * k)))) (n, sl, t, I, J, F) := s_at (f := 0)
theorem s_at1 {k : Nat} : am_W X d 174 0 [some (.ref 47), some (.int (nI k)), some (.int 1)] [] (n, sl, t, I, J, F) Q ↔ Q (some (.int (nI (15 * k + 1)))) (n, sl, t, I, J, F) := s_at (f := 1)
end AU
