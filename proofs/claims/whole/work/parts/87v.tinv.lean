/-! TEXTS: what holds between calls, after a text -/
section TV
variable {X : am_X} {d : Nat} {Q : Option Value → am_H → Prop} {n sl : Nat} {t : Nat → Nat × Nat} {I : Nat → Nat → Int32} {J : Nat → Nat → Int64} {F : Nat → Nat → Option Nat} {h : am_H}
variable {i : Nat} {I' : Nat → Nat → Int32} {J' : Nat → Nat → Int64} {F' : Nat → Nat → Option Nat} {t' : Nat → Nat × Nat}
theorem IMs_ow {ow ow' : Nat → Nat} {g i50 : Nat → Int32} {im : Nat → Option Nat} (h : IMs n t I F ow g i50 im) (ho : ∀ s, s < n → ow' s = ow s) : IMs n t I F ow' g i50 im := fun k hk => by
  rcases h k hk with q | ⟨q, b, e, w⟩
  · exact Or.inl q
  · exact Or.inr ⟨q, b, e, IMo_ow w ho⟩
/-- a text that is refused -/
theorem Inv_tr {j : Nat} (hV : Inv i (n, sl, t, I, J, F)) (hi : i < 600)
    (hS : ∀ s, s ≠ 0 → s ≠ 7 → s ≠ 9 → s ≠ 10 → s ≠ 11 → s ≠ 46 → s ≠ 47 → s ≠ 48 → s ≠ 55 → s ≠ 56 → s ≠ 57 → I' s = I s)
    (h46 : I' 46 = upd (I 46) j (I 46 j + 1)) (h48 : I' 48 = upd (I 48) j (I 48 j + 1)) (h0 : I' 0 14 = I' 47 0) (h9 : I' 9 10 = I' 47 9) (h7 : I' 7 1 = 0) (h8 : I' 47 8 = 0) (h38 : I' 47 38 = I 47 38) : Inv (i + 1) (n, sl, t, I', J', F) := by
  have hs : ∀ s, s < 47 → s ≠ 0 → s ≠ 7 → s ≠ 9 → s ≠ 10 → s ≠ 11 → s ≠ 46 → I' s = I s := fun s a1 a2 a3 a4 a5 a6 a7 => hS s a2 a3 a4 a5 a6 a7 (by omega) (by omega) (by omega) (by omega) (by omega)
  have hg : ∀ s, 48 < s → s < 55 ∨ 57 < s → I' s = I s := fun s a1 a2 => hS s (by omega) (by omega) (by omega) (by omega) (by omega) (by omega) (by omega) (by omega) (by omega) (by omega) (by omega)
  refine Inv_up hV hi (fun _ _ _ => rfl) (fun s hs => hg s (by omega) (by omega)) (fun q => ?_) (fun q => ?_) (fun q => h9) (fun q => ⟨0, by omega, h7, h8, fun j hj => absurd hj (Nat.not_lt_zero _)⟩) (hg 52 (by decide) (by decide)) (fun q => ?_) (fun k hk => by rw [hg 49 (by decide) (by decide)]) (hg 51 (by decide) (by decide)) (hg 50 (by decide) (by decide))
  · rw [hs 1 (by decide) (by decide) (by decide) (by decide) (by decide) (by decide) (by decide), hs 2 (by decide) (by decide) (by decide) (by decide) (by decide) (by decide) (by decide), hs 3 (by decide) (by decide) (by decide) (by decide) (by decide) (by decide) (by decide), hs 4 (by decide) (by decide) (by decide) (by decide) (by decide) (by decide) (by decide), hg 49 (by decide) (by decide)]
    exact q
  · refine ⟨fun k hk => ?_, h0⟩
    rw [h46, h48]
    by_cases e : k = j
    · subst e
      rw [pu_eq, pu_eq, q.1 k hk]
    · rw [pu_ne e, pu_ne e, q.1 k hk]
  · rw [hs 41 (by decide) (by decide) (by decide) (by decide) (by decide) (by decide) (by decide), hs 42 (by decide) (by decide) (by decide) (by decide) (by decide) (by decide) (by decide), hs 43 (by decide) (by decide) (by decide) (by decide) (by decide) (by decide) (by decide), h38, hg 69 (by decide) (by decide), hg 70 (by decide) (by decide), hg 71 (by decide) (by decide), hg 72 (by decide) (by decide)]
    exact q
theorem tx_sl {a b j : Nat} (h1 : a ≤ b + 450) (h2 : b ≤ 100000 + 2000 * j) : a ≤ 100000 + 2000 * (j + 1) :=
  Nat.le_trans h1 (Nat.le_trans (Nat.add_le_add h2 (show 450 ≤ 2000 by decide)) (Nat.le_of_eq (by rw [Nat.mul_add_one, Nat.add_assoc])))
/-- a text that is kept -/
theorem Inv_tx {T sc lc sl' : Nat} (hV : Inv i (n, sl, t, I, J, F)) (hi : i < 600) (hT : T < 10) (h49 : I 49 1812 = nI T)
    (hW' : WS (n + 3) t' F') (hsl : sl' ≤ sl + 450)
    (ht' : ∀ s, s < n → t' s = t s) (hF' : ∀ s, s < n → s ≠ 5 → F' s = F s) (hF5 : ∀ k, k ≠ T → F' 5 k = F 5 k) (hFT : F' 5 T = some n)
    (htn : t' n = (5, 2) ∧ t' (n + 1) = (20, sc) ∧ t' (n + 2) = (20, lc)) (hFn : F' n 0 = some (n + 1) ∧ F' n 1 = some (n + 2))
    (hI : ∀ s, s < n → s ≠ 0 → s ≠ 1 → s ≠ 7 → s ≠ 9 → s ≠ 10 → s ≠ 11 → s ≠ 47 → s ≠ 49 → s ≠ 55 → s ≠ 56 → s ≠ 57 → I' s = I s)
    (h0 : I' 0 14 = I' 47 0) (h9 : I' 9 10 = I' 47 9) (h7 : I' 7 1 = 0) (h8 : I' 47 8 = 0) (h38 : I' 47 38 = I 47 38)
    (h14 : I' 1 4 = I 1 4) (h15 : I' 1 5 = nI (T + 1))
    (hK1 : ∀ x, x < 1812 → I' 49 x = I 49 x) (hK2 : I' 49 1812 = nI (T + 1)) (hK3 : ∀ j, j < T → ∀ x, 1812 ≤ x → TX j x → I' 49 x = I 49 x)
    (hL : LREL (I' (n + 1)) sc (I' (n + 2)) lc (I' 49) T) : Inv (i + 1) (n + 3, sl', t', I', J', F') := by
  obtain ⟨⟨w1, w2, w3, w4⟩, ⟨m1, m2, m3⟩, k1, k2, k3, k4, k5, k6, ow, k7, k8⟩ := hV
  dsimp only at w1 w2 w3 w4 m1 m2 k1 k2 k3 k4 k5 k6 k7 k8
  have n73 : 72 < n := w1 72 (by decide)
  have hs : ∀ s, s < 47 → s ≠ 0 → s ≠ 1 → s ≠ 7 → s ≠ 9 → s ≠ 10 → s ≠ 11 → I' s = I s := fun s a1 a2 a3 a4 a5 a6 a7 => hI s (by omega) a2 a3 a4 a5 a6 a7 (by omega) (by omega) (by omega) (by omega) (by omega)
  have hg : ∀ s, 49 < s → s < 55 ∨ 57 < s → s < n → I' s = I s := fun s a1 a2 a3 => hI s a3 (by omega) (by omega) (by omega) (by omega) (by omega) (by omega) (by omega) (by omega) (by omega) (by omega) (by omega)
  have e48 : I' 48 = I 48 := hI 48 (by omega) (by decide) (by decide) (by decide) (by decide) (by decide) (by decide) (by decide) (by decide) (by decide) (by decide) (by decide)
  have b1 : n + 3 ≤ 73 + 5 * (i + 1) := by omega
  have b2 : sl' ≤ 100000 + 2000 * (i + 1) := tx_sl hsl m2
  refine ⟨hW', ⟨b1, b2, by omega⟩, ?_, ⟨fun j hj => ?_, h0⟩, h9, ⟨0, by omega, h7, h8, fun j hj => absurd hj (Nat.not_lt_zero _)⟩, ?_, ?_, fun s => if s < n then ow s else 1, ⟨fun j a hj e => ?_, fun j hj => ?_⟩, ?_⟩
  · dsimp only
    obtain ⟨N, T', ⟨hN, hT', hKN, hKT, hRW, v1, v2, v3, v4⟩, hs1, hc1, hr, hu, hm⟩ := k1
    refine ⟨N, T + 1, ⟨hN, by omega, ?_, hK2, fun c hc f hf => ?_, ?_, ?_, ?_, fun f hf => ?_⟩, ?_, h15, fun j hj => ?_, fun j hj => ?_, fun j hj => ?_⟩
    · rw [hK1 1811 (by decide)]; exact hKN
    · dsimp only
      rw [hK1 _ (by omega)]; exact hRW c hc f hf
    · rw [hK1 _ (by decide)]; exact v1
    · rw [hK1 _ (by decide)]; exact v2
    · rw [hK1 _ (by decide)]; exact v3
    · rw [hK1 _ (by omega)]; exact v4 f hf
    · rw [h14]; exact hs1
    · rw [hs 2 (by decide) (by decide) (by decide) (by decide) (by decide) (by decide) (by decide), hK1 j (by omega)]; exact hr j hj
    · rw [hs 3 (by decide) (by decide) (by decide) (by decide) (by decide) (by decide) (by decide), hK1 _ (by omega)]; exact hu j hj
    · rw [hs 4 (by decide) (by decide) (by decide) (by decide) (by decide) (by decide) (by decide), hK1 _ (by omega)]; exact hm j hj
  · dsimp only
    rw [hs 46 (by decide) (by decide) (by decide) (by decide) (by decide) (by decide) (by decide), e48]
    exact k2.1 j hj
  · dsimp only
    rw [hg 52 (by decide) (by decide) (by omega)]
    exact k5
  · dsimp only
    rw [hs 41 (by decide) (by decide) (by decide) (by decide) (by decide) (by decide) (by decide), hs 42 (by decide) (by decide) (by decide) (by decide) (by decide) (by decide) (by decide), hs 43 (by decide) (by decide) (by decide) (by decide) (by decide) (by decide) (by decide), h38, hg 69 (by decide) (by decide) (by omega), hg 70 (by decide) (by decide) (by omega), hg 71 (by decide) (by decide) (by omega), hg 72 (by decide) (by decide) (by omega)]
    exact k6
  · dsimp only at e ⊢
    by_cases c : j = T
    · subst c
      rw [hFT] at e
      cases e
      exact ⟨by omega, by omega, by rw [htn.1]⟩
    · rw [hF5 j c] at e
      obtain ⟨a1, a2, a3⟩ := k7.1 j a hj e
      exact ⟨a1, by omega, by rw [ht' a a2]; exact a3⟩
  · dsimp only at hj ⊢
    rw [hK2, nI_clamp (by omega)] at hj
    by_cases c : j = T
    · subst c
      exact ⟨n, hFT, n + 1, n + 2, sc, lc, ⟨by omega, by omega, by omega, by omega, by omega, by omega⟩, ⟨if_neg (by omega), if_neg (by omega), if_neg (by omega)⟩, htn, hFn, hL⟩
    · obtain ⟨a, e, s, c', ls, lc', ⟨h1, h2, h3, h4, h5, h6⟩, ⟨o1, o2, o3⟩, ⟨t1, t2, t3⟩, ⟨f1, f2⟩, q⟩ := k7.2 j (by rw [h49, nI_clamp (by omega)]; omega)
      refine ⟨a, by rw [hF5 j c]; exact e, s, c', ls, lc', ⟨h1, by omega, h3, by omega, h5, by omega⟩, ⟨(if_pos h2).trans o1, (if_pos h4).trans o2, (if_pos h6).trans o3⟩, ⟨by rw [ht' a h2]; exact t1, by rw [ht' s h4]; exact t2, by rw [ht' c' h6]; exact t3⟩, ⟨by rw [hF' a h2 (by omega)]; exact f1, by rw [hF' a h2 (by omega)]; exact f2⟩, ?_⟩
      rw [hg s (by omega) (by omega) h4, hg c' (by omega) (by omega) h6]
      exact LREL_x (hK3 j (by omega)) q
  · dsimp only
    rw [hF' 6 (by omega) (by decide), hg 50 (by decide) (by decide) (by omega), hg 51 (by decide) (by decide) (by omega)]
    exact IMs_fr (Nat.le_add_right n 3) (fun s _ h2 => ht' s h2) (fun s h1 h2 => hF' s h2 (by omega)) (fun s h1 h2 => hg s (by omega) (by omega) h2) (IMs_ow k8 (fun s h => if_pos h))
end TV
