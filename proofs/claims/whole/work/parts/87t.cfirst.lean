/-! TEXTS: the class's first token -/
section CY
variable {X : am_X} {d : Nat} {Q : Option Value → am_H → Prop} {n sl : Nat} {t : Nat → Nat × Nat} {I : Nat → Nat → Int32} {J : Nat → Nat → Int64} {F : Nat → Nat → Option Nat} {h : am_H}
variable {u : Nat → Nat} {m : Nat}
theorem nI_ex (x : Int32) : ∃ k, x = nI k := by
  refine ⟨x.toBitVec.toNat, ?_⟩
  show x = Int32.ofBitVec (BitVec.ofNat 32 x.toBitVec.toNat)
  rw [BitVec.ofNat_toNat, BitVec.setWidth_eq]
  rfl
theorem c_go0 (hW : WS n t F) (hT : TPB I u m) : am_W X (d + 2) 41 0 [some (.ref 9), none, none] [] (n, sl, t, am_uI (am_uI (am_uI (am_uI I 9 2 0) 9 3 0) 9 4 0) 9 8 0, J, F) Q ↔ Q none (n, sl, t, cR I (ktB u m) (plB u m) (eB u m) (nmB u m) 0 0 0 0 (I 10) (I 11), J, F) := by
  obtain ⟨a, ea⟩ := nI_ex (I 9 6)
  obtain ⟨b, eb⟩ := nI_ex (I 9 7)
  obtain ⟨v, ev⟩ := nI_ex (I 9 9)
  have e1 : am_uI (am_uI (am_uI (am_uI I 9 2 0) 9 3 0) 9 4 0) 9 8 0 = gQ (cR I (ktB u m) (plB u m) (eB u m) (nmB u m) 0 0 0 0 (I 10) (I 11)) a b 0 v := by
    funext s
    by_cases h1 : s = 9
    · subst h1
      rw [pu_Ieq, pu_Ieq, pu_Ieq, pu_Ieq]
      funext k
      show upd (upd (upd (upd (I 9) 2 0) 3 0) 4 0) 8 0 k = g9 (q9 (I 9) (ktB u m) (plB u m) (eB u m) (nmB u m) 0 0 0 0) a b 0 v k
      unfold g9 q9 upd
      by_cases k9 : k = 9
      · subst k9; simp [ev]
      · by_cases k8 : k = 8
        · subst k8; rfl
        · by_cases k7 : k = 7
          · subst k7; simp [eb]
          · by_cases k6 : k = 6
            · subst k6; simp [ea]
            · by_cases k4 : k = 4
              · subst k4; rfl
              · by_cases k3 : k = 3
                · subst k3; rfl
                · by_cases k2 : k = 2
                  · subst k2; rfl
                  · simp [k9, k8, k7, k6, k4, k3, k2]
    · rw [pu_Ine h1, pu_Ine h1, pu_Ine h1, pu_Ine h1, gQ_n h1]
      unfold cR
      by_cases h3 : s = 11
      · subst h3; rfl
      · rw [pu_rne h3]
        by_cases h2 : s = 10
        · subst h2; rfl
        · rw [pu_rne h2, pu_rne h1]
  have := c_goB (X := X) (d := d) (Q := Q) (sl := sl) (J := J) (a := a) (b := b) (c := 0) (v := v) hW (TPB_c (kT := ktB u m) (pl := plB u m) (en := eB u m) (nm := nmB u m) (i := 0) (sc := 0) (q := 0) (cc := 0) (S := I 10) (C := I 11) hT) (by omega)
  have e2 : gQ (cR I (ktB u m) (plB u m) (eB u m) (nmB u m) 0 0 0 0 (I 10) (I 11)) (kdB u m (skF u m 400 0)) (skF u m 400 0) (enB u m (skF u m 400 0)) (vcB u m (skF u m 400 0)) = cR I (ktB u m) (plB u m) (eB u m) (nmB u m) 0 0 0 0 (I 10) (I 11) := cR_g (j := 0)
  rw [e2] at this
  rw [e1]
  exact this
end CY
