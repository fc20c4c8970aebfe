/-! calls, one on each side: text (NOT PROVED YET) -/
section TX9
variable {X : am_X} {d : Nat} {Q : Option Value → am_H → Prop} {n sl : Nat} {t : Nat → Nat × Nat} {I : Nat → Nat → Int32} {J : Nat → Nat → Int64} {F : Nat → Nat → Option Nat} {h : am_H}
theorem pr_text {i : Nat} (hX : XS X) (hi : i < 600) (hV : Inv i (n, sl, t, I, J, F)) : PR X i 39 195 [some (.ref 0), none] [some (.ref 47), none, none] (n, sl, t, I, J, F) := by
  sorry
end TX9
