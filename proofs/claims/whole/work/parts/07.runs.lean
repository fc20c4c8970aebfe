/-! RUNS OF THE SMALL MACHINE, goal first: from here the method comes to an answer and cells with Q. One rule an instruction. -/
theorem am_le (X : am_X) : ∀ (n d m pc : Nat) (L : am_L) (st : List Value) (h : am_H) (r : Option Value × am_H), am_ex X n d m pc L st h = some r → am_ex X (n + 1) d m pc L st h = some r := by
  intro n
  induction n with
  | zero => intro d m pc L st h r hex; cases hex
  | succ n ih =>
    intro d m pc L st h r hex
    rw [am_ex] at hex ⊢
    cases hd : decode (am_me m).2.1 pc with
    | error q =>
      rw [hd] at hex
      cases hex
    | ok q =>
      obtain ⟨i, len⟩ := q
      rw [hd] at hex
      dsimp only at hex ⊢
      cases h1 : am_opP i len pc L st with
      | some q =>
        obtain ⟨pc', L', st'⟩ := q
        rw [h1] at hex
        exact ih _ _ _ _ _ _ _ hex
      | none =>
        rw [h1] at hex
        dsimp only at hex ⊢
        cases h2 : am_opH X (am_me m).2.2.2.2.1 (decide ((am_me m).1.name = "<init>")) i len pc st h with
        | some q =>
          obtain ⟨pc', st', h'⟩ := q
          rw [h2] at hex
          exact ih _ _ _ _ _ _ _ hex
        | none =>
          rw [h2] at hex
          dsimp only at hex ⊢
          cases h3 : am_opR (am_me m).2.2.2.1 i len st with
          | some q =>
            rw [h3] at hex
            exact hex
          | none =>
            rw [h3] at hex
            dsimp only at hex ⊢
            cases h4 : am_opC (am_me m).2.2.2.2.1 i len st h with
            | none =>
              rw [h4] at hex
              cases hex
            | some q =>
              obtain ⟨m', as, r'⟩ := q
              rw [h4] at hex
              cases d with
              | zero => cases hex
              | succ d =>
                dsimp only at hex ⊢
                by_cases hal : (am_ar as).length ≤ (am_me m').2.2.1
                · rw [if_pos hal] at hex ⊢
                  cases h5 : am_ex X n d m' 0 (am_en (am_me m').2.2.1 as) [] h with
                  | none =>
                    rw [h5] at hex
                    cases hex
                  | some q =>
                    obtain ⟨v, h'⟩ := q
                    rw [h5] at hex
                    rw [ih _ _ _ _ _ _ _ h5]
                    exact ih _ _ _ _ _ _ _ hex
                · rw [if_neg hal] at hex
                  cases hex
theorem am_le2 (X : am_X) {n n' d m pc : Nat} {L : am_L} {st : List Value} {h : am_H} {r : Option Value × am_H} (hn : n ≤ n') (hex : am_ex X n d m pc L st h = some r) : am_ex X n' d m pc L st h = some r := by
  obtain ⟨k, rfl⟩ := Nat.exists_eq_add_of_le hn
  induction k with
  | zero => exact hex
  | succ k ih => exact am_le X _ _ _ _ _ _ _ _ (ih (Nat.le_add_right _ _))
def am_W (X : am_X) (d m pc : Nat) (L : am_L) (st : List Value) (h : am_H) (Q : Option Value → am_H → Prop) : Prop := ∃ (n : Nat) (v : Option Value) (h' : am_H), am_ex X n d m pc L st h = some (v, h') ∧ Q v h'
section AMW
variable {X : am_X} {d m pc : Nat} {L : am_L} {st : List Value} {h : am_H} {Q : Option Value → am_H → Prop} {i : Instr} {len : Nat}
theorem am_WP {pc' : Nat} {L' : am_L} {st' : List Value} (hd : decode (am_me m).2.1 pc = .ok (i, len)) (hop : am_opP i len pc L st = some (pc', L', st')) : am_W X d m pc L st h Q ↔ am_W X d m pc' L' st' h Q := by
  constructor
  · rintro ⟨n, v, h', hex, hq⟩
    cases n with
    | zero => cases hex
    | succ n =>
      rw [am_ex, hd] at hex
      dsimp only at hex
      rw [hop] at hex
      exact ⟨n, v, h', hex, hq⟩
  · rintro ⟨n, v, h', hex, hq⟩
    refine ⟨n + 1, v, h', ?_, hq⟩
    rw [am_ex, hd]
    dsimp only
    rw [hop]
    exact hex
theorem am_WPn (hd : decode (am_me m).2.1 pc = .ok (i, len)) (h1 : am_opP i len pc L st = none) (h2 : am_opH X (am_me m).2.2.2.2.1 (decide ((am_me m).1.name = "<init>")) i len pc st h = none) (h3 : am_opR (am_me m).2.2.2.1 i len st = none) (h4 : am_opC (am_me m).2.2.2.2.1 i len st h = none) : am_W X d m pc L st h Q ↔ False := by
  refine ⟨?_, False.elim⟩
  rintro ⟨n, v, h', hex, hq⟩
  cases n with
  | zero => cases hex
  | succ n =>
    rw [am_ex, hd] at hex
    dsimp only at hex
    rw [h1] at hex
    dsimp only at hex
    rw [h2] at hex
    dsimp only at hex
    rw [h3] at hex
    dsimp only at hex
    rw [h4] at hex
    cases hex
theorem am_WH {pc' : Nat} {st' : List Value} {h2 : am_H} (hd : decode (am_me m).2.1 pc = .ok (i, len)) (h1 : am_opP i len pc L st = none) (hop : am_opH X (am_me m).2.2.2.2.1 (decide ((am_me m).1.name = "<init>")) i len pc st h = some (pc', st', h2)) : am_W X d m pc L st h Q ↔ am_W X d m pc' L st' h2 Q := by
  constructor
  · rintro ⟨n, v, h', hex, hq⟩
    cases n with
    | zero => cases hex
    | succ n =>
      rw [am_ex, hd] at hex
      dsimp only at hex
      rw [h1] at hex
      dsimp only at hex
      rw [hop] at hex
      exact ⟨n, v, h', hex, hq⟩
  · rintro ⟨n, v, h', hex, hq⟩
    refine ⟨n + 1, v, h', ?_, hq⟩
    rw [am_ex, hd]
    dsimp only
    rw [h1]
    dsimp only
    rw [hop]
    exact hex
theorem am_WR {v0 : Option Value} (hd : decode (am_me m).2.1 pc = .ok (i, len)) (h1 : am_opP i len pc L st = none) (h2 : am_opH X (am_me m).2.2.2.2.1 (decide ((am_me m).1.name = "<init>")) i len pc st h = none) (hop : am_opR (am_me m).2.2.2.1 i len st = some v0) : am_W X d m pc L st h Q ↔ Q v0 h := by
  constructor
  · rintro ⟨n, v, h', hex, hq⟩
    cases n with
    | zero => cases hex
    | succ n =>
      rw [am_ex, hd] at hex
      dsimp only at hex
      rw [h1] at hex
      dsimp only at hex
      rw [h2] at hex
      dsimp only at hex
      rw [hop] at hex
      cases hex
      exact hq
  · intro hq
    refine ⟨1, v0, h, ?_, hq⟩
    rw [am_ex, hd]
    dsimp only
    rw [h1]
    dsimp only
    rw [h2]
    dsimp only
    rw [hop]
theorem am_WC {m' : Nat} {as r : List Value} (hd : decode (am_me m).2.1 pc = .ok (i, len)) (h1 : am_opP i len pc L st = none) (h2 : am_opH X (am_me m).2.2.2.2.1 (decide ((am_me m).1.name = "<init>")) i len pc st h = none) (h3 : am_opR (am_me m).2.2.2.1 i len st = none) (hop : am_opC (am_me m).2.2.2.2.1 i len st h = some (m', as, r)) (hal : (am_ar as).length ≤ (am_me m').2.2.1) :
    am_W X (d + 1) m pc L st h Q ↔ am_W X d m' 0 (am_en (am_me m').2.2.1 as) [] h (fun v h' => am_W X (d + 1) m (pc + 3) L (v.toList ++ r) h' Q) := by
  constructor
  · rintro ⟨n, v, h', hex, hq⟩
    cases n with
    | zero => cases hex
    | succ n =>
      rw [am_ex, hd] at hex
      dsimp only at hex
      rw [h1] at hex
      dsimp only at hex
      rw [h2] at hex
      dsimp only at hex
      rw [h3] at hex
      dsimp only at hex
      rw [hop] at hex
      dsimp only at hex
      rw [if_pos hal] at hex
      split at hex
      · rename_i v' h'' hcall
        exact ⟨n, v', h'', hcall, n, v, h', hex, hq⟩
      · cases hex
  · rintro ⟨n, v, h', hcall, n2, v2, h2', hex, hq⟩
    refine ⟨max n n2 + 1, v2, h2', ?_, hq⟩
    rw [am_ex, hd]
    dsimp only
    rw [h1]
    dsimp only
    rw [h2]
    dsimp only
    rw [h3]
    dsimp only
    rw [hop]
    dsimp only
    rw [if_pos hal, am_le2 X (Nat.le_max_left n n2) hcall]
    exact am_le2 X (Nat.le_max_right n n2) hex
theorem am_W.mono {Q' : Option Value → am_H → Prop} (hw : am_W X d m pc L st h Q) (hq : ∀ v h', Q v h' → Q' v h') : am_W X d m pc L st h Q' := by
  obtain ⟨n, v, h', hex, hq0⟩ := hw
  exact ⟨n, v, h', hex, hq v h' hq0⟩
end AMW
/-- a local under a store: a long that reaches into the place stored is gone -/
def am_k (v : Option Value) : Option Value := match v with
  | some w => if w.category = 2 then none else some w
  | none => none
theorem am_k_n : am_k none = none := rfl
theorem am_k_i (x : Int32) : am_k (some (.int x)) = some (.int x) := rfl
theorem am_k_r (x : Nat) : am_k (some (.ref x)) = some (.ref x) := rfl
theorem am_k_u : am_k (some .null) = some .null := rfl
theorem am_k_l (x : Int64) : am_k (some (.long x)) = none := rfl
