/-! what a run leaves: kinds of cells, their number -/
section FM
def am_Fr (h h' : am_H) : Prop := h.1 ≤ h'.1 ∧ (h.1 ≤ 600000 → h'.1 ≤ 600000) ∧ ∀ a, a < h.1 → h'.2.2.1 a = h.2.2.1 a
theorem am_Fr_r {h : am_H} : am_Fr h h := ⟨Nat.le_refl _, id, fun _ _ => rfl⟩
theorem am_Fr_t {h h' h'' : am_H} (a : am_Fr h h') (b : am_Fr h' h'') : am_Fr h h'' := ⟨Nat.le_trans a.1 b.1, fun q => b.2.1 (a.2.1 q), fun x hx => (b.2.2 x (Nat.lt_of_lt_of_le hx a.1)).trans (a.2.2 x hx)⟩
theorem am_wr_f {h h' : am_H} {c a k : Nat} {v : Value} (hw : am_wr h c a k v = some h') : am_Fr h h' := by
  unfold am_wr at hw
  split at hw <;> first | (cases hw; exact am_Fr_r) | (split at hw <;> first | (cases hw; exact am_Fr_r) | cases hw) | cases hw
theorem am_nw_f {h : am_H} {kd len : Nat} {f : Nat → Int32} (hl : h.1 < 600000) : am_Fr h (am_nw h kd len f) := by
  refine ⟨Nat.le_succ _, fun _ => hl, fun a ha => ?_⟩
  show am_ro h.2.2.1 h.1 (kd, len) a = _
  exact pu_rne (by omega)
set_option maxHeartbeats 8000000 in
theorem am_opH_f {X : am_X} {o : Nat} {ini : Bool} {i : Instr} {len pc pc' : Nat} {st st' : List Value} {h h' : am_H} (hop : am_opH X o ini i len pc st h = some (pc', st', h')) : am_Fr h h' := by
  cases i <;> simp only [am_opH] at hop <;> try (cases hop; done)
  all_goals
    repeat' split at hop
  all_goals first
    | (cases hop; exact am_Fr_r)
    | (cases hop; rename_i hc; exact am_nw_f hc)
    | (cases hop; rename_i hc; exact am_nw_f hc.1)
    | (cases hop; rename_i hc; exact am_nw_f hc.2.1)
    | (cases hop; rename_i hw; exact am_wr_f hw)
    | (cases hop; done)
theorem am_fr (X : am_X) : ∀ (n d m pc : Nat) (L : am_L) (st : List Value) (h : am_H) (v : Option Value) (hE : am_H), am_ex X n d m pc L st h = some (v, hE) → am_Fr h hE := by
  intro n
  induction n with
  | zero => intro d m pc L st h v hE hex; cases hex
  | succ n ih =>
    intro d m pc L st h v hE hex
    rw [am_ex] at hex
    split at hex
    · split at hex
      · exact ih _ _ _ _ _ _ _ _ hex
      · split at hex
        · rename_i hop
          exact am_Fr_t (am_opH_f hop) (ih _ _ _ _ _ _ _ _ hex)
        · split at hex
          · cases hex
            exact am_Fr_r
          · split at hex
            · split at hex
              · split at hex
                · rename_i hcall
                  exact am_Fr_t (ih _ _ _ _ _ _ _ _ hcall) (ih _ _ _ _ _ _ _ _ hex)
                · cases hex
              · cases hex
            · cases hex
    · cases hex
theorem am_W_fr {X : am_X} {d m pc : Nat} {L : am_L} {st : List Value} {h : am_H} {Q : Option Value → am_H → Prop} (H : am_W X d m pc L st h Q) : am_W X d m pc L st h (fun v h' => Q v h' ∧ am_Fr h h') := by
  obtain ⟨n1, v1, g1, e1, q1⟩ := H
  exact ⟨n1, v1, g1, e1, q1, am_fr X _ _ _ _ _ _ _ _ _ e1⟩
end FM
