/-! THE SMALL MACHINE'S CELLS ON THE MACHINE -/
def am_fv (ad : Nat → Nat) (h : am_H) (c a k : Nat) : Value := match am_ft c k with
  | 1 => .long (h.2.2.2.2.1 a k)
  | 2 => va_rf ((h.2.2.2.2.2 a k).map ad)
  | _ => .int (h.2.2.2.1 a k)
theorem am_cv_rf (ad : Nat → Nat) (r : Option Nat) : am_cv ad (va_rf r) = va_rf (r.map ad) := by cases r <;> rfl
theorem am_cv_rd (ad : Nat → Nat) (h : am_H) (c a k : Nat) : am_cv ad (am_rd h c a k) = am_fv ad h c a k := by
  unfold am_rd am_fv
  generalize am_ft c k = t
  match t with
  | 0 => rfl
  | 1 => rfl
  | 2 => exact am_cv_rf _ _
  | n + 3 => rfl
def am_ce (dA : Nat → ClassId) (ad : Nat → Nat) (h : am_H) (a : Nat) : va_E :=
  if (h.2.2.1 a).1 < 13 then .inr ((h.2.2.1 a).1, (List.range (am_nf (h.2.2.1 a).1)).map (am_fv ad h (h.2.2.1 a).1 a))
  else if (h.2.2.1 a).1 = 23 then .inl (dA 23, (h.2.2.1 a).2, .inr (.inl (h.2.2.2.2.1 a)))
  else if (h.2.2.1 a).1 = 24 ∨ (h.2.2.1 a).1 = 25 then .inl (dA (h.2.2.1 a).1, (h.2.2.1 a).2, .inr (.inr (.inr (.inr (fun j => (h.2.2.2.2.2 a j).map ad)))))
  else .inl (dA (h.2.2.1 a).1, (h.2.2.1 a).2, .inl (h.2.2.2.1 a))
theorem am_ce_o {dA : Nat → ClassId} {ad : Nat → Nat} {h : am_H} {a c : Nat} (hc : (h.2.2.1 a).1 = c) (h13 : c < 13) : am_ce dA ad h a = .inr (c, (List.range (am_nf c)).map (am_fv ad h c a)) := by
  unfold am_ce
  rw [if_pos (by rw [hc]; exact h13), hc]
theorem am_ce_j {dA : Nat → ClassId} {ad : Nat → Nat} {h : am_H} {a : Nat} (hc : (h.2.2.1 a).1 = 23) : am_ce dA ad h a = .inl (dA 23, (h.2.2.1 a).2, .inr (.inl (h.2.2.2.2.1 a))) := by
  unfold am_ce
  rw [if_neg (by rw [hc]; decide), if_pos hc]
theorem am_ce_q {dA : Nat → ClassId} {ad : Nat → Nat} {h : am_H} {a : Nat} (hc : (h.2.2.1 a).1 = 24 ∨ (h.2.2.1 a).1 = 25) : am_ce dA ad h a = .inl (dA (h.2.2.1 a).1, (h.2.2.1 a).2, .inr (.inr (.inr (.inr (fun j => (h.2.2.2.2.2 a j).map ad))))) := by
  unfold am_ce
  rw [if_neg (by omega), if_neg (by omega), if_pos hc]
theorem am_ce_i {dA : Nat → ClassId} {ad : Nat → Nat} {h : am_H} {a c : Nat} (hc : (h.2.2.1 a).1 = c) (h2 : c = 20 ∨ c = 21 ∨ c = 22) : am_ce dA ad h a = .inl (dA c, (h.2.2.1 a).2, .inl (h.2.2.2.1 a)) := by
  subst hc
  unfold am_ce
  rw [if_neg (by omega), if_neg (by omega), if_neg (by omega)]
theorem am_ce_congr {dA : Nat → ClassId} {ad : Nat → Nat} {h h' : am_H} {b : Nat} (e1 : h'.2.2.1 b = h.2.2.1 b) (e2 : h'.2.2.2.1 b = h.2.2.2.1 b) (e3 : h'.2.2.2.2.1 b = h.2.2.2.2.1 b) (e4 : h'.2.2.2.2.2 b = h.2.2.2.2.2 b) : am_ce dA ad h' b = am_ce dA ad h b := by
  have e5 : am_fv ad h' (h.2.2.1 b).1 b = am_fv ad h (h.2.2.1 b).1 b := by
    funext k
    unfold am_fv
    rw [e2, e3, e4]
  unfold am_ce
  rw [e1, e2, e3, e4, e5]
def am_P (D : va_G) (dA : Nat → ClassId) (B : Nat) (ad : Nat → Nat) (h : am_H) (H : Heap) : Prop := H.size = B + h.1 ∧ h.1 ≤ 600000 ∧ ∀ a, a < h.1 → va_at D vwCl (B + a, am_ce dA ad h a) H
theorem am_P.one {D : va_G} {dA : Nat → ClassId} {B : Nat} {ad : Nat → Nat} {h : am_H} {H : Heap} (hP : am_P D dA B ad h H) {a : Nat} (ha : a < h.1) {x : va_E} (hx : am_ce dA ad h a = x) : va_P D vwCl [(B + a, x)] H := by
  intro k q hk
  match k, hk with
  | 0, hk =>
    cases hk
    rw [← hx]
    exact hP.2.2 a ha
  | k + 1, hk => cases hk
/-- one cell is written -/
theorem am_P.upd {D : va_G} {dA : Nat → ClassId} {B : Nat} {ad : Nat → Nat} {h h' : am_H} {H H1 : Heap} {a : Nat} (hP : am_P D dA B ad h H) (h1 : h'.1 = h.1) (ho : ∀ b, b < h.1 → b ≠ a → am_ce dA ad h' b = am_ce dA ad h b) (ha : va_at D vwCl (B + a, am_ce dA ad h' a) H1) (z : H1.size = H.size) (oq : ∀ q : Nat, q ≠ B + a → H1[q]? = H[q]?) : am_P D dA B ad h' H1 := by
  refine ⟨by rw [z, h1]; exact hP.1, by rw [h1]; exact hP.2.1, fun b hb => ?_⟩
  rw [h1] at hb
  by_cases e : b = a
  · subst e
    exact ha
  · rw [ho b hb e]
    exact (hP.2.2 b hb).kept (oq _ (by show B + b ≠ B + a; omega))
/-- one cell more -/
theorem am_P.new {D : va_G} {dA : Nat → ClassId} {B : Nat} {ad : Nat → Nat} {h h' : am_H} {H H1 : Heap} (hP : am_P D dA B ad h H) (h1 : h'.1 = h.1 + 1) (hl : h.1 < 600000) (ho : ∀ b, b < h.1 → am_ce dA ad h' b = am_ce dA ad h b) (ha : va_at D vwCl (B + h.1, am_ce dA ad h' h.1) H1) (z : H1.size = H.size + 1) (oq : ∀ q : Nat, q < H.size → H1[q]? = H[q]?) : am_P D dA B ad h' H1 := by
  refine ⟨by rw [z, h1, hP.1]; omega, by rw [h1]; omega, fun b hb => ?_⟩
  rw [h1] at hb
  by_cases e : b = h.1
  · subst e
    exact ha
  · have hb' : b < h.1 := by omega
    rw [ho b hb']
    exact (hP.2.2 b hb').kept (oq _ (by show B + b < H.size; rw [hP.1]; omega))
theorem am_S_new {B : Nat} {H0 H H1 : Heap} {locs : List Loc} (hS : va_S (fun q => B ≤ q) H0 H locs) (z : H1.size = H.size + 1) (oq : ∀ q : Nat, q < H.size → H1[q]? = H[q]?) : va_S (fun q => B ≤ q) H0 H1 locs :=
  ⟨Nat.le_trans hS.1 (by omega), fun x h1 h2 => (oq x (Nat.lt_of_lt_of_le h1 hS.1)).trans (hS.2.1 x h1 h2), hS.2.2⟩
theorem am_ro_ne {α : Type} {T : Nat → α} {a b : Nat} {f : α} (h : b ≠ a) : am_ro T a f b = T b := by unfold am_ro; rw [if_neg h]
theorem am_ro_eq {α : Type} {T : Nat → α} {a : Nat} {f : α} : am_ro T a f a = f := by unfold am_ro; rw [if_pos rfl]
theorem am_uI_ne {I : Nat → Nat → Int32} {a k b : Nat} {v : Int32} (h : b ≠ a) : am_uI I a k v b = I b := by unfold am_uI; rw [if_neg h]
theorem am_uI_eq {I : Nat → Nat → Int32} {a k : Nat} {v : Int32} : am_uI I a k v a = upd (I a) k v := by unfold am_uI; rw [if_pos rfl]
theorem am_uJ_ne {I : Nat → Nat → Int64} {a k b : Nat} {v : Int64} (h : b ≠ a) : am_uJ I a k v b = I b := by unfold am_uJ; rw [if_neg h]
theorem am_uJ_eq {I : Nat → Nat → Int64} {a k : Nat} {v : Int64} : am_uJ I a k v a = vp_updL (I a) k v := by unfold am_uJ; rw [if_pos rfl]
theorem am_uF_ne {I : Nat → Nat → Option Nat} {a k b : Nat} {v : Option Nat} (h : b ≠ a) : am_uF I a k v b = I b := by unfold am_uF; rw [if_neg h]
theorem am_uF_eq {I : Nat → Nat → Option Nat} {a k : Nat} {v : Option Nat} : am_uF I a k v a = va_up (I a) k v := by unfold am_uF; rw [if_pos rfl]
theorem am_nw_old {dA : Nat → ClassId} {ad : Nat → Nat} {h : am_H} {kd len : Nat} {f : Nat → Int32} {b : Nat} (hb : b < h.1) : am_ce dA ad (am_nw h kd len f) b = am_ce dA ad h b :=
  am_ce_congr (am_ro_ne (Nat.ne_of_lt hb)) (am_ro_ne (Nat.ne_of_lt hb)) (am_ro_ne (Nat.ne_of_lt hb)) (am_ro_ne (Nat.ne_of_lt hb))
theorem am_fk_0 {t : FieldType} (h : am_fk t = 0) : t = .int := by cases t <;> first | rfl | cases h
theorem am_fk_1 {t : FieldType} (h : am_fk t = 1) : t = .long := by cases t <;> first | rfl | cases h
theorem am_fk_3 {t : FieldType} (h : am_fk t = 3) : t = .boolean := by cases t <;> first | rfl | cases h
theorem am_fk_2 {t : FieldType} (h : am_fk t = 2) (ht : am_tok t = true) : (∃ n, t = .object n) ∨ ∃ u, t = .array u := by
  cases t <;> first | exact Or.inl ⟨_, rfl⟩ | exact Or.inr ⟨_, rfl⟩ | (cases h; done) | (cases ht; done)
/-- a field is written: the others stay, the value fits -/
theorem am_wr_ok {ad : Nat → Nat} {h h' : am_H} {c a k : Nat} {v : Value} (hw : am_wr h c a k v = some h') (ht : am_tok (am_ty c k) = true) :
    h'.1 = h.1 ∧ h'.2.1 = h.2.1 ∧ h'.2.2.1 = h.2.2.1 ∧ (∀ j, am_fv ad h' c a j = if j = k then am_cv ad v else am_fv ad h c a j) ∧ (∀ b, b ≠ a → h'.2.2.2.1 b = h.2.2.2.1 b ∧ h'.2.2.2.2.1 b = h.2.2.2.2.1 b ∧ h'.2.2.2.2.2 b = h.2.2.2.2.2 b) ∧ narrow (am_ty c k) (am_cv ad v) = am_cv ad v ∧ fits (am_ty c k) (am_cv ad v) = true := by
  unfold am_wr at hw
  split at hw
  · rename_i x hf
    cases hw
    have hty := am_fk_0 hf
    refine ⟨rfl, rfl, rfl, fun j => ?_, fun b hb => ⟨am_uI_ne hb, rfl, rfl⟩, by rw [hty]; rfl, by rw [hty]; rfl⟩
    unfold am_fv
    dsimp only
    rw [am_uI_eq]
    by_cases e : j = k
    · subst e
      rw [hf, if_pos rfl]
      simp [upd, am_cv]
    · rw [if_neg e]
      simp only [upd, if_neg e]
  · rename_i x hf
    cases hw
    have hty := am_fk_1 hf
    refine ⟨rfl, rfl, rfl, fun j => ?_, fun b hb => ⟨rfl, am_uJ_ne hb, rfl⟩, by rw [hty]; rfl, by rw [hty]; rfl⟩
    unfold am_fv
    dsimp only
    rw [am_uJ_eq]
    by_cases e : j = k
    · subst e
      rw [hf, if_pos rfl]
      simp [vp_updL, am_cv]
    · rw [if_neg e]
      simp only [vp_updL, if_neg e]
  · rename_i x hf
    cases hw
    refine ⟨rfl, rfl, rfl, fun j => ?_, fun b hb => ⟨rfl, rfl, am_uF_ne hb⟩, ?_, ?_⟩
    · unfold am_fv
      dsimp only
      rw [am_uF_eq]
      by_cases e : j = k
      · subst e
        rw [hf, if_pos rfl]
        simp [va_up, am_cv, va_rf]
      · rw [if_neg e]
        simp only [va_up, if_neg e]
    · rcases am_fk_2 hf ht with ⟨n, e⟩ | ⟨n, e⟩ <;> rw [e] <;> rfl
    · rcases am_fk_2 hf ht with ⟨n, e⟩ | ⟨n, e⟩ <;> rw [e] <;> rfl
  · rename_i hf
    cases hw
    refine ⟨rfl, rfl, rfl, fun j => ?_, fun b hb => ⟨rfl, rfl, am_uF_ne hb⟩, ?_, ?_⟩
    · unfold am_fv
      dsimp only
      rw [am_uF_eq]
      by_cases e : j = k
      · subst e
        rw [hf, if_pos rfl]
        simp [va_up, am_cv, va_rf]
      · rw [if_neg e]
        simp only [va_up, if_neg e]
    · rcases am_fk_2 hf ht with ⟨n, e⟩ | ⟨n, e⟩ <;> rw [e] <;> rfl
    · rcases am_fk_2 hf ht with ⟨n, e⟩ | ⟨n, e⟩ <;> rw [e] <;> rfl
  · rename_i x hf
    split at hw
    · rename_i hx
      cases hw
      have hty := am_fk_3 hf
      refine ⟨rfl, rfl, rfl, fun j => ?_, fun b hb => ⟨am_uI_ne hb, rfl, rfl⟩, ?_, ?_⟩
      · unfold am_fv
        dsimp only
        rw [am_uI_eq]
        by_cases e : j = k
        · subst e
          rw [hf, if_pos rfl]
          simp [upd, am_cv]
        · rw [if_neg e]
          simp only [upd, if_neg e]
      · rw [hty]
        rcases hx with rfl | rfl <;> rfl
      · rw [hty]
        rcases hx with rfl | rfl <;> rfl
    · cases hw
  · cases hw
/-- a new object: its fields as they are made -/
theorem am_fv_new {ad : Nat → Nat} {h : am_H} {c k len : Nat} {f : Nat → Int32} (hc : c < 13) (hk : k < am_nf c) (hf : ∀ j, f j = 0) (kd : Nat) : defaultValue (am_ty c k) = am_fv ad (am_nw h kd len f) c h.1 k := by
  have ht := am_tok_ok c hc k hk
  unfold am_fv am_ft
  simp only [am_nw, am_ro_eq, hf]
  generalize am_ty c k = t at ht ⊢
  cases t <;> first | rfl | cases ht
def am_tys (dA : Nat → ClassId) : List (ClassId × FieldType) := [(dA 20, .int), (dA 21, .byte), (dA 22, .boolean), (dA 23, .long), (dA 24, .object "SweetWaits$Law"), (dA 25, .object "SweetWaits$Children")]
