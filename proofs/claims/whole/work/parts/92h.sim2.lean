/-! calls, and the small machine whole -/
theorem am_ml_c13 : ∀ e ∈ am_mlt, e.2.2 = 0 → (am_me e.2.1).2.2.2.2.1 < 13 := by decide +kernel
section AML
variable {p : Program} {l : Launch} {e : Env} {R : Room} {s : State} {m : MethodId} {args : Array Value} {below : List Frame} {meth : Method} {c : Code} {H : Heap} {locs : List Loc} {cells slots : Nat} {Q : State → Prop}
variable {cc : ByteArray} {pc : Nat} {ls : Array Slot} {X : am_X} {D : va_G} {dA : Nat → ClassId} {B : Nat} {ad : Nat → Nat} {o nL : Nat} {h : am_H}
theorem am_stk (ad : Nat → Nat) (st : List Value) (k : Nat) : st.map (am_cv ad) = (((st.take k).reverse).map (am_cv ad)).reverse ++ (st.drop k).map (am_cv ad) := by
  rw [List.map_reverse, List.reverse_reverse, ← List.map_append, List.take_append_drop]
set_option maxHeartbeats 4000000 in
theorem am_simC (C0 : am_Cx X D dA B ad o cc nL p s m args c) {i : Instr} {len m' d : Nat} {st as r : List Value} (hop : am_opC o i len st h = some (m', as, r)) (hd : decode cc pc = .ok (i, len)) (hP : am_P D dA B ad h H) (hS : va_S (fun q => B ≤ q) s.heap H locs) (hls : ls.size = nL) {v : Option Value} {h' : am_H}
    (hM : m' < 294 → Met l (am_me m').1 (am_ws m') (am_rm d (h'.1 - h.1) (h'.2.1 - h.2.1)) (am_Pc X D dA B ad h as) (am_Qc D dA B ad v h') (h'.1 - h.1) (h'.2.1 - h.2.1) (fun q => B ≤ q))
    (hRc : cells + (h'.1 - h.1) ≤ R.cells) (hRs : slots + (h'.2.1 - h.2.1) ≤ R.slots) (hRf : d + 1 + 5 ≤ R.frames) (hRl : (d + 1 + 1) * 64 + 200 ≤ R.locals)
    (K : ∀ (H1 : Heap) (locs1 : List Loc), am_P D dA B ad h' H1 → va_S (fun q => B ≤ q) s.heap H1 locs1 → W p l e R s m args below meth c H1 locs1 (cells + (h'.1 - h.1)) (slots + (h'.2.1 - h.2.1)) Q (F0 m (pc + 3) ls ((v.toList ++ r).map (am_cv ad)))) : W p l e R s m args below meth c H locs cells slots Q (F0 m pc ls (st.map (am_cv ad))) := by
  obtain ⟨hx, hb, hml, hown, hts, hK, hC, had⟩ := id C0
  have hfix : CallFix p m c cc nL s args am_TB (am_R o) := ⟨hx, hb, hml, hown, hts⟩
  have hvl : (v.map (am_cv ad)).toList = v.toList.map (am_cv ad) := by cases v <;> rfl
  have K' : ∀ (H1 : Heap) (locs1 : List Loc), am_P D dA B ad h' H1 → va_S (fun q => B ≤ q) s.heap H1 locs1 → W p l e R s m args below meth c H1 locs1 (cells + (h'.1 - h.1)) (slots + (h'.2.1 - h.2.1)) Q (F0 m (pc + 3) ls ((v.map (am_cv ad)).toList ++ r.map (am_cv ad))) := fun H1 locs1 g1 g2 => by
    have := K H1 locs1 g1 g2
    rw [List.map_append] at this
    rw [hvl]
    exact this
  have hroom : m' < 294 → (am_rm d (h'.1 - h.1) (h'.2.1 - h.2.1)).frames + 1 ≤ R.frames ∧ 8 + ((am_me m').2.2.1 + 11) + (am_rm d (h'.1 - h.1) (h'.2.1 - h.2.1)).locals ≤ R.locals := fun hm => by
    have h40 := (am_me_ok hm).2.2.2.2.2.2
    unfold am_rm
    dsimp only
    omega
  have hpre : ∀ U : State, U.heap = H → s.WarmedH U.vm → am_Pc X D dA B ad h as (as.map (am_cv ad)).toArray U := fun U hU hW => ⟨rfl, by rw [hU]; exact hP, va_K.moved hW.alike hK, hC.to hS hU hW⟩
  have hadK : ∀ a, a < h.1 → ad a = B + a := fun a ha => had a (Nat.lt_of_lt_of_le ha (Nat.le_trans hP.2.1 (by decide)))
  have hmr : ∀ rest0 : List Value, 2 * (F0 m pc ls rest0).monitorRoom = 0 := fun _ => rfl
  cases i <;> simp only [am_opC] at hop <;> try (cases hop; done)
  case invokevirtual =>
    split at hop
    · rename_i m2 hl
      split at hop
      · rename_i b r2 hdr
        split at hop
        · rename_i hc
          obtain ⟨c1, c2, c3, c4⟩ := hc
          cases hop
          obtain ⟨hm, hst, hlink, hsel⟩ := am_ml_ok hl
          obtain ⟨hcode, hini, hsi, hcls, hmh, hpl, hml40⟩ := am_me_ok hm
          rw [hst] at hsi
          have hsi : Cond.instanceMethod (am_me m').1 ∈ am_TB := hsi
          have h13 : (am_me m').2.2.2.2.1 < 13 := am_ml_c13 _ (am_lk hl) rfl
          rw [am_stk ad st (am_me m').2.2.2.2.2.1, hdr]
          refine am_cont (va_runV (As := ((st.take (am_me m').2.2.2.2.2.1).reverse).map (am_cv ad)) (b := ad b) (C := (am_me m').1.cls) hfix (hM hm) (cwV (am_me m').2.2.2.2.2.1 hts (am_good (fun w hw => ?_)) rfl rfl rfl ⟨rfl, hmh⟩ (hroom hm)) ⟨am_Pc_blind _ _ _ _ _ _ _, ?_, fun U hU hW => ?_⟩ rfl ?_ hls rfl ?_ hd ⟨hRc, hRs⟩) hS K'
          · rcases List.mem_append.mp hw with hw | hw
            · simp only [List.mem_cons, List.not_mem_nil, or_false] at hw
              rcases hw with rfl | rfl | rfl | rfl
              · exact hlink
              · exact hsi
              · exact hsel
              · exact hini
            · exact am_ws_in hm w hw
          · rw [hadK b c2, hcls]
            exact va_recv hK (hP.one c2 (am_ce_o c3 h13)) (am_cl_at _ h13) (q0 := 0) rfl
          · exact hpre U hU hW
          · rw [List.length_map, List.length_reverse, List.length_take]
            omega
          · rw [hmr, am_sz_map]
            omega
        · cases hop
      · cases hop
    · cases hop
  case invokestatic =>
    split at hop
    · rename_i m2 hl
      split at hop
      · rename_i hc
        obtain ⟨c1, c4⟩ := hc
        cases hop
        obtain ⟨hm, hst, hlink⟩ := am_ml_ok hl
        obtain ⟨hcode, hini, hsi, hcls, hmh, hpl, hml40⟩ := am_me_ok hm
        rw [hst] at hsi
        have hsi : Cond.static (am_me m').1 ∈ am_TB := hsi
        rw [am_stk ad st (am_me m').2.2.2.2.2.1]
        refine am_cont (va_runS (As := ((st.take (am_me m').2.2.2.2.2.1).reverse).map (am_cv ad)) hfix (hM hm) ⟨callB_of (am_me m').2.2.2.2.2.1 hts (am_good (am_ws_in hm)) rfl rfl rfl (hts _ hini) (hts _ hlink) hmh (hroom hm), hts _ hsi⟩ ⟨am_Pc_blind _ _ _ _ _ _ _, hpre⟩ rfl ?_ hls rfl ?_ hd ⟨hRc, hRs⟩) hS K'
        · rw [List.length_map, List.length_reverse, List.length_take]
          omega
        · rw [hmr, am_sz_map]
          omega
      · cases hop
    · rename_i m2 hl
      split at hop
      · rename_i hc
        obtain ⟨c1, c4⟩ := hc
        cases hop
        obtain ⟨hm, hst, hlink⟩ := am_ml_ok hl
        obtain ⟨hcode, hini, hsi, hcls, hmh, hpl, hml40⟩ := am_me_ok hm
        rw [hst] at hsi
        have hsi : Cond.static (am_me m').1 ∈ am_TB := hsi
        rw [am_stk ad st (am_me m').2.2.2.2.2.1]
        have hnw := hC.2.2.1 _ (List.mem_filter.mpr ⟨hlink, rfl⟩)
        refine am_cont (va_runSN (As := ((st.take (am_me m').2.2.2.2.2.1).reverse).map (am_cv ad)) hfix (hM hm) ⟨va_cnB (am_me m').2.2.2.2.2.1 hts (am_good (am_ws_in hm)) rfl rfl rfl hnw (hts _ hini) hmh (hroom hm), hts _ hsi, trivial⟩ ⟨am_Pc_blind _ _ _ _ _ _ _, hpre⟩ rfl ?_ hls rfl ?_ hd ⟨hRc, hRs⟩) hS K'
        · rw [List.length_map, List.length_reverse, List.length_take]
          omega
        · rw [hmr, am_sz_map]
          omega
      · cases hop
    · cases hop
  case invokespecial =>
    split at hop
    · rename_i m2 hl
      split at hop
      · rename_i b r2 hdr
        split at hop
        · rename_i hc
          obtain ⟨c1, c4⟩ := hc
          cases hop
          obtain ⟨hm, hst, hlink, hnm, hrt⟩ := am_ml_ok hl
          obtain ⟨hcode, hini, hsi, hcls, hmh, hpl, hml40⟩ := am_me_ok hm
          rw [hst] at hsi
          have hsi : Cond.instanceMethod (am_me m').1 ∈ am_TB := hsi
          have hws : am_ws m' = Cond.code (am_me m').1 (am_me m').2.1 (am_me m').2.2.1 none :: am_TB := by unfold am_ws; rw [show (am_me m').2.2.2.1 = none from hrt]
          rw [am_stk ad st (am_me m').2.2.2.2.2.1, hdr]
          refine am_cont (va_runI (As := ((st.take (am_me m').2.2.2.2.2.1).reverse).map (am_cv ad)) (b := ad b) hfix (hM hm) (cwI (am_me m').2.2.2.2.2.1 hts (am_good (am_ws_in hm)) hws rfl rfl (hts _ hini) (hts _ hlink) (hts _ hsi) hnm hmh (hroom hm)) ⟨am_Pc_blind _ _ _ _ _ _ _, hpre⟩ rfl ?_ hls rfl ?_ hd ⟨hRc, hRs⟩) hS K'
          · rw [List.length_map, List.length_reverse, List.length_take]
            omega
          · rw [hmr, am_sz_map]
            omega
        · cases hop
      · cases hop
    · rename_i m2 hl
      split at hop
      · rename_i b r2 hdr
        split at hop
        · rename_i hc
          obtain ⟨c1, c4⟩ := hc
          cases hop
          obtain ⟨hm, hst, hlink, hnm, hrt⟩ := am_ml_ok hl
          obtain ⟨hcode, hini, hsi, hcls, hmh, hpl, hml40⟩ := am_me_ok hm
          rw [hst] at hsi
          have hsi : Cond.instanceMethod (am_me m').1 ∈ am_TB := hsi
          have hws : am_ws m' = Cond.code (am_me m').1 (am_me m').2.1 (am_me m').2.2.1 none :: am_TB := by unfold am_ws; rw [show (am_me m').2.2.2.1 = none from hrt]
          have hnw := hC.2.2.1 _ (List.mem_filter.mpr ⟨hlink, rfl⟩)
          rw [am_stk ad st (am_me m').2.2.2.2.2.1, hdr]
          refine am_cont (va_runIN (As := ((st.take (am_me m').2.2.2.2.2.1).reverse).map (am_cv ad)) (b := ad b) hfix (hM hm) ⟨va_cnB (am_me m').2.2.2.2.2.1 hts (am_good (am_ws_in hm)) hws rfl rfl hnw (hts _ hini) hmh (hroom hm), hnm, hts _ hsi⟩ ⟨am_Pc_blind _ _ _ _ _ _ _, hpre⟩ rfl ?_ hls rfl ?_ hd ⟨hRc, hRs⟩) hS K'
          · rw [List.length_map, List.length_reverse, List.length_take]
            omega
          · rw [hmr, am_sz_map]
            omega
        · cases hop
      · cases hop
    · cases hop
end AML
set_option maxHeartbeats 4000000 in
theorem am_sim {l : Launch} {X : am_X} {D : va_G} {dA : Nat → ClassId} {B : Nat} {ad : Nat → Nat} (had : ∀ a, a < am_K0 → ad a = B + a) : ∀ n, am_Sim l X D dA B ad n := by
  intro n
  induction n with
  | zero => intro d mid pc L st h v hE hex; cases hex
  | succ n ih =>
    intro d mid pc L st h v hE hex p e R s m args below meth c H locs cells slots Q ls C0 hin hP hS hL hRc hRs hRf hRl K
    rw [am_ex] at hex
    split at hex
    · rename_i i len hd
      split at hex
      · rename_i pc' L' st' hop
        exact am_simP C0.1 C0.2.1 hop hd hL (fun ls' hL' => ih _ _ _ _ _ _ _ _ hex p e R s m args below meth c H locs cells slots Q ls' C0 hin hP hS hL' hRc hRs hRf hRl K)
      · split at hex
        · rename_i pc' st' h' hop
          have h1 := am_opH_mono hop
          have h2 := am_mono X _ _ _ _ _ _ _ _ _ hex
          refine am_simH C0 (fun q => hin (of_decide_eq_true q)) hop hd hP hS hL.2.1 (by omega) (by omega) (by omega) (by omega) (fun H1 locs1 hP1 hS1 => ?_)
          refine ih _ _ _ _ _ _ _ _ hex p e R s m args below meth c H1 locs1 _ _ Q ls C0 hin hP1 hS1 hL (by omega) (by omega) hRf hRl (fun H2 locs2 pc2 ls2 i2 g1 g2 g3 g4 => ?_)
          have e1 : cells + (h'.1 - h.1) + (hE.1 - h'.1) = cells + (hE.1 - h.1) := by omega
          have e2 : slots + (h'.2.1 - h.2.1) + (hE.2.1 - h'.2.1) = slots + (hE.2.1 - h.2.1) := by omega
          rw [e1, e2]
          exact K H2 locs2 pc2 ls2 i2 g1 g2 g3 g4
        · split at hex
          · rename_i v' hop
            cases hex
            obtain ⟨rfl, rfl⟩ := am_opR_st hop
            have := K H locs pc ls i hP hS hd hop
            simp only [Nat.sub_self, Nat.add_zero] at this
            exact this
          · split at hex
            · rename_i m' as r d' hop
              split at hex
              · rename_i hal
                split at hex
                · rename_i v' h' hcall
                  have h1 := am_mono X _ _ _ _ _ _ _ _ _ hcall
                  have h2 := am_mono X _ _ _ _ _ _ _ _ _ hex
                  refine am_simC C0 hop hd hP hS hL.2.1 (d := d') (v := v') (h' := h') (fun hm => am_met had ih hm hal hcall) (by omega) (by omega) hRf hRl (fun H1 locs1 hP1 hS1 => ?_)
                  refine ih _ _ _ _ _ _ _ _ hex p e R s m args below meth c H1 locs1 _ _ Q ls C0 hin hP1 hS1 hL (by omega) (by omega) hRf hRl (fun H2 locs2 pc2 ls2 i2 g1 g2 g3 g4 => ?_)
                  have e1 : cells + (h'.1 - h.1) + (hE.1 - h'.1) = cells + (hE.1 - h.1) := by omega
                  have e2 : slots + (h'.2.1 - h.2.1) + (hE.2.1 - h'.2.1) = slots + (hE.2.1 - h.2.1) := by omega
                  rw [e1, e2]
                  exact K H2 locs2 pc2 ls2 i2 g1 g2 g3 g4
                · cases hex
              · cases hex
            · cases hex
    · cases hex
