set_option maxHeartbeats 4000000 in
set_option maxRecDepth 100000 in
theorem c_X8_isIn (l : Launch) (D : va_G) (E : Nat → ClassId) (v : Int32) (lo : Int32) (hi : Int32)  : Met l yX8_isIn wsX8_isIn ({ frames := 0, cells := 0, slots := 0, locals := 0 }) (zr_P D E [.int v, .int lo, .int hi] []) (zr_Qi (fun zv => (zv = 1 ∧ (¬ v < lo ∧ ¬ hi < v)) ∨ (zv = 0 ∧ (v < lo ∨ hi < v)))) 0 0 (fun _ => False) := by
  refine Met.ofW (cc := cX8_isIn) (maxL := 3) (ret := (some .boolean)) (by decide) rfl ?_
  intro p e s m args below meth c s₁ Bz hml hv
  obtain ⟨rfl, hP, hK⟩ := hv
  have hx := Bz.exec
  have hb := Bz.bytes
  have hr := Bz.returns
  have hts := atoms_spec (ws := wsX8_isIn) Bz.pre
  have hown : s.vm.findClass RX8 = some m.cls := findClass_of_methodNamed Bz.named
  have hlocks := Bz.notSynchronized
  have hP : va_P D vwCl [] s.heap := hP
  have hS : va_S (fun _ : Nat => False) s.heap s.heap [] := va_S.rf
  have hl := lv_entry ([.int v, .int lo, .int hi]) (n := 3) (Nat.le_of_ble_eq_true rfl)
  rw [lg_entry_eq]
  generalize (lg_sl ([.int v, .int lo, .int hi]) ++ List.replicate (3 - (lg_sl ([.int v, .int lo, .int hi])).length) Slot.unset).toArray = ls at hl ⊢
  have hl : lv_has ls 3 [(0, .int v), (1, .int lo), (2, .int hi)] := hl
  refine zr_nQ (fun Q hQ => ?_)
  refine lv_iload_n hx hb dX8_isIn_0 rfl (lv_at hl 0 rfl) ?_
  refine lv_iload_n hx hb dX8_isIn_1 rfl (lv_at hl 1 rfl) ?_
  refine lv_icmp_lt (tgt := 14) hx hb dX8_isIn_2 (by decide) (fun cn_1 => ?_) (fun cn_1 => ?_)
  · skip
    have h1 := cn_1
    refine lv_iconst (v := nI 0) hx hb dX8_isIn_14 (by rfl) ?_
    subst hQ
    exact W.zret (v := nI 0) hx hb hr (by decide) (fun tz htz hWz => ⟨⟨nI 0, (), rfl, by first | exact Or.inl ⟨rfl, h2, h4⟩ | exact Or.inr ⟨rfl, Or.inl h1⟩ | exact Or.inr ⟨rfl, Or.inr h3⟩, trivial⟩, hS.F htz⟩) hS.2.2 dX8_isIn_15
  · skip
    have h2 := cn_1
    refine lv_iload_n hx hb dX8_isIn_5 rfl (lv_at hl 0 rfl) ?_
    refine lv_iload_n hx hb dX8_isIn_6 rfl (lv_at hl 2 rfl) ?_
    refine lv_icmp_gt (tgt := 14) hx hb dX8_isIn_7 (by decide) (fun cn_2 => ?_) (fun cn_2 => ?_)
    · skip
      have h3 := cn_2
      refine lv_iconst (v := nI 0) hx hb dX8_isIn_14 (by rfl) ?_
      subst hQ
      exact W.zret (v := nI 0) hx hb hr (by decide) (fun tz htz hWz => ⟨⟨nI 0, (), rfl, by first | exact Or.inl ⟨rfl, h2, h4⟩ | exact Or.inr ⟨rfl, Or.inl h1⟩ | exact Or.inr ⟨rfl, Or.inr h3⟩, trivial⟩, hS.F htz⟩) hS.2.2 dX8_isIn_15
    · skip
      have h4 := cn_2
      refine lv_iconst (v := nI 1) hx hb dX8_isIn_10 (by rfl) ?_
      refine lv_goto (tgt := 15) hx hb dX8_isIn_11 (by decide) ?_
      subst hQ
      exact W.zret (v := nI 1) hx hb hr (by decide) (fun tz htz hWz => ⟨⟨nI 1, (), rfl, by first | exact Or.inl ⟨rfl, h2, h4⟩ | exact Or.inr ⟨rfl, Or.inl h1⟩ | exact Or.inr ⟨rfl, Or.inr h3⟩, trivial⟩, hS.F htz⟩) hS.2.2 dX8_isIn_15

set_option maxHeartbeats 4000000 in
set_option maxRecDepth 100000 in
theorem c_X8_rounds (l : Launch) (D : va_G) (E : Nat → ClassId) (m0 : Nat) (w0 : Nat) (w1 : Nat) (w2 : Nat) (w3 : Nat) (w4 : Nat) (w5 : Nat) (w6 : Nat) (w7 : Nat) (w8 : Nat) (w9 : Nat) (ik : Int32) (tx : Nat) (he : Int32) (fa : Int32) (cl : Nat) (wv : Nat → Int32) (N : Nat) (hvn : wv 0 = nI N) (hN : N = 4 ∨ N = 6) : Met l yX8_rounds wsX8_rounds ({ frames := 0, cells := 0, slots := 0, locals := 0 }) (zr_P D E [.ref m0] [(m0, .inr (6, [.ref w0, .ref w1, .ref w2, .int ik, .ref w3, .int (nI tx), .int he, .int fa, .ref w4, .ref w5, .int (nI cl), .ref w6, .ref w7, .ref w8, .ref w9])), (w0, .inl (E 0, 137, .inl wv))]) (zr_Qi (fun zv => zv = nI (N - 1))) 0 0 (fun _ => False) := by
  refine Met.ofW (cc := cX8_rounds) (maxL := 1) (ret := (some .int)) (by decide) rfl ?_
  intro p e s m args below meth c s₁ Bz hml hv
  obtain ⟨rfl, hP, hK⟩ := hv
  have hx := Bz.exec
  have hb := Bz.bytes
  have hr := Bz.returns
  have hts := atoms_spec (ws := wsX8_rounds) Bz.pre
  have hown : s.vm.findClass RX8 = some m.cls := findClass_of_methodNamed Bz.named
  have hlocks := Bz.notSynchronized
  have hP : va_P D vwCl [(m0, .inr (6, [.ref w0, .ref w1, .ref w2, .int ik, .ref w3, .int (nI tx), .int he, .int fa, .ref w4, .ref w5, .int (nI cl), .ref w6, .ref w7, .ref w8, .ref w9])), (w0, .inl (E 0, 137, .inl wv))] s.heap := hP
  have hS : va_S (fun _ : Nat => False) s.heap s.heap [] := va_S.rf
  have hl := lv_entry ([.ref m0]) (n := 1) (Nat.le_of_ble_eq_true rfl)
  rw [lg_entry_eq]
  generalize (lg_sl ([.ref m0]) ++ List.replicate (1 - (lg_sl ([.ref m0])).length) Slot.unset).toArray = ls at hl ⊢
  have hl : lv_has ls 1 [(0, .ref m0)] := hl
  refine zr_nQ (fun Q hQ => ?_)
  refine lv_aload_n hx hb dX8_rounds_0 rfl (lv_at hl 0 rfl) ?_
  refine va_get (D := D) (ci := 6) (v := .ref w0) (C := RX8) (T := TX8) (N := 15) hx hb hts (by decide +kernel) hown hK.1 hP 0 rfl rfl 0 (by decide) (hts (.fieldLink RX8 11 "HomeRoundsModel" "w" "[I") (by decide +kernel)) (fun _ h9 => h9) rfl dX8_rounds_1 ?_
  refine lv_iconst (v := nI 0) hx hb dX8_rounds_4 (by rfl) ?_
  refine va_iald hx hb hK.1 hP 1 0 rfl rfl (vp_in_nI (by omega) (by omega)) dX8_rounds_5 ?_
  refine zr_ti (y := nI N) ((congrArg wv (nI_clamp (by omega))).trans (hvn)) ?_
  refine lv_iconst (v := nI 1) hx hb dX8_rounds_6 (by rfl) ?_
  refine lv_isub hx hb dX8_rounds_7 ?_
  refine zr_ti (y := nI (N - 1)) (pk_sub (by omega)) ?_
  subst hQ
  exact W.iret (v := nI (N - 1)) hx hb hr (fun tz htz hWz => ⟨⟨nI (N - 1), (), rfl, rfl, trivial⟩, hS.F htz⟩) hS.2.2 dX8_rounds_8

set_option maxHeartbeats 4000000 in
set_option maxRecDepth 100000 in
theorem c_X8_isTeam (l : Launch) (D : va_G) (E : Nat → ClassId) (m0 : Nat) (w0 : Nat) (w1 : Nat) (w2 : Nat) (w3 : Nat) (w4 : Nat) (w5 : Nat) (w6 : Nat) (w7 : Nat) (w8 : Nat) (w9 : Nat) (ik : Int32) (tx : Nat) (he : Int32) (fa : Int32) (cl : Nat) (wv : Nat → Int32) (N : Nat) (v : Int32) (hvn : wv 0 = nI N) (hN : N = 4 ∨ N = 6) : Met l yX8_isTeam wsX8_isTeam ({ frames := 1, cells := 0, slots := 0, locals := 22 }) (zr_P D E [.ref m0, .int v] [(m0, .inr (6, [.ref w0, .ref w1, .ref w2, .int ik, .ref w3, .int (nI tx), .int he, .int fa, .ref w4, .ref w5, .int (nI cl), .ref w6, .ref w7, .ref w8, .ref w9])), (w0, .inl (E 0, 137, .inl wv))]) (zr_Qi (fun zv => (zv = 1 ∧ (∃ t : Nat, t < N ∧ v = nI t)) ∨ (zv = 0 ∧ (∀ t : Nat, t < N → v ≠ nI t)))) 0 0 (fun _ => False) := by
  refine Met.ofW (cc := cX8_isTeam) (maxL := 2) (ret := (some .boolean)) (by decide) rfl ?_
  intro p e s m args below meth c s₁ Bz hml hv
  obtain ⟨rfl, hP, hK⟩ := hv
  have hx := Bz.exec
  have hb := Bz.bytes
  have hr := Bz.returns
  have hts := atoms_spec (ws := wsX8_isTeam) Bz.pre
  have hown : s.vm.findClass RX8 = some m.cls := findClass_of_methodNamed Bz.named
  have hlocks := Bz.notSynchronized
  have hP : va_P D vwCl [(m0, .inr (6, [.ref w0, .ref w1, .ref w2, .int ik, .ref w3, .int (nI tx), .int he, .int fa, .ref w4, .ref w5, .int (nI cl), .ref w6, .ref w7, .ref w8, .ref w9])), (w0, .inl (E 0, 137, .inl wv))] s.heap := hP
  have hS : va_S (fun _ : Nat => False) s.heap s.heap [] := va_S.rf
  have hl := lv_entry ([.ref m0, .int v]) (n := 2) (Nat.le_of_ble_eq_true rfl)
  rw [lg_entry_eq]
  generalize (lg_sl ([.ref m0, .int v]) ++ List.replicate (2 - (lg_sl ([.ref m0, .int v])).length) Slot.unset).toArray = ls at hl ⊢
  have hl : lv_has ls 2 [(0, .ref m0), (1, .int v)] := hl
  refine zr_nQ (fun Q hQ => ?_)
  refine lv_iload_n hx hb dX8_isTeam_0 rfl (lv_at hl 1 rfl) ?_
  refine lv_iconst (v := nI 0) hx hb dX8_isTeam_1 (by rfl) ?_
  refine lv_aload_n hx hb dX8_isTeam_2 rfl (lv_at hl 0 rfl) ?_
  refine va_get (D := D) (ci := 6) (v := .ref w0) (C := RX8) (T := TX8) (N := 15) hx hb hts (by decide +kernel) hown hK.1 hP 0 rfl rfl 0 (by decide) (hts (.fieldLink RX8 11 "HomeRoundsModel" "w" "[I") (by decide +kernel)) (fun _ h9 => h9) rfl dX8_isTeam_3 ?_
  refine lv_iconst (v := nI 0) hx hb dX8_isTeam_6 (by rfl) ?_
  refine va_iald hx hb hK.1 hP 1 0 rfl rfl (vp_in_nI (by omega) (by omega)) dX8_isTeam_7 ?_
  refine zr_ti (y := nI N) ((congrArg wv (nI_clamp (by omega))).trans (hvn)) ?_
  refine lv_iconst (v := nI 1) hx hb dX8_isTeam_8 (by rfl) ?_
  refine lv_isub hx hb dX8_isTeam_9 ?_
  refine zr_ti (y := nI (N - 1)) (pk_sub (by omega)) ?_
  refine zr_ci hP hS (va_runS (As := [.int v, .int (nI 0), .int (nI (N - 1))]) (rest := []) ⟨hx, hb, hml, hown, hts⟩ (c_X8_isIn l D E v (nI 0) (nI (N - 1)) ) (va_cwS 3 hts gX8_isTeam_X8_isIn rfl rfl rfl (by decide +kernel) ⟨Nat.le_of_ble_eq_true rfl, Nat.le_of_ble_eq_true rfl⟩) (zr_S hK (hP.sub (ws' := []) [] rfl)) rfl rfl hl.1 rfl (lv_room (Nat.le_of_ble_eq_true rfl)) dX8_isTeam_10 ⟨Nat.zero_le _, Nat.zero_le _⟩) (fun r_1 H locs hw_2 hP hS => ?_)
  rcases hw_2 with ⟨rfl, hw_2⟩ | ⟨rfl, hw_2⟩
  · skip
    have hye := zn_in3 (n := N) (by omega) (by omega) hw_2.1 hw_2.2
    refine zr_ti (y := nI 1) rfl ?_
    subst hQ
    exact W.zret (v := nI 1) hx hb hr (by decide) (fun tz htz hWz => ⟨⟨nI 1, (), rfl, Or.inl ⟨rfl, hye⟩, trivial⟩, hS.F htz⟩) hS.2.2 dX8_isTeam_13
  · skip
    have hno := zn_out3 (n := N) (by omega) hw_2
    refine zr_ti (y := nI 0) rfl ?_
    subst hQ
    exact W.zret (v := nI 0) hx hb hr (by decide) (fun tz htz hWz => ⟨⟨nI 0, (), rfl, Or.inr ⟨rfl, hno⟩, trivial⟩, hS.F htz⟩) hS.2.2 dX8_isTeam_13

set_option maxHeartbeats 4000000 in
set_option maxRecDepth 100000 in
theorem c_X8_isRound (l : Launch) (D : va_G) (E : Nat → ClassId) (m0 : Nat) (w0 : Nat) (w1 : Nat) (w2 : Nat) (w3 : Nat) (w4 : Nat) (w5 : Nat) (w6 : Nat) (w7 : Nat) (w8 : Nat) (w9 : Nat) (ik : Int32) (tx : Nat) (he : Int32) (fa : Int32) (cl : Nat) (wv : Nat → Int32) (N : Nat) (v : Int32) (hvn : wv 0 = nI N) (hN : N = 4 ∨ N = 6) : Met l yX8_isRound wsX8_isRound ({ frames := 1, cells := 0, slots := 0, locals := 22 }) (zr_P D E [.ref m0, .int v] [(m0, .inr (6, [.ref w0, .ref w1, .ref w2, .int ik, .ref w3, .int (nI tx), .int he, .int fa, .ref w4, .ref w5, .int (nI cl), .ref w6, .ref w7, .ref w8, .ref w9])), (w0, .inl (E 0, 137, .inl wv))]) (zr_Qi (fun zv => (zv = 1 ∧ (∃ t : Nat, t < N - 1 ∧ v = nI t)) ∨ (zv = 0 ∧ (∀ t : Nat, t < N - 1 → v ≠ nI t)))) 0 0 (fun _ => False) := by
  refine Met.ofW (cc := cX8_isRound) (maxL := 2) (ret := (some .boolean)) (by decide) rfl ?_
  intro p e s m args below meth c s₁ Bz hml hv
  obtain ⟨rfl, hP, hK⟩ := hv
  have hx := Bz.exec
  have hb := Bz.bytes
  have hr := Bz.returns
  have hts := atoms_spec (ws := wsX8_isRound) Bz.pre
  have hown : s.vm.findClass RX8 = some m.cls := findClass_of_methodNamed Bz.named
  have hlocks := Bz.notSynchronized
  have hP : va_P D vwCl [(m0, .inr (6, [.ref w0, .ref w1, .ref w2, .int ik, .ref w3, .int (nI tx), .int he, .int fa, .ref w4, .ref w5, .int (nI cl), .ref w6, .ref w7, .ref w8, .ref w9])), (w0, .inl (E 0, 137, .inl wv))] s.heap := hP
  have hS : va_S (fun _ : Nat => False) s.heap s.heap [] := va_S.rf
  have hl := lv_entry ([.ref m0, .int v]) (n := 2) (Nat.le_of_ble_eq_true rfl)
  rw [lg_entry_eq]
  generalize (lg_sl ([.ref m0, .int v]) ++ List.replicate (2 - (lg_sl ([.ref m0, .int v])).length) Slot.unset).toArray = ls at hl ⊢
  have hl : lv_has ls 2 [(0, .ref m0), (1, .int v)] := hl
  refine zr_nQ (fun Q hQ => ?_)
  refine lv_iload_n hx hb dX8_isRound_0 rfl (lv_at hl 1 rfl) ?_
  refine lv_iconst (v := nI 0) hx hb dX8_isRound_1 (by rfl) ?_
  refine lv_aload_n hx hb dX8_isRound_2 rfl (lv_at hl 0 rfl) ?_
  refine zr_ci hP hS (va_runV (As := []) (rest := [.int (nI 0), .int v]) ⟨hx, hb, hml, hown, hts⟩ (c_X8_rounds l D E m0 w0 w1 w2 w3 w4 w5 w6 w7 w8 w9 ik tx he fa cl wv N (hvn) (hN)) (cwV 0 hts gX8_isRound_X8_rounds rfl rfl rfl (by decide +kernel) ⟨Nat.le_of_ble_eq_true rfl, Nat.le_of_ble_eq_true rfl⟩) (zr_V hK (hP.sub (ws' := [(m0, .inr (6, [.ref w0, .ref w1, .ref w2, .int ik, .ref w3, .int (nI tx), .int he, .int fa, .ref w4, .ref w5, .int (nI cl), .ref w6, .ref w7, .ref w8, .ref w9])), (w0, .inl (E 0, 137, .inl wv))]) [0, 1] rfl) (ci := 6) (q0 := 0) rfl rfl) rfl rfl hl.1 rfl (lv_room (Nat.le_of_ble_eq_true rfl)) dX8_isRound_3 ⟨Nat.zero_le _, Nat.zero_le _⟩) (fun r_1 H locs hw_2 hP hS => ?_)
  subst hw_2
  refine lv_iconst (v := nI 1) hx hb dX8_isRound_6 (by rfl) ?_
  refine lv_isub hx hb dX8_isRound_7 ?_
  refine zr_ti (y := nI ((N - 1) - 1)) (pk_sub (by omega)) ?_
  refine zr_ci hP hS (va_runS (As := [.int v, .int (nI 0), .int (nI ((N - 1) - 1))]) (rest := []) ⟨hx, hb, hml, hown, hts⟩ (c_X8_isIn l D E v (nI 0) (nI ((N - 1) - 1)) ) (va_cwS 3 hts gX8_isRound_X8_isIn rfl rfl rfl (by decide +kernel) ⟨Nat.le_of_ble_eq_true rfl, Nat.le_of_ble_eq_true rfl⟩) (zr_S hK (hP.sub (ws' := []) [] rfl)) rfl rfl hl.1 rfl (lv_room (Nat.le_of_ble_eq_true rfl)) dX8_isRound_8 ⟨Nat.zero_le _, Nat.zero_le _⟩) (fun r_3 H locs hw_4 hP hS => ?_)
  rcases hw_4 with ⟨rfl, hw_4⟩ | ⟨rfl, hw_4⟩
  · skip
    have hye := zn_in3 (n := (N - 1)) (by omega) (by omega) hw_4.1 hw_4.2
    refine zr_ti (y := nI 1) rfl ?_
    subst hQ
    exact W.zret (v := nI 1) hx hb hr (by decide) (fun tz htz hWz => ⟨⟨nI 1, (), rfl, Or.inl ⟨rfl, hye⟩, trivial⟩, hS.F htz⟩) hS.2.2 dX8_isRound_11
  · skip
    have hno := zn_out3 (n := (N - 1)) (by omega) hw_4
    refine zr_ti (y := nI 0) rfl ?_
    subst hQ
    exact W.zret (v := nI 0) hx hb hr (by decide) (fun tz htz hWz => ⟨⟨nI 0, (), rfl, Or.inr ⟨rfl, hno⟩, trivial⟩, hS.F htz⟩) hS.2.2 dX8_isRound_11

set_option maxHeartbeats 4000000 in
set_option maxRecDepth 100000 in
theorem c_X8_isGame (l : Launch) (D : va_G) (E : Nat → ClassId) (m0 : Nat) (w0 : Nat) (w1 : Nat) (w2 : Nat) (w3 : Nat) (w4 : Nat) (w5 : Nat) (w6 : Nat) (w7 : Nat) (w8 : Nat) (w9 : Nat) (ik : Int32) (tx : Nat) (he : Int32) (fa : Int32) (cl : Nat) (wv : Nat → Int32) (N : Nat) (v : Int32) (hvn : wv 0 = nI N) (hN : N = 4 ∨ N = 6) : Met l yX8_isGame wsX8_isGame ({ frames := 1, cells := 0, slots := 0, locals := 22 }) (zr_P D E [.ref m0, .int v] [(m0, .inr (6, [.ref w0, .ref w1, .ref w2, .int ik, .ref w3, .int (nI tx), .int he, .int fa, .ref w4, .ref w5, .int (nI cl), .ref w6, .ref w7, .ref w8, .ref w9])), (w0, .inl (E 0, 137, .inl wv))]) (zr_Qi (fun zv => (zv = 1 ∧ (∃ t : Nat, t < N / 2 ∧ v = nI t)) ∨ (zv = 0 ∧ (∀ t : Nat, t < N / 2 → v ≠ nI t)))) 0 0 (fun _ => False) := by
  refine Met.ofW (cc := cX8_isGame) (maxL := 2) (ret := (some .boolean)) (by decide) rfl ?_
  intro p e s m args below meth c s₁ Bz hml hv
  obtain ⟨rfl, hP, hK⟩ := hv
  have hx := Bz.exec
  have hb := Bz.bytes
  have hr := Bz.returns
  have hts := atoms_spec (ws := wsX8_isGame) Bz.pre
  have hown : s.vm.findClass RX8 = some m.cls := findClass_of_methodNamed Bz.named
  have hlocks := Bz.notSynchronized
  have hP : va_P D vwCl [(m0, .inr (6, [.ref w0, .ref w1, .ref w2, .int ik, .ref w3, .int (nI tx), .int he, .int fa, .ref w4, .ref w5, .int (nI cl), .ref w6, .ref w7, .ref w8, .ref w9])), (w0, .inl (E 0, 137, .inl wv))] s.heap := hP
  have hS : va_S (fun _ : Nat => False) s.heap s.heap [] := va_S.rf
  have hl := lv_entry ([.ref m0, .int v]) (n := 2) (Nat.le_of_ble_eq_true rfl)
  rw [lg_entry_eq]
  generalize (lg_sl ([.ref m0, .int v]) ++ List.replicate (2 - (lg_sl ([.ref m0, .int v])).length) Slot.unset).toArray = ls at hl ⊢
  have hl : lv_has ls 2 [(0, .ref m0), (1, .int v)] := hl
  refine zr_nQ (fun Q hQ => ?_)
  refine lv_iload_n hx hb dX8_isGame_0 rfl (lv_at hl 1 rfl) ?_
  refine lv_iconst (v := nI 0) hx hb dX8_isGame_1 (by rfl) ?_
  refine lv_aload_n hx hb dX8_isGame_2 rfl (lv_at hl 0 rfl) ?_
  refine va_get (D := D) (ci := 6) (v := .ref w0) (C := RX8) (T := TX8) (N := 15) hx hb hts (by decide +kernel) hown hK.1 hP 0 rfl rfl 0 (by decide) (hts (.fieldLink RX8 11 "HomeRoundsModel" "w" "[I") (by decide +kernel)) (fun _ h9 => h9) rfl dX8_isGame_3 ?_
  refine lv_iconst (v := nI 0) hx hb dX8_isGame_6 (by rfl) ?_
  refine va_iald hx hb hK.1 hP 1 0 rfl rfl (vp_in_nI (by omega) (by omega)) dX8_isGame_7 ?_
  refine zr_ti (y := nI N) ((congrArg wv (nI_clamp (by omega))).trans (hvn)) ?_
  refine lv_iconst (v := nI 2) hx hb dX8_isGame_8 (by rfl) ?_
  refine lv_idiv hx hb dX8_isGame_9 (by decide) ?_
  refine zr_ti (y := nI (N / 2)) (pk_div (by omega) (by omega) (by omega)) ?_
  refine lv_iconst (v := nI 1) hx hb dX8_isGame_10 (by rfl) ?_
  refine lv_isub hx hb dX8_isGame_11 ?_
  refine zr_ti (y := nI ((N / 2) - 1)) (pk_sub (by omega)) ?_
  refine zr_ci hP hS (va_runS (As := [.int v, .int (nI 0), .int (nI ((N / 2) - 1))]) (rest := []) ⟨hx, hb, hml, hown, hts⟩ (c_X8_isIn l D E v (nI 0) (nI ((N / 2) - 1)) ) (va_cwS 3 hts gX8_isGame_X8_isIn rfl rfl rfl (by decide +kernel) ⟨Nat.le_of_ble_eq_true rfl, Nat.le_of_ble_eq_true rfl⟩) (zr_S hK (hP.sub (ws' := []) [] rfl)) rfl rfl hl.1 rfl (lv_room (Nat.le_of_ble_eq_true rfl)) dX8_isGame_12 ⟨Nat.zero_le _, Nat.zero_le _⟩) (fun r_1 H locs hw_2 hP hS => ?_)
  rcases hw_2 with ⟨rfl, hw_2⟩ | ⟨rfl, hw_2⟩
  · skip
    have hye := zn_in3 (n := (N / 2)) (by omega) (by omega) hw_2.1 hw_2.2
    refine zr_ti (y := nI 1) rfl ?_
    subst hQ
    exact W.zret (v := nI 1) hx hb hr (by decide) (fun tz htz hWz => ⟨⟨nI 1, (), rfl, Or.inl ⟨rfl, hye⟩, trivial⟩, hS.F htz⟩) hS.2.2 dX8_isGame_15
  · skip
    have hno := zn_out3 (n := (N / 2)) (by omega) hw_2
    refine zr_ti (y := nI 0) rfl ?_
    subst hQ
    exact W.zret (v := nI 0) hx hb hr (by decide) (fun tz htz hWz => ⟨⟨nI 0, (), rfl, Or.inr ⟨rfl, hno⟩, trivial⟩, hS.F htz⟩) hS.2.2 dX8_isGame_15

set_option maxHeartbeats 4000000 in
set_option maxRecDepth 100000 in
theorem c_X8_isTwo (l : Launch) (D : va_G) (E : Nat → ClassId) (v : Int32)  : Met l yX8_isTwo wsX8_isTwo ({ frames := 1, cells := 0, slots := 0, locals := 22 }) (zr_P D E [.int v] []) (zr_Qi (fun zv => (zv = 1 ∧ (∃ t : Nat, t < 100 ∧ v = nI t)) ∨ (zv = 0 ∧ (∀ t : Nat, t < 100 → v ≠ nI t)))) 0 0 (fun _ => False) := by
  refine Met.ofW (cc := cX8_isTwo) (maxL := 1) (ret := (some .boolean)) (by decide) rfl ?_
  intro p e s m args below meth c s₁ Bz hml hv
  obtain ⟨rfl, hP, hK⟩ := hv
  have hx := Bz.exec
  have hb := Bz.bytes
  have hr := Bz.returns
  have hts := atoms_spec (ws := wsX8_isTwo) Bz.pre
  have hown : s.vm.findClass RX8 = some m.cls := findClass_of_methodNamed Bz.named
  have hlocks := Bz.notSynchronized
  have hP : va_P D vwCl [] s.heap := hP
  have hS : va_S (fun _ : Nat => False) s.heap s.heap [] := va_S.rf
  have hl := lv_entry ([.int v]) (n := 1) (Nat.le_of_ble_eq_true rfl)
  rw [lg_entry_eq]
  generalize (lg_sl ([.int v]) ++ List.replicate (1 - (lg_sl ([.int v])).length) Slot.unset).toArray = ls at hl ⊢
  have hl : lv_has ls 1 [(0, .int v)] := hl
  refine zr_nQ (fun Q hQ => ?_)
  refine lv_iload_n hx hb dX8_isTwo_0 rfl (lv_at hl 0 rfl) ?_
  refine lv_iconst (v := nI 0) hx hb dX8_isTwo_1 (by rfl) ?_
  refine lv_bipush (v := nI 99) hx hb dX8_isTwo_2 (by rfl) ?_
  refine zr_ci hP hS (va_runS (As := [.int v, .int (nI 0), .int (nI 99)]) (rest := []) ⟨hx, hb, hml, hown, hts⟩ (c_X8_isIn l D E v (nI 0) (nI 99) ) (va_cwS 3 hts gX8_isTwo_X8_isIn rfl rfl rfl (by decide +kernel) ⟨Nat.le_of_ble_eq_true rfl, Nat.le_of_ble_eq_true rfl⟩) (zr_S hK (hP.sub (ws' := []) [] rfl)) rfl rfl hl.1 rfl (lv_room (Nat.le_of_ble_eq_true rfl)) dX8_isTwo_4 ⟨Nat.zero_le _, Nat.zero_le _⟩) (fun r_1 H locs hw_2 hP hS => ?_)
  rcases hw_2 with ⟨rfl, hw_2⟩ | ⟨rfl, hw_2⟩
  · skip
    have hye := zn_in3 (n := 100) (by omega) (by omega) hw_2.1 hw_2.2
    refine zr_ti (y := nI 1) rfl ?_
    subst hQ
    exact W.zret (v := nI 1) hx hb hr (by decide) (fun tz htz hWz => ⟨⟨nI 1, (), rfl, Or.inl ⟨rfl, hye⟩, trivial⟩, hS.F htz⟩) hS.2.2 dX8_isTwo_7
  · skip
    have hno := zn_out3 (n := 100) (by omega) hw_2
    refine zr_ti (y := nI 0) rfl ?_
    subst hQ
    exact W.zret (v := nI 0) hx hb hr (by decide) (fun tz htz hWz => ⟨⟨nI 0, (), rfl, Or.inr ⟨rfl, hno⟩, trivial⟩, hS.F htz⟩) hS.2.2 dX8_isTwo_7

set_option maxHeartbeats 4000000 in
set_option maxRecDepth 100000 in
theorem c_X8_at (l : Launch) (D : va_G) (E : Nat → ClassId) (m0 : Nat) (w0 : Nat) (w1 : Nat) (w2 : Nat) (w3 : Nat) (w4 : Nat) (w5 : Nat) (w6 : Nat) (w7 : Nat) (w8 : Nat) (w9 : Nat) (ik : Int32) (tx : Nat) (he : Int32) (fa : Int32) (cl : Nat) (wv : Nat → Int32) (r : Nat) (k : Nat) (z : Nat)  : Met l yX8_at wsX8_at ({ frames := 0, cells := 0, slots := 0, locals := 0 }) (zr_P D E [.ref m0, .int (nI r), .int (nI k), .int (nI z)] [(m0, .inr (6, [.ref w0, .ref w1, .ref w2, .int ik, .ref w3, .int (nI tx), .int he, .int fa, .ref w4, .ref w5, .int (nI cl), .ref w6, .ref w7, .ref w8, .ref w9])), (w0, .inl (E 0, 137, .inl wv))]) (zr_Qi (fun zv => zv = nI (57 + 6 * r + 2 * k + z))) 0 0 (fun _ => False) := by
  refine Met.ofW (cc := cX8_at) (maxL := 4) (ret := (some .int)) (by decide) rfl ?_
  intro p e s m args below meth c s₁ Bz hml hv
  obtain ⟨rfl, hP, hK⟩ := hv
  have hx := Bz.exec
  have hb := Bz.bytes
  have hr := Bz.returns
  have hts := atoms_spec (ws := wsX8_at) Bz.pre
  have hown : s.vm.findClass RX8 = some m.cls := findClass_of_methodNamed Bz.named
  have hlocks := Bz.notSynchronized
  have hP : va_P D vwCl [(m0, .inr (6, [.ref w0, .ref w1, .ref w2, .int ik, .ref w3, .int (nI tx), .int he, .int fa, .ref w4, .ref w5, .int (nI cl), .ref w6, .ref w7, .ref w8, .ref w9])), (w0, .inl (E 0, 137, .inl wv))] s.heap := hP
  have hS : va_S (fun _ : Nat => False) s.heap s.heap [] := va_S.rf
  have hl := lv_entry ([.ref m0, .int (nI r), .int (nI k), .int (nI z)]) (n := 4) (Nat.le_of_ble_eq_true rfl)
  rw [lg_entry_eq]
  generalize (lg_sl ([.ref m0, .int (nI r), .int (nI k), .int (nI z)]) ++ List.replicate (4 - (lg_sl ([.ref m0, .int (nI r), .int (nI k), .int (nI z)])).length) Slot.unset).toArray = ls at hl ⊢
  have hl : lv_has ls 4 [(0, .ref m0), (1, .int (nI r)), (2, .int (nI k)), (3, .int (nI z))] := hl
  refine zr_nQ (fun Q hQ => ?_)
  refine lv_bipush (v := nI 57) hx hb dX8_at_0 (by rfl) ?_
  refine lv_bipush (v := nI 6) hx hb dX8_at_2 (by rfl) ?_
  refine lv_iload_n hx hb dX8_at_4 rfl (lv_at hl 1 rfl) ?_
  refine lv_imul hx hb dX8_at_5 ?_
  refine zr_ti (y := nI (6 * r)) (pk_mul _ _) ?_
  refine lv_iadd hx hb dX8_at_6 ?_
  refine zr_ti (y := nI (57 + (6 * r))) (nI_add _ _) ?_
  refine lv_iconst (v := nI 2) hx hb dX8_at_7 (by rfl) ?_
  refine lv_iload_n hx hb dX8_at_8 rfl (lv_at hl 2 rfl) ?_
  refine lv_imul hx hb dX8_at_9 ?_
  refine zr_ti (y := nI (2 * k)) (pk_mul _ _) ?_
  refine lv_iadd hx hb dX8_at_10 ?_
  refine zr_ti (y := nI ((57 + (6 * r)) + (2 * k))) (nI_add _ _) ?_
  refine lv_iload_n hx hb dX8_at_11 rfl (lv_at hl 3 rfl) ?_
  refine lv_iadd hx hb dX8_at_12 ?_
  refine zr_ti (y := nI (((57 + (6 * r)) + (2 * k)) + z)) (nI_add _ _) ?_
  subst hQ
  exact W.iret (v := nI (((57 + (6 * r)) + (2 * k)) + z)) hx hb hr (fun tz htz hWz => ⟨⟨nI (((57 + (6 * r)) + (2 * k)) + z), (), rfl, rfl, trivial⟩, hS.F htz⟩) hS.2.2 dX8_at_13

set_option maxHeartbeats 4000000 in
set_option maxRecDepth 100000 in
theorem c_X8_who (l : Launch) (D : va_G) (E : Nat → ClassId) (m0 : Nat) (w0 : Nat) (w1 : Nat) (w2 : Nat) (w3 : Nat) (w4 : Nat) (w5 : Nat) (w6 : Nat) (w7 : Nat) (w8 : Nat) (w9 : Nat) (ik : Int32) (tx : Nat) (he : Int32) (fa : Int32) (cl : Nat) (wv : Nat → Int32) (N : Nat) (G : Nat → Nat → Nat) (P : Nat → Nat → Nat) (r : Nat) (k : Nat) (z : Nat) (hvg : zv_g N G P wv) (hr0 : r < N - 1) (hk0 : k < N / 2) (hz : z < 2) : Met l yX8_who wsX8_who ({ frames := 1, cells := 0, slots := 0, locals := 23 }) (zr_P D E [.ref m0, .int (nI r), .int (nI k), .int (nI z)] [(m0, .inr (6, [.ref w0, .ref w1, .ref w2, .int ik, .ref w3, .int (nI tx), .int he, .int fa, .ref w4, .ref w5, .int (nI cl), .ref w6, .ref w7, .ref w8, .ref w9])), (w0, .inl (E 0, 137, .inl wv))]) (zr_Qi (fun zv => zv = nI (G r (2 * k + z)))) 0 0 (fun _ => False) := by
  refine Met.ofW (cc := cX8_who) (maxL := 4) (ret := (some .int)) (by decide) rfl ?_
  intro p e s m args below meth c s₁ Bz hml hv
  obtain ⟨rfl, hP, hK⟩ := hv
  have hx := Bz.exec
  have hb := Bz.bytes
  have hr := Bz.returns
  have hts := atoms_spec (ws := wsX8_who) Bz.pre
  have hown : s.vm.findClass RX8 = some m.cls := findClass_of_methodNamed Bz.named
  have hlocks := Bz.notSynchronized
  have hP : va_P D vwCl [(m0, .inr (6, [.ref w0, .ref w1, .ref w2, .int ik, .ref w3, .int (nI tx), .int he, .int fa, .ref w4, .ref w5, .int (nI cl), .ref w6, .ref w7, .ref w8, .ref w9])), (w0, .inl (E 0, 137, .inl wv))] s.heap := hP
  have hS : va_S (fun _ : Nat => False) s.heap s.heap [] := va_S.rf
  have hl := lv_entry ([.ref m0, .int (nI r), .int (nI k), .int (nI z)]) (n := 4) (Nat.le_of_ble_eq_true rfl)
  rw [lg_entry_eq]
  generalize (lg_sl ([.ref m0, .int (nI r), .int (nI k), .int (nI z)]) ++ List.replicate (4 - (lg_sl ([.ref m0, .int (nI r), .int (nI k), .int (nI z)])).length) Slot.unset).toArray = ls at hl ⊢
  have hl : lv_has ls 4 [(0, .ref m0), (1, .int (nI r)), (2, .int (nI k)), (3, .int (nI z))] := hl
  refine zr_nQ (fun Q hQ => ?_)
  have hok := hvg.1
  have hN := hok.1
  have hvn := hvg.2.1
  refine lv_aload_n hx hb dX8_who_0 rfl (lv_at hl 0 rfl) ?_
  refine va_get (D := D) (ci := 6) (v := .ref w0) (C := RX8) (T := TX8) (N := 15) hx hb hts (by decide +kernel) hown hK.1 hP 0 rfl rfl 0 (by decide) (hts (.fieldLink RX8 11 "HomeRoundsModel" "w" "[I") (by decide +kernel)) (fun _ h9 => h9) rfl dX8_who_1 ?_
  refine lv_aload_n hx hb dX8_who_4 rfl (lv_at hl 0 rfl) ?_
  refine lv_iload_n hx hb dX8_who_5 rfl (lv_at hl 1 rfl) ?_
  refine lv_iload_n hx hb dX8_who_6 rfl (lv_at hl 2 rfl) ?_
  refine lv_iload_n hx hb dX8_who_7 rfl (lv_at hl 3 rfl) ?_
  refine zr_ci hP hS (va_runV (As := [.int (nI r), .int (nI k), .int (nI z)]) (rest := [.ref w0]) ⟨hx, hb, hml, hown, hts⟩ (c_X8_at l D E m0 w0 w1 w2 w3 w4 w5 w6 w7 w8 w9 ik tx he fa cl wv r k z ) (cwV 3 hts gX8_who_X8_at rfl rfl rfl (by decide +kernel) ⟨Nat.le_of_ble_eq_true rfl, Nat.le_of_ble_eq_true rfl⟩) (zr_V hK (hP.sub (ws' := [(m0, .inr (6, [.ref w0, .ref w1, .ref w2, .int ik, .ref w3, .int (nI tx), .int he, .int fa, .ref w4, .ref w5, .int (nI cl), .ref w6, .ref w7, .ref w8, .ref w9])), (w0, .inl (E 0, 137, .inl wv))]) [0, 1] rfl) (ci := 6) (q0 := 0) rfl rfl) rfl rfl hl.1 rfl (lv_room (Nat.le_of_ble_eq_true rfl)) dX8_who_8 ⟨Nat.zero_le _, Nat.zero_le _⟩) (fun r_1 H locs hw_2 hP hS => ?_)
  subst hw_2
  refine va_iald hx hb hK.1 hP 1 0 rfl rfl (vp_in_nI (by omega) (by omega)) dX8_who_11 ?_
  refine zr_ti (y := nI (G r (2 * k + z))) ((congrArg wv (nI_clamp (by omega))).trans (by rw [Nat.add_assoc (57 + 6 * r)]; exact hvg.2.2 r (2 * k + z) hr0 (by omega))) ?_
  subst hQ
  exact W.iret (v := nI (G r (2 * k + z))) hx hb hr (fun tz htz hWz => ⟨⟨nI (G r (2 * k + z)), (), rfl, rfl, trivial⟩, hS.F htz⟩) hS.2.2 dX8_who_12

set_option maxHeartbeats 4000000 in
set_option maxRecDepth 100000 in
theorem c_X8_placeOf (l : Launch) (D : va_G) (E : Nat → ClassId) (m0 : Nat) (w0 : Nat) (w1 : Nat) (w2 : Nat) (w3 : Nat) (w4 : Nat) (w5 : Nat) (w6 : Nat) (w7 : Nat) (w8 : Nat) (w9 : Nat) (ik : Int32) (tx : Nat) (he : Int32) (fa : Int32) (cl : Nat) (wv : Nat → Int32) (N : Nat) (G : Nat → Nat → Nat) (P : Nat → Nat → Nat) (t : Nat) (r : Nat) (hvg : zv_g N G P wv) (ht : t < N) (hr0 : r < N - 1) : Met l yX8_placeOf wsX8_placeOf ({ frames := 0, cells := 0, slots := 0, locals := 0 }) (zr_P D E [.ref m0, .int (nI t), .int (nI r)] [(m0, .inr (6, [.ref w0, .ref w1, .ref w2, .int ik, .ref w3, .int (nI tx), .int he, .int fa, .ref w4, .ref w5, .int (nI cl), .ref w6, .ref w7, .ref w8, .ref w9])), (w0, .inl (E 0, 137, .inl wv))]) (zr_Qi (fun zv => zv = nI (P r t))) 0 0 (fun _ => False) := by
  refine Met.ofW (cc := cX8_placeOf) (maxL := 4) (ret := (some .int)) (by decide) rfl ?_
  intro p e s m args below meth c s₁ Bz hml hv
  obtain ⟨rfl, hP, hK⟩ := hv
  have hx := Bz.exec
  have hb := Bz.bytes
  have hr := Bz.returns
  have hts := atoms_spec (ws := wsX8_placeOf) Bz.pre
  have hown : s.vm.findClass RX8 = some m.cls := findClass_of_methodNamed Bz.named
  have hlocks := Bz.notSynchronized
  have hP : va_P D vwCl [(m0, .inr (6, [.ref w0, .ref w1, .ref w2, .int ik, .ref w3, .int (nI tx), .int he, .int fa, .ref w4, .ref w5, .int (nI cl), .ref w6, .ref w7, .ref w8, .ref w9])), (w0, .inl (E 0, 137, .inl wv))] s.heap := hP
  have hS : va_S (fun _ : Nat => False) s.heap s.heap [] := va_S.rf
  have hl := lv_entry ([.ref m0, .int (nI t), .int (nI r)]) (n := 4) (Nat.le_of_ble_eq_true rfl)
  rw [lg_entry_eq]
  generalize (lg_sl ([.ref m0, .int (nI t), .int (nI r)]) ++ List.replicate (4 - (lg_sl ([.ref m0, .int (nI t), .int (nI r)])).length) Slot.unset).toArray = ls at hl ⊢
  have hl : lv_has ls 4 [(0, .ref m0), (1, .int (nI t)), (2, .int (nI r))] := hl
  refine zr_nQ (fun Q hQ => ?_)
  have hok := hvg.1
  have hN := hok.1
  have hvn := hvg.2.1
  obtain ⟨hp1, hp2⟩ := hok.2.2 r t hr0 ht
  refine lv_iconst (v := nI 0) hx hb dX8_placeOf_0 (by rfl) ?_
  refine lv_istore_n (lv' := [(3, .int (nI 0)), (0, .ref m0), (1, .int (nI t)), (2, .int (nI r))]) hx hb dX8_placeOf_1 rfl hl (by decide) rfl (fun ls hl => ?_)
  suffices KL2 : ∀ (kz : Nat) (i : Nat) (H : Heap) (locs : List Loc) (ls : Array Slot), (N - i) < kz → (i ≤ P r t) → va_P D vwCl [(m0, .inr (6, [.ref w0, .ref w1, .ref w2, .int ik, .ref w3, .int (nI tx), .int he, .int fa, .ref w4, .ref w5, .int (nI cl), .ref w6, .ref w7, .ref w8, .ref w9])), (w0, .inl (E 0, 137, .inl wv))] H → va_S (fun _ : Nat => False) s.heap H locs → lv_has ls 4 [(0, .ref m0), (1, .int (nI t)), (2, .int (nI r)), (3, .int (nI i))] → W p l e (headSpec wsX8_placeOf ({ frames := 0, cells := 0, slots := 0, locals := 0 })).room s m ([.ref m0, .int (nI t), .int (nI r)] : List Value).toArray below meth c H locs 0 0 Q (F0 m 2 ls []) from
    KL2 _ 0 _ _ ls (Nat.lt_succ_self _) (Nat.zero_le _) hP hS (lv_sub hl [1, 2, 3, 0] rfl)
  clear hP hS hl
  intro kz
  induction kz with
  | zero => intro i H locs ls hkz; exact absurd hkz (Nat.not_lt_zero _)
  | succ kz ih2 =>
    intro i H locs ls hkz hi hP hS hl
    refine lv_iload_n hx hb dX8_placeOf_2 rfl (lv_at hl 3 rfl) ?_
    refine lv_aload_n hx hb dX8_placeOf_3 rfl (lv_at hl 0 rfl) ?_
    refine va_get (D := D) (ci := 6) (v := .ref w0) (C := RX8) (T := TX8) (N := 15) hx hb hts (by decide +kernel) hown hK.1 hP 0 rfl rfl 0 (by decide) (hts (.fieldLink RX8 11 "HomeRoundsModel" "w" "[I") (by decide +kernel)) (fun _ h9 => h9) rfl dX8_placeOf_4 ?_
    refine lv_iconst (v := nI 0) hx hb dX8_placeOf_7 (by rfl) ?_
    refine va_iald hx hb hK.1 hP 1 0 rfl rfl (vp_in_nI (by omega) (by omega)) dX8_placeOf_8 ?_
    refine zr_ti (y := nI N) ((congrArg wv (nI_clamp (by omega))).trans (hvn)) ?_
    refine lv_icmp_ge (tgt := 38) hx hb dX8_placeOf_9 (by decide) (fun cn_1 => ?_) (fun cn_1 => ?_)
    · skip
      have cn_1 : N ≤ i := (nI_leI (a := N) (b := i) (by omega) (by omega)).mp cn_1
      exfalso; omega
    · skip
      have cn_1 : ¬ (N ≤ i) := fun hz => cn_1 ((nI_leI (a := N) (b := i) (by omega) (by omega)).mpr hz)
      have hg0 := zm_G_lt hok (r := r) (k := i) hr0 (by omega)
      refine lv_aload_n hx hb dX8_placeOf_12 rfl (lv_at hl 0 rfl) ?_
      refine va_get (D := D) (ci := 6) (v := .ref w0) (C := RX8) (T := TX8) (N := 15) hx hb hts (by decide +kernel) hown hK.1 hP 0 rfl rfl 0 (by decide) (hts (.fieldLink RX8 11 "HomeRoundsModel" "w" "[I") (by decide +kernel)) (fun _ h9 => h9) rfl dX8_placeOf_13 ?_
      refine lv_bipush (v := nI 57) hx hb dX8_placeOf_16 (by rfl) ?_
      refine lv_bipush (v := nI 6) hx hb dX8_placeOf_18 (by rfl) ?_
      refine lv_iload_n hx hb dX8_placeOf_20 rfl (lv_at hl 2 rfl) ?_
      refine lv_imul hx hb dX8_placeOf_21 ?_
      refine zr_ti (y := nI (6 * r)) (pk_mul _ _) ?_
      refine lv_iadd hx hb dX8_placeOf_22 ?_
      refine zr_ti (y := nI (57 + (6 * r))) (nI_add _ _) ?_
      refine lv_iload_n hx hb dX8_placeOf_23 rfl (lv_at hl 3 rfl) ?_
      refine lv_iadd hx hb dX8_placeOf_24 ?_
      refine zr_ti (y := nI ((57 + (6 * r)) + i)) (nI_add _ _) ?_
      refine va_iald hx hb hK.1 hP 1 0 rfl rfl (vp_in_nI (by omega) (by omega)) dX8_placeOf_25 ?_
      refine zr_ti (y := nI (G r i)) ((congrArg wv (nI_clamp (by omega))).trans (hvg.2.2 r i hr0 (by omega))) ?_
      refine lv_iload_n hx hb dX8_placeOf_26 rfl (lv_at hl 1 rfl) ?_
      refine lv_icmp_ne (tgt := 32) hx hb dX8_placeOf_27 (by decide) (fun cn_2 => ?_) (fun cn_2 => ?_)
      · skip
        have cn_2 : ¬ (G r i = t) := fun hz => cn_2 ((nI_eq (a := G r i) (b := t) (by omega) (by omega)).mpr hz)
        have hbr := cn_2
        refine lv_iinc (v := nI (i + 1)) (lv' := [(3, .int (nI (i + 1))), (0, .ref m0), (1, .int (nI t)), (2, .int (nI r))]) hx hb dX8_placeOf_32 hl (k := 3) rfl (nI_add _ _) (by decide) rfl (fun ls hl => ?_)
        refine lv_goto (tgt := 2) hx hb dX8_placeOf_35 (by decide) ?_
        have hne : i ≠ P r t := fun e => hbr (by rw [e]; exact hp2)
        have hl : lv_has ls 4 [(0, .ref m0), (1, .int (nI t)), (2, .int (nI r)), (3, .int (nI (i + 1)))] := lv_sub hl [1, 2, 3, 0] rfl
        exact ih2 (i + 1) H locs ls (by omega) (by omega) hP hS hl
      · skip
        have cn_2 : G r i = t := (nI_eq (a := G r i) (b := t) (by omega) (by omega)).mp cn_2
        have hbr := cn_2
        refine lv_iload_n hx hb dX8_placeOf_30 rfl (lv_at hl 3 rfl) ?_
        subst hQ
        exact W.iret (v := nI i) hx hb hr (fun tz htz hWz => ⟨⟨nI i, (), rfl, by rw [← hbr, (hok.2.1 r i hr0 (by omega)).2], trivial⟩, hS.F htz⟩) hS.2.2 dX8_placeOf_31

set_option maxHeartbeats 4000000 in
set_option maxRecDepth 100000 in
theorem c_X8_isHome (l : Launch) (D : va_G) (E : Nat → ClassId) (m0 : Nat) (w0 : Nat) (w1 : Nat) (w2 : Nat) (w3 : Nat) (w4 : Nat) (w5 : Nat) (w6 : Nat) (w7 : Nat) (w8 : Nat) (w9 : Nat) (ik : Int32) (tx : Nat) (he : Int32) (fa : Int32) (cl : Nat) (wv : Nat → Int32) (N : Nat) (G : Nat → Nat → Nat) (P : Nat → Nat → Nat) (t : Nat) (r : Nat) (hvg : zv_g N G P wv) (ht : t < N) (hr0 : r < N - 1) : Met l yX8_isHome wsX8_isHome ({ frames := 1, cells := 0, slots := 0, locals := 23 }) (zr_P D E [.ref m0, .int (nI t), .int (nI r)] [(m0, .inr (6, [.ref w0, .ref w1, .ref w2, .int ik, .ref w3, .int (nI tx), .int he, .int fa, .ref w4, .ref w5, .int (nI cl), .ref w6, .ref w7, .ref w8, .ref w9])), (w0, .inl (E 0, 137, .inl wv))]) (zr_Qi (fun zv => (zv = 1 ∧ (zm_sd P t r = 1)) ∨ (zv = 0 ∧ (zm_sd P t r = 0)))) 0 0 (fun _ => False) := by
  refine Met.ofW (cc := cX8_isHome) (maxL := 3) (ret := (some .boolean)) (by decide) rfl ?_
  intro p e s m args below meth c s₁ Bz hml hv
  obtain ⟨rfl, hP, hK⟩ := hv
  have hx := Bz.exec
  have hb := Bz.bytes
  have hr := Bz.returns
  have hts := atoms_spec (ws := wsX8_isHome) Bz.pre
  have hown : s.vm.findClass RX8 = some m.cls := findClass_of_methodNamed Bz.named
  have hlocks := Bz.notSynchronized
  have hP : va_P D vwCl [(m0, .inr (6, [.ref w0, .ref w1, .ref w2, .int ik, .ref w3, .int (nI tx), .int he, .int fa, .ref w4, .ref w5, .int (nI cl), .ref w6, .ref w7, .ref w8, .ref w9])), (w0, .inl (E 0, 137, .inl wv))] s.heap := hP
  have hS : va_S (fun _ : Nat => False) s.heap s.heap [] := va_S.rf
  have hl := lv_entry ([.ref m0, .int (nI t), .int (nI r)]) (n := 3) (Nat.le_of_ble_eq_true rfl)
  rw [lg_entry_eq]
  generalize (lg_sl ([.ref m0, .int (nI t), .int (nI r)]) ++ List.replicate (3 - (lg_sl ([.ref m0, .int (nI t), .int (nI r)])).length) Slot.unset).toArray = ls at hl ⊢
  have hl : lv_has ls 3 [(0, .ref m0), (1, .int (nI t)), (2, .int (nI r))] := hl
  refine zr_nQ (fun Q hQ => ?_)
  have hok := hvg.1
  have hN := hok.1
  have hvn := hvg.2.1
  obtain ⟨hp1, hp2⟩ := hok.2.2 r t hr0 ht
  refine lv_aload_n hx hb dX8_isHome_0 rfl (lv_at hl 0 rfl) ?_
  refine lv_iload_n hx hb dX8_isHome_1 rfl (lv_at hl 1 rfl) ?_
  refine lv_iload_n hx hb dX8_isHome_2 rfl (lv_at hl 2 rfl) ?_
  refine zr_ci hP hS (va_runV (As := [.int (nI t), .int (nI r)]) (rest := []) ⟨hx, hb, hml, hown, hts⟩ (c_X8_placeOf l D E m0 w0 w1 w2 w3 w4 w5 w6 w7 w8 w9 ik tx he fa cl wv N G P t r (hvg) (by omega) (by omega)) (cwV 2 hts gX8_isHome_X8_placeOf rfl rfl rfl (by decide +kernel) ⟨Nat.le_of_ble_eq_true rfl, Nat.le_of_ble_eq_true rfl⟩) (zr_V hK (hP.sub (ws' := [(m0, .inr (6, [.ref w0, .ref w1, .ref w2, .int ik, .ref w3, .int (nI tx), .int he, .int fa, .ref w4, .ref w5, .int (nI cl), .ref w6, .ref w7, .ref w8, .ref w9])), (w0, .inl (E 0, 137, .inl wv))]) [0, 1] rfl) (ci := 6) (q0 := 0) rfl rfl) rfl rfl hl.1 rfl (lv_room (Nat.le_of_ble_eq_true rfl)) dX8_isHome_3 ⟨Nat.zero_le _, Nat.zero_le _⟩) (fun r_1 H locs hw_2 hP hS => ?_)
  subst hw_2
  refine lv_iconst (v := nI 2) hx hb dX8_isHome_6 (by rfl) ?_
  refine lv_irem hx hb dX8_isHome_7 (by decide) ?_
  refine zr_ti (y := nI ((P r t) % 2)) (pk_rem (by omega) (by omega) (by omega)) ?_
  refine lv_if_ne (tgt := 15) hx hb dX8_isHome_8 (by decide) (fun cn_3 => ?_) (fun cn_3 => ?_)
  · skip
    have cn_3 : ¬ ((P r t) % 2 = 0) := fun hz => cn_3 ((nI_eq (a := (P r t) % 2) (b := 0) (by omega) (by omega)).mpr hz)
    have hbr := cn_3
    refine lv_iconst (v := nI 0) hx hb dX8_isHome_15 (by rfl) ?_
    subst hQ
    exact W.zret (v := nI 0) hx hb hr (by decide) (fun tz htz hWz => ⟨⟨nI 0, (), rfl, by unfold zm_sd; first | exact Or.inl ⟨rfl, by omega⟩ | exact Or.inr ⟨rfl, by omega⟩, trivial⟩, hS.F htz⟩) hS.2.2 dX8_isHome_16
  · skip
    have cn_3 : (P r t) % 2 = 0 := (nI_eq (a := (P r t) % 2) (b := 0) (by omega) (by omega)).mp cn_3
    have hbr := cn_3
    refine lv_iconst (v := nI 1) hx hb dX8_isHome_11 (by rfl) ?_
    refine lv_goto (tgt := 16) hx hb dX8_isHome_12 (by decide) ?_
    subst hQ
    exact W.zret (v := nI 1) hx hb hr (by decide) (fun tz htz hWz => ⟨⟨nI 1, (), rfl, by unfold zm_sd; first | exact Or.inl ⟨rfl, by omega⟩ | exact Or.inr ⟨rfl, by omega⟩, trivial⟩, hS.F htz⟩) hS.2.2 dX8_isHome_16

set_option maxHeartbeats 4000000 in
set_option maxRecDepth 100000 in
theorem c_X8_meets (l : Launch) (D : va_G) (E : Nat → ClassId) (m0 : Nat) (w0 : Nat) (w1 : Nat) (w2 : Nat) (w3 : Nat) (w4 : Nat) (w5 : Nat) (w6 : Nat) (w7 : Nat) (w8 : Nat) (w9 : Nat) (ik : Int32) (tx : Nat) (he : Int32) (fa : Int32) (cl : Nat) (wv : Nat → Int32) (N : Nat) (G : Nat → Nat → Nat) (P : Nat → Nat → Nat) (t : Nat) (r : Nat) (hvg : zv_g N G P wv) (ht : t < N) (hr0 : r < N - 1) : Met l yX8_meets wsX8_meets ({ frames := 1, cells := 0, slots := 0, locals := 23 }) (zr_P D E [.ref m0, .int (nI t), .int (nI r)] [(m0, .inr (6, [.ref w0, .ref w1, .ref w2, .int ik, .ref w3, .int (nI tx), .int he, .int fa, .ref w4, .ref w5, .int (nI cl), .ref w6, .ref w7, .ref w8, .ref w9])), (w0, .inl (E 0, 137, .inl wv))]) (zr_Qi (fun zv => zv = nI (zm_rv G P t r))) 0 0 (fun _ => False) := by
  refine Met.ofW (cc := cX8_meets) (maxL := 4) (ret := (some .int)) (by decide) rfl ?_
  intro p e s m args below meth c s₁ Bz hml hv
  obtain ⟨rfl, hP, hK⟩ := hv
  have hx := Bz.exec
  have hb := Bz.bytes
  have hr := Bz.returns
  have hts := atoms_spec (ws := wsX8_meets) Bz.pre
  have hown : s.vm.findClass RX8 = some m.cls := findClass_of_methodNamed Bz.named
  have hlocks := Bz.notSynchronized
  have hP : va_P D vwCl [(m0, .inr (6, [.ref w0, .ref w1, .ref w2, .int ik, .ref w3, .int (nI tx), .int he, .int fa, .ref w4, .ref w5, .int (nI cl), .ref w6, .ref w7, .ref w8, .ref w9])), (w0, .inl (E 0, 137, .inl wv))] s.heap := hP
  have hS : va_S (fun _ : Nat => False) s.heap s.heap [] := va_S.rf
  have hl := lv_entry ([.ref m0, .int (nI t), .int (nI r)]) (n := 4) (Nat.le_of_ble_eq_true rfl)
  rw [lg_entry_eq]
  generalize (lg_sl ([.ref m0, .int (nI t), .int (nI r)]) ++ List.replicate (4 - (lg_sl ([.ref m0, .int (nI t), .int (nI r)])).length) Slot.unset).toArray = ls at hl ⊢
  have hl : lv_has ls 4 [(0, .ref m0), (1, .int (nI t)), (2, .int (nI r))] := hl
  refine zr_nQ (fun Q hQ => ?_)
  have hok := hvg.1
  have hN := hok.1
  have hvn := hvg.2.1
  obtain ⟨hp1, hp2⟩ := hok.2.2 r t hr0 ht
  refine lv_aload_n hx hb dX8_meets_0 rfl (lv_at hl 0 rfl) ?_
  refine lv_iload_n hx hb dX8_meets_1 rfl (lv_at hl 1 rfl) ?_
  refine lv_iload_n hx hb dX8_meets_2 rfl (lv_at hl 2 rfl) ?_
  refine zr_ci hP hS (va_runV (As := [.int (nI t), .int (nI r)]) (rest := []) ⟨hx, hb, hml, hown, hts⟩ (c_X8_placeOf l D E m0 w0 w1 w2 w3 w4 w5 w6 w7 w8 w9 ik tx he fa cl wv N G P t r (hvg) (by omega) (by omega)) (cwV 2 hts gX8_meets_X8_placeOf rfl rfl rfl (by decide +kernel) ⟨Nat.le_of_ble_eq_true rfl, Nat.le_of_ble_eq_true rfl⟩) (zr_V hK (hP.sub (ws' := [(m0, .inr (6, [.ref w0, .ref w1, .ref w2, .int ik, .ref w3, .int (nI tx), .int he, .int fa, .ref w4, .ref w5, .int (nI cl), .ref w6, .ref w7, .ref w8, .ref w9])), (w0, .inl (E 0, 137, .inl wv))]) [0, 1] rfl) (ci := 6) (q0 := 0) rfl rfl) rfl rfl hl.1 rfl (lv_room (Nat.le_of_ble_eq_true rfl)) dX8_meets_3 ⟨Nat.zero_le _, Nat.zero_le _⟩) (fun r_1 H locs hw_2 hP hS => ?_)
  subst hw_2
  refine lv_istore_n (lv' := [(3, .int (nI (P r t))), (0, .ref m0), (1, .int (nI t)), (2, .int (nI r))]) hx hb dX8_meets_6 rfl hl (by decide) rfl (fun ls hl => ?_)
  refine lv_aload_n hx hb dX8_meets_7 rfl (lv_at hl 1 rfl) ?_
  refine va_get (D := D) (ci := 6) (v := .ref w0) (C := RX8) (T := TX8) (N := 15) hx hb hts (by decide +kernel) hown hK.1 hP 0 rfl rfl 0 (by decide) (hts (.fieldLink RX8 11 "HomeRoundsModel" "w" "[I") (by decide +kernel)) (fun _ h9 => h9) rfl dX8_meets_8 ?_
  refine lv_bipush (v := nI 57) hx hb dX8_meets_11 (by rfl) ?_
  refine lv_bipush (v := nI 6) hx hb dX8_meets_13 (by rfl) ?_
  refine lv_iload_n hx hb dX8_meets_15 rfl (lv_at hl 3 rfl) ?_
  refine lv_imul hx hb dX8_meets_16 ?_
  refine zr_ti (y := nI (6 * r)) (pk_mul _ _) ?_
  refine lv_iadd hx hb dX8_meets_17 ?_
  refine zr_ti (y := nI (57 + (6 * r))) (nI_add _ _) ?_
  refine lv_iload_n hx hb dX8_meets_18 rfl (lv_at hl 0 rfl) ?_
  refine lv_iconst (v := nI 2) hx hb dX8_meets_19 (by rfl) ?_
  refine lv_irem hx hb dX8_meets_20 (by decide) ?_
  refine zr_ti (y := nI ((P r t) % 2)) (pk_rem (by omega) (by omega) (by omega)) ?_
  refine lv_if_ne (tgt := 30) hx hb dX8_meets_21 (by decide) (fun cn_3 => ?_) (fun cn_3 => ?_)
  · skip
    have cn_3 : ¬ ((P r t) % 2 = 0) := fun hz => cn_3 ((nI_eq (a := (P r t) % 2) (b := 0) (by omega) (by omega)).mpr hz)
    have hbr := cn_3
    refine lv_iload_n hx hb dX8_meets_30 rfl (lv_at hl 0 rfl) ?_
    refine lv_iconst (v := nI 1) hx hb dX8_meets_31 (by rfl) ?_
    refine lv_isub hx hb dX8_meets_32 ?_
    refine zr_ti (y := nI ((P r t) - 1)) (pk_sub (by omega)) ?_
    refine lv_iadd hx hb dX8_meets_33 ?_
    refine zr_ti (y := nI ((57 + (6 * r)) + ((P r t) - 1))) (nI_add _ _) ?_
    refine va_iald hx hb hK.1 hP 1 0 rfl rfl (vp_in_nI (by omega) (by omega)) dX8_meets_34 ?_
    refine zr_ti (y := nI (zm_rv G P t r)) ((congrArg wv (nI_clamp (by omega))).trans (by unfold zm_rv zm_mate; first | (rw [if_pos hbr]; exact hvg.2.2 r _ hr0 (by omega)) | (rw [if_neg hbr]; exact hvg.2.2 r _ hr0 (by omega)))) ?_
    subst hQ
    exact W.iret (v := nI (zm_rv G P t r)) hx hb hr (fun tz htz hWz => ⟨⟨nI (zm_rv G P t r), (), rfl, rfl, trivial⟩, hS.F htz⟩) hS.2.2 dX8_meets_35
  · skip
    have cn_3 : (P r t) % 2 = 0 := (nI_eq (a := (P r t) % 2) (b := 0) (by omega) (by omega)).mp cn_3
    have hbr := cn_3
    refine lv_iload_n hx hb dX8_meets_24 rfl (lv_at hl 0 rfl) ?_
    refine lv_iconst (v := nI 1) hx hb dX8_meets_25 (by rfl) ?_
    refine lv_iadd hx hb dX8_meets_26 ?_
    refine zr_ti (y := nI ((P r t) + 1)) (nI_add _ _) ?_
    refine lv_goto (tgt := 33) hx hb dX8_meets_27 (by decide) ?_
    refine lv_iadd hx hb dX8_meets_33 ?_
    refine zr_ti (y := nI ((57 + (6 * r)) + ((P r t) + 1))) (nI_add _ _) ?_
    refine va_iald hx hb hK.1 hP 1 0 rfl rfl (vp_in_nI (by omega) (by omega)) dX8_meets_34 ?_
    refine zr_ti (y := nI (zm_rv G P t r)) ((congrArg wv (nI_clamp (by omega))).trans (by unfold zm_rv zm_mate; first | (rw [if_pos hbr]; exact hvg.2.2 r _ hr0 (by omega)) | (rw [if_neg hbr]; exact hvg.2.2 r _ hr0 (by omega)))) ?_
    subst hQ
    exact W.iret (v := nI (zm_rv G P t r)) hx hb hr (fun tz htz hWz => ⟨⟨nI (zm_rv G P t r), (), rfl, rfl, trivial⟩, hS.F htz⟩) hS.2.2 dX8_meets_35

set_option maxHeartbeats 4000000 in
set_option maxRecDepth 100000 in
theorem c_X8_breaksOf (l : Launch) (D : va_G) (E : Nat → ClassId) (m0 : Nat) (w0 : Nat) (w1 : Nat) (w2 : Nat) (w3 : Nat) (w4 : Nat) (w5 : Nat) (w6 : Nat) (w7 : Nat) (w8 : Nat) (w9 : Nat) (ik : Int32) (tx : Nat) (he : Int32) (fa : Int32) (cl : Nat) (wv : Nat → Int32) (N : Nat) (G : Nat → Nat → Nat) (P : Nat → Nat → Nat) (t : Nat) (hvg : zv_g N G P wv) (ht : t < N) : Met l yX8_breaksOf wsX8_breaksOf ({ frames := 2, cells := 0, slots := 0, locals := 45 }) (zr_P D E [.ref m0, .int (nI t)] [(m0, .inr (6, [.ref w0, .ref w1, .ref w2, .int ik, .ref w3, .int (nI tx), .int he, .int fa, .ref w4, .ref w5, .int (nI cl), .ref w6, .ref w7, .ref w8, .ref w9])), (w0, .inl (E 0, 137, .inl wv))]) (zr_Qi (fun zv => zv = nI (zm_br N P t))) 0 0 (fun _ => False) := by
  refine Met.ofW (cc := cX8_breaksOf) (maxL := 4) (ret := (some .int)) (by decide) rfl ?_
  intro p e s m args below meth c s₁ Bz hml hv
  obtain ⟨rfl, hP, hK⟩ := hv
  have hx := Bz.exec
  have hb := Bz.bytes
  have hr := Bz.returns
  have hts := atoms_spec (ws := wsX8_breaksOf) Bz.pre
  have hown : s.vm.findClass RX8 = some m.cls := findClass_of_methodNamed Bz.named
  have hlocks := Bz.notSynchronized
  have hP : va_P D vwCl [(m0, .inr (6, [.ref w0, .ref w1, .ref w2, .int ik, .ref w3, .int (nI tx), .int he, .int fa, .ref w4, .ref w5, .int (nI cl), .ref w6, .ref w7, .ref w8, .ref w9])), (w0, .inl (E 0, 137, .inl wv))] s.heap := hP
  have hS : va_S (fun _ : Nat => False) s.heap s.heap [] := va_S.rf
  have hl := lv_entry ([.ref m0, .int (nI t)]) (n := 4) (Nat.le_of_ble_eq_true rfl)
  rw [lg_entry_eq]
  generalize (lg_sl ([.ref m0, .int (nI t)]) ++ List.replicate (4 - (lg_sl ([.ref m0, .int (nI t)])).length) Slot.unset).toArray = ls at hl ⊢
  have hl : lv_has ls 4 [(0, .ref m0), (1, .int (nI t))] := hl
  refine zr_nQ (fun Q hQ => ?_)
  have hok := hvg.1
  have hN := hok.1
  have hvn := hvg.2.1
  refine lv_iconst (v := nI 0) hx hb dX8_breaksOf_0 (by rfl) ?_
  refine lv_istore_n (lv' := [(2, .int (nI 0)), (0, .ref m0), (1, .int (nI t))]) hx hb dX8_breaksOf_1 rfl hl (by decide) rfl (fun ls hl => ?_)
  refine lv_iconst (v := nI 1) hx hb dX8_breaksOf_2 (by rfl) ?_
  refine lv_istore_n (lv' := [(3, .int (nI 1)), (2, .int (nI 0)), (0, .ref m0), (1, .int (nI t))]) hx hb dX8_breaksOf_3 rfl hl (by decide) rfl (fun ls hl => ?_)
  suffices KL4 : ∀ (kz : Nat) (i : Nat) (q : Nat) (H : Heap) (locs : List Loc) (ls : Array Slot), (N - i) < kz → (q = zm_sum (zm_bf P t) i) → (i ≤ N - 2) → va_P D vwCl [(m0, .inr (6, [.ref w0, .ref w1, .ref w2, .int ik, .ref w3, .int (nI tx), .int he, .int fa, .ref w4, .ref w5, .int (nI cl), .ref w6, .ref w7, .ref w8, .ref w9])), (w0, .inl (E 0, 137, .inl wv))] H → va_S (fun _ : Nat => False) s.heap H locs → lv_has ls 4 [(0, .ref m0), (1, .int (nI t)), (2, .int (nI q)), (3, .int (nI (i + 1)))] → W p l e (headSpec wsX8_breaksOf ({ frames := 2, cells := 0, slots := 0, locals := 45 })).room s m ([.ref m0, .int (nI t)] : List Value).toArray below meth c H locs 0 0 Q (F0 m 4 ls []) from
    KL4 _ 0 0 _ _ ls (Nat.lt_succ_self _) (rfl) (by omega) hP hS (lv_sub hl [2, 3, 1, 0] rfl)
  clear hP hS hl
  intro kz
  induction kz with
  | zero => intro i q H locs ls hkz; exact absurd hkz (Nat.not_lt_zero _)
  | succ kz ih4 =>
    intro i q H locs ls hkz hq hi hP hS hl
    refine lv_iload_n hx hb dX8_breaksOf_4 rfl (lv_at hl 3 rfl) ?_
    refine lv_aload_n hx hb dX8_breaksOf_5 rfl (lv_at hl 0 rfl) ?_
    refine zr_ci hP hS (va_runV (As := []) (rest := [.int (nI (i + 1))]) ⟨hx, hb, hml, hown, hts⟩ (c_X8_rounds l D E m0 w0 w1 w2 w3 w4 w5 w6 w7 w8 w9 ik tx he fa cl wv N (hvn) (hN)) (cwV 0 hts gX8_breaksOf_X8_rounds rfl rfl rfl (by decide +kernel) ⟨Nat.le_of_ble_eq_true rfl, Nat.le_of_ble_eq_true rfl⟩) (zr_V hK (hP.sub (ws' := [(m0, .inr (6, [.ref w0, .ref w1, .ref w2, .int ik, .ref w3, .int (nI tx), .int he, .int fa, .ref w4, .ref w5, .int (nI cl), .ref w6, .ref w7, .ref w8, .ref w9])), (w0, .inl (E 0, 137, .inl wv))]) [0, 1] rfl) (ci := 6) (q0 := 0) rfl rfl) rfl rfl hl.1 rfl (lv_room (Nat.le_of_ble_eq_true rfl)) dX8_breaksOf_6 ⟨Nat.zero_le _, Nat.zero_le _⟩) (fun r_1 H locs hw_2 hP hS => ?_)
    subst hw_2
    refine lv_icmp_ge (tgt := 43) hx hb dX8_breaksOf_9 (by decide) (fun cn_3 => ?_) (fun cn_3 => ?_)
    · skip
      have cn_3 : N - 1 ≤ i + 1 := (nI_leI (a := N - 1) (b := i + 1) (by omega) (by omega)).mp cn_3
      have hie : i = N - 2 := by omega
      refine lv_iload_n hx hb dX8_breaksOf_43 rfl (lv_at hl 2 rfl) ?_
      subst hQ
      exact W.iret (v := nI q) hx hb hr (fun tz htz hWz => ⟨⟨nI q, (), rfl, by rw [hq, hie]; rfl, trivial⟩, hS.F htz⟩) hS.2.2 dX8_breaksOf_44
    · skip
      have cn_3 : ¬ (N - 1 ≤ i + 1) := fun hz => cn_3 ((nI_leI (a := N - 1) (b := i + 1) (by omega) (by omega)).mpr hz)
      refine lv_iload_n hx hb dX8_breaksOf_12 rfl (lv_at hl 2 rfl) ?_
      refine lv_aload_n hx hb dX8_breaksOf_13 rfl (lv_at hl 0 rfl) ?_
      refine lv_iload_n hx hb dX8_breaksOf_14 rfl (lv_at hl 1 rfl) ?_
      refine lv_iload_n hx hb dX8_breaksOf_15 rfl (lv_at hl 3 rfl) ?_
      refine zr_ci hP hS (va_runV (As := [.int (nI t), .int (nI (i + 1))]) (rest := [.int (nI q)]) ⟨hx, hb, hml, hown, hts⟩ (c_X8_isHome l D E m0 w0 w1 w2 w3 w4 w5 w6 w7 w8 w9 ik tx he fa cl wv N G P t (i + 1) (hvg) (by omega) (by omega)) (cwV 2 hts gX8_breaksOf_X8_isHome rfl rfl rfl (by decide +kernel) ⟨Nat.le_of_ble_eq_true rfl, Nat.le_of_ble_eq_true rfl⟩) (zr_V hK (hP.sub (ws' := [(m0, .inr (6, [.ref w0, .ref w1, .ref w2, .int ik, .ref w3, .int (nI tx), .int he, .int fa, .ref w4, .ref w5, .int (nI cl), .ref w6, .ref w7, .ref w8, .ref w9])), (w0, .inl (E 0, 137, .inl wv))]) [0, 1] rfl) (ci := 6) (q0 := 0) rfl rfl) rfl rfl hl.1 rfl (lv_room (Nat.le_of_ble_eq_true rfl)) dX8_breaksOf_16 ⟨Nat.zero_le _, Nat.zero_le _⟩) (fun r_4 H locs hw_5 hP hS => ?_)
      rcases hw_5 with ⟨rfl, hw_5⟩ | ⟨rfl, hw_5⟩
      · skip
        have hA := hw_5
        refine zr_ti (y := nI 1) rfl ?_
        refine lv_aload_n hx hb dX8_breaksOf_19 rfl (lv_at hl 0 rfl) ?_
        refine lv_iload_n hx hb dX8_breaksOf_20 rfl (lv_at hl 1 rfl) ?_
        refine lv_iload_n hx hb dX8_breaksOf_21 rfl (lv_at hl 3 rfl) ?_
        refine lv_iconst (v := nI 1) hx hb dX8_breaksOf_22 (by rfl) ?_
        refine lv_isub hx hb dX8_breaksOf_23 ?_
        refine zr_ti (y := nI i) (zn_pred _) ?_
        refine zr_ci hP hS (va_runV (As := [.int (nI t), .int (nI i)]) (rest := [.int (nI 1), .int (nI q)]) ⟨hx, hb, hml, hown, hts⟩ (c_X8_isHome l D E m0 w0 w1 w2 w3 w4 w5 w6 w7 w8 w9 ik tx he fa cl wv N G P t i (hvg) (by omega) (by omega)) (cwV 2 hts gX8_breaksOf_X8_isHome rfl rfl rfl (by decide +kernel) ⟨Nat.le_of_ble_eq_true rfl, Nat.le_of_ble_eq_true rfl⟩) (zr_V hK (hP.sub (ws' := [(m0, .inr (6, [.ref w0, .ref w1, .ref w2, .int ik, .ref w3, .int (nI tx), .int he, .int fa, .ref w4, .ref w5, .int (nI cl), .ref w6, .ref w7, .ref w8, .ref w9])), (w0, .inl (E 0, 137, .inl wv))]) [0, 1] rfl) (ci := 6) (q0 := 0) rfl rfl) rfl rfl hl.1 rfl (lv_room (Nat.le_of_ble_eq_true rfl)) dX8_breaksOf_24 ⟨Nat.zero_le _, Nat.zero_le _⟩) (fun r_6 H locs hw_7 hP hS => ?_)
        rcases hw_7 with ⟨rfl, hw_7⟩ | ⟨rfl, hw_7⟩
        · skip
          have hB := hw_7
          refine zr_ti (y := nI 1) rfl ?_
          refine lv_icmp_ne (tgt := 34) hx hb dX8_breaksOf_27 (by decide) (fun cn_8 => ?_) (fun cn_8 => ?_)
          · skip
            exact absurd cn_8 (by decide)
          · skip
            refine lv_iconst (v := nI 1) hx hb dX8_breaksOf_30 (by rfl) ?_
            refine lv_goto (tgt := 35) hx hb dX8_breaksOf_31 (by decide) ?_
            refine lv_iadd hx hb dX8_breaksOf_35 ?_
            refine zr_ti (y := nI (q + 1)) (nI_add _ _) ?_
            refine lv_istore_n (lv' := [(2, .int (nI (q + 1))), (0, .ref m0), (1, .int (nI t)), (3, .int (nI (i + 1)))]) hx hb dX8_breaksOf_36 rfl hl (by decide) rfl (fun ls hl => ?_)
            refine lv_iinc (v := nI (i + 1 + 1)) (lv' := [(3, .int (nI (i + 1 + 1))), (2, .int (nI (q + 1))), (0, .ref m0), (1, .int (nI t))]) hx hb dX8_breaksOf_37 hl (k := 3) rfl (nI_add _ _) (by decide) rfl (fun ls hl => ?_)
            refine lv_goto (tgt := 4) hx hb dX8_breaksOf_40 (by decide) ?_
            have hl : lv_has ls 4 [(0, .ref m0), (1, .int (nI t)), (2, .int (nI (q + 1))), (3, .int (nI ((i + 1) + 1)))] := lv_sub hl [2, 3, 1, 0] rfl
            exact ih4 (i + 1) (q + 1) H locs ls (by omega) (by simp only [zm_sum, zm_bf, hA, hB, hq]; first | rfl | simp) (by omega) hP hS hl
        · skip
          have hB := hw_7
          refine zr_ti (y := nI 0) rfl ?_
          refine lv_icmp_ne (tgt := 34) hx hb dX8_breaksOf_27 (by decide) (fun cn_9 => ?_) (fun cn_9 => ?_)
          · skip
            refine lv_iconst (v := nI 0) hx hb dX8_breaksOf_34 (by rfl) ?_
            refine lv_iadd hx hb dX8_breaksOf_35 ?_
            refine zr_ti (y := nI (q + 0)) (nI_add _ _) ?_
            refine lv_istore_n (lv' := [(2, .int (nI (q + 0))), (0, .ref m0), (1, .int (nI t)), (3, .int (nI (i + 1)))]) hx hb dX8_breaksOf_36 rfl hl (by decide) rfl (fun ls hl => ?_)
            refine lv_iinc (v := nI (i + 1 + 1)) (lv' := [(3, .int (nI (i + 1 + 1))), (2, .int (nI (q + 0))), (0, .ref m0), (1, .int (nI t))]) hx hb dX8_breaksOf_37 hl (k := 3) rfl (nI_add _ _) (by decide) rfl (fun ls hl => ?_)
            refine lv_goto (tgt := 4) hx hb dX8_breaksOf_40 (by decide) ?_
            have hl : lv_has ls 4 [(0, .ref m0), (1, .int (nI t)), (2, .int (nI (q + 0))), (3, .int (nI ((i + 1) + 1)))] := lv_sub hl [2, 3, 1, 0] rfl
            exact ih4 (i + 1) (q + 0) H locs ls (by omega) (by simp only [zm_sum, zm_bf, hA, hB, hq]; first | rfl | simp) (by omega) hP hS hl
          · skip
            exact absurd cn_9 (by decide)
      · skip
        have hA := hw_5
        refine zr_ti (y := nI 0) rfl ?_
        refine lv_aload_n hx hb dX8_breaksOf_19 rfl (lv_at hl 0 rfl) ?_
        refine lv_iload_n hx hb dX8_breaksOf_20 rfl (lv_at hl 1 rfl) ?_
        refine lv_iload_n hx hb dX8_breaksOf_21 rfl (lv_at hl 3 rfl) ?_
        refine lv_iconst (v := nI 1) hx hb dX8_breaksOf_22 (by rfl) ?_
        refine lv_isub hx hb dX8_breaksOf_23 ?_
        refine zr_ti (y := nI i) (zn_pred _) ?_
        refine zr_ci hP hS (va_runV (As := [.int (nI t), .int (nI i)]) (rest := [.int (nI 0), .int (nI q)]) ⟨hx, hb, hml, hown, hts⟩ (c_X8_isHome l D E m0 w0 w1 w2 w3 w4 w5 w6 w7 w8 w9 ik tx he fa cl wv N G P t i (hvg) (by omega) (by omega)) (cwV 2 hts gX8_breaksOf_X8_isHome rfl rfl rfl (by decide +kernel) ⟨Nat.le_of_ble_eq_true rfl, Nat.le_of_ble_eq_true rfl⟩) (zr_V hK (hP.sub (ws' := [(m0, .inr (6, [.ref w0, .ref w1, .ref w2, .int ik, .ref w3, .int (nI tx), .int he, .int fa, .ref w4, .ref w5, .int (nI cl), .ref w6, .ref w7, .ref w8, .ref w9])), (w0, .inl (E 0, 137, .inl wv))]) [0, 1] rfl) (ci := 6) (q0 := 0) rfl rfl) rfl rfl hl.1 rfl (lv_room (Nat.le_of_ble_eq_true rfl)) dX8_breaksOf_24 ⟨Nat.zero_le _, Nat.zero_le _⟩) (fun r_10 H locs hw_11 hP hS => ?_)
        rcases hw_11 with ⟨rfl, hw_11⟩ | ⟨rfl, hw_11⟩
        · skip
          have hB := hw_11
          refine zr_ti (y := nI 1) rfl ?_
          refine lv_icmp_ne (tgt := 34) hx hb dX8_breaksOf_27 (by decide) (fun cn_12 => ?_) (fun cn_12 => ?_)
          · skip
            refine lv_iconst (v := nI 0) hx hb dX8_breaksOf_34 (by rfl) ?_
            refine lv_iadd hx hb dX8_breaksOf_35 ?_
            refine zr_ti (y := nI (q + 0)) (nI_add _ _) ?_
            refine lv_istore_n (lv' := [(2, .int (nI (q + 0))), (0, .ref m0), (1, .int (nI t)), (3, .int (nI (i + 1)))]) hx hb dX8_breaksOf_36 rfl hl (by decide) rfl (fun ls hl => ?_)
            refine lv_iinc (v := nI (i + 1 + 1)) (lv' := [(3, .int (nI (i + 1 + 1))), (2, .int (nI (q + 0))), (0, .ref m0), (1, .int (nI t))]) hx hb dX8_breaksOf_37 hl (k := 3) rfl (nI_add _ _) (by decide) rfl (fun ls hl => ?_)
            refine lv_goto (tgt := 4) hx hb dX8_breaksOf_40 (by decide) ?_
            have hl : lv_has ls 4 [(0, .ref m0), (1, .int (nI t)), (2, .int (nI (q + 0))), (3, .int (nI ((i + 1) + 1)))] := lv_sub hl [2, 3, 1, 0] rfl
            exact ih4 (i + 1) (q + 0) H locs ls (by omega) (by simp only [zm_sum, zm_bf, hA, hB, hq]; first | rfl | simp) (by omega) hP hS hl
          · skip
            exact absurd cn_12 (by decide)
        · skip
          have hB := hw_11
          refine zr_ti (y := nI 0) rfl ?_
          refine lv_icmp_ne (tgt := 34) hx hb dX8_breaksOf_27 (by decide) (fun cn_13 => ?_) (fun cn_13 => ?_)
          · skip
            exact absurd cn_13 (by decide)
          · skip
            refine lv_iconst (v := nI 1) hx hb dX8_breaksOf_30 (by rfl) ?_
            refine lv_goto (tgt := 35) hx hb dX8_breaksOf_31 (by decide) ?_
            refine lv_iadd hx hb dX8_breaksOf_35 ?_
            refine zr_ti (y := nI (q + 1)) (nI_add _ _) ?_
            refine lv_istore_n (lv' := [(2, .int (nI (q + 1))), (0, .ref m0), (1, .int (nI t)), (3, .int (nI (i + 1)))]) hx hb dX8_breaksOf_36 rfl hl (by decide) rfl (fun ls hl => ?_)
            refine lv_iinc (v := nI (i + 1 + 1)) (lv' := [(3, .int (nI (i + 1 + 1))), (2, .int (nI (q + 1))), (0, .ref m0), (1, .int (nI t))]) hx hb dX8_breaksOf_37 hl (k := 3) rfl (nI_add _ _) (by decide) rfl (fun ls hl => ?_)
            refine lv_goto (tgt := 4) hx hb dX8_breaksOf_40 (by decide) ?_
            have hl : lv_has ls 4 [(0, .ref m0), (1, .int (nI t)), (2, .int (nI (q + 1))), (3, .int (nI ((i + 1) + 1)))] := lv_sub hl [2, 3, 1, 0] rfl
            exact ih4 (i + 1) (q + 1) H locs ls (by omega) (by simp only [zm_sum, zm_bf, hA, hB, hq]; first | rfl | simp) (by omega) hP hS hl

set_option maxHeartbeats 4000000 in
set_option maxRecDepth 100000 in
theorem c_X8_allBreaks (l : Launch) (D : va_G) (E : Nat → ClassId) (m0 : Nat) (w0 : Nat) (w1 : Nat) (w2 : Nat) (w3 : Nat) (w4 : Nat) (w5 : Nat) (w6 : Nat) (w7 : Nat) (w8 : Nat) (w9 : Nat) (ik : Int32) (tx : Nat) (he : Int32) (fa : Int32) (cl : Nat) (wv : Nat → Int32) (N : Nat) (G : Nat → Nat → Nat) (P : Nat → Nat → Nat) (hvg : zv_g N G P wv) : Met l yX8_allBreaks wsX8_allBreaks ({ frames := 3, cells := 0, slots := 0, locals := 68 }) (zr_P D E [.ref m0] [(m0, .inr (6, [.ref w0, .ref w1, .ref w2, .int ik, .ref w3, .int (nI tx), .int he, .int fa, .ref w4, .ref w5, .int (nI cl), .ref w6, .ref w7, .ref w8, .ref w9])), (w0, .inl (E 0, 137, .inl wv))]) (zr_Qi (fun zv => zv = nI (zm_brs N P))) 0 0 (fun _ => False) := by
  refine Met.ofW (cc := cX8_allBreaks) (maxL := 3) (ret := (some .int)) (by decide) rfl ?_
  intro p e s m args below meth c s₁ Bz hml hv
  obtain ⟨rfl, hP, hK⟩ := hv
  have hx := Bz.exec
  have hb := Bz.bytes
  have hr := Bz.returns
  have hts := atoms_spec (ws := wsX8_allBreaks) Bz.pre
  have hown : s.vm.findClass RX8 = some m.cls := findClass_of_methodNamed Bz.named
  have hlocks := Bz.notSynchronized
  have hP : va_P D vwCl [(m0, .inr (6, [.ref w0, .ref w1, .ref w2, .int ik, .ref w3, .int (nI tx), .int he, .int fa, .ref w4, .ref w5, .int (nI cl), .ref w6, .ref w7, .ref w8, .ref w9])), (w0, .inl (E 0, 137, .inl wv))] s.heap := hP
  have hS : va_S (fun _ : Nat => False) s.heap s.heap [] := va_S.rf
  have hl := lv_entry ([.ref m0]) (n := 3) (Nat.le_of_ble_eq_true rfl)
  rw [lg_entry_eq]
  generalize (lg_sl ([.ref m0]) ++ List.replicate (3 - (lg_sl ([.ref m0])).length) Slot.unset).toArray = ls at hl ⊢
  have hl : lv_has ls 3 [(0, .ref m0)] := hl
  refine zr_nQ (fun Q hQ => ?_)
  have hok := hvg.1
  have hN := hok.1
  have hvn := hvg.2.1
  refine lv_iconst (v := nI 0) hx hb dX8_allBreaks_0 (by rfl) ?_
  refine lv_istore_n (lv' := [(1, .int (nI 0)), (0, .ref m0)]) hx hb dX8_allBreaks_1 rfl hl (by decide) rfl (fun ls hl => ?_)
  refine lv_iconst (v := nI 0) hx hb dX8_allBreaks_2 (by rfl) ?_
  refine lv_istore_n (lv' := [(2, .int (nI 0)), (1, .int (nI 0)), (0, .ref m0)]) hx hb dX8_allBreaks_3 rfl hl (by decide) rfl (fun ls hl => ?_)
  suffices KL4 : ∀ (kz : Nat) (i : Nat) (q : Nat) (H : Heap) (locs : List Loc) (ls : Array Slot), (N - i) < kz → (q = zm_sum (zm_br N P) i) → (i ≤ N) → va_P D vwCl [(m0, .inr (6, [.ref w0, .ref w1, .ref w2, .int ik, .ref w3, .int (nI tx), .int he, .int fa, .ref w4, .ref w5, .int (nI cl), .ref w6, .ref w7, .ref w8, .ref w9])), (w0, .inl (E 0, 137, .inl wv))] H → va_S (fun _ : Nat => False) s.heap H locs → lv_has ls 3 [(0, .ref m0), (1, .int (nI q)), (2, .int (nI i))] → W p l e (headSpec wsX8_allBreaks ({ frames := 3, cells := 0, slots := 0, locals := 68 })).room s m ([.ref m0] : List Value).toArray below meth c H locs 0 0 Q (F0 m 4 ls []) from
    KL4 _ 0 0 _ _ ls (Nat.lt_succ_self _) (rfl) (by omega) hP hS (lv_sub hl [2, 1, 0] rfl)
  clear hP hS hl
  intro kz
  induction kz with
  | zero => intro i q H locs ls hkz; exact absurd hkz (Nat.not_lt_zero _)
  | succ kz ih4 =>
    intro i q H locs ls hkz hq hi hP hS hl
    refine lv_iload_n hx hb dX8_allBreaks_4 rfl (lv_at hl 2 rfl) ?_
    refine lv_aload_n hx hb dX8_allBreaks_5 rfl (lv_at hl 0 rfl) ?_
    refine va_get (D := D) (ci := 6) (v := .ref w0) (C := RX8) (T := TX8) (N := 15) hx hb hts (by decide +kernel) hown hK.1 hP 0 rfl rfl 0 (by decide) (hts (.fieldLink RX8 11 "HomeRoundsModel" "w" "[I") (by decide +kernel)) (fun _ h9 => h9) rfl dX8_allBreaks_6 ?_
    refine lv_iconst (v := nI 0) hx hb dX8_allBreaks_9 (by rfl) ?_
    refine va_iald hx hb hK.1 hP 1 0 rfl rfl (vp_in_nI (by omega) (by omega)) dX8_allBreaks_10 ?_
    refine zr_ti (y := nI N) ((congrArg wv (nI_clamp (by omega))).trans (hvn)) ?_
    refine lv_icmp_ge (tgt := 28) hx hb dX8_allBreaks_11 (by decide) (fun cn_1 => ?_) (fun cn_1 => ?_)
    · skip
      have cn_1 : N ≤ i := (nI_leI (a := N) (b := i) (by omega) (by omega)).mp cn_1
      have hie : i = N := by omega
      refine lv_iload_n hx hb dX8_allBreaks_28 rfl (lv_at hl 1 rfl) ?_
      subst hQ
      exact W.iret (v := nI q) hx hb hr (fun tz htz hWz => ⟨⟨nI q, (), rfl, by rw [hq, hie]; rfl, trivial⟩, hS.F htz⟩) hS.2.2 dX8_allBreaks_29
    · skip
      have cn_1 : ¬ (N ≤ i) := fun hz => cn_1 ((nI_leI (a := N) (b := i) (by omega) (by omega)).mpr hz)
      refine lv_iload_n hx hb dX8_allBreaks_14 rfl (lv_at hl 1 rfl) ?_
      refine lv_aload_n hx hb dX8_allBreaks_15 rfl (lv_at hl 0 rfl) ?_
      refine lv_iload_n hx hb dX8_allBreaks_16 rfl (lv_at hl 2 rfl) ?_
      refine zr_ci hP hS (va_runV (As := [.int (nI i)]) (rest := [.int (nI q)]) ⟨hx, hb, hml, hown, hts⟩ (c_X8_breaksOf l D E m0 w0 w1 w2 w3 w4 w5 w6 w7 w8 w9 ik tx he fa cl wv N G P i (hvg) (by omega)) (cwV 1 hts gX8_allBreaks_X8_breaksOf rfl rfl rfl (by decide +kernel) ⟨Nat.le_of_ble_eq_true rfl, Nat.le_of_ble_eq_true rfl⟩) (zr_V hK (hP.sub (ws' := [(m0, .inr (6, [.ref w0, .ref w1, .ref w2, .int ik, .ref w3, .int (nI tx), .int he, .int fa, .ref w4, .ref w5, .int (nI cl), .ref w6, .ref w7, .ref w8, .ref w9])), (w0, .inl (E 0, 137, .inl wv))]) [0, 1] rfl) (ci := 6) (q0 := 0) rfl rfl) rfl rfl hl.1 rfl (lv_room (Nat.le_of_ble_eq_true rfl)) dX8_allBreaks_17 ⟨Nat.zero_le _, Nat.zero_le _⟩) (fun r_2 H locs hw_3 hP hS => ?_)
      subst hw_3
      refine lv_iadd hx hb dX8_allBreaks_20 ?_
      refine zr_ti (y := nI (q + (zm_br N P i))) (nI_add _ _) ?_
      refine lv_istore_n (lv' := [(1, .int (nI (q + (zm_br N P i)))), (0, .ref m0), (2, .int (nI i))]) hx hb dX8_allBreaks_21 rfl hl (by decide) rfl (fun ls hl => ?_)
      refine lv_iinc (v := nI (i + 1)) (lv' := [(2, .int (nI (i + 1))), (1, .int (nI (q + (zm_br N P i)))), (0, .ref m0)]) hx hb dX8_allBreaks_22 hl (k := 2) rfl (nI_add _ _) (by decide) rfl (fun ls hl => ?_)
      refine lv_goto (tgt := 4) hx hb dX8_allBreaks_25 (by decide) ?_
      have hl : lv_has ls 3 [(0, .ref m0), (1, .int (nI (q + (zm_br N P i)))), (2, .int (nI (i + 1)))] := lv_sub hl [2, 1, 0] rfl
      exact ih4 (i + 1) (q + (zm_br N P i)) H locs ls (by omega) (by rw [hq]; rfl) (by omega) hP hS hl

set_option maxHeartbeats 4000000 in
set_option maxRecDepth 100000 in
theorem c_X8_violated (l : Launch) (D : va_G) (E : Nat → ClassId) (m0 : Nat) (w0 : Nat) (w1 : Nat) (w2 : Nat) (w3 : Nat) (w4 : Nat) (w5 : Nat) (w6 : Nat) (w7 : Nat) (w8 : Nat) (w9 : Nat) (ik : Int32) (tx : Nat) (he : Int32) (fa : Int32) (cl : Nat) (wv : Nat → Int32) (N : Nat) (G : Nat → Nat → Nat) (P : Nat → Nat → Nat) (B : Nat → Nat → Nat) (hvg : zv_g N G P wv) (hvb : zv_b B wv) : Met l yX8_violated wsX8_violated ({ frames := 2, cells := 0, slots := 0, locals := 45 }) (zr_P D E [.ref m0] [(m0, .inr (6, [.ref w0, .ref w1, .ref w2, .int ik, .ref w3, .int (nI tx), .int he, .int fa, .ref w4, .ref w5, .int (nI cl), .ref w6, .ref w7, .ref w8, .ref w9])), (w0, .inl (E 0, 137, .inl wv))]) (zr_Qi (fun zv => zv = nI (zm_vio2 N P B))) 0 0 (fun _ => False) := by
  refine Met.ofW (cc := cX8_violated) (maxL := 4) (ret := (some .int)) (by decide) rfl ?_
  intro p e s m args below meth c s₁ Bz hml hv
  obtain ⟨rfl, hP, hK⟩ := hv
  have hx := Bz.exec
  have hb := Bz.bytes
  have hr := Bz.returns
  have hts := atoms_spec (ws := wsX8_violated) Bz.pre
  have hown : s.vm.findClass RX8 = some m.cls := findClass_of_methodNamed Bz.named
  have hlocks := Bz.notSynchronized
  have hP : va_P D vwCl [(m0, .inr (6, [.ref w0, .ref w1, .ref w2, .int ik, .ref w3, .int (nI tx), .int he, .int fa, .ref w4, .ref w5, .int (nI cl), .ref w6, .ref w7, .ref w8, .ref w9])), (w0, .inl (E 0, 137, .inl wv))] s.heap := hP
  have hS : va_S (fun _ : Nat => False) s.heap s.heap [] := va_S.rf
  have hl := lv_entry ([.ref m0]) (n := 4) (Nat.le_of_ble_eq_true rfl)
  rw [lg_entry_eq]
  generalize (lg_sl ([.ref m0]) ++ List.replicate (4 - (lg_sl ([.ref m0])).length) Slot.unset).toArray = ls at hl ⊢
  have hl : lv_has ls 4 [(0, .ref m0)] := hl
  refine zr_nQ (fun Q hQ => ?_)
  have hok := hvg.1
  have hN := hok.1
  have hvn := hvg.2.1
  refine lv_iconst (v := nI 0) hx hb dX8_violated_0 (by rfl) ?_
  refine lv_istore_n (lv' := [(1, .int (nI 0)), (0, .ref m0)]) hx hb dX8_violated_1 rfl hl (by decide) rfl (fun ls hl => ?_)
  refine lv_iconst (v := nI 0) hx hb dX8_violated_2 (by rfl) ?_
  refine lv_istore_n (lv' := [(2, .int (nI 0)), (1, .int (nI 0)), (0, .ref m0)]) hx hb dX8_violated_3 rfl hl (by decide) rfl (fun ls hl => ?_)
  suffices KL4 : ∀ (kz : Nat) (i : Nat) (q : Nat) (H : Heap) (locs : List Loc) (ls : Array Slot), (N - i) < kz → (q = zm_sum (zm_v2r N P B) i) → (i ≤ N) → va_P D vwCl [(m0, .inr (6, [.ref w0, .ref w1, .ref w2, .int ik, .ref w3, .int (nI tx), .int he, .int fa, .ref w4, .ref w5, .int (nI cl), .ref w6, .ref w7, .ref w8, .ref w9])), (w0, .inl (E 0, 137, .inl wv))] H → va_S (fun _ : Nat => False) s.heap H locs → lv_has ls 4 [(0, .ref m0), (1, .int (nI q)), (2, .int (nI i))] → W p l e (headSpec wsX8_violated ({ frames := 2, cells := 0, slots := 0, locals := 45 })).room s m ([.ref m0] : List Value).toArray below meth c H locs 0 0 Q (F0 m 4 ls []) from
    KL4 _ 0 0 _ _ ls (Nat.lt_succ_self _) (rfl) (by omega) hP hS (lv_sub hl [2, 1, 0] rfl)
  clear hP hS hl
  intro kz
  induction kz with
  | zero => intro i q H locs ls hkz; exact absurd hkz (Nat.not_lt_zero _)
  | succ kz ih4 =>
    intro i q H locs ls hkz hq hi hP hS hl
    refine lv_iload_n hx hb dX8_violated_4 rfl (lv_at hl 2 rfl) ?_
    refine lv_aload_n hx hb dX8_violated_5 rfl (lv_at hl 0 rfl) ?_
    refine va_get (D := D) (ci := 6) (v := .ref w0) (C := RX8) (T := TX8) (N := 15) hx hb hts (by decide +kernel) hown hK.1 hP 0 rfl rfl 0 (by decide) (hts (.fieldLink RX8 11 "HomeRoundsModel" "w" "[I") (by decide +kernel)) (fun _ h9 => h9) rfl dX8_violated_6 ?_
    refine lv_iconst (v := nI 0) hx hb dX8_violated_9 (by rfl) ?_
    refine va_iald hx hb hK.1 hP 1 0 rfl rfl (vp_in_nI (by omega) (by omega)) dX8_violated_10 ?_
    refine zr_ti (y := nI N) ((congrArg wv (nI_clamp (by omega))).trans (hvn)) ?_
    refine lv_icmp_ge (tgt := 71) hx hb dX8_violated_11 (by decide) (fun cn_1 => ?_) (fun cn_1 => ?_)
    · skip
      have cn_1 : N ≤ i := (nI_leI (a := N) (b := i) (by omega) (by omega)).mp cn_1
      have hie : i = N := by omega
      refine lv_iload_n hx hb dX8_violated_71 rfl (lv_at hl 1 rfl) ?_
      subst hQ
      exact W.iret (v := nI q) hx hb hr (fun tz htz hWz => ⟨⟨nI q, (), rfl, by rw [hq, hie]; rfl, trivial⟩, hS.F htz⟩) hS.2.2 dX8_violated_72
    · skip
      have cn_1 : ¬ (N ≤ i) := fun hz => cn_1 ((nI_leI (a := N) (b := i) (by omega) (by omega)).mpr hz)
      have hiN : i < N := by omega
      refine lv_iconst (v := nI 0) hx hb dX8_violated_14 (by rfl) ?_
      refine lv_istore_n (lv' := [(3, .int (nI 0)), (0, .ref m0), (1, .int (nI q)), (2, .int (nI i))]) hx hb dX8_violated_15 rfl hl (by decide) rfl (fun ls hl => ?_)
      suffices KL16 : ∀ (kz : Nat) (k : Nat) (z : Nat) (H : Heap) (locs : List Loc) (ls : Array Slot), (N - k) < kz → (z = zm_sum (zm_v2r N P B) i + zm_sum (zm_v2f P B i) k) → (k ≤ N - 1) → va_P D vwCl [(m0, .inr (6, [.ref w0, .ref w1, .ref w2, .int ik, .ref w3, .int (nI tx), .int he, .int fa, .ref w4, .ref w5, .int (nI cl), .ref w6, .ref w7, .ref w8, .ref w9])), (w0, .inl (E 0, 137, .inl wv))] H → va_S (fun _ : Nat => False) s.heap H locs → lv_has ls 4 [(0, .ref m0), (1, .int (nI z)), (2, .int (nI i)), (3, .int (nI k))] → W p l e (headSpec wsX8_violated ({ frames := 2, cells := 0, slots := 0, locals := 45 })).room s m ([.ref m0] : List Value).toArray below meth c H locs 0 0 Q (F0 m 16 ls []) from
        KL16 _ 0 q _ _ ls (Nat.lt_succ_self _) (by rw [hq]; rfl) (by omega) hP hS (lv_sub hl [1, 2, 3, 0] rfl)
      clear hP hS hl
      intro kz
      induction kz with
      | zero => intro k z H locs ls hkz; exact absurd hkz (Nat.not_lt_zero _)
      | succ kz ih16 =>
        intro k z H locs ls hkz hq2 hk2 hP hS hl
        refine lv_iload_n hx hb dX8_violated_16 rfl (lv_at hl 3 rfl) ?_
        refine lv_aload_n hx hb dX8_violated_17 rfl (lv_at hl 0 rfl) ?_
        refine zr_ci hP hS (va_runV (As := []) (rest := [.int (nI k)]) ⟨hx, hb, hml, hown, hts⟩ (c_X8_rounds l D E m0 w0 w1 w2 w3 w4 w5 w6 w7 w8 w9 ik tx he fa cl wv N (hvn) (hN)) (cwV 0 hts gX8_violated_X8_rounds rfl rfl rfl (by decide +kernel) ⟨Nat.le_of_ble_eq_true rfl, Nat.le_of_ble_eq_true rfl⟩) (zr_V hK (hP.sub (ws' := [(m0, .inr (6, [.ref w0, .ref w1, .ref w2, .int ik, .ref w3, .int (nI tx), .int he, .int fa, .ref w4, .ref w5, .int (nI cl), .ref w6, .ref w7, .ref w8, .ref w9])), (w0, .inl (E 0, 137, .inl wv))]) [0, 1] rfl) (ci := 6) (q0 := 0) rfl rfl) rfl rfl hl.1 rfl (lv_room (Nat.le_of_ble_eq_true rfl)) dX8_violated_18 ⟨Nat.zero_le _, Nat.zero_le _⟩) (fun r_2 H locs hw_3 hP hS => ?_)
        subst hw_3
        refine lv_icmp_ge (tgt := 65) hx hb dX8_violated_21 (by decide) (fun cn_4 => ?_) (fun cn_4 => ?_)
        · skip
          have cn_4 : N - 1 ≤ k := (nI_leI (a := N - 1) (b := k) (by omega) (by omega)).mp cn_4
          have hke : k = N - 1 := by omega
          refine lv_iinc (v := nI (i + 1)) (lv' := [(2, .int (nI (i + 1))), (0, .ref m0), (1, .int (nI z)), (3, .int (nI k))]) hx hb dX8_violated_65 hl (k := 2) rfl (nI_add _ _) (by decide) rfl (fun ls hl => ?_)
          refine lv_goto (tgt := 4) hx hb dX8_violated_68 (by decide) ?_
          have hl : lv_has ls 4 [(0, .ref m0), (1, .int (nI z)), (2, .int (nI (i + 1)))] := lv_sub hl [1, 2, 0] rfl
          exact ih4 (i + 1) z H locs ls (by omega) (by rw [hq2, hke]; rfl) (by omega) hP hS hl
        · skip
          have cn_4 : ¬ (N - 1 ≤ k) := fun hz => cn_4 ((nI_leI (a := N - 1) (b := k) (by omega) (by omega)).mpr hz)
          have hkN : k < N - 1 := by omega
          obtain ⟨hb1, hb2⟩ := hvb.1 i k (by omega) (by omega)
          refine lv_iload_n hx hb dX8_violated_24 rfl (lv_at hl 1 rfl) ?_
          refine lv_aload_n hx hb dX8_violated_25 rfl (lv_at hl 0 rfl) ?_
          refine va_get (D := D) (ci := 6) (v := .ref w0) (C := RX8) (T := TX8) (N := 15) hx hb hts (by decide +kernel) hown hK.1 hP 0 rfl rfl 0 (by decide) (hts (.fieldLink RX8 11 "HomeRoundsModel" "w" "[I") (by decide +kernel)) (fun _ h9 => h9) rfl dX8_violated_26 ?_
          refine lv_bipush (v := nI 21) hx hb dX8_violated_29 (by rfl) ?_
          refine lv_bipush (v := nI 6) hx hb dX8_violated_31 (by rfl) ?_
          refine lv_iload_n hx hb dX8_violated_33 rfl (lv_at hl 2 rfl) ?_
          refine lv_imul hx hb dX8_violated_34 ?_
          refine zr_ti (y := nI (6 * i)) (pk_mul _ _) ?_
          refine lv_iadd hx hb dX8_violated_35 ?_
          refine zr_ti (y := nI (21 + (6 * i))) (nI_add _ _) ?_
          refine lv_iload_n hx hb dX8_violated_36 rfl (lv_at hl 3 rfl) ?_
          refine lv_iadd hx hb dX8_violated_37 ?_
          refine zr_ti (y := nI ((21 + (6 * i)) + k)) (nI_add _ _) ?_
          refine va_iald hx hb hK.1 hP 1 0 rfl rfl (vp_in_nI (by omega) (by omega)) dX8_violated_38 ?_
          refine zr_ti (y := nI (B i k)) ((congrArg wv (nI_clamp (by omega))).trans (hb2)) ?_
          refine lv_iconst (v := nI 1) hx hb dX8_violated_39 (by rfl) ?_
          refine lv_icmp_ne (tgt := 56) hx hb dX8_violated_40 (by decide) (fun cn_5 => ?_) (fun cn_5 => ?_)
          · skip
            have cn_5 : ¬ (B i k = 1) := fun hz => cn_5 ((nI_eq (a := B i k) (b := 1) (by omega) (by omega)).mpr hz)
            have hbr := cn_5
            refine lv_iconst (v := nI 0) hx hb dX8_violated_56 (by rfl) ?_
            refine lv_iadd hx hb dX8_violated_57 ?_
            refine zr_ti (y := nI (z + 0)) (nI_add _ _) ?_
            refine lv_istore_n (lv' := [(1, .int (nI (z + 0))), (0, .ref m0), (2, .int (nI i)), (3, .int (nI k))]) hx hb dX8_violated_58 rfl hl (by decide) rfl (fun ls hl => ?_)
            refine lv_iinc (v := nI (k + 1)) (lv' := [(3, .int (nI (k + 1))), (1, .int (nI (z + 0))), (0, .ref m0), (2, .int (nI i))]) hx hb dX8_violated_59 hl (k := 3) rfl (nI_add _ _) (by decide) rfl (fun ls hl => ?_)
            refine lv_goto (tgt := 16) hx hb dX8_violated_62 (by decide) ?_
            have hl : lv_has ls 4 [(0, .ref m0), (1, .int (nI (z + 0))), (2, .int (nI i)), (3, .int (nI (k + 1)))] := lv_sub hl [2, 1, 3, 0] rfl
            exact ih16 (k + 1) (z + 0) H locs ls (by omega) (by rw [hq2]; show _ = _ + (_ + zm_v2f P B i k); unfold zm_v2f; split <;> omega) (by omega) hP hS hl
          · skip
            have cn_5 : B i k = 1 := (nI_eq (a := B i k) (b := 1) (by omega) (by omega)).mp cn_5
            have hbr := cn_5
            refine lv_aload_n hx hb dX8_violated_43 rfl (lv_at hl 0 rfl) ?_
            refine lv_iload_n hx hb dX8_violated_44 rfl (lv_at hl 2 rfl) ?_
            refine lv_iload_n hx hb dX8_violated_45 rfl (lv_at hl 3 rfl) ?_
            refine zr_ci hP hS (va_runV (As := [.int (nI i), .int (nI k)]) (rest := [.int (nI z)]) ⟨hx, hb, hml, hown, hts⟩ (c_X8_isHome l D E m0 w0 w1 w2 w3 w4 w5 w6 w7 w8 w9 ik tx he fa cl wv N G P i k (hvg) (by omega) (by omega)) (cwV 2 hts gX8_violated_X8_isHome rfl rfl rfl (by decide +kernel) ⟨Nat.le_of_ble_eq_true rfl, Nat.le_of_ble_eq_true rfl⟩) (zr_V hK (hP.sub (ws' := [(m0, .inr (6, [.ref w0, .ref w1, .ref w2, .int ik, .ref w3, .int (nI tx), .int he, .int fa, .ref w4, .ref w5, .int (nI cl), .ref w6, .ref w7, .ref w8, .ref w9])), (w0, .inl (E 0, 137, .inl wv))]) [0, 1] rfl) (ci := 6) (q0 := 0) rfl rfl) rfl rfl hl.1 rfl (lv_room (Nat.le_of_ble_eq_true rfl)) dX8_violated_46 ⟨Nat.zero_le _, Nat.zero_le _⟩) (fun r_6 H locs hw_7 hP hS => ?_)
            rcases hw_7 with ⟨rfl, hw_7⟩ | ⟨rfl, hw_7⟩
            · skip
              have hA := hw_7
              refine zr_ti (y := nI 1) rfl ?_
              refine lv_if_eq (tgt := 56) hx hb dX8_violated_49 (by decide) (fun cn_8 => ?_) (fun cn_8 => ?_)
              · skip
                exact absurd cn_8 (by decide)
              · skip
                refine lv_iconst (v := nI 1) hx hb dX8_violated_52 (by rfl) ?_
                refine lv_goto (tgt := 57) hx hb dX8_violated_53 (by decide) ?_
                refine lv_iadd hx hb dX8_violated_57 ?_
                refine zr_ti (y := nI (z + 1)) (nI_add _ _) ?_
                refine lv_istore_n (lv' := [(1, .int (nI (z + 1))), (0, .ref m0), (2, .int (nI i)), (3, .int (nI k))]) hx hb dX8_violated_58 rfl hl (by decide) rfl (fun ls hl => ?_)
                refine lv_iinc (v := nI (k + 1)) (lv' := [(3, .int (nI (k + 1))), (1, .int (nI (z + 1))), (0, .ref m0), (2, .int (nI i))]) hx hb dX8_violated_59 hl (k := 3) rfl (nI_add _ _) (by decide) rfl (fun ls hl => ?_)
                refine lv_goto (tgt := 16) hx hb dX8_violated_62 (by decide) ?_
                have hl : lv_has ls 4 [(0, .ref m0), (1, .int (nI (z + 1))), (2, .int (nI i)), (3, .int (nI (k + 1)))] := lv_sub hl [2, 1, 3, 0] rfl
                exact ih16 (k + 1) (z + 1) H locs ls (by omega) (by rw [hq2]; show _ = _ + (_ + zm_v2f P B i k); unfold zm_v2f; split <;> omega) (by omega) hP hS hl
            · skip
              have hA := hw_7
              refine zr_ti (y := nI 0) rfl ?_
              refine lv_if_eq (tgt := 56) hx hb dX8_violated_49 (by decide) (fun cn_9 => ?_) (fun cn_9 => ?_)
              · skip
                refine lv_iconst (v := nI 0) hx hb dX8_violated_56 (by rfl) ?_
                refine lv_iadd hx hb dX8_violated_57 ?_
                refine zr_ti (y := nI (z + 0)) (nI_add _ _) ?_
                refine lv_istore_n (lv' := [(1, .int (nI (z + 0))), (0, .ref m0), (2, .int (nI i)), (3, .int (nI k))]) hx hb dX8_violated_58 rfl hl (by decide) rfl (fun ls hl => ?_)
                refine lv_iinc (v := nI (k + 1)) (lv' := [(3, .int (nI (k + 1))), (1, .int (nI (z + 0))), (0, .ref m0), (2, .int (nI i))]) hx hb dX8_violated_59 hl (k := 3) rfl (nI_add _ _) (by decide) rfl (fun ls hl => ?_)
                refine lv_goto (tgt := 16) hx hb dX8_violated_62 (by decide) ?_
                have hl : lv_has ls 4 [(0, .ref m0), (1, .int (nI (z + 0))), (2, .int (nI i)), (3, .int (nI (k + 1)))] := lv_sub hl [2, 1, 3, 0] rfl
                exact ih16 (k + 1) (z + 0) H locs ls (by omega) (by rw [hq2]; show _ = _ + (_ + zm_v2f P B i k); unfold zm_v2f; split <;> omega) (by omega) hP hS hl
              · skip
                exact absurd cn_9 (by decide)

set_option maxHeartbeats 4000000 in
set_option maxRecDepth 100000 in
theorem c_X8_carriedBy (l : Launch) (D : va_G) (E : Nat → ClassId) (m0 : Nat) (w0 : Nat) (w1 : Nat) (w2 : Nat) (w3 : Nat) (w4 : Nat) (w5 : Nat) (w6 : Nat) (w7 : Nat) (w8 : Nat) (w9 : Nat) (ik : Int32) (tx : Nat) (he : Int32) (fa : Int32) (cl : Nat) (wv : Nat → Int32) (N : Nat) (G : Nat → Nat → Nat) (P : Nat → Nat → Nat) (i : Nat) (j : Nat) (hvg : zv_g N G P wv) (hi0 : i < N) (hj0 : j < N) : Met l yX8_carriedBy wsX8_carriedBy ({ frames := 2, cells := 0, slots := 0, locals := 46 }) (zr_P D E [.ref m0, .int (nI i), .int (nI j)] [(m0, .inr (6, [.ref w0, .ref w1, .ref w2, .int ik, .ref w3, .int (nI tx), .int he, .int fa, .ref w4, .ref w5, .int (nI cl), .ref w6, .ref w7, .ref w8, .ref w9])), (w0, .inl (E 0, 137, .inl wv))]) (zr_Qi (fun zv => zv = nI (zm_kb N G P i j))) 0 0 (fun _ => False) := by
  refine Met.ofW (cc := cX8_carriedBy) (maxL := 5) (ret := (some .int)) (by decide) rfl ?_
  intro p e s m args below meth c s₁ Bz hml hv
  obtain ⟨rfl, hP, hK⟩ := hv
  have hx := Bz.exec
  have hb := Bz.bytes
  have hr := Bz.returns
  have hts := atoms_spec (ws := wsX8_carriedBy) Bz.pre
  have hown : s.vm.findClass RX8 = some m.cls := findClass_of_methodNamed Bz.named
  have hlocks := Bz.notSynchronized
  have hP : va_P D vwCl [(m0, .inr (6, [.ref w0, .ref w1, .ref w2, .int ik, .ref w3, .int (nI tx), .int he, .int fa, .ref w4, .ref w5, .int (nI cl), .ref w6, .ref w7, .ref w8, .ref w9])), (w0, .inl (E 0, 137, .inl wv))] s.heap := hP
  have hS : va_S (fun _ : Nat => False) s.heap s.heap [] := va_S.rf
  have hl := lv_entry ([.ref m0, .int (nI i), .int (nI j)]) (n := 5) (Nat.le_of_ble_eq_true rfl)
  rw [lg_entry_eq]
  generalize (lg_sl ([.ref m0, .int (nI i), .int (nI j)]) ++ List.replicate (5 - (lg_sl ([.ref m0, .int (nI i), .int (nI j)])).length) Slot.unset).toArray = ls at hl ⊢
  have hl : lv_has ls 5 [(0, .ref m0), (1, .int (nI i)), (2, .int (nI j))] := hl
  refine zr_nQ (fun Q hQ => ?_)
  have hok := hvg.1
  have hN := hok.1
  have hvn := hvg.2.1
  refine lv_iconst (v := nI 0) hx hb dX8_carriedBy_0 (by rfl) ?_
  refine lv_istore_n (lv' := [(3, .int (nI 0)), (0, .ref m0), (1, .int (nI i)), (2, .int (nI j))]) hx hb dX8_carriedBy_1 rfl hl (by decide) rfl (fun ls hl => ?_)
  refine lv_iconst (v := nI 0) hx hb dX8_carriedBy_2 (by rfl) ?_
  refine lv_istore (lv' := [(4, .int (nI 0)), (3, .int (nI 0)), (0, .ref m0), (1, .int (nI i)), (2, .int (nI j))]) hx hb dX8_carriedBy_3 hl (by decide) rfl (fun ls hl => ?_)
  suffices KL5 : ∀ (kz : Nat) (k : Nat) (q : Nat) (H : Heap) (locs : List Loc) (ls : Array Slot), (N - k) < kz → (q = zm_sum (zm_cf G P i j) k) → (k ≤ N - 2) → va_P D vwCl [(m0, .inr (6, [.ref w0, .ref w1, .ref w2, .int ik, .ref w3, .int (nI tx), .int he, .int fa, .ref w4, .ref w5, .int (nI cl), .ref w6, .ref w7, .ref w8, .ref w9])), (w0, .inl (E 0, 137, .inl wv))] H → va_S (fun _ : Nat => False) s.heap H locs → lv_has ls 5 [(0, .ref m0), (1, .int (nI i)), (2, .int (nI j)), (3, .int (nI q)), (4, .int (nI k))] → W p l e (headSpec wsX8_carriedBy ({ frames := 2, cells := 0, slots := 0, locals := 46 })).room s m ([.ref m0, .int (nI i), .int (nI j)] : List Value).toArray below meth c H locs 0 0 Q (F0 m 5 ls []) from
    KL5 _ 0 0 _ _ ls (Nat.lt_succ_self _) (rfl) (by omega) hP hS (lv_sub hl [2, 3, 4, 1, 0] rfl)
  clear hP hS hl
  intro kz
  induction kz with
  | zero => intro k q H locs ls hkz; exact absurd hkz (Nat.not_lt_zero _)
  | succ kz ih5 =>
    intro k q H locs ls hkz hq hk hP hS hl
    refine lv_iload hx hb dX8_carriedBy_5 (lv_at hl 4 rfl) ?_
    refine lv_iconst (v := nI 1) hx hb dX8_carriedBy_7 (by rfl) ?_
    refine lv_iadd hx hb dX8_carriedBy_8 ?_
    refine zr_ti (y := nI (k + 1)) (nI_add _ _) ?_
    refine lv_aload_n hx hb dX8_carriedBy_9 rfl (lv_at hl 0 rfl) ?_
    refine zr_ci hP hS (va_runV (As := []) (rest := [.int (nI (k + 1))]) ⟨hx, hb, hml, hown, hts⟩ (c_X8_rounds l D E m0 w0 w1 w2 w3 w4 w5 w6 w7 w8 w9 ik tx he fa cl wv N (hvn) (hN)) (cwV 0 hts gX8_carriedBy_X8_rounds rfl rfl rfl (by decide +kernel) ⟨Nat.le_of_ble_eq_true rfl, Nat.le_of_ble_eq_true rfl⟩) (zr_V hK (hP.sub (ws' := [(m0, .inr (6, [.ref w0, .ref w1, .ref w2, .int ik, .ref w3, .int (nI tx), .int he, .int fa, .ref w4, .ref w5, .int (nI cl), .ref w6, .ref w7, .ref w8, .ref w9])), (w0, .inl (E 0, 137, .inl wv))]) [0, 1] rfl) (ci := 6) (q0 := 0) rfl rfl) rfl rfl hl.1 rfl (lv_room (Nat.le_of_ble_eq_true rfl)) dX8_carriedBy_10 ⟨Nat.zero_le _, Nat.zero_le _⟩) (fun r_1 H locs hw_2 hP hS => ?_)
    subst hw_2
    refine lv_icmp_ge (tgt := 49) hx hb dX8_carriedBy_13 (by decide) (fun cn_3 => ?_) (fun cn_3 => ?_)
    · skip
      have cn_3 : N - 1 ≤ k + 1 := (nI_leI (a := N - 1) (b := k + 1) (by omega) (by omega)).mp cn_3
      have hke : k = N - 2 := by omega
      refine lv_iload_n hx hb dX8_carriedBy_49 rfl (lv_at hl 3 rfl) ?_
      subst hQ
      exact W.iret (v := nI q) hx hb hr (fun tz htz hWz => ⟨⟨nI q, (), rfl, by rw [hq, hke]; rfl, trivial⟩, hS.F htz⟩) hS.2.2 dX8_carriedBy_50
    · skip
      have cn_3 : ¬ (N - 1 ≤ k + 1) := fun hz => cn_3 ((nI_leI (a := N - 1) (b := k + 1) (by omega) (by omega)).mpr hz)
      have hj1 := zm_rv_lt hok (t := i) (r := k) (by omega) hi0
      have hj2 := zm_rv_lt hok (t := zm_rv G P i k) (r := k + 1) (by omega) hj1
      refine lv_iload_n hx hb dX8_carriedBy_16 rfl (lv_at hl 3 rfl) ?_
      refine lv_aload_n hx hb dX8_carriedBy_17 rfl (lv_at hl 0 rfl) ?_
      refine lv_aload_n hx hb dX8_carriedBy_18 rfl (lv_at hl 0 rfl) ?_
      refine lv_iload_n hx hb dX8_carriedBy_19 rfl (lv_at hl 1 rfl) ?_
      refine lv_iload hx hb dX8_carriedBy_20 (lv_at hl 4 rfl) ?_
      refine zr_ci hP hS (va_runV (As := [.int (nI i), .int (nI k)]) (rest := [.ref m0, .int (nI q)]) ⟨hx, hb, hml, hown, hts⟩ (c_X8_meets l D E m0 w0 w1 w2 w3 w4 w5 w6 w7 w8 w9 ik tx he fa cl wv N G P i k (hvg) (by omega) (by omega)) (cwV 2 hts gX8_carriedBy_X8_meets rfl rfl rfl (by decide +kernel) ⟨Nat.le_of_ble_eq_true rfl, Nat.le_of_ble_eq_true rfl⟩) (zr_V hK (hP.sub (ws' := [(m0, .inr (6, [.ref w0, .ref w1, .ref w2, .int ik, .ref w3, .int (nI tx), .int he, .int fa, .ref w4, .ref w5, .int (nI cl), .ref w6, .ref w7, .ref w8, .ref w9])), (w0, .inl (E 0, 137, .inl wv))]) [0, 1] rfl) (ci := 6) (q0 := 0) rfl rfl) rfl rfl hl.1 rfl (lv_room (Nat.le_of_ble_eq_true rfl)) dX8_carriedBy_22 ⟨Nat.zero_le _, Nat.zero_le _⟩) (fun r_4 H locs hw_5 hP hS => ?_)
      subst hw_5
      refine lv_iload hx hb dX8_carriedBy_25 (lv_at hl 4 rfl) ?_
      refine lv_iconst (v := nI 1) hx hb dX8_carriedBy_27 (by rfl) ?_
      refine lv_iadd hx hb dX8_carriedBy_28 ?_
      refine zr_ti (y := nI (k + 1)) (nI_add _ _) ?_
      refine zr_ci hP hS (va_runV (As := [.int (nI (zm_rv G P i k)), .int (nI (k + 1))]) (rest := [.int (nI q)]) ⟨hx, hb, hml, hown, hts⟩ (c_X8_meets l D E m0 w0 w1 w2 w3 w4 w5 w6 w7 w8 w9 ik tx he fa cl wv N G P (zm_rv G P i k) (k + 1) (hvg) (by omega) (by omega)) (cwV 2 hts gX8_carriedBy_X8_meets rfl rfl rfl (by decide +kernel) ⟨Nat.le_of_ble_eq_true rfl, Nat.le_of_ble_eq_true rfl⟩) (zr_V hK (hP.sub (ws' := [(m0, .inr (6, [.ref w0, .ref w1, .ref w2, .int ik, .ref w3, .int (nI tx), .int he, .int fa, .ref w4, .ref w5, .int (nI cl), .ref w6, .ref w7, .ref w8, .ref w9])), (w0, .inl (E 0, 137, .inl wv))]) [0, 1] rfl) (ci := 6) (q0 := 0) rfl rfl) rfl rfl hl.1 rfl (lv_room (Nat.le_of_ble_eq_true rfl)) dX8_carriedBy_29 ⟨Nat.zero_le _, Nat.zero_le _⟩) (fun r_6 H locs hw_7 hP hS => ?_)
      subst hw_7
      refine lv_iload_n hx hb dX8_carriedBy_32 rfl (lv_at hl 2 rfl) ?_
      refine lv_icmp_ne (tgt := 40) hx hb dX8_carriedBy_33 (by decide) (fun cn_8 => ?_) (fun cn_8 => ?_)
      · skip
        have cn_8 : ¬ (zm_rv G P (zm_rv G P i k) (k + 1) = j) := fun hz => cn_8 ((nI_eq (a := zm_rv G P (zm_rv G P i k) (k + 1)) (b := j) (by omega) (by omega)).mpr hz)
        have hbr := cn_8
        refine lv_iconst (v := nI 0) hx hb dX8_carriedBy_40 (by rfl) ?_
        refine lv_iadd hx hb dX8_carriedBy_41 ?_
        refine zr_ti (y := nI (q + 0)) (nI_add _ _) ?_
        refine lv_istore_n (lv' := [(3, .int (nI (q + 0))), (0, .ref m0), (1, .int (nI i)), (2, .int (nI j)), (4, .int (nI k))]) hx hb dX8_carriedBy_42 rfl hl (by decide) rfl (fun ls hl => ?_)
        refine lv_iinc (v := nI (k + 1)) (lv' := [(4, .int (nI (k + 1))), (3, .int (nI (q + 0))), (0, .ref m0), (1, .int (nI i)), (2, .int (nI j))]) hx hb dX8_carriedBy_43 hl (k := 4) rfl (nI_add _ _) (by decide) rfl (fun ls hl => ?_)
        refine lv_goto (tgt := 5) hx hb dX8_carriedBy_46 (by decide) ?_
        have hl : lv_has ls 5 [(0, .ref m0), (1, .int (nI i)), (2, .int (nI j)), (3, .int (nI (q + 0))), (4, .int (nI (k + 1)))] := lv_sub hl [2, 3, 4, 1, 0] rfl
        exact ih5 (k + 1) (q + 0) H locs ls (by omega) (by rw [hq]; show _ = _ + zm_cf G P i j k; unfold zm_cf; first | rw [if_pos hbr] | rw [if_neg hbr]) (by omega) hP hS hl
      · skip
        have cn_8 : zm_rv G P (zm_rv G P i k) (k + 1) = j := (nI_eq (a := zm_rv G P (zm_rv G P i k) (k + 1)) (b := j) (by omega) (by omega)).mp cn_8
        have hbr := cn_8
        refine lv_iconst (v := nI 1) hx hb dX8_carriedBy_36 (by rfl) ?_
        refine lv_goto (tgt := 41) hx hb dX8_carriedBy_37 (by decide) ?_
        refine lv_iadd hx hb dX8_carriedBy_41 ?_
        refine zr_ti (y := nI (q + 1)) (nI_add _ _) ?_
        refine lv_istore_n (lv' := [(3, .int (nI (q + 1))), (0, .ref m0), (1, .int (nI i)), (2, .int (nI j)), (4, .int (nI k))]) hx hb dX8_carriedBy_42 rfl hl (by decide) rfl (fun ls hl => ?_)
        refine lv_iinc (v := nI (k + 1)) (lv' := [(4, .int (nI (k + 1))), (3, .int (nI (q + 1))), (0, .ref m0), (1, .int (nI i)), (2, .int (nI j))]) hx hb dX8_carriedBy_43 hl (k := 4) rfl (nI_add _ _) (by decide) rfl (fun ls hl => ?_)
        refine lv_goto (tgt := 5) hx hb dX8_carriedBy_46 (by decide) ?_
        have hl : lv_has ls 5 [(0, .ref m0), (1, .int (nI i)), (2, .int (nI j)), (3, .int (nI (q + 1))), (4, .int (nI (k + 1)))] := lv_sub hl [2, 3, 4, 1, 0] rfl
        exact ih5 (k + 1) (q + 1) H locs ls (by omega) (by rw [hq]; show _ = _ + zm_cf G P i j k; unfold zm_cf; first | rw [if_pos hbr] | rw [if_neg hbr]) (by omega) hP hS hl

set_option maxHeartbeats 4000000 in
set_option maxRecDepth 100000 in
theorem c_X8_carry (l : Launch) (D : va_G) (E : Nat → ClassId) (m0 : Nat) (w0 : Nat) (w1 : Nat) (w2 : Nat) (w3 : Nat) (w4 : Nat) (w5 : Nat) (w6 : Nat) (w7 : Nat) (w8 : Nat) (w9 : Nat) (ik : Int32) (tx : Nat) (he : Int32) (fa : Int32) (cl : Nat) (wv : Nat → Int32) (N : Nat) (G : Nat → Nat → Nat) (P : Nat → Nat → Nat) (hvg : zv_g N G P wv) : Met l yX8_carry wsX8_carry ({ frames := 3, cells := 0, slots := 0, locals := 70 }) (zr_P D E [.ref m0] [(m0, .inr (6, [.ref w0, .ref w1, .ref w2, .int ik, .ref w3, .int (nI tx), .int he, .int fa, .ref w4, .ref w5, .int (nI cl), .ref w6, .ref w7, .ref w8, .ref w9])), (w0, .inl (E 0, 137, .inl wv))]) (zr_Qi (fun zv => zv = nI (zm_car N G P))) 0 0 (fun _ => False) := by
  refine Met.ofW (cc := cX8_carry) (maxL := 5) (ret := (some .int)) (by decide) rfl ?_
  intro p e s m args below meth c s₁ Bz hml hv
  obtain ⟨rfl, hP, hK⟩ := hv
  have hx := Bz.exec
  have hb := Bz.bytes
  have hr := Bz.returns
  have hts := atoms_spec (ws := wsX8_carry) Bz.pre
  have hown : s.vm.findClass RX8 = some m.cls := findClass_of_methodNamed Bz.named
  have hlocks := Bz.notSynchronized
  have hP : va_P D vwCl [(m0, .inr (6, [.ref w0, .ref w1, .ref w2, .int ik, .ref w3, .int (nI tx), .int he, .int fa, .ref w4, .ref w5, .int (nI cl), .ref w6, .ref w7, .ref w8, .ref w9])), (w0, .inl (E 0, 137, .inl wv))] s.heap := hP
  have hS : va_S (fun _ : Nat => False) s.heap s.heap [] := va_S.rf
  have hl := lv_entry ([.ref m0]) (n := 5) (Nat.le_of_ble_eq_true rfl)
  rw [lg_entry_eq]
  generalize (lg_sl ([.ref m0]) ++ List.replicate (5 - (lg_sl ([.ref m0])).length) Slot.unset).toArray = ls at hl ⊢
  have hl : lv_has ls 5 [(0, .ref m0)] := hl
  refine zr_nQ (fun Q hQ => ?_)
  have hok := hvg.1
  have hN := hok.1
  have hvn := hvg.2.1
  refine lv_iconst (v := nI 0) hx hb dX8_carry_0 (by rfl) ?_
  refine lv_istore_n (lv' := [(1, .int (nI 0)), (0, .ref m0)]) hx hb dX8_carry_1 rfl hl (by decide) rfl (fun ls hl => ?_)
  refine lv_iconst (v := nI 0) hx hb dX8_carry_2 (by rfl) ?_
  refine lv_istore_n (lv' := [(2, .int (nI 0)), (1, .int (nI 0)), (0, .ref m0)]) hx hb dX8_carry_3 rfl hl (by decide) rfl (fun ls hl => ?_)
  suffices KL4 : ∀ (kz : Nat) (i : Nat) (q : Nat) (H : Heap) (locs : List Loc) (ls : Array Slot), (N - i) < kz → (q = zm_sum (zm_cr N G P) i) → (i ≤ N) → va_P D vwCl [(m0, .inr (6, [.ref w0, .ref w1, .ref w2, .int ik, .ref w3, .int (nI tx), .int he, .int fa, .ref w4, .ref w5, .int (nI cl), .ref w6, .ref w7, .ref w8, .ref w9])), (w0, .inl (E 0, 137, .inl wv))] H → va_S (fun _ : Nat => False) s.heap H locs → lv_has ls 5 [(0, .ref m0), (1, .int (nI q)), (2, .int (nI i))] → W p l e (headSpec wsX8_carry ({ frames := 3, cells := 0, slots := 0, locals := 70 })).room s m ([.ref m0] : List Value).toArray below meth c H locs 0 0 Q (F0 m 4 ls []) from
    KL4 _ 0 0 _ _ ls (Nat.lt_succ_self _) (rfl) (by omega) hP hS (lv_sub hl [2, 1, 0] rfl)
  clear hP hS hl
  intro kz
  induction kz with
  | zero => intro i q H locs ls hkz; exact absurd hkz (Nat.not_lt_zero _)
  | succ kz ih4 =>
    intro i q H locs ls hkz hq hi hP hS hl
    refine lv_iload_n hx hb dX8_carry_4 rfl (lv_at hl 2 rfl) ?_
    refine lv_aload_n hx hb dX8_carry_5 rfl (lv_at hl 0 rfl) ?_
    refine va_get (D := D) (ci := 6) (v := .ref w0) (C := RX8) (T := TX8) (N := 15) hx hb hts (by decide +kernel) hown hK.1 hP 0 rfl rfl 0 (by decide) (hts (.fieldLink RX8 11 "HomeRoundsModel" "w" "[I") (by decide +kernel)) (fun _ h9 => h9) rfl dX8_carry_6 ?_
    refine lv_iconst (v := nI 0) hx hb dX8_carry_9 (by rfl) ?_
    refine va_iald hx hb hK.1 hP 1 0 rfl rfl (vp_in_nI (by omega) (by omega)) dX8_carry_10 ?_
    refine zr_ti (y := nI N) ((congrArg wv (nI_clamp (by omega))).trans (hvn)) ?_
    refine lv_icmp_ge (tgt := 63) hx hb dX8_carry_11 (by decide) (fun cn_1 => ?_) (fun cn_1 => ?_)
    · skip
      have cn_1 : N ≤ i := (nI_leI (a := N) (b := i) (by omega) (by omega)).mp cn_1
      have hie : i = N := by omega
      refine lv_iload_n hx hb dX8_carry_63 rfl (lv_at hl 1 rfl) ?_
      subst hQ
      exact W.iret (v := nI q) hx hb hr (fun tz htz hWz => ⟨⟨nI q, (), rfl, by rw [hq, hie]; rfl, trivial⟩, hS.F htz⟩) hS.2.2 dX8_carry_64
    · skip
      have cn_1 : ¬ (N ≤ i) := fun hz => cn_1 ((nI_leI (a := N) (b := i) (by omega) (by omega)).mpr hz)
      have hiN : i < N := by omega
      refine lv_iconst (v := nI 0) hx hb dX8_carry_14 (by rfl) ?_
      refine lv_istore_n (lv' := [(3, .int (nI 0)), (0, .ref m0), (1, .int (nI q)), (2, .int (nI i))]) hx hb dX8_carry_15 rfl hl (by decide) rfl (fun ls hl => ?_)
      suffices KL16 : ∀ (kz : Nat) (k : Nat) (z : Nat) (H : Heap) (locs : List Loc) (ls : Array Slot), (N - k) < kz → (z = zm_sum (zm_cr N G P) i + zm_sum (zm_c2 N G P i) k) → (k ≤ N) → va_P D vwCl [(m0, .inr (6, [.ref w0, .ref w1, .ref w2, .int ik, .ref w3, .int (nI tx), .int he, .int fa, .ref w4, .ref w5, .int (nI cl), .ref w6, .ref w7, .ref w8, .ref w9])), (w0, .inl (E 0, 137, .inl wv))] H → va_S (fun _ : Nat => False) s.heap H locs → lv_has ls 5 [(0, .ref m0), (1, .int (nI z)), (2, .int (nI i)), (3, .int (nI k))] → W p l e (headSpec wsX8_carry ({ frames := 3, cells := 0, slots := 0, locals := 70 })).room s m ([.ref m0] : List Value).toArray below meth c H locs 0 0 Q (F0 m 16 ls []) from
        KL16 _ 0 q _ _ ls (Nat.lt_succ_self _) (by rw [hq]; rfl) (by omega) hP hS (lv_sub hl [1, 2, 3, 0] rfl)
      clear hP hS hl
      intro kz
      induction kz with
      | zero => intro k z H locs ls hkz; exact absurd hkz (Nat.not_lt_zero _)
      | succ kz ih16 =>
        intro k z H locs ls hkz hq2 hk2 hP hS hl
        refine lv_iload_n hx hb dX8_carry_16 rfl (lv_at hl 3 rfl) ?_
        refine lv_aload_n hx hb dX8_carry_17 rfl (lv_at hl 0 rfl) ?_
        refine va_get (D := D) (ci := 6) (v := .ref w0) (C := RX8) (T := TX8) (N := 15) hx hb hts (by decide +kernel) hown hK.1 hP 0 rfl rfl 0 (by decide) (hts (.fieldLink RX8 11 "HomeRoundsModel" "w" "[I") (by decide +kernel)) (fun _ h9 => h9) rfl dX8_carry_18 ?_
        refine lv_iconst (v := nI 0) hx hb dX8_carry_21 (by rfl) ?_
        refine va_iald hx hb hK.1 hP 1 0 rfl rfl (vp_in_nI (by omega) (by omega)) dX8_carry_22 ?_
        refine zr_ti (y := nI N) ((congrArg wv (nI_clamp (by omega))).trans (hvn)) ?_
        refine lv_icmp_ge (tgt := 57) hx hb dX8_carry_23 (by decide) (fun cn_2 => ?_) (fun cn_2 => ?_)
        · skip
          have cn_2 : N ≤ k := (nI_leI (a := N) (b := k) (by omega) (by omega)).mp cn_2
          have hke : k = N := by omega
          refine lv_iinc (v := nI (i + 1)) (lv' := [(2, .int (nI (i + 1))), (0, .ref m0), (1, .int (nI z)), (3, .int (nI k))]) hx hb dX8_carry_57 hl (k := 2) rfl (nI_add _ _) (by decide) rfl (fun ls hl => ?_)
          refine lv_goto (tgt := 4) hx hb dX8_carry_60 (by decide) ?_
          have hl : lv_has ls 5 [(0, .ref m0), (1, .int (nI z)), (2, .int (nI (i + 1)))] := lv_sub hl [1, 2, 0] rfl
          exact ih4 (i + 1) z H locs ls (by omega) (by rw [hq2, hke]; rfl) (by omega) hP hS hl
        · skip
          have cn_2 : ¬ (N ≤ k) := fun hz => cn_2 ((nI_leI (a := N) (b := k) (by omega) (by omega)).mpr hz)
          have hkN : k < N := by omega
          refine lv_iload_n hx hb dX8_carry_26 rfl (lv_at hl 2 rfl) ?_
          refine lv_iload_n hx hb dX8_carry_27 rfl (lv_at hl 3 rfl) ?_
          refine lv_icmp_ne (tgt := 35) hx hb dX8_carry_28 (by decide) (fun cn_3 => ?_) (fun cn_3 => ?_)
          · skip
            have cn_3 : ¬ (i = k) := fun hz => cn_3 ((nI_eq (a := i) (b := k) (by omega) (by omega)).mpr hz)
            have hbr := cn_3
            refine lv_aload_n hx hb dX8_carry_35 rfl (lv_at hl 0 rfl) ?_
            refine lv_iload_n hx hb dX8_carry_36 rfl (lv_at hl 2 rfl) ?_
            refine lv_iload_n hx hb dX8_carry_37 rfl (lv_at hl 3 rfl) ?_
            refine zr_ci hP hS (va_runV (As := [.int (nI i), .int (nI k)]) (rest := []) ⟨hx, hb, hml, hown, hts⟩ (c_X8_carriedBy l D E m0 w0 w1 w2 w3 w4 w5 w6 w7 w8 w9 ik tx he fa cl wv N G P i k (hvg) (by omega) (by omega)) (cwV 2 hts gX8_carry_X8_carriedBy rfl rfl rfl (by decide +kernel) ⟨Nat.le_of_ble_eq_true rfl, Nat.le_of_ble_eq_true rfl⟩) (zr_V hK (hP.sub (ws' := [(m0, .inr (6, [.ref w0, .ref w1, .ref w2, .int ik, .ref w3, .int (nI tx), .int he, .int fa, .ref w4, .ref w5, .int (nI cl), .ref w6, .ref w7, .ref w8, .ref w9])), (w0, .inl (E 0, 137, .inl wv))]) [0, 1] rfl) (ci := 6) (q0 := 0) rfl rfl) rfl rfl hl.1 rfl (lv_room (Nat.le_of_ble_eq_true rfl)) dX8_carry_38 ⟨Nat.zero_le _, Nat.zero_le _⟩) (fun r_4 H locs hw_5 hP hS => ?_)
            subst hw_5
            refine lv_istore (lv' := [(4, .int (nI (zm_kb N G P i k))), (0, .ref m0), (1, .int (nI z)), (2, .int (nI i)), (3, .int (nI k))]) hx hb dX8_carry_41 hl (by decide) rfl (fun ls hl => ?_)
            refine lv_iload_n hx hb dX8_carry_43 rfl (lv_at hl 2 rfl) ?_
            refine lv_iload hx hb dX8_carry_44 (lv_at hl 0 rfl) ?_
            refine lv_iload hx hb dX8_carry_46 (lv_at hl 0 rfl) ?_
            refine lv_imul hx hb dX8_carry_48 ?_
            refine zr_ti (y := nI ((zm_kb N G P i k) * (zm_kb N G P i k))) (pk_mul _ _) ?_
            refine lv_iadd hx hb dX8_carry_49 ?_
            refine zr_ti (y := nI (z + ((zm_kb N G P i k) * (zm_kb N G P i k)))) (nI_add _ _) ?_
            refine lv_istore_n (lv' := [(1, .int (nI (z + ((zm_kb N G P i k) * (zm_kb N G P i k))))), (4, .int (nI (zm_kb N G P i k))), (0, .ref m0), (2, .int (nI i)), (3, .int (nI k))]) hx hb dX8_carry_50 rfl hl (by decide) rfl (fun ls hl => ?_)
            refine lv_iinc (v := nI (k + 1)) (lv' := [(3, .int (nI (k + 1))), (1, .int (nI (z + ((zm_kb N G P i k) * (zm_kb N G P i k))))), (4, .int (nI (zm_kb N G P i k))), (0, .ref m0), (2, .int (nI i))]) hx hb dX8_carry_51 hl (k := 4) rfl (nI_add _ _) (by decide) rfl (fun ls hl => ?_)
            refine lv_goto (tgt := 16) hx hb dX8_carry_54 (by decide) ?_
            have hl : lv_has ls 5 [(0, .ref m0), (1, .int (nI (z + ((zm_kb N G P i k) * (zm_kb N G P i k))))), (2, .int (nI i)), (3, .int (nI (k + 1)))] := lv_sub hl [3, 1, 4, 0] rfl
            exact ih16 (k + 1) (z + ((zm_kb N G P i k) * (zm_kb N G P i k))) H locs ls (by omega) (by rw [hq2, Nat.add_assoc]; congr 1; show _ = _ + zm_c2 N G P i k; unfold zm_c2; first | rw [if_pos hbr] | rw [if_neg hbr]) (by omega) hP hS hl
          · skip
            have cn_3 : i = k := (nI_eq (a := i) (b := k) (by omega) (by omega)).mp cn_3
            have hbr := cn_3
            refine lv_iconst (v := nI 0) hx hb dX8_carry_31 (by rfl) ?_
            refine lv_goto (tgt := 41) hx hb dX8_carry_32 (by decide) ?_
            refine lv_istore (lv' := [(4, .int (nI 0)), (0, .ref m0), (1, .int (nI z)), (2, .int (nI i)), (3, .int (nI k))]) hx hb dX8_carry_41 hl (by decide) rfl (fun ls hl => ?_)
            refine lv_iload_n hx hb dX8_carry_43 rfl (lv_at hl 2 rfl) ?_
            refine lv_iload hx hb dX8_carry_44 (lv_at hl 0 rfl) ?_
            refine lv_iload hx hb dX8_carry_46 (lv_at hl 0 rfl) ?_
            refine lv_imul hx hb dX8_carry_48 ?_
            refine zr_ti (y := nI (0 * 0)) (pk_mul _ _) ?_
            refine lv_iadd hx hb dX8_carry_49 ?_
            refine zr_ti (y := nI (z + (0 * 0))) (nI_add _ _) ?_
            refine lv_istore_n (lv' := [(1, .int (nI (z + (0 * 0)))), (4, .int (nI 0)), (0, .ref m0), (2, .int (nI i)), (3, .int (nI k))]) hx hb dX8_carry_50 rfl hl (by decide) rfl (fun ls hl => ?_)
            refine lv_iinc (v := nI (k + 1)) (lv' := [(3, .int (nI (k + 1))), (1, .int (nI (z + (0 * 0)))), (4, .int (nI 0)), (0, .ref m0), (2, .int (nI i))]) hx hb dX8_carry_51 hl (k := 4) rfl (nI_add _ _) (by decide) rfl (fun ls hl => ?_)
            refine lv_goto (tgt := 16) hx hb dX8_carry_54 (by decide) ?_
            have hl : lv_has ls 5 [(0, .ref m0), (1, .int (nI (z + (0 * 0)))), (2, .int (nI i)), (3, .int (nI (k + 1)))] := lv_sub hl [3, 1, 4, 0] rfl
            exact ih16 (k + 1) (z + (0 * 0)) H locs ls (by omega) (by rw [hq2, Nat.add_assoc]; congr 1; show _ = _ + zm_c2 N G P i k; unfold zm_c2; first | rw [if_pos hbr] | rw [if_neg hbr]) (by omega) hP hS hl

set_option maxHeartbeats 4000000 in
set_option maxRecDepth 100000 in
theorem c_X8_far (l : Launch) (D : va_G) (E : Nat → ClassId) (m0 : Nat) (w0 : Nat) (w1 : Nat) (w2 : Nat) (w3 : Nat) (w4 : Nat) (w5 : Nat) (w6 : Nat) (w7 : Nat) (w8 : Nat) (w9 : Nat) (ik : Int32) (tx : Nat) (he : Int32) (fa : Int32) (cl : Nat) (wv : Nat → Int32) (N : Nat) (G : Nat → Nat → Nat) (P : Nat → Nat → Nat) (X : Nat → Nat) (Y : Nat → Nat) (i : Nat) (j : Nat) (hvg : zv_g N G P wv) (hxy : zv_xy X Y wv) (hi0 : i < N) (hj0 : j < N) : Met l yX8_far wsX8_far ({ frames := 1, cells := 0, slots := 0, locals := 21 }) (zr_P D E [.ref m0, .int (nI i), .int (nI j)] [(m0, .inr (6, [.ref w0, .ref w1, .ref w2, .int ik, .ref w3, .int (nI tx), .int he, .int fa, .ref w4, .ref w5, .int (nI cl), .ref w6, .ref w7, .ref w8, .ref w9])), (w0, .inl (E 0, 137, .inl wv))]) (zr_Qi (fun zv => zv = nI (zm_far X Y i j))) 0 0 (fun _ => False) := by
  refine Met.ofW (cc := cX8_far) (maxL := 3) (ret := (some .int)) (by decide) rfl ?_
  intro p e s m args below meth c s₁ Bz hml hv
  obtain ⟨rfl, hP, hK⟩ := hv
  have hx := Bz.exec
  have hb := Bz.bytes
  have hr := Bz.returns
  have hts := atoms_spec (ws := wsX8_far) Bz.pre
  have hown : s.vm.findClass RX8 = some m.cls := findClass_of_methodNamed Bz.named
  have hlocks := Bz.notSynchronized
  have hP : va_P D vwCl [(m0, .inr (6, [.ref w0, .ref w1, .ref w2, .int ik, .ref w3, .int (nI tx), .int he, .int fa, .ref w4, .ref w5, .int (nI cl), .ref w6, .ref w7, .ref w8, .ref w9])), (w0, .inl (E 0, 137, .inl wv))] s.heap := hP
  have hS : va_S (fun _ : Nat => False) s.heap s.heap [] := va_S.rf
  have hl := lv_entry ([.ref m0, .int (nI i), .int (nI j)]) (n := 3) (Nat.le_of_ble_eq_true rfl)
  rw [lg_entry_eq]
  generalize (lg_sl ([.ref m0, .int (nI i), .int (nI j)]) ++ List.replicate (3 - (lg_sl ([.ref m0, .int (nI i), .int (nI j)])).length) Slot.unset).toArray = ls at hl ⊢
  have hl : lv_has ls 3 [(0, .ref m0), (1, .int (nI i)), (2, .int (nI j))] := hl
  refine zr_nQ (fun Q hQ => ?_)
  have hok := hvg.1
  have hN := hok.1
  have hvn := hvg.2.1
  have hgr := zm_gr_of hxy
  obtain ⟨hx1, hx2, hx3, hx4⟩ := hxy i (by omega)
  obtain ⟨hx5, hx6, hx7, hx8⟩ := hxy j (by omega)
  refine lv_aload_n hx hb dX8_far_0 rfl (lv_at hl 0 rfl) ?_
  refine va_get (D := D) (ci := 6) (v := .ref w0) (C := RX8) (T := TX8) (N := 15) hx hb hts (by decide +kernel) hown hK.1 hP 0 rfl rfl 0 (by decide) (hts (.fieldLink RX8 11 "HomeRoundsModel" "w" "[I") (by decide +kernel)) (fun _ h9 => h9) rfl dX8_far_1 ?_
  refine lv_bipush (v := nI 9) hx hb dX8_far_4 (by rfl) ?_
  refine lv_iconst (v := nI 2) hx hb dX8_far_6 (by rfl) ?_
  refine lv_iload_n hx hb dX8_far_7 rfl (lv_at hl 1 rfl) ?_
  refine lv_imul hx hb dX8_far_8 ?_
  refine zr_ti (y := nI (2 * i)) (pk_mul _ _) ?_
  refine lv_iadd hx hb dX8_far_9 ?_
  refine zr_ti (y := nI (9 + (2 * i))) (nI_add _ _) ?_
  refine va_iald hx hb hK.1 hP 1 0 rfl rfl (vp_in_nI (by omega) (by omega)) dX8_far_10 ?_
  refine zr_ti (y := nI (X i)) ((congrArg wv (nI_clamp (by omega))).trans (hx3)) ?_
  refine lv_aload_n hx hb dX8_far_11 rfl (lv_at hl 0 rfl) ?_
  refine va_get (D := D) (ci := 6) (v := .ref w0) (C := RX8) (T := TX8) (N := 15) hx hb hts (by decide +kernel) hown hK.1 hP 0 rfl rfl 0 (by decide) (hts (.fieldLink RX8 11 "HomeRoundsModel" "w" "[I") (by decide +kernel)) (fun _ h9 => h9) rfl dX8_far_12 ?_
  refine lv_bipush (v := nI 9) hx hb dX8_far_15 (by rfl) ?_
  refine lv_iconst (v := nI 2) hx hb dX8_far_17 (by rfl) ?_
  refine lv_iload_n hx hb dX8_far_18 rfl (lv_at hl 2 rfl) ?_
  refine lv_imul hx hb dX8_far_19 ?_
  refine zr_ti (y := nI (2 * j)) (pk_mul _ _) ?_
  refine lv_iadd hx hb dX8_far_20 ?_
  refine zr_ti (y := nI (9 + (2 * j))) (nI_add _ _) ?_
  refine va_iald hx hb hK.1 hP 1 0 rfl rfl (vp_in_nI (by omega) (by omega)) dX8_far_21 ?_
  refine zr_ti (y := nI (X j)) ((congrArg wv (nI_clamp (by omega))).trans (hx7)) ?_
  refine lv_isub hx hb dX8_far_22 ?_
  refine va_mabs hx hb (hml.trans hl.1.symm) hown (hts (.methodLink RX8 185 Lib.Math.abs.name) (by decide +kernel)) (hts (.static Lib.Math.abs.name) (by decide +kernel)) (hts (.initialized "java/lang/Math") (by decide +kernel)) (hts (.code Lib.Math.abs.name Lib.Math.abs.code 1 (some .int)) (by decide +kernel)) (Nat.le_of_ble_eq_true rfl) (Nat.le_of_ble_eq_true rfl) (Nat.zero_le _) (Nat.zero_le _) dX8_far_23 ?_
  refine zr_ti (y := nI (zm_ad (X i) (X j))) (zn_abs (by omega) (by omega)) ?_
  refine lv_aload_n hx hb dX8_far_26 rfl (lv_at hl 0 rfl) ?_
  refine va_get (D := D) (ci := 6) (v := .ref w0) (C := RX8) (T := TX8) (N := 15) hx hb hts (by decide +kernel) hown hK.1 hP 0 rfl rfl 0 (by decide) (hts (.fieldLink RX8 11 "HomeRoundsModel" "w" "[I") (by decide +kernel)) (fun _ h9 => h9) rfl dX8_far_27 ?_
  refine lv_bipush (v := nI 9) hx hb dX8_far_30 (by rfl) ?_
  refine lv_iconst (v := nI 2) hx hb dX8_far_32 (by rfl) ?_
  refine lv_iload_n hx hb dX8_far_33 rfl (lv_at hl 1 rfl) ?_
  refine lv_imul hx hb dX8_far_34 ?_
  refine zr_ti (y := nI (2 * i)) (pk_mul _ _) ?_
  refine lv_iadd hx hb dX8_far_35 ?_
  refine zr_ti (y := nI (9 + (2 * i))) (nI_add _ _) ?_
  refine lv_iconst (v := nI 1) hx hb dX8_far_36 (by rfl) ?_
  refine lv_iadd hx hb dX8_far_37 ?_
  refine zr_ti (y := nI ((9 + (2 * i)) + 1)) (nI_add _ _) ?_
  refine va_iald hx hb hK.1 hP 1 0 rfl rfl (vp_in_nI (by omega) (by omega)) dX8_far_38 ?_
  refine zr_ti (y := nI (Y i)) ((congrArg wv (nI_clamp (by omega))).trans (hx4)) ?_
  refine lv_aload_n hx hb dX8_far_39 rfl (lv_at hl 0 rfl) ?_
  refine va_get (D := D) (ci := 6) (v := .ref w0) (C := RX8) (T := TX8) (N := 15) hx hb hts (by decide +kernel) hown hK.1 hP 0 rfl rfl 0 (by decide) (hts (.fieldLink RX8 11 "HomeRoundsModel" "w" "[I") (by decide +kernel)) (fun _ h9 => h9) rfl dX8_far_40 ?_
  refine lv_bipush (v := nI 9) hx hb dX8_far_43 (by rfl) ?_
  refine lv_iconst (v := nI 2) hx hb dX8_far_45 (by rfl) ?_
  refine lv_iload_n hx hb dX8_far_46 rfl (lv_at hl 2 rfl) ?_
  refine lv_imul hx hb dX8_far_47 ?_
  refine zr_ti (y := nI (2 * j)) (pk_mul _ _) ?_
  refine lv_iadd hx hb dX8_far_48 ?_
  refine zr_ti (y := nI (9 + (2 * j))) (nI_add _ _) ?_
  refine lv_iconst (v := nI 1) hx hb dX8_far_49 (by rfl) ?_
  refine lv_iadd hx hb dX8_far_50 ?_
  refine zr_ti (y := nI ((9 + (2 * j)) + 1)) (nI_add _ _) ?_
  refine va_iald hx hb hK.1 hP 1 0 rfl rfl (vp_in_nI (by omega) (by omega)) dX8_far_51 ?_
  refine zr_ti (y := nI (Y j)) ((congrArg wv (nI_clamp (by omega))).trans (hx8)) ?_
  refine lv_isub hx hb dX8_far_52 ?_
  refine va_mabs hx hb (hml.trans hl.1.symm) hown (hts (.methodLink RX8 185 Lib.Math.abs.name) (by decide +kernel)) (hts (.static Lib.Math.abs.name) (by decide +kernel)) (hts (.initialized "java/lang/Math") (by decide +kernel)) (hts (.code Lib.Math.abs.name Lib.Math.abs.code 1 (some .int)) (by decide +kernel)) (Nat.le_of_ble_eq_true rfl) (Nat.le_of_ble_eq_true rfl) (Nat.zero_le _) (Nat.zero_le _) dX8_far_53 ?_
  refine zr_ti (y := nI (zm_ad (Y i) (Y j))) (zn_abs (by omega) (by omega)) ?_
  refine lv_iadd hx hb dX8_far_56 ?_
  refine zr_ti (y := nI ((zm_ad (X i) (X j)) + (zm_ad (Y i) (Y j)))) (nI_add _ _) ?_
  subst hQ
  exact W.iret (v := nI ((zm_ad (X i) (X j)) + (zm_ad (Y i) (Y j)))) hx hb hr (fun tz htz hWz => ⟨⟨nI ((zm_ad (X i) (X j)) + (zm_ad (Y i) (Y j))), (), rfl, rfl, trivial⟩, hS.F htz⟩) hS.2.2 dX8_far_57

set_option maxHeartbeats 4000000 in
set_option maxRecDepth 100000 in
theorem c_X8_whereBehind (l : Launch) (D : va_G) (E : Nat → ClassId) (m0 : Nat) (w0 : Nat) (w1 : Nat) (w2 : Nat) (w3 : Nat) (w4 : Nat) (w5 : Nat) (w6 : Nat) (w7 : Nat) (w8 : Nat) (w9 : Nat) (ik : Int32) (tx : Nat) (he : Int32) (fa : Int32) (cl : Nat) (wv : Nat → Int32) (N : Nat) (G : Nat → Nat → Nat) (P : Nat → Nat → Nat) (t : Nat) (b : Nat) (hvg : zv_g N G P wv) (ht : t < N) (hb9 : b ≤ N - 1) : Met l yX8_whereBehind wsX8_whereBehind ({ frames := 2, cells := 0, slots := 0, locals := 46 }) (zr_P D E [.ref m0, .int (nI t), .int (nI b)] [(m0, .inr (6, [.ref w0, .ref w1, .ref w2, .int ik, .ref w3, .int (nI tx), .int he, .int fa, .ref w4, .ref w5, .int (nI cl), .ref w6, .ref w7, .ref w8, .ref w9])), (w0, .inl (E 0, 137, .inl wv))]) (zr_Qi (fun zv => zv = nI (zm_host G P t b))) 0 0 (fun _ => False) := by
  refine Met.ofW (cc := cX8_whereBehind) (maxL := 3) (ret := (some .int)) (by decide) rfl ?_
  intro p e s m args below meth c s₁ Bz hml hv
  obtain ⟨rfl, hP, hK⟩ := hv
  have hx := Bz.exec
  have hb := Bz.bytes
  have hr := Bz.returns
  have hts := atoms_spec (ws := wsX8_whereBehind) Bz.pre
  have hown : s.vm.findClass RX8 = some m.cls := findClass_of_methodNamed Bz.named
  have hlocks := Bz.notSynchronized
  have hP : va_P D vwCl [(m0, .inr (6, [.ref w0, .ref w1, .ref w2, .int ik, .ref w3, .int (nI tx), .int he, .int fa, .ref w4, .ref w5, .int (nI cl), .ref w6, .ref w7, .ref w8, .ref w9])), (w0, .inl (E 0, 137, .inl wv))] s.heap := hP
  have hS : va_S (fun _ : Nat => False) s.heap s.heap [] := va_S.rf
  have hl := lv_entry ([.ref m0, .int (nI t), .int (nI b)]) (n := 3) (Nat.le_of_ble_eq_true rfl)
  rw [lg_entry_eq]
  generalize (lg_sl ([.ref m0, .int (nI t), .int (nI b)]) ++ List.replicate (3 - (lg_sl ([.ref m0, .int (nI t), .int (nI b)])).length) Slot.unset).toArray = ls at hl ⊢
  have hl : lv_has ls 3 [(0, .ref m0), (1, .int (nI t)), (2, .int (nI b))] := hl
  refine zr_nQ (fun Q hQ => ?_)
  have hok := hvg.1
  have hN := hok.1
  have hvn := hvg.2.1
  refine lv_iload_n hx hb dX8_whereBehind_0 rfl (lv_at hl 2 rfl) ?_
  refine lv_if_eq (tgt := 15) hx hb dX8_whereBehind_1 (by decide) (fun cn_1 => ?_) (fun cn_1 => ?_)
  · skip
    have cn_1 : b = 0 := (nI_eq (a := b) (b := 0) (by omega) (by omega)).mp cn_1
    have hb0 := cn_1
    refine lv_iload_n hx hb dX8_whereBehind_15 rfl (lv_at hl 1 rfl) ?_
    refine lv_goto (tgt := 27) hx hb dX8_whereBehind_16 (by decide) ?_
    subst hQ
    exact W.iret (v := nI t) hx hb hr (fun tz htz hWz => ⟨⟨nI t, (), rfl, by first | (rw [hb0]; rfl) | (rw [zm_host, if_pos hA]) | (rw [zm_host, if_neg (by omega)]), trivial⟩, hS.F htz⟩) hS.2.2 dX8_whereBehind_27
  · skip
    have cn_1 : ¬ (b = 0) := fun hz => cn_1 ((nI_eq (a := b) (b := 0) (by omega) (by omega)).mpr hz)
    have hb0 := cn_1
    obtain ⟨r, rfl⟩ : ∃ r, b = r + 1 := ⟨b - 1, by omega⟩
    refine lv_aload_n hx hb dX8_whereBehind_4 rfl (lv_at hl 0 rfl) ?_
    refine lv_iload_n hx hb dX8_whereBehind_5 rfl (lv_at hl 1 rfl) ?_
    refine lv_iload_n hx hb dX8_whereBehind_6 rfl (lv_at hl 2 rfl) ?_
    refine lv_iconst (v := nI 1) hx hb dX8_whereBehind_7 (by rfl) ?_
    refine lv_isub hx hb dX8_whereBehind_8 ?_
    refine zr_ti (y := nI r) (zn_pred _) ?_
    refine zr_ci hP hS (va_runV (As := [.int (nI t), .int (nI r)]) (rest := []) ⟨hx, hb, hml, hown, hts⟩ (c_X8_isHome l D E m0 w0 w1 w2 w3 w4 w5 w6 w7 w8 w9 ik tx he fa cl wv N G P t r (hvg) (by omega) (by omega)) (cwV 2 hts gX8_whereBehind_X8_isHome rfl rfl rfl (by decide +kernel) ⟨Nat.le_of_ble_eq_true rfl, Nat.le_of_ble_eq_true rfl⟩) (zr_V hK (hP.sub (ws' := [(m0, .inr (6, [.ref w0, .ref w1, .ref w2, .int ik, .ref w3, .int (nI tx), .int he, .int fa, .ref w4, .ref w5, .int (nI cl), .ref w6, .ref w7, .ref w8, .ref w9])), (w0, .inl (E 0, 137, .inl wv))]) [0, 1] rfl) (ci := 6) (q0 := 0) rfl rfl) rfl rfl hl.1 rfl (lv_room (Nat.le_of_ble_eq_true rfl)) dX8_whereBehind_9 ⟨Nat.zero_le _, Nat.zero_le _⟩) (fun r_2 H locs hw_3 hP hS => ?_)
    rcases hw_3 with ⟨rfl, hw_3⟩ | ⟨rfl, hw_3⟩
    · skip
      have hA := hw_3
      refine zr_ti (y := nI 1) rfl ?_
      refine lv_if_eq (tgt := 19) hx hb dX8_whereBehind_12 (by decide) (fun cn_4 => ?_) (fun cn_4 => ?_)
      · skip
        exact absurd cn_4 (by decide)
      · skip
        refine lv_iload_n hx hb dX8_whereBehind_15 rfl (lv_at hl 1 rfl) ?_
        refine lv_goto (tgt := 27) hx hb dX8_whereBehind_16 (by decide) ?_
        subst hQ
        exact W.iret (v := nI t) hx hb hr (fun tz htz hWz => ⟨⟨nI t, (), rfl, by first | (rw [hb0]; rfl) | (rw [zm_host, if_pos hA]) | (rw [zm_host, if_neg (by omega)]), trivial⟩, hS.F htz⟩) hS.2.2 dX8_whereBehind_27
    · skip
      have hA := hw_3
      refine zr_ti (y := nI 0) rfl ?_
      refine lv_if_eq (tgt := 19) hx hb dX8_whereBehind_12 (by decide) (fun cn_5 => ?_) (fun cn_5 => ?_)
      · skip
        refine lv_aload_n hx hb dX8_whereBehind_19 rfl (lv_at hl 0 rfl) ?_
        refine lv_iload_n hx hb dX8_whereBehind_20 rfl (lv_at hl 1 rfl) ?_
        refine lv_iload_n hx hb dX8_whereBehind_21 rfl (lv_at hl 2 rfl) ?_
        refine lv_iconst (v := nI 1) hx hb dX8_whereBehind_22 (by rfl) ?_
        refine lv_isub hx hb dX8_whereBehind_23 ?_
        refine zr_ti (y := nI r) (zn_pred _) ?_
        refine zr_ci hP hS (va_runV (As := [.int (nI t), .int (nI r)]) (rest := []) ⟨hx, hb, hml, hown, hts⟩ (c_X8_meets l D E m0 w0 w1 w2 w3 w4 w5 w6 w7 w8 w9 ik tx he fa cl wv N G P t r (hvg) (by omega) (by omega)) (cwV 2 hts gX8_whereBehind_X8_meets rfl rfl rfl (by decide +kernel) ⟨Nat.le_of_ble_eq_true rfl, Nat.le_of_ble_eq_true rfl⟩) (zr_V hK (hP.sub (ws' := [(m0, .inr (6, [.ref w0, .ref w1, .ref w2, .int ik, .ref w3, .int (nI tx), .int he, .int fa, .ref w4, .ref w5, .int (nI cl), .ref w6, .ref w7, .ref w8, .ref w9])), (w0, .inl (E 0, 137, .inl wv))]) [0, 1] rfl) (ci := 6) (q0 := 0) rfl rfl) rfl rfl hl.1 rfl (lv_room (Nat.le_of_ble_eq_true rfl)) dX8_whereBehind_24 ⟨Nat.zero_le _, Nat.zero_le _⟩) (fun r_6 H locs hw_7 hP hS => ?_)
        subst hw_7
        subst hQ
        exact W.iret (v := nI (zm_rv G P t r)) hx hb hr (fun tz htz hWz => ⟨⟨nI (zm_rv G P t r), (), rfl, by first | (rw [hb0]; rfl) | (rw [zm_host, if_pos hA]) | (rw [zm_host, if_neg (by omega)]), trivial⟩, hS.F htz⟩) hS.2.2 dX8_whereBehind_27
      · skip
        exact absurd cn_5 (by decide)

set_option maxHeartbeats 4000000 in
set_option maxRecDepth 100000 in
theorem c_X8_wayOf (l : Launch) (D : va_G) (E : Nat → ClassId) (m0 : Nat) (w0 : Nat) (w1 : Nat) (w2 : Nat) (w3 : Nat) (w4 : Nat) (w5 : Nat) (w6 : Nat) (w7 : Nat) (w8 : Nat) (w9 : Nat) (ik : Int32) (tx : Nat) (he : Int32) (fa : Int32) (cl : Nat) (wv : Nat → Int32) (N : Nat) (G : Nat → Nat → Nat) (P : Nat → Nat → Nat) (X : Nat → Nat) (Y : Nat → Nat) (t : Nat) (r : Nat) (hvg : zv_g N G P wv) (hxy : zv_xy X Y wv) (ht : t < N) (hr0 : r < N - 1) : Met l yX8_wayOf wsX8_wayOf ({ frames := 3, cells := 0, slots := 0, locals := 68 }) (zr_P D E [.ref m0, .int (nI t), .int (nI r)] [(m0, .inr (6, [.ref w0, .ref w1, .ref w2, .int ik, .ref w3, .int (nI tx), .int he, .int fa, .ref w4, .ref w5, .int (nI cl), .ref w6, .ref w7, .ref w8, .ref w9])), (w0, .inl (E 0, 137, .inl wv))]) (zr_Qi (fun zv => zv = nI (zm_way G P X Y t r))) 0 0 (fun _ => False) := by
  refine Met.ofW (cc := cX8_wayOf) (maxL := 3) (ret := (some .int)) (by decide) rfl ?_
  intro p e s m args below meth c s₁ Bz hml hv
  obtain ⟨rfl, hP, hK⟩ := hv
  have hx := Bz.exec
  have hb := Bz.bytes
  have hr := Bz.returns
  have hts := atoms_spec (ws := wsX8_wayOf) Bz.pre
  have hown : s.vm.findClass RX8 = some m.cls := findClass_of_methodNamed Bz.named
  have hlocks := Bz.notSynchronized
  have hP : va_P D vwCl [(m0, .inr (6, [.ref w0, .ref w1, .ref w2, .int ik, .ref w3, .int (nI tx), .int he, .int fa, .ref w4, .ref w5, .int (nI cl), .ref w6, .ref w7, .ref w8, .ref w9])), (w0, .inl (E 0, 137, .inl wv))] s.heap := hP
  have hS : va_S (fun _ : Nat => False) s.heap s.heap [] := va_S.rf
  have hl := lv_entry ([.ref m0, .int (nI t), .int (nI r)]) (n := 3) (Nat.le_of_ble_eq_true rfl)
  rw [lg_entry_eq]
  generalize (lg_sl ([.ref m0, .int (nI t), .int (nI r)]) ++ List.replicate (3 - (lg_sl ([.ref m0, .int (nI t), .int (nI r)])).length) Slot.unset).toArray = ls at hl ⊢
  have hl : lv_has ls 3 [(0, .ref m0), (1, .int (nI t)), (2, .int (nI r))] := hl
  refine zr_nQ (fun Q hQ => ?_)
  have hok := hvg.1
  have hN := hok.1
  have hvn := hvg.2.1
  have hgr := zm_gr_of hxy
  have hh1 := zm_host_lt hok ht r (by omega)
  have hh2 := zm_host_lt hok ht (r + 1) (by omega)
  refine lv_aload_n hx hb dX8_wayOf_0 rfl (lv_at hl 0 rfl) ?_
  refine lv_aload_n hx hb dX8_wayOf_1 rfl (lv_at hl 0 rfl) ?_
  refine lv_iload_n hx hb dX8_wayOf_2 rfl (lv_at hl 1 rfl) ?_
  refine lv_iload_n hx hb dX8_wayOf_3 rfl (lv_at hl 2 rfl) ?_
  refine zr_ci hP hS (va_runV (As := [.int (nI t), .int (nI r)]) (rest := [.ref m0]) ⟨hx, hb, hml, hown, hts⟩ (c_X8_whereBehind l D E m0 w0 w1 w2 w3 w4 w5 w6 w7 w8 w9 ik tx he fa cl wv N G P t r (hvg) (by omega) (by omega)) (cwV 2 hts gX8_wayOf_X8_whereBehind rfl rfl rfl (by decide +kernel) ⟨Nat.le_of_ble_eq_true rfl, Nat.le_of_ble_eq_true rfl⟩) (zr_V hK (hP.sub (ws' := [(m0, .inr (6, [.ref w0, .ref w1, .ref w2, .int ik, .ref w3, .int (nI tx), .int he, .int fa, .ref w4, .ref w5, .int (nI cl), .ref w6, .ref w7, .ref w8, .ref w9])), (w0, .inl (E 0, 137, .inl wv))]) [0, 1] rfl) (ci := 6) (q0 := 0) rfl rfl) rfl rfl hl.1 rfl (lv_room (Nat.le_of_ble_eq_true rfl)) dX8_wayOf_4 ⟨Nat.zero_le _, Nat.zero_le _⟩) (fun r_1 H locs hw_2 hP hS => ?_)
  subst hw_2
  refine lv_aload_n hx hb dX8_wayOf_7 rfl (lv_at hl 0 rfl) ?_
  refine lv_iload_n hx hb dX8_wayOf_8 rfl (lv_at hl 1 rfl) ?_
  refine lv_iload_n hx hb dX8_wayOf_9 rfl (lv_at hl 2 rfl) ?_
  refine lv_iconst (v := nI 1) hx hb dX8_wayOf_10 (by rfl) ?_
  refine lv_iadd hx hb dX8_wayOf_11 ?_
  refine zr_ti (y := nI (r + 1)) (nI_add _ _) ?_
  refine zr_ci hP hS (va_runV (As := [.int (nI t), .int (nI (r + 1))]) (rest := [.int (nI (zm_host G P t r)), .ref m0]) ⟨hx, hb, hml, hown, hts⟩ (c_X8_whereBehind l D E m0 w0 w1 w2 w3 w4 w5 w6 w7 w8 w9 ik tx he fa cl wv N G P t (r + 1) (hvg) (by omega) (by omega)) (cwV 2 hts gX8_wayOf_X8_whereBehind rfl rfl rfl (by decide +kernel) ⟨Nat.le_of_ble_eq_true rfl, Nat.le_of_ble_eq_true rfl⟩) (zr_V hK (hP.sub (ws' := [(m0, .inr (6, [.ref w0, .ref w1, .ref w2, .int ik, .ref w3, .int (nI tx), .int he, .int fa, .ref w4, .ref w5, .int (nI cl), .ref w6, .ref w7, .ref w8, .ref w9])), (w0, .inl (E 0, 137, .inl wv))]) [0, 1] rfl) (ci := 6) (q0 := 0) rfl rfl) rfl rfl hl.1 rfl (lv_room (Nat.le_of_ble_eq_true rfl)) dX8_wayOf_12 ⟨Nat.zero_le _, Nat.zero_le _⟩) (fun r_3 H locs hw_4 hP hS => ?_)
  subst hw_4
  refine zr_ci hP hS (va_runV (As := [.int (nI (zm_host G P t r)), .int (nI (zm_host G P t (r + 1)))]) (rest := []) ⟨hx, hb, hml, hown, hts⟩ (c_X8_far l D E m0 w0 w1 w2 w3 w4 w5 w6 w7 w8 w9 ik tx he fa cl wv N G P X Y (zm_host G P t r) (zm_host G P t (r + 1)) (hvg) (hxy) (by omega) (by omega)) (cwV 2 hts gX8_wayOf_X8_far rfl rfl rfl (by decide +kernel) ⟨Nat.le_of_ble_eq_true rfl, Nat.le_of_ble_eq_true rfl⟩) (zr_V hK (hP.sub (ws' := [(m0, .inr (6, [.ref w0, .ref w1, .ref w2, .int ik, .ref w3, .int (nI tx), .int he, .int fa, .ref w4, .ref w5, .int (nI cl), .ref w6, .ref w7, .ref w8, .ref w9])), (w0, .inl (E 0, 137, .inl wv))]) [0, 1] rfl) (ci := 6) (q0 := 0) rfl rfl) rfl rfl hl.1 rfl (lv_room (Nat.le_of_ble_eq_true rfl)) dX8_wayOf_15 ⟨Nat.zero_le _, Nat.zero_le _⟩) (fun r_5 H locs hw_6 hP hS => ?_)
  subst hw_6
  subst hQ
  exact W.iret (v := nI (zm_far X Y (zm_host G P t r) (zm_host G P t (r + 1)))) hx hb hr (fun tz htz hWz => ⟨⟨nI (zm_far X Y (zm_host G P t r) (zm_host G P t (r + 1))), (), rfl, rfl, trivial⟩, hS.F htz⟩) hS.2.2 dX8_wayOf_18

set_option maxHeartbeats 4000000 in
set_option maxRecDepth 100000 in
theorem c_X8_milesOf (l : Launch) (D : va_G) (E : Nat → ClassId) (m0 : Nat) (w0 : Nat) (w1 : Nat) (w2 : Nat) (w3 : Nat) (w4 : Nat) (w5 : Nat) (w6 : Nat) (w7 : Nat) (w8 : Nat) (w9 : Nat) (ik : Int32) (tx : Nat) (he : Int32) (fa : Int32) (cl : Nat) (wv : Nat → Int32) (N : Nat) (G : Nat → Nat → Nat) (P : Nat → Nat → Nat) (X : Nat → Nat) (Y : Nat → Nat) (t : Nat) (hvg : zv_g N G P wv) (hxy : zv_xy X Y wv) (ht : t < N) : Met l yX8_milesOf wsX8_milesOf ({ frames := 4, cells := 0, slots := 0, locals := 90 }) (zr_P D E [.ref m0, .int (nI t)] [(m0, .inr (6, [.ref w0, .ref w1, .ref w2, .int ik, .ref w3, .int (nI tx), .int he, .int fa, .ref w4, .ref w5, .int (nI cl), .ref w6, .ref w7, .ref w8, .ref w9])), (w0, .inl (E 0, 137, .inl wv))]) (zr_Qi (fun zv => zv = nI (zm_miles N G P X Y t))) 0 0 (fun _ => False) := by
  refine Met.ofW (cc := cX8_milesOf) (maxL := 4) (ret := (some .int)) (by decide) rfl ?_
  intro p e s m args below meth c s₁ Bz hml hv
  obtain ⟨rfl, hP, hK⟩ := hv
  have hx := Bz.exec
  have hb := Bz.bytes
  have hr := Bz.returns
  have hts := atoms_spec (ws := wsX8_milesOf) Bz.pre
  have hown : s.vm.findClass RX8 = some m.cls := findClass_of_methodNamed Bz.named
  have hlocks := Bz.notSynchronized
  have hP : va_P D vwCl [(m0, .inr (6, [.ref w0, .ref w1, .ref w2, .int ik, .ref w3, .int (nI tx), .int he, .int fa, .ref w4, .ref w5, .int (nI cl), .ref w6, .ref w7, .ref w8, .ref w9])), (w0, .inl (E 0, 137, .inl wv))] s.heap := hP
  have hS : va_S (fun _ : Nat => False) s.heap s.heap [] := va_S.rf
  have hl := lv_entry ([.ref m0, .int (nI t)]) (n := 4) (Nat.le_of_ble_eq_true rfl)
  rw [lg_entry_eq]
  generalize (lg_sl ([.ref m0, .int (nI t)]) ++ List.replicate (4 - (lg_sl ([.ref m0, .int (nI t)])).length) Slot.unset).toArray = ls at hl ⊢
  have hl : lv_has ls 4 [(0, .ref m0), (1, .int (nI t))] := hl
  refine zr_nQ (fun Q hQ => ?_)
  have hok := hvg.1
  have hN := hok.1
  have hvn := hvg.2.1
  have hgr := zm_gr_of hxy
  have hh1 := zm_host_lt hok ht (N - 1) (by omega)
  have hf0 := zm_far_le hgr (i := zm_host G P t (N - 1)) (j := t) (by omega) (by omega)
  refine lv_aload_n hx hb dX8_milesOf_0 rfl (lv_at hl 0 rfl) ?_
  refine lv_aload_n hx hb dX8_milesOf_1 rfl (lv_at hl 0 rfl) ?_
  refine lv_iload_n hx hb dX8_milesOf_2 rfl (lv_at hl 1 rfl) ?_
  refine lv_aload_n hx hb dX8_milesOf_3 rfl (lv_at hl 0 rfl) ?_
  refine zr_ci hP hS (va_runV (As := []) (rest := [.int (nI t), .ref m0, .ref m0]) ⟨hx, hb, hml, hown, hts⟩ (c_X8_rounds l D E m0 w0 w1 w2 w3 w4 w5 w6 w7 w8 w9 ik tx he fa cl wv N (hvn) (hN)) (cwV 0 hts gX8_milesOf_X8_rounds rfl rfl rfl (by decide +kernel) ⟨Nat.le_of_ble_eq_true rfl, Nat.le_of_ble_eq_true rfl⟩) (zr_V hK (hP.sub (ws' := [(m0, .inr (6, [.ref w0, .ref w1, .ref w2, .int ik, .ref w3, .int (nI tx), .int he, .int fa, .ref w4, .ref w5, .int (nI cl), .ref w6, .ref w7, .ref w8, .ref w9])), (w0, .inl (E 0, 137, .inl wv))]) [0, 1] rfl) (ci := 6) (q0 := 0) rfl rfl) rfl rfl hl.1 rfl (lv_room (Nat.le_of_ble_eq_true rfl)) dX8_milesOf_4 ⟨Nat.zero_le _, Nat.zero_le _⟩) (fun r_1 H locs hw_2 hP hS => ?_)
  subst hw_2
  refine zr_ci hP hS (va_runV (As := [.int (nI t), .int (nI (N - 1))]) (rest := [.ref m0]) ⟨hx, hb, hml, hown, hts⟩ (c_X8_whereBehind l D E m0 w0 w1 w2 w3 w4 w5 w6 w7 w8 w9 ik tx he fa cl wv N G P t (N - 1) (hvg) (by omega) (by omega)) (cwV 2 hts gX8_milesOf_X8_whereBehind rfl rfl rfl (by decide +kernel) ⟨Nat.le_of_ble_eq_true rfl, Nat.le_of_ble_eq_true rfl⟩) (zr_V hK (hP.sub (ws' := [(m0, .inr (6, [.ref w0, .ref w1, .ref w2, .int ik, .ref w3, .int (nI tx), .int he, .int fa, .ref w4, .ref w5, .int (nI cl), .ref w6, .ref w7, .ref w8, .ref w9])), (w0, .inl (E 0, 137, .inl wv))]) [0, 1] rfl) (ci := 6) (q0 := 0) rfl rfl) rfl rfl hl.1 rfl (lv_room (Nat.le_of_ble_eq_true rfl)) dX8_milesOf_7 ⟨Nat.zero_le _, Nat.zero_le _⟩) (fun r_3 H locs hw_4 hP hS => ?_)
  subst hw_4
  refine lv_iload_n hx hb dX8_milesOf_10 rfl (lv_at hl 1 rfl) ?_
  refine zr_ci hP hS (va_runV (As := [.int (nI (zm_host G P t (N - 1))), .int (nI t)]) (rest := []) ⟨hx, hb, hml, hown, hts⟩ (c_X8_far l D E m0 w0 w1 w2 w3 w4 w5 w6 w7 w8 w9 ik tx he fa cl wv N G P X Y (zm_host G P t (N - 1)) t (hvg) (hxy) (by omega) (by omega)) (cwV 2 hts gX8_milesOf_X8_far rfl rfl rfl (by decide +kernel) ⟨Nat.le_of_ble_eq_true rfl, Nat.le_of_ble_eq_true rfl⟩) (zr_V hK (hP.sub (ws' := [(m0, .inr (6, [.ref w0, .ref w1, .ref w2, .int ik, .ref w3, .int (nI tx), .int he, .int fa, .ref w4, .ref w5, .int (nI cl), .ref w6, .ref w7, .ref w8, .ref w9])), (w0, .inl (E 0, 137, .inl wv))]) [0, 1] rfl) (ci := 6) (q0 := 0) rfl rfl) rfl rfl hl.1 rfl (lv_room (Nat.le_of_ble_eq_true rfl)) dX8_milesOf_11 ⟨Nat.zero_le _, Nat.zero_le _⟩) (fun r_5 H locs hw_6 hP hS => ?_)
  subst hw_6
  refine lv_istore_n (lv' := [(2, .int (nI (zm_far X Y (zm_host G P t (N - 1)) t))), (0, .ref m0), (1, .int (nI t))]) hx hb dX8_milesOf_14 rfl hl (by decide) rfl (fun ls hl => ?_)
  refine lv_iconst (v := nI 0) hx hb dX8_milesOf_15 (by rfl) ?_
  refine lv_istore_n (lv' := [(3, .int (nI 0)), (2, .int (nI (zm_far X Y (zm_host G P t (N - 1)) t))), (0, .ref m0), (1, .int (nI t))]) hx hb dX8_milesOf_16 rfl hl (by decide) rfl (fun ls hl => ?_)
  suffices KL17 : ∀ (kz : Nat) (i : Nat) (q : Nat) (H : Heap) (locs : List Loc) (ls : Array Slot), (N - i) < kz → (q = zm_far X Y (zm_host G P t (N - 1)) t + zm_sum (zm_way G P X Y t) i) → (i ≤ N - 1) → va_P D vwCl [(m0, .inr (6, [.ref w0, .ref w1, .ref w2, .int ik, .ref w3, .int (nI tx), .int he, .int fa, .ref w4, .ref w5, .int (nI cl), .ref w6, .ref w7, .ref w8, .ref w9])), (w0, .inl (E 0, 137, .inl wv))] H → va_S (fun _ : Nat => False) s.heap H locs → lv_has ls 4 [(0, .ref m0), (1, .int (nI t)), (2, .int (nI q)), (3, .int (nI i))] → W p l e (headSpec wsX8_milesOf ({ frames := 4, cells := 0, slots := 0, locals := 90 })).room s m ([.ref m0, .int (nI t)] : List Value).toArray below meth c H locs 0 0 Q (F0 m 17 ls []) from
    KL17 _ 0 (zm_far X Y (zm_host G P t (N - 1)) t) _ _ ls (Nat.lt_succ_self _) (rfl) (by omega) hP hS (lv_sub hl [2, 3, 1, 0] rfl)
  clear hP hS hl
  intro kz
  induction kz with
  | zero => intro i q H locs ls hkz; exact absurd hkz (Nat.not_lt_zero _)
  | succ kz ih17 =>
    intro i q H locs ls hkz hq hi hP hS hl
    refine lv_iload_n hx hb dX8_milesOf_17 rfl (lv_at hl 3 rfl) ?_
    refine lv_aload_n hx hb dX8_milesOf_18 rfl (lv_at hl 0 rfl) ?_
    refine zr_ci hP hS (va_runV (As := []) (rest := [.int (nI i)]) ⟨hx, hb, hml, hown, hts⟩ (c_X8_rounds l D E m0 w0 w1 w2 w3 w4 w5 w6 w7 w8 w9 ik tx he fa cl wv N (hvn) (hN)) (cwV 0 hts gX8_milesOf_X8_rounds rfl rfl rfl (by decide +kernel) ⟨Nat.le_of_ble_eq_true rfl, Nat.le_of_ble_eq_true rfl⟩) (zr_V hK (hP.sub (ws' := [(m0, .inr (6, [.ref w0, .ref w1, .ref w2, .int ik, .ref w3, .int (nI tx), .int he, .int fa, .ref w4, .ref w5, .int (nI cl), .ref w6, .ref w7, .ref w8, .ref w9])), (w0, .inl (E 0, 137, .inl wv))]) [0, 1] rfl) (ci := 6) (q0 := 0) rfl rfl) rfl rfl hl.1 rfl (lv_room (Nat.le_of_ble_eq_true rfl)) dX8_milesOf_19 ⟨Nat.zero_le _, Nat.zero_le _⟩) (fun r_7 H locs hw_8 hP hS => ?_)
    subst hw_8
    refine lv_icmp_ge (tgt := 40) hx hb dX8_milesOf_22 (by decide) (fun cn_9 => ?_) (fun cn_9 => ?_)
    · skip
      have cn_9 : N - 1 ≤ i := (nI_leI (a := N - 1) (b := i) (by omega) (by omega)).mp cn_9
      have hie : i = N - 1 := by omega
      refine lv_iload_n hx hb dX8_milesOf_40 rfl (lv_at hl 2 rfl) ?_
      subst hQ
      exact W.iret (v := nI q) hx hb hr (fun tz htz hWz => ⟨⟨nI q, (), rfl, by rw [hq, hie]; rfl, trivial⟩, hS.F htz⟩) hS.2.2 dX8_milesOf_41
    · skip
      have cn_9 : ¬ (N - 1 ≤ i) := fun hz => cn_9 ((nI_leI (a := N - 1) (b := i) (by omega) (by omega)).mpr hz)
      refine lv_iload_n hx hb dX8_milesOf_25 rfl (lv_at hl 2 rfl) ?_
      refine lv_aload_n hx hb dX8_milesOf_26 rfl (lv_at hl 0 rfl) ?_
      refine lv_iload_n hx hb dX8_milesOf_27 rfl (lv_at hl 1 rfl) ?_
      refine lv_iload_n hx hb dX8_milesOf_28 rfl (lv_at hl 3 rfl) ?_
      refine zr_ci hP hS (va_runV (As := [.int (nI t), .int (nI i)]) (rest := [.int (nI q)]) ⟨hx, hb, hml, hown, hts⟩ (c_X8_wayOf l D E m0 w0 w1 w2 w3 w4 w5 w6 w7 w8 w9 ik tx he fa cl wv N G P X Y t i (hvg) (hxy) (by omega) (by omega)) (cwV 2 hts gX8_milesOf_X8_wayOf rfl rfl rfl (by decide +kernel) ⟨Nat.le_of_ble_eq_true rfl, Nat.le_of_ble_eq_true rfl⟩) (zr_V hK (hP.sub (ws' := [(m0, .inr (6, [.ref w0, .ref w1, .ref w2, .int ik, .ref w3, .int (nI tx), .int he, .int fa, .ref w4, .ref w5, .int (nI cl), .ref w6, .ref w7, .ref w8, .ref w9])), (w0, .inl (E 0, 137, .inl wv))]) [0, 1] rfl) (ci := 6) (q0 := 0) rfl rfl) rfl rfl hl.1 rfl (lv_room (Nat.le_of_ble_eq_true rfl)) dX8_milesOf_29 ⟨Nat.zero_le _, Nat.zero_le _⟩) (fun r_10 H locs hw_11 hP hS => ?_)
      subst hw_11
      refine lv_iadd hx hb dX8_milesOf_32 ?_
      refine zr_ti (y := nI (q + (zm_way G P X Y t i))) (nI_add _ _) ?_
      refine lv_istore_n (lv' := [(2, .int (nI (q + (zm_way G P X Y t i)))), (0, .ref m0), (1, .int (nI t)), (3, .int (nI i))]) hx hb dX8_milesOf_33 rfl hl (by decide) rfl (fun ls hl => ?_)
      refine lv_iinc (v := nI (i + 1)) (lv' := [(3, .int (nI (i + 1))), (2, .int (nI (q + (zm_way G P X Y t i)))), (0, .ref m0), (1, .int (nI t))]) hx hb dX8_milesOf_34 hl (k := 3) rfl (nI_add _ _) (by decide) rfl (fun ls hl => ?_)
      refine lv_goto (tgt := 17) hx hb dX8_milesOf_37 (by decide) ?_
      have hl : lv_has ls 4 [(0, .ref m0), (1, .int (nI t)), (2, .int (nI (q + (zm_way G P X Y t i)))), (3, .int (nI (i + 1)))] := lv_sub hl [2, 3, 1, 0] rfl
      exact ih17 (i + 1) (q + (zm_way G P X Y t i)) H locs ls (by omega) (by rw [hq, Nat.add_assoc]; rfl) (by omega) hP hS hl

set_option maxHeartbeats 4000000 in
set_option maxRecDepth 100000 in
theorem c_X8_allMiles (l : Launch) (D : va_G) (E : Nat → ClassId) (m0 : Nat) (w0 : Nat) (w1 : Nat) (w2 : Nat) (w3 : Nat) (w4 : Nat) (w5 : Nat) (w6 : Nat) (w7 : Nat) (w8 : Nat) (w9 : Nat) (ik : Int32) (tx : Nat) (he : Int32) (fa : Int32) (cl : Nat) (wv : Nat → Int32) (N : Nat) (G : Nat → Nat → Nat) (P : Nat → Nat → Nat) (X : Nat → Nat) (Y : Nat → Nat) (hvg : zv_g N G P wv) (hxy : zv_xy X Y wv) : Met l yX8_allMiles wsX8_allMiles ({ frames := 5, cells := 0, slots := 0, locals := 113 }) (zr_P D E [.ref m0] [(m0, .inr (6, [.ref w0, .ref w1, .ref w2, .int ik, .ref w3, .int (nI tx), .int he, .int fa, .ref w4, .ref w5, .int (nI cl), .ref w6, .ref w7, .ref w8, .ref w9])), (w0, .inl (E 0, 137, .inl wv))]) (zr_Qi (fun zv => zv = nI (zm_amiles N G P X Y))) 0 0 (fun _ => False) := by
  refine Met.ofW (cc := cX8_allMiles) (maxL := 3) (ret := (some .int)) (by decide) rfl ?_
  intro p e s m args below meth c s₁ Bz hml hv
  obtain ⟨rfl, hP, hK⟩ := hv
  have hx := Bz.exec
  have hb := Bz.bytes
  have hr := Bz.returns
  have hts := atoms_spec (ws := wsX8_allMiles) Bz.pre
  have hown : s.vm.findClass RX8 = some m.cls := findClass_of_methodNamed Bz.named
  have hlocks := Bz.notSynchronized
  have hP : va_P D vwCl [(m0, .inr (6, [.ref w0, .ref w1, .ref w2, .int ik, .ref w3, .int (nI tx), .int he, .int fa, .ref w4, .ref w5, .int (nI cl), .ref w6, .ref w7, .ref w8, .ref w9])), (w0, .inl (E 0, 137, .inl wv))] s.heap := hP
  have hS : va_S (fun _ : Nat => False) s.heap s.heap [] := va_S.rf
  have hl := lv_entry ([.ref m0]) (n := 3) (Nat.le_of_ble_eq_true rfl)
  rw [lg_entry_eq]
  generalize (lg_sl ([.ref m0]) ++ List.replicate (3 - (lg_sl ([.ref m0])).length) Slot.unset).toArray = ls at hl ⊢
  have hl : lv_has ls 3 [(0, .ref m0)] := hl
  refine zr_nQ (fun Q hQ => ?_)
  have hok := hvg.1
  have hN := hok.1
  have hvn := hvg.2.1
  have hgr := zm_gr_of hxy
  refine lv_iconst (v := nI 0) hx hb dX8_allMiles_0 (by rfl) ?_
  refine lv_istore_n (lv' := [(1, .int (nI 0)), (0, .ref m0)]) hx hb dX8_allMiles_1 rfl hl (by decide) rfl (fun ls hl => ?_)
  refine lv_iconst (v := nI 0) hx hb dX8_allMiles_2 (by rfl) ?_
  refine lv_istore_n (lv' := [(2, .int (nI 0)), (1, .int (nI 0)), (0, .ref m0)]) hx hb dX8_allMiles_3 rfl hl (by decide) rfl (fun ls hl => ?_)
  suffices KL4 : ∀ (kz : Nat) (i : Nat) (q : Nat) (H : Heap) (locs : List Loc) (ls : Array Slot), (N - i) < kz → (q = zm_sum (zm_miles N G P X Y) i) → (i ≤ N) → va_P D vwCl [(m0, .inr (6, [.ref w0, .ref w1, .ref w2, .int ik, .ref w3, .int (nI tx), .int he, .int fa, .ref w4, .ref w5, .int (nI cl), .ref w6, .ref w7, .ref w8, .ref w9])), (w0, .inl (E 0, 137, .inl wv))] H → va_S (fun _ : Nat => False) s.heap H locs → lv_has ls 3 [(0, .ref m0), (1, .int (nI q)), (2, .int (nI i))] → W p l e (headSpec wsX8_allMiles ({ frames := 5, cells := 0, slots := 0, locals := 113 })).room s m ([.ref m0] : List Value).toArray below meth c H locs 0 0 Q (F0 m 4 ls []) from
    KL4 _ 0 0 _ _ ls (Nat.lt_succ_self _) (rfl) (by omega) hP hS (lv_sub hl [2, 1, 0] rfl)
  clear hP hS hl
  intro kz
  induction kz with
  | zero => intro i q H locs ls hkz; exact absurd hkz (Nat.not_lt_zero _)
  | succ kz ih4 =>
    intro i q H locs ls hkz hq hi hP hS hl
    refine lv_iload_n hx hb dX8_allMiles_4 rfl (lv_at hl 2 rfl) ?_
    refine lv_aload_n hx hb dX8_allMiles_5 rfl (lv_at hl 0 rfl) ?_
    refine va_get (D := D) (ci := 6) (v := .ref w0) (C := RX8) (T := TX8) (N := 15) hx hb hts (by decide +kernel) hown hK.1 hP 0 rfl rfl 0 (by decide) (hts (.fieldLink RX8 11 "HomeRoundsModel" "w" "[I") (by decide +kernel)) (fun _ h9 => h9) rfl dX8_allMiles_6 ?_
    refine lv_iconst (v := nI 0) hx hb dX8_allMiles_9 (by rfl) ?_
    refine va_iald hx hb hK.1 hP 1 0 rfl rfl (vp_in_nI (by omega) (by omega)) dX8_allMiles_10 ?_
    refine zr_ti (y := nI N) ((congrArg wv (nI_clamp (by omega))).trans (hvn)) ?_
    refine lv_icmp_ge (tgt := 28) hx hb dX8_allMiles_11 (by decide) (fun cn_1 => ?_) (fun cn_1 => ?_)
    · skip
      have cn_1 : N ≤ i := (nI_leI (a := N) (b := i) (by omega) (by omega)).mp cn_1
      have hie : i = N := by omega
      refine lv_iload_n hx hb dX8_allMiles_28 rfl (lv_at hl 1 rfl) ?_
      subst hQ
      exact W.iret (v := nI q) hx hb hr (fun tz htz hWz => ⟨⟨nI q, (), rfl, by rw [hq, hie]; rfl, trivial⟩, hS.F htz⟩) hS.2.2 dX8_allMiles_29
    · skip
      have cn_1 : ¬ (N ≤ i) := fun hz => cn_1 ((nI_leI (a := N) (b := i) (by omega) (by omega)).mpr hz)
      refine lv_iload_n hx hb dX8_allMiles_14 rfl (lv_at hl 1 rfl) ?_
      refine lv_aload_n hx hb dX8_allMiles_15 rfl (lv_at hl 0 rfl) ?_
      refine lv_iload_n hx hb dX8_allMiles_16 rfl (lv_at hl 2 rfl) ?_
      refine zr_ci hP hS (va_runV (As := [.int (nI i)]) (rest := [.int (nI q)]) ⟨hx, hb, hml, hown, hts⟩ (c_X8_milesOf l D E m0 w0 w1 w2 w3 w4 w5 w6 w7 w8 w9 ik tx he fa cl wv N G P X Y i (hvg) (hxy) (by omega)) (cwV 1 hts gX8_allMiles_X8_milesOf rfl rfl rfl (by decide +kernel) ⟨Nat.le_of_ble_eq_true rfl, Nat.le_of_ble_eq_true rfl⟩) (zr_V hK (hP.sub (ws' := [(m0, .inr (6, [.ref w0, .ref w1, .ref w2, .int ik, .ref w3, .int (nI tx), .int he, .int fa, .ref w4, .ref w5, .int (nI cl), .ref w6, .ref w7, .ref w8, .ref w9])), (w0, .inl (E 0, 137, .inl wv))]) [0, 1] rfl) (ci := 6) (q0 := 0) rfl rfl) rfl rfl hl.1 rfl (lv_room (Nat.le_of_ble_eq_true rfl)) dX8_allMiles_17 ⟨Nat.zero_le _, Nat.zero_le _⟩) (fun r_2 H locs hw_3 hP hS => ?_)
      subst hw_3
      refine lv_iadd hx hb dX8_allMiles_20 ?_
      refine zr_ti (y := nI (q + (zm_miles N G P X Y i))) (nI_add _ _) ?_
      refine lv_istore_n (lv' := [(1, .int (nI (q + (zm_miles N G P X Y i)))), (0, .ref m0), (2, .int (nI i))]) hx hb dX8_allMiles_21 rfl hl (by decide) rfl (fun ls hl => ?_)
      refine lv_iinc (v := nI (i + 1)) (lv' := [(2, .int (nI (i + 1))), (1, .int (nI (q + (zm_miles N G P X Y i)))), (0, .ref m0)]) hx hb dX8_allMiles_22 hl (k := 2) rfl (nI_add _ _) (by decide) rfl (fun ls hl => ?_)
      refine lv_goto (tgt := 4) hx hb dX8_allMiles_25 (by decide) ?_
      have hl : lv_has ls 3 [(0, .ref m0), (1, .int (nI (q + (zm_miles N G P X Y i)))), (2, .int (nI (i + 1)))] := lv_sub hl [2, 1, 0] rfl
      exact ih4 (i + 1) (q + (zm_miles N G P X Y i)) H locs ls (by omega) (by rw [hq]; rfl) (by omega) hP hS hl

set_option maxHeartbeats 4000000 in
set_option maxRecDepth 100000 in
theorem c_X8_baseOf (l : Launch) (D : va_G) (E : Nat → ClassId) (m0 : Nat) (w0 : Nat) (w1 : Nat) (w2 : Nat) (w3 : Nat) (w4 : Nat) (w5 : Nat) (w6 : Nat) (w7 : Nat) (w8 : Nat) (w9 : Nat) (ik : Int32) (tx : Nat) (he : Int32) (fa : Int32) (cl : Nat) (wv : Nat → Int32) (N : Nat) (r : Nat) (kd : Nat) (hvn : wv 0 = nI N) (hN : N = 4 ∨ N = 6) (hr0 : r < 2 * (N - 1)) (hkd : kd < 3) : Met l yX8_baseOf wsX8_baseOf ({ frames := 1, cells := 0, slots := 0, locals := 20 }) (zr_P D E [.ref m0, .int (nI r), .int (nI kd)] [(m0, .inr (6, [.ref w0, .ref w1, .ref w2, .int ik, .ref w3, .int (nI tx), .int he, .int fa, .ref w4, .ref w5, .int (nI cl), .ref w6, .ref w7, .ref w8, .ref w9])), (w0, .inl (E 0, 137, .inl wv))]) (zr_Qi (fun zv => zv = nI (zm_half N kd r))) 0 0 (fun _ => False) := by
  refine Met.ofW (cc := cX8_baseOf) (maxL := 4) (ret := (some .int)) (by decide) rfl ?_
  intro p e s m args below meth c s₁ Bz hml hv
  obtain ⟨rfl, hP, hK⟩ := hv
  have hx := Bz.exec
  have hb := Bz.bytes
  have hr := Bz.returns
  have hts := atoms_spec (ws := wsX8_baseOf) Bz.pre
  have hown : s.vm.findClass RX8 = some m.cls := findClass_of_methodNamed Bz.named
  have hlocks := Bz.notSynchronized
  have hP : va_P D vwCl [(m0, .inr (6, [.ref w0, .ref w1, .ref w2, .int ik, .ref w3, .int (nI tx), .int he, .int fa, .ref w4, .ref w5, .int (nI cl), .ref w6, .ref w7, .ref w8, .ref w9])), (w0, .inl (E 0, 137, .inl wv))] s.heap := hP
  have hS : va_S (fun _ : Nat => False) s.heap s.heap [] := va_S.rf
  have hl := lv_entry ([.ref m0, .int (nI r), .int (nI kd)]) (n := 4) (Nat.le_of_ble_eq_true rfl)
  rw [lg_entry_eq]
  generalize (lg_sl ([.ref m0, .int (nI r), .int (nI kd)]) ++ List.replicate (4 - (lg_sl ([.ref m0, .int (nI r), .int (nI kd)])).length) Slot.unset).toArray = ls at hl ⊢
  have hl : lv_has ls 4 [(0, .ref m0), (1, .int (nI r)), (2, .int (nI kd))] := hl
  refine zr_nQ (fun Q hQ => ?_)
  refine lv_iload_n hx hb dX8_baseOf_0 rfl (lv_at hl 1 rfl) ?_
  refine lv_aload_n hx hb dX8_baseOf_1 rfl (lv_at hl 0 rfl) ?_
  refine zr_ci hP hS (va_runV (As := []) (rest := [.int (nI r)]) ⟨hx, hb, hml, hown, hts⟩ (c_X8_rounds l D E m0 w0 w1 w2 w3 w4 w5 w6 w7 w8 w9 ik tx he fa cl wv N (hvn) (hN)) (cwV 0 hts gX8_baseOf_X8_rounds rfl rfl rfl (by decide +kernel) ⟨Nat.le_of_ble_eq_true rfl, Nat.le_of_ble_eq_true rfl⟩) (zr_V hK (hP.sub (ws' := [(m0, .inr (6, [.ref w0, .ref w1, .ref w2, .int ik, .ref w3, .int (nI tx), .int he, .int fa, .ref w4, .ref w5, .int (nI cl), .ref w6, .ref w7, .ref w8, .ref w9])), (w0, .inl (E 0, 137, .inl wv))]) [0, 1] rfl) (ci := 6) (q0 := 0) rfl rfl) rfl rfl hl.1 rfl (lv_room (Nat.le_of_ble_eq_true rfl)) dX8_baseOf_2 ⟨Nat.zero_le _, Nat.zero_le _⟩) (fun r_1 H locs hw_2 hP hS => ?_)
  subst hw_2
  refine lv_isub hx hb dX8_baseOf_5 ?_
  rcases Nat.lt_or_ge (r) (N - 1) with hlt | hge
  · skip
    refine lv_istore_n (lv' := [(3, .int ((nI r) - (nI (N - 1)))), (0, .ref m0), (1, .int (nI r)), (2, .int (nI kd))]) hx hb dX8_baseOf_6 rfl hl (by decide) rfl (fun ls hl => ?_)
    refine lv_iload_n hx hb dX8_baseOf_7 rfl (lv_at hl 0 rfl) ?_
    refine lv_if_ge (tgt := 13) hx hb dX8_baseOf_8 (by decide) (fun cn_3 => ?_) (fun cn_3 => ?_)
    · skip
      exact absurd cn_3 (zn_sneg (by omega) hlt)
    · skip
      refine lv_iload_n hx hb dX8_baseOf_11 rfl (lv_at hl 2 rfl) ?_
      have hz : nI r = nI (zm_half N kd r) := by
        unfold zm_half; repeat' split
        all_goals first | rfl | (congr 1; omega) | (exfalso; omega)
      subst hQ
      exact W.iret (v := nI r) hx hb hr (fun tz htz hWz => ⟨⟨nI r, (), rfl, hz, trivial⟩, hS.F htz⟩) hS.2.2 dX8_baseOf_12
  · skip
    refine zr_ti (y := nI (r - (N - 1))) (pk_sub hge) ?_
    refine lv_istore_n (lv' := [(3, .int (nI (r - (N - 1)))), (0, .ref m0), (1, .int (nI r)), (2, .int (nI kd))]) hx hb dX8_baseOf_6 rfl hl (by decide) rfl (fun ls hl => ?_)
    refine lv_iload_n hx hb dX8_baseOf_7 rfl (lv_at hl 0 rfl) ?_
    refine lv_if_ge (tgt := 13) hx hb dX8_baseOf_8 (by decide) (fun cn_4 => ?_) (fun cn_4 => ?_)
    · skip
      have cn_4 : 0 ≤ r - (N - 1) := (nI_leI (a := 0) (b := r - (N - 1)) (by omega) (by omega)).mp cn_4
      refine lv_iload_n hx hb dX8_baseOf_13 rfl (lv_at hl 3 rfl) ?_
      refine lv_if_ne (tgt := 21) hx hb dX8_baseOf_14 (by decide) (fun cn_5 => ?_) (fun cn_5 => ?_)
      · skip
        have cn_5 : ¬ (kd = 0) := fun hz => cn_5 ((nI_eq (a := kd) (b := 0) (by omega) (by omega)).mpr hz)
        refine lv_iload_n hx hb dX8_baseOf_21 rfl (lv_at hl 3 rfl) ?_
        refine lv_iconst (v := nI 1) hx hb dX8_baseOf_22 (by rfl) ?_
        refine lv_icmp_ne (tgt := 37) hx hb dX8_baseOf_23 (by decide) (fun cn_6 => ?_) (fun cn_6 => ?_)
        · skip
          have cn_6 : ¬ (kd = 1) := fun hz => cn_6 ((nI_eq (a := kd) (b := 1) (by omega) (by omega)).mpr hz)
          refine lv_iload_n hx hb dX8_baseOf_37 rfl (lv_at hl 0 rfl) ?_
          refine lv_if_ne (tgt := 50) hx hb dX8_baseOf_38 (by decide) (fun cn_7 => ?_) (fun cn_7 => ?_)
          · skip
            have cn_7 : ¬ (r - (N - 1) = 0) := fun hz => cn_7 ((nI_eq (a := r - (N - 1)) (b := 0) (by omega) (by omega)).mpr hz)
            refine lv_iload_n hx hb dX8_baseOf_50 rfl (lv_at hl 0 rfl) ?_
            refine lv_iconst (v := nI 1) hx hb dX8_baseOf_51 (by rfl) ?_
            refine lv_isub hx hb dX8_baseOf_52 ?_
            refine zr_ti (y := nI ((r - (N - 1)) - 1)) (pk_sub (by omega)) ?_
            have hz : nI ((r - (N - 1)) - 1) = nI (zm_half N kd r) := by
              unfold zm_half; repeat' split
              all_goals first | rfl | (congr 1; omega) | (exfalso; omega)
            subst hQ
            exact W.iret (v := nI ((r - (N - 1)) - 1)) hx hb hr (fun tz htz hWz => ⟨⟨nI ((r - (N - 1)) - 1), (), rfl, hz, trivial⟩, hS.F htz⟩) hS.2.2 dX8_baseOf_53
          · skip
            have cn_7 : r - (N - 1) = 0 := (nI_eq (a := r - (N - 1)) (b := 0) (by omega) (by omega)).mp cn_7
            refine lv_aload_n hx hb dX8_baseOf_41 rfl (lv_at hl 1 rfl) ?_
            refine zr_ci hP hS (va_runV (As := []) (rest := []) ⟨hx, hb, hml, hown, hts⟩ (c_X8_rounds l D E m0 w0 w1 w2 w3 w4 w5 w6 w7 w8 w9 ik tx he fa cl wv N (hvn) (hN)) (cwV 0 hts gX8_baseOf_X8_rounds rfl rfl rfl (by decide +kernel) ⟨Nat.le_of_ble_eq_true rfl, Nat.le_of_ble_eq_true rfl⟩) (zr_V hK (hP.sub (ws' := [(m0, .inr (6, [.ref w0, .ref w1, .ref w2, .int ik, .ref w3, .int (nI tx), .int he, .int fa, .ref w4, .ref w5, .int (nI cl), .ref w6, .ref w7, .ref w8, .ref w9])), (w0, .inl (E 0, 137, .inl wv))]) [0, 1] rfl) (ci := 6) (q0 := 0) rfl rfl) rfl rfl hl.1 rfl (lv_room (Nat.le_of_ble_eq_true rfl)) dX8_baseOf_42 ⟨Nat.zero_le _, Nat.zero_le _⟩) (fun r_8 H locs hw_9 hP hS => ?_)
            subst hw_9
            refine lv_iconst (v := nI 1) hx hb dX8_baseOf_45 (by rfl) ?_
            refine lv_isub hx hb dX8_baseOf_46 ?_
            refine zr_ti (y := nI ((N - 1) - 1)) (pk_sub (by omega)) ?_
            refine lv_goto (tgt := 53) hx hb dX8_baseOf_47 (by decide) ?_
            have hz : nI ((N - 1) - 1) = nI (zm_half N kd r) := by
              unfold zm_half; repeat' split
              all_goals first | rfl | (congr 1; omega) | (exfalso; omega)
            subst hQ
            exact W.iret (v := nI ((N - 1) - 1)) hx hb hr (fun tz htz hWz => ⟨⟨nI ((N - 1) - 1), (), rfl, hz, trivial⟩, hS.F htz⟩) hS.2.2 dX8_baseOf_53
        · skip
          have cn_6 : kd = 1 := (nI_eq (a := kd) (b := 1) (by omega) (by omega)).mp cn_6
          refine lv_aload_n hx hb dX8_baseOf_26 rfl (lv_at hl 1 rfl) ?_
          refine zr_ci hP hS (va_runV (As := []) (rest := []) ⟨hx, hb, hml, hown, hts⟩ (c_X8_rounds l D E m0 w0 w1 w2 w3 w4 w5 w6 w7 w8 w9 ik tx he fa cl wv N (hvn) (hN)) (cwV 0 hts gX8_baseOf_X8_rounds rfl rfl rfl (by decide +kernel) ⟨Nat.le_of_ble_eq_true rfl, Nat.le_of_ble_eq_true rfl⟩) (zr_V hK (hP.sub (ws' := [(m0, .inr (6, [.ref w0, .ref w1, .ref w2, .int ik, .ref w3, .int (nI tx), .int he, .int fa, .ref w4, .ref w5, .int (nI cl), .ref w6, .ref w7, .ref w8, .ref w9])), (w0, .inl (E 0, 137, .inl wv))]) [0, 1] rfl) (ci := 6) (q0 := 0) rfl rfl) rfl rfl hl.1 rfl (lv_room (Nat.le_of_ble_eq_true rfl)) dX8_baseOf_27 ⟨Nat.zero_le _, Nat.zero_le _⟩) (fun r_10 H locs hw_11 hP hS => ?_)
          subst hw_11
          refine lv_iconst (v := nI 1) hx hb dX8_baseOf_30 (by rfl) ?_
          refine lv_isub hx hb dX8_baseOf_31 ?_
          refine zr_ti (y := nI ((N - 1) - 1)) (pk_sub (by omega)) ?_
          refine lv_iload_n hx hb dX8_baseOf_32 rfl (lv_at hl 0 rfl) ?_
          refine lv_isub hx hb dX8_baseOf_33 ?_
          refine zr_ti (y := nI (((N - 1) - 1) - (r - (N - 1)))) (pk_sub (by omega)) ?_
          refine lv_goto (tgt := 53) hx hb dX8_baseOf_34 (by decide) ?_
          have hz : nI (((N - 1) - 1) - (r - (N - 1))) = nI (zm_half N kd r) := by
            unfold zm_half; repeat' split
            all_goals first | rfl | (congr 1; omega) | (exfalso; omega)
          subst hQ
          exact W.iret (v := nI (((N - 1) - 1) - (r - (N - 1)))) hx hb hr (fun tz htz hWz => ⟨⟨nI (((N - 1) - 1) - (r - (N - 1))), (), rfl, hz, trivial⟩, hS.F htz⟩) hS.2.2 dX8_baseOf_53
      · skip
        have cn_5 : kd = 0 := (nI_eq (a := kd) (b := 0) (by omega) (by omega)).mp cn_5
        refine lv_iload_n hx hb dX8_baseOf_17 rfl (lv_at hl 0 rfl) ?_
        refine lv_goto (tgt := 53) hx hb dX8_baseOf_18 (by decide) ?_
        have hz : nI (r - (N - 1)) = nI (zm_half N kd r) := by
          unfold zm_half; repeat' split
          all_goals first | rfl | (congr 1; omega) | (exfalso; omega)
        subst hQ
        exact W.iret (v := nI (r - (N - 1))) hx hb hr (fun tz htz hWz => ⟨⟨nI (r - (N - 1)), (), rfl, hz, trivial⟩, hS.F htz⟩) hS.2.2 dX8_baseOf_53
    · skip
      have cn_4 : ¬ (0 ≤ r - (N - 1)) := fun hz => cn_4 ((nI_leI (a := 0) (b := r - (N - 1)) (by omega) (by omega)).mpr hz)
      refine lv_iload_n hx hb dX8_baseOf_11 rfl (lv_at hl 2 rfl) ?_
      have hz : nI r = nI (zm_half N kd r) := by
        unfold zm_half; repeat' split
        all_goals first | rfl | (congr 1; omega) | (exfalso; omega)
      subst hQ
      exact W.iret (v := nI r) hx hb hr (fun tz htz hWz => ⟨⟨nI r, (), rfl, hz, trivial⟩, hS.F htz⟩) hS.2.2 dX8_baseOf_12

set_option maxHeartbeats 4000000 in
set_option maxRecDepth 100000 in
theorem c_X8_isHomeIn (l : Launch) (D : va_G) (E : Nat → ClassId) (m0 : Nat) (w0 : Nat) (w1 : Nat) (w2 : Nat) (w3 : Nat) (w4 : Nat) (w5 : Nat) (w6 : Nat) (w7 : Nat) (w8 : Nat) (w9 : Nat) (ik : Int32) (tx : Nat) (he : Int32) (fa : Int32) (cl : Nat) (wv : Nat → Int32) (N : Nat) (G : Nat → Nat → Nat) (P : Nat → Nat → Nat) (t : Nat) (r : Nat) (kd : Nat) (hvg : zv_g N G P wv) (ht : t < N) (hr0 : r < 2 * (N - 1)) (hkd : kd < 3) : Met l yX8_isHomeIn wsX8_isHomeIn ({ frames := 2, cells := 0, slots := 0, locals := 45 }) (zr_P D E [.ref m0, .int (nI t), .int (nI r), .int (nI kd)] [(m0, .inr (6, [.ref w0, .ref w1, .ref w2, .int ik, .ref w3, .int (nI tx), .int he, .int fa, .ref w4, .ref w5, .int (nI cl), .ref w6, .ref w7, .ref w8, .ref w9])), (w0, .inl (E 0, 137, .inl wv))]) (zr_Qi (fun zv => (zv = 1 ∧ (zm_ss N P kd t r = 1)) ∨ (zv = 0 ∧ (zm_ss N P kd t r = 0)))) 0 0 (fun _ => False) := by
  refine Met.ofW (cc := cX8_isHomeIn) (maxL := 4) (ret := (some .boolean)) (by decide) rfl ?_
  intro p e s m args below meth c s₁ Bz hml hv
  obtain ⟨rfl, hP, hK⟩ := hv
  have hx := Bz.exec
  have hb := Bz.bytes
  have hr := Bz.returns
  have hts := atoms_spec (ws := wsX8_isHomeIn) Bz.pre
  have hown : s.vm.findClass RX8 = some m.cls := findClass_of_methodNamed Bz.named
  have hlocks := Bz.notSynchronized
  have hP : va_P D vwCl [(m0, .inr (6, [.ref w0, .ref w1, .ref w2, .int ik, .ref w3, .int (nI tx), .int he, .int fa, .ref w4, .ref w5, .int (nI cl), .ref w6, .ref w7, .ref w8, .ref w9])), (w0, .inl (E 0, 137, .inl wv))] s.heap := hP
  have hS : va_S (fun _ : Nat => False) s.heap s.heap [] := va_S.rf
  have hl := lv_entry ([.ref m0, .int (nI t), .int (nI r), .int (nI kd)]) (n := 4) (Nat.le_of_ble_eq_true rfl)
  rw [lg_entry_eq]
  generalize (lg_sl ([.ref m0, .int (nI t), .int (nI r), .int (nI kd)]) ++ List.replicate (4 - (lg_sl ([.ref m0, .int (nI t), .int (nI r), .int (nI kd)])).length) Slot.unset).toArray = ls at hl ⊢
  have hl : lv_has ls 4 [(0, .ref m0), (1, .int (nI t)), (2, .int (nI r)), (3, .int (nI kd))] := hl
  refine zr_nQ (fun Q hQ => ?_)
  have hok := hvg.1
  have hN := hok.1
  have hvn := hvg.2.1
  have hh := zm_half_lt (kd := kd) hN hr0
  refine lv_aload_n hx hb dX8_isHomeIn_0 rfl (lv_at hl 0 rfl) ?_
  refine lv_iload_n hx hb dX8_isHomeIn_1 rfl (lv_at hl 1 rfl) ?_
  refine lv_aload_n hx hb dX8_isHomeIn_2 rfl (lv_at hl 0 rfl) ?_
  refine lv_iload_n hx hb dX8_isHomeIn_3 rfl (lv_at hl 2 rfl) ?_
  refine lv_iload_n hx hb dX8_isHomeIn_4 rfl (lv_at hl 3 rfl) ?_
  refine zr_ci hP hS (va_runV (As := [.int (nI r), .int (nI kd)]) (rest := [.int (nI t), .ref m0]) ⟨hx, hb, hml, hown, hts⟩ (c_X8_baseOf l D E m0 w0 w1 w2 w3 w4 w5 w6 w7 w8 w9 ik tx he fa cl wv N r kd (hvn) (hN) (by omega) (by omega)) (cwV 2 hts gX8_isHomeIn_X8_baseOf rfl rfl rfl (by decide +kernel) ⟨Nat.le_of_ble_eq_true rfl, Nat.le_of_ble_eq_true rfl⟩) (zr_V hK (hP.sub (ws' := [(m0, .inr (6, [.ref w0, .ref w1, .ref w2, .int ik, .ref w3, .int (nI tx), .int he, .int fa, .ref w4, .ref w5, .int (nI cl), .ref w6, .ref w7, .ref w8, .ref w9])), (w0, .inl (E 0, 137, .inl wv))]) [0, 1] rfl) (ci := 6) (q0 := 0) rfl rfl) rfl rfl hl.1 rfl (lv_room (Nat.le_of_ble_eq_true rfl)) dX8_isHomeIn_5 ⟨Nat.zero_le _, Nat.zero_le _⟩) (fun r_1 H locs hw_2 hP hS => ?_)
  subst hw_2
  refine zr_ci hP hS (va_runV (As := [.int (nI t), .int (nI (zm_half N kd r))]) (rest := []) ⟨hx, hb, hml, hown, hts⟩ (c_X8_isHome l D E m0 w0 w1 w2 w3 w4 w5 w6 w7 w8 w9 ik tx he fa cl wv N G P t (zm_half N kd r) (hvg) (by omega) (by omega)) (cwV 2 hts gX8_isHomeIn_X8_isHome rfl rfl rfl (by decide +kernel) ⟨Nat.le_of_ble_eq_true rfl, Nat.le_of_ble_eq_true rfl⟩) (zr_V hK (hP.sub (ws' := [(m0, .inr (6, [.ref w0, .ref w1, .ref w2, .int ik, .ref w3, .int (nI tx), .int he, .int fa, .ref w4, .ref w5, .int (nI cl), .ref w6, .ref w7, .ref w8, .ref w9])), (w0, .inl (E 0, 137, .inl wv))]) [0, 1] rfl) (ci := 6) (q0 := 0) rfl rfl) rfl rfl hl.1 rfl (lv_room (Nat.le_of_ble_eq_true rfl)) dX8_isHomeIn_8 ⟨Nat.zero_le _, Nat.zero_le _⟩) (fun r_3 H locs hw_4 hP hS => ?_)
  rcases hw_4 with ⟨rfl, hw_4⟩ | ⟨rfl, hw_4⟩
  · skip
    have hA := hw_4
    refine zr_ti (y := nI 1) rfl ?_
    refine lv_iload_n hx hb dX8_isHomeIn_11 rfl (lv_at hl 2 rfl) ?_
    refine lv_aload_n hx hb dX8_isHomeIn_12 rfl (lv_at hl 0 rfl) ?_
    refine zr_ci hP hS (va_runV (As := []) (rest := [.int (nI r), .int (nI 1)]) ⟨hx, hb, hml, hown, hts⟩ (c_X8_rounds l D E m0 w0 w1 w2 w3 w4 w5 w6 w7 w8 w9 ik tx he fa cl wv N (hvn) (hN)) (cwV 0 hts gX8_isHomeIn_X8_rounds rfl rfl rfl (by decide +kernel) ⟨Nat.le_of_ble_eq_true rfl, Nat.le_of_ble_eq_true rfl⟩) (zr_V hK (hP.sub (ws' := [(m0, .inr (6, [.ref w0, .ref w1, .ref w2, .int ik, .ref w3, .int (nI tx), .int he, .int fa, .ref w4, .ref w5, .int (nI cl), .ref w6, .ref w7, .ref w8, .ref w9])), (w0, .inl (E 0, 137, .inl wv))]) [0, 1] rfl) (ci := 6) (q0 := 0) rfl rfl) rfl rfl hl.1 rfl (lv_room (Nat.le_of_ble_eq_true rfl)) dX8_isHomeIn_13 ⟨Nat.zero_le _, Nat.zero_le _⟩) (fun r_5 H locs hw_6 hP hS => ?_)
    subst hw_6
    refine lv_icmp_ge (tgt := 23) hx hb dX8_isHomeIn_16 (by decide) (fun cn_7 => ?_) (fun cn_7 => ?_)
    · skip
      have cn_7 : N - 1 ≤ r := (nI_leI (a := N - 1) (b := r) (by omega) (by omega)).mp cn_7
      have hbr := cn_7
      refine lv_iconst (v := nI 0) hx hb dX8_isHomeIn_23 (by rfl) ?_
      refine lv_icmp_ne (tgt := 31) hx hb dX8_isHomeIn_24 (by decide) (fun cn_8 => ?_) (fun cn_8 => ?_)
      · skip
        refine lv_iconst (v := nI 0) hx hb dX8_isHomeIn_31 (by rfl) ?_
        subst hQ
        exact W.zret (v := nI 0) hx hb hr (by decide) (fun tz htz hWz => ⟨⟨nI 0, (), rfl, Or.inr ⟨rfl, by unfold zm_ss; first | (rw [if_pos (by omega)]; omega) | (rw [if_neg (by omega)]; omega)⟩, trivial⟩, hS.F htz⟩) hS.2.2 dX8_isHomeIn_32
      · skip
        exact absurd cn_8 (by decide)
    · skip
      have cn_7 : ¬ (N - 1 ≤ r) := fun hz => cn_7 ((nI_leI (a := N - 1) (b := r) (by omega) (by omega)).mpr hz)
      have hbr := cn_7
      refine lv_iconst (v := nI 1) hx hb dX8_isHomeIn_19 (by rfl) ?_
      refine lv_goto (tgt := 24) hx hb dX8_isHomeIn_20 (by decide) ?_
      refine lv_icmp_ne (tgt := 31) hx hb dX8_isHomeIn_24 (by decide) (fun cn_9 => ?_) (fun cn_9 => ?_)
      · skip
        exact absurd cn_9 (by decide)
      · skip
        refine lv_iconst (v := nI 1) hx hb dX8_isHomeIn_27 (by rfl) ?_
        refine lv_goto (tgt := 32) hx hb dX8_isHomeIn_28 (by decide) ?_
        subst hQ
        exact W.zret (v := nI 1) hx hb hr (by decide) (fun tz htz hWz => ⟨⟨nI 1, (), rfl, Or.inl ⟨rfl, by unfold zm_ss; first | (rw [if_pos (by omega)]; omega) | (rw [if_neg (by omega)]; omega)⟩, trivial⟩, hS.F htz⟩) hS.2.2 dX8_isHomeIn_32
  · skip
    have hA := hw_4
    refine zr_ti (y := nI 0) rfl ?_
    refine lv_iload_n hx hb dX8_isHomeIn_11 rfl (lv_at hl 2 rfl) ?_
    refine lv_aload_n hx hb dX8_isHomeIn_12 rfl (lv_at hl 0 rfl) ?_
    refine zr_ci hP hS (va_runV (As := []) (rest := [.int (nI r), .int (nI 0)]) ⟨hx, hb, hml, hown, hts⟩ (c_X8_rounds l D E m0 w0 w1 w2 w3 w4 w5 w6 w7 w8 w9 ik tx he fa cl wv N (hvn) (hN)) (cwV 0 hts gX8_isHomeIn_X8_rounds rfl rfl rfl (by decide +kernel) ⟨Nat.le_of_ble_eq_true rfl, Nat.le_of_ble_eq_true rfl⟩) (zr_V hK (hP.sub (ws' := [(m0, .inr (6, [.ref w0, .ref w1, .ref w2, .int ik, .ref w3, .int (nI tx), .int he, .int fa, .ref w4, .ref w5, .int (nI cl), .ref w6, .ref w7, .ref w8, .ref w9])), (w0, .inl (E 0, 137, .inl wv))]) [0, 1] rfl) (ci := 6) (q0 := 0) rfl rfl) rfl rfl hl.1 rfl (lv_room (Nat.le_of_ble_eq_true rfl)) dX8_isHomeIn_13 ⟨Nat.zero_le _, Nat.zero_le _⟩) (fun r_10 H locs hw_11 hP hS => ?_)
    subst hw_11
    refine lv_icmp_ge (tgt := 23) hx hb dX8_isHomeIn_16 (by decide) (fun cn_12 => ?_) (fun cn_12 => ?_)
    · skip
      have cn_12 : N - 1 ≤ r := (nI_leI (a := N - 1) (b := r) (by omega) (by omega)).mp cn_12
      have hbr := cn_12
      refine lv_iconst (v := nI 0) hx hb dX8_isHomeIn_23 (by rfl) ?_
      refine lv_icmp_ne (tgt := 31) hx hb dX8_isHomeIn_24 (by decide) (fun cn_13 => ?_) (fun cn_13 => ?_)
      · skip
        exact absurd cn_13 (by decide)
      · skip
        refine lv_iconst (v := nI 1) hx hb dX8_isHomeIn_27 (by rfl) ?_
        refine lv_goto (tgt := 32) hx hb dX8_isHomeIn_28 (by decide) ?_
        subst hQ
        exact W.zret (v := nI 1) hx hb hr (by decide) (fun tz htz hWz => ⟨⟨nI 1, (), rfl, Or.inl ⟨rfl, by unfold zm_ss; first | (rw [if_pos (by omega)]; omega) | (rw [if_neg (by omega)]; omega)⟩, trivial⟩, hS.F htz⟩) hS.2.2 dX8_isHomeIn_32
    · skip
      have cn_12 : ¬ (N - 1 ≤ r) := fun hz => cn_12 ((nI_leI (a := N - 1) (b := r) (by omega) (by omega)).mpr hz)
      have hbr := cn_12
      refine lv_iconst (v := nI 1) hx hb dX8_isHomeIn_19 (by rfl) ?_
      refine lv_goto (tgt := 24) hx hb dX8_isHomeIn_20 (by decide) ?_
      refine lv_icmp_ne (tgt := 31) hx hb dX8_isHomeIn_24 (by decide) (fun cn_14 => ?_) (fun cn_14 => ?_)
      · skip
        refine lv_iconst (v := nI 0) hx hb dX8_isHomeIn_31 (by rfl) ?_
        subst hQ
        exact W.zret (v := nI 0) hx hb hr (by decide) (fun tz htz hWz => ⟨⟨nI 0, (), rfl, Or.inr ⟨rfl, by unfold zm_ss; first | (rw [if_pos (by omega)]; omega) | (rw [if_neg (by omega)]; omega)⟩, trivial⟩, hS.F htz⟩) hS.2.2 dX8_isHomeIn_32
      · skip
        exact absurd cn_14 (by decide)

set_option maxHeartbeats 4000000 in
set_option maxRecDepth 100000 in
theorem c_X8_pattern (l : Launch) (D : va_G) (E : Nat → ClassId) (m0 : Nat) (w0 : Nat) (w1 : Nat) (w2 : Nat) (w3 : Nat) (w4 : Nat) (w5 : Nat) (w6 : Nat) (w7 : Nat) (w8 : Nat) (w9 : Nat) (ik : Int32) (tx : Nat) (he : Int32) (fa : Int32) (cl : Nat) (wv : Nat → Int32) (N : Nat) (G : Nat → Nat → Nat) (P : Nat → Nat → Nat) (t : Nat) (hvg : zv_g N G P wv) (ht : t < N) : Met l yX8_pattern wsX8_pattern ({ frames := 2, cells := 0, slots := 0, locals := 45 }) (zr_P D E [.ref m0, .int (nI t)] [(m0, .inr (6, [.ref w0, .ref w1, .ref w2, .int ik, .ref w3, .int (nI tx), .int he, .int fa, .ref w4, .ref w5, .int (nI cl), .ref w6, .ref w7, .ref w8, .ref w9])), (w0, .inl (E 0, 137, .inl wv))]) (zr_Qi (fun zv => zv = zm_pat P t (N - 1))) 0 0 (fun _ => False) := by
  refine Met.ofW (cc := cX8_pattern) (maxL := 4) (ret := (some .int)) (by decide) rfl ?_
  intro p e s m args below meth c s₁ Bz hml hv
  obtain ⟨rfl, hP, hK⟩ := hv
  have hx := Bz.exec
  have hb := Bz.bytes
  have hr := Bz.returns
  have hts := atoms_spec (ws := wsX8_pattern) Bz.pre
  have hown : s.vm.findClass RX8 = some m.cls := findClass_of_methodNamed Bz.named
  have hlocks := Bz.notSynchronized
  have hP : va_P D vwCl [(m0, .inr (6, [.ref w0, .ref w1, .ref w2, .int ik, .ref w3, .int (nI tx), .int he, .int fa, .ref w4, .ref w5, .int (nI cl), .ref w6, .ref w7, .ref w8, .ref w9])), (w0, .inl (E 0, 137, .inl wv))] s.heap := hP
  have hS : va_S (fun _ : Nat => False) s.heap s.heap [] := va_S.rf
  have hl := lv_entry ([.ref m0, .int (nI t)]) (n := 4) (Nat.le_of_ble_eq_true rfl)
  rw [lg_entry_eq]
  generalize (lg_sl ([.ref m0, .int (nI t)]) ++ List.replicate (4 - (lg_sl ([.ref m0, .int (nI t)])).length) Slot.unset).toArray = ls at hl ⊢
  have hl : lv_has ls 4 [(0, .ref m0), (1, .int (nI t))] := hl
  refine zr_nQ (fun Q hQ => ?_)
  have hok := hvg.1
  have hN := hok.1
  have hvn := hvg.2.1
  refine lv_iconst (v := nI 0) hx hb dX8_pattern_0 (by rfl) ?_
  refine lv_istore_n (lv' := [(2, .int (nI 0)), (0, .ref m0), (1, .int (nI t))]) hx hb dX8_pattern_1 rfl hl (by decide) rfl (fun ls hl => ?_)
  refine lv_iconst (v := nI 0) hx hb dX8_pattern_2 (by rfl) ?_
  refine lv_istore_n (lv' := [(3, .int (nI 0)), (2, .int (nI 0)), (0, .ref m0), (1, .int (nI t))]) hx hb dX8_pattern_3 rfl hl (by decide) rfl (fun ls hl => ?_)
  suffices KL4 : ∀ (kz : Nat) (i : Nat) (b : Int32) (H : Heap) (locs : List Loc) (ls : Array Slot), (N - i) < kz → (b = zm_pat P t i) → (i ≤ N - 1) → va_P D vwCl [(m0, .inr (6, [.ref w0, .ref w1, .ref w2, .int ik, .ref w3, .int (nI tx), .int he, .int fa, .ref w4, .ref w5, .int (nI cl), .ref w6, .ref w7, .ref w8, .ref w9])), (w0, .inl (E 0, 137, .inl wv))] H → va_S (fun _ : Nat => False) s.heap H locs → lv_has ls 4 [(0, .ref m0), (1, .int (nI t)), (2, .int b), (3, .int (nI i))] → W p l e (headSpec wsX8_pattern ({ frames := 2, cells := 0, slots := 0, locals := 45 })).room s m ([.ref m0, .int (nI t)] : List Value).toArray below meth c H locs 0 0 Q (F0 m 4 ls []) from
    KL4 _ 0 (nI 0) _ _ ls (Nat.lt_succ_self _) (rfl) (by omega) hP hS (lv_sub hl [2, 3, 1, 0] rfl)
  clear hP hS hl
  intro kz
  induction kz with
  | zero => intro i b H locs ls hkz; exact absurd hkz (Nat.not_lt_zero _)
  | succ kz ih4 =>
    intro i b H locs ls hkz hbq hi hP hS hl
    refine lv_iload_n hx hb dX8_pattern_4 rfl (lv_at hl 3 rfl) ?_
    refine lv_aload_n hx hb dX8_pattern_5 rfl (lv_at hl 0 rfl) ?_
    refine zr_ci hP hS (va_runV (As := []) (rest := [.int (nI i)]) ⟨hx, hb, hml, hown, hts⟩ (c_X8_rounds l D E m0 w0 w1 w2 w3 w4 w5 w6 w7 w8 w9 ik tx he fa cl wv N (hvn) (hN)) (cwV 0 hts gX8_pattern_X8_rounds rfl rfl rfl (by decide +kernel) ⟨Nat.le_of_ble_eq_true rfl, Nat.le_of_ble_eq_true rfl⟩) (zr_V hK (hP.sub (ws' := [(m0, .inr (6, [.ref w0, .ref w1, .ref w2, .int ik, .ref w3, .int (nI tx), .int he, .int fa, .ref w4, .ref w5, .int (nI cl), .ref w6, .ref w7, .ref w8, .ref w9])), (w0, .inl (E 0, 137, .inl wv))]) [0, 1] rfl) (ci := 6) (q0 := 0) rfl rfl) rfl rfl hl.1 rfl (lv_room (Nat.le_of_ble_eq_true rfl)) dX8_pattern_6 ⟨Nat.zero_le _, Nat.zero_le _⟩) (fun r_1 H locs hw_2 hP hS => ?_)
    subst hw_2
    refine lv_icmp_ge (tgt := 37) hx hb dX8_pattern_9 (by decide) (fun cn_3 => ?_) (fun cn_3 => ?_)
    · skip
      have cn_3 : N - 1 ≤ i := (nI_leI (a := N - 1) (b := i) (by omega) (by omega)).mp cn_3
      have hie : i = N - 1 := by omega
      refine lv_iload_n hx hb dX8_pattern_37 rfl (lv_at hl 2 rfl) ?_
      subst hQ
      exact W.iret (v := b) hx hb hr (fun tz htz hWz => ⟨⟨b, (), rfl, by rw [hbq, hie], trivial⟩, hS.F htz⟩) hS.2.2 dX8_pattern_38
    · skip
      have cn_3 : ¬ (N - 1 ≤ i) := fun hz => cn_3 ((nI_leI (a := N - 1) (b := i) (by omega) (by omega)).mpr hz)
      refine lv_iload_n hx hb dX8_pattern_12 rfl (lv_at hl 2 rfl) ?_
      refine lv_aload_n hx hb dX8_pattern_13 rfl (lv_at hl 0 rfl) ?_
      refine lv_iload_n hx hb dX8_pattern_14 rfl (lv_at hl 1 rfl) ?_
      refine lv_iload_n hx hb dX8_pattern_15 rfl (lv_at hl 3 rfl) ?_
      refine zr_ci hP hS (va_runV (As := [.int (nI t), .int (nI i)]) (rest := [.int b]) ⟨hx, hb, hml, hown, hts⟩ (c_X8_isHome l D E m0 w0 w1 w2 w3 w4 w5 w6 w7 w8 w9 ik tx he fa cl wv N G P t i (hvg) (by omega) (by omega)) (cwV 2 hts gX8_pattern_X8_isHome rfl rfl rfl (by decide +kernel) ⟨Nat.le_of_ble_eq_true rfl, Nat.le_of_ble_eq_true rfl⟩) (zr_V hK (hP.sub (ws' := [(m0, .inr (6, [.ref w0, .ref w1, .ref w2, .int ik, .ref w3, .int (nI tx), .int he, .int fa, .ref w4, .ref w5, .int (nI cl), .ref w6, .ref w7, .ref w8, .ref w9])), (w0, .inl (E 0, 137, .inl wv))]) [0, 1] rfl) (ci := 6) (q0 := 0) rfl rfl) rfl rfl hl.1 rfl (lv_room (Nat.le_of_ble_eq_true rfl)) dX8_pattern_16 ⟨Nat.zero_le _, Nat.zero_le _⟩) (fun r_4 H locs hw_5 hP hS => ?_)
      rcases hw_5 with ⟨rfl, hw_5⟩ | ⟨rfl, hw_5⟩
      · skip
        have hA := hw_5
        refine zr_ti (y := nI 1) rfl ?_
        refine lv_if_eq (tgt := 28) hx hb dX8_pattern_19 (by decide) (fun cn_6 => ?_) (fun cn_6 => ?_)
        · skip
          exact absurd cn_6 (by decide)
        · skip
          refine lv_iconst (v := nI 1) hx hb dX8_pattern_22 (by rfl) ?_
          refine lv_iload_n hx hb dX8_pattern_23 rfl (lv_at hl 3 rfl) ?_
          refine lv_ishl hx hb dX8_pattern_24 ?_
          refine lv_goto (tgt := 29) hx hb dX8_pattern_25 (by decide) ?_
          refine lv_ior hx hb dX8_pattern_29 ?_
          refine lv_istore_n (lv' := [(2, .int (b ||| ((nI 1) <<< ((nI i) &&& 31)))), (0, .ref m0), (1, .int (nI t)), (3, .int (nI i))]) hx hb dX8_pattern_30 rfl hl (by decide) rfl (fun ls hl => ?_)
          refine lv_iinc (v := nI (i + 1)) (lv' := [(3, .int (nI (i + 1))), (2, .int (b ||| ((nI 1) <<< ((nI i) &&& 31)))), (0, .ref m0), (1, .int (nI t))]) hx hb dX8_pattern_31 hl (k := 3) rfl (nI_add _ _) (by decide) rfl (fun ls hl => ?_)
          refine lv_goto (tgt := 4) hx hb dX8_pattern_34 (by decide) ?_
          have hl : lv_has ls 4 [(0, .ref m0), (1, .int (nI t)), (2, .int (b ||| ((nI 1) <<< ((nI i) &&& 31)))), (3, .int (nI (i + 1)))] := lv_sub hl [2, 3, 1, 0] rfl
          exact ih4 (i + 1) (b ||| ((nI 1) <<< ((nI i) &&& 31))) H locs ls (by omega) (by rw [zm_pat, hbq]; first | (rw [if_pos hA]) | (rw [if_neg (by omega)]; exact zn_or0 _)) (by omega) hP hS hl
      · skip
        have hA := hw_5
        refine zr_ti (y := nI 0) rfl ?_
        refine lv_if_eq (tgt := 28) hx hb dX8_pattern_19 (by decide) (fun cn_7 => ?_) (fun cn_7 => ?_)
        · skip
          refine lv_iconst (v := nI 0) hx hb dX8_pattern_28 (by rfl) ?_
          refine lv_ior hx hb dX8_pattern_29 ?_
          refine lv_istore_n (lv' := [(2, .int (b ||| (nI 0))), (0, .ref m0), (1, .int (nI t)), (3, .int (nI i))]) hx hb dX8_pattern_30 rfl hl (by decide) rfl (fun ls hl => ?_)
          refine lv_iinc (v := nI (i + 1)) (lv' := [(3, .int (nI (i + 1))), (2, .int (b ||| (nI 0))), (0, .ref m0), (1, .int (nI t))]) hx hb dX8_pattern_31 hl (k := 3) rfl (nI_add _ _) (by decide) rfl (fun ls hl => ?_)
          refine lv_goto (tgt := 4) hx hb dX8_pattern_34 (by decide) ?_
          have hl : lv_has ls 4 [(0, .ref m0), (1, .int (nI t)), (2, .int (b ||| (nI 0))), (3, .int (nI (i + 1)))] := lv_sub hl [2, 3, 1, 0] rfl
          exact ih4 (i + 1) (b ||| (nI 0)) H locs ls (by omega) (by rw [zm_pat, hbq]; first | (rw [if_pos hA]) | (rw [if_neg (by omega)]; exact zn_or0 _)) (by omega) hP hS hl
        · skip
          exact absurd cn_7 (by decide)

set_option maxHeartbeats 4000000 in
set_option maxRecDepth 100000 in
theorem c_X8_otherOf (l : Launch) (D : va_G) (E : Nat → ClassId) (m0 : Nat) (w0 : Nat) (w1 : Nat) (w2 : Nat) (w3 : Nat) (w4 : Nat) (w5 : Nat) (w6 : Nat) (w7 : Nat) (w8 : Nat) (w9 : Nat) (ik : Int32) (tx : Nat) (he : Int32) (fa : Int32) (cl : Nat) (wv : Nat → Int32) (N : Nat) (G : Nat → Nat → Nat) (P : Nat → Nat → Nat) (t : Nat) (hvg : zv_g N G P wv) (ht : t < N) : Met l yX8_otherOf wsX8_otherOf ({ frames := 3, cells := 0, slots := 0, locals := 68 }) (zr_P D E [.ref m0, .int (nI t)] [(m0, .inr (6, [.ref w0, .ref w1, .ref w2, .int ik, .ref w3, .int (nI tx), .int he, .int fa, .ref w4, .ref w5, .int (nI cl), .ref w6, .ref w7, .ref w8, .ref w9])), (w0, .inl (E 0, 137, .inl wv))]) (zr_Qi (fun zv => zv = zm_oth N P t)) 0 0 (fun _ => False) := by
  refine Met.ofW (cc := cX8_otherOf) (maxL := 4) (ret := (some .int)) (by decide) rfl ?_
  intro p e s m args below meth c s₁ Bz hml hv
  obtain ⟨rfl, hP, hK⟩ := hv
  have hx := Bz.exec
  have hb := Bz.bytes
  have hr := Bz.returns
  have hts := atoms_spec (ws := wsX8_otherOf) Bz.pre
  have hown : s.vm.findClass RX8 = some m.cls := findClass_of_methodNamed Bz.named
  have hlocks := Bz.notSynchronized
  have hP : va_P D vwCl [(m0, .inr (6, [.ref w0, .ref w1, .ref w2, .int ik, .ref w3, .int (nI tx), .int he, .int fa, .ref w4, .ref w5, .int (nI cl), .ref w6, .ref w7, .ref w8, .ref w9])), (w0, .inl (E 0, 137, .inl wv))] s.heap := hP
  have hS : va_S (fun _ : Nat => False) s.heap s.heap [] := va_S.rf
  have hl := lv_entry ([.ref m0, .int (nI t)]) (n := 4) (Nat.le_of_ble_eq_true rfl)
  rw [lg_entry_eq]
  generalize (lg_sl ([.ref m0, .int (nI t)]) ++ List.replicate (4 - (lg_sl ([.ref m0, .int (nI t)])).length) Slot.unset).toArray = ls at hl ⊢
  have hl : lv_has ls 4 [(0, .ref m0), (1, .int (nI t))] := hl
  refine zr_nQ (fun Q hQ => ?_)
  have hok := hvg.1
  have hN := hok.1
  have hvn := hvg.2.1
  refine lv_iconst (v := nI 1) hx hb dX8_otherOf_0 (by rfl) ?_
  refine lv_aload_n hx hb dX8_otherOf_1 rfl (lv_at hl 0 rfl) ?_
  refine zr_ci hP hS (va_runV (As := []) (rest := [.int (nI 1)]) ⟨hx, hb, hml, hown, hts⟩ (c_X8_rounds l D E m0 w0 w1 w2 w3 w4 w5 w6 w7 w8 w9 ik tx he fa cl wv N (hvn) (hN)) (cwV 0 hts gX8_otherOf_X8_rounds rfl rfl rfl (by decide +kernel) ⟨Nat.le_of_ble_eq_true rfl, Nat.le_of_ble_eq_true rfl⟩) (zr_V hK (hP.sub (ws' := [(m0, .inr (6, [.ref w0, .ref w1, .ref w2, .int ik, .ref w3, .int (nI tx), .int he, .int fa, .ref w4, .ref w5, .int (nI cl), .ref w6, .ref w7, .ref w8, .ref w9])), (w0, .inl (E 0, 137, .inl wv))]) [0, 1] rfl) (ci := 6) (q0 := 0) rfl rfl) rfl rfl hl.1 rfl (lv_room (Nat.le_of_ble_eq_true rfl)) dX8_otherOf_2 ⟨Nat.zero_le _, Nat.zero_le _⟩) (fun r_1 H locs hw_2 hP hS => ?_)
  subst hw_2
  refine lv_ishl hx hb dX8_otherOf_5 ?_
  refine lv_iconst (v := nI 1) hx hb dX8_otherOf_6 (by rfl) ?_
  refine lv_isub hx hb dX8_otherOf_7 ?_
  refine zr_ti (y := zm_all N) (rfl) ?_
  refine lv_aload_n hx hb dX8_otherOf_8 rfl (lv_at hl 0 rfl) ?_
  refine lv_iload_n hx hb dX8_otherOf_9 rfl (lv_at hl 1 rfl) ?_
  refine zr_ci hP hS (va_runV (As := [.int (nI t)]) (rest := [.int (zm_all N)]) ⟨hx, hb, hml, hown, hts⟩ (c_X8_pattern l D E m0 w0 w1 w2 w3 w4 w5 w6 w7 w8 w9 ik tx he fa cl wv N G P t (hvg) (by omega)) (cwV 1 hts gX8_otherOf_X8_pattern rfl rfl rfl (by decide +kernel) ⟨Nat.le_of_ble_eq_true rfl, Nat.le_of_ble_eq_true rfl⟩) (zr_V hK (hP.sub (ws' := [(m0, .inr (6, [.ref w0, .ref w1, .ref w2, .int ik, .ref w3, .int (nI tx), .int he, .int fa, .ref w4, .ref w5, .int (nI cl), .ref w6, .ref w7, .ref w8, .ref w9])), (w0, .inl (E 0, 137, .inl wv))]) [0, 1] rfl) (ci := 6) (q0 := 0) rfl rfl) rfl rfl hl.1 rfl (lv_room (Nat.le_of_ble_eq_true rfl)) dX8_otherOf_10 ⟨Nat.zero_le _, Nat.zero_le _⟩) (fun r_3 H locs hw_4 hP hS => ?_)
  subst hw_4
  refine lv_isub hx hb dX8_otherOf_13 ?_
  refine lv_istore_n (lv' := [(2, .int ((zm_all N) - (zm_pat P t (N - 1)))), (0, .ref m0), (1, .int (nI t))]) hx hb dX8_otherOf_14 rfl hl (by decide) rfl (fun ls hl => ?_)
  refine lv_iconst (v := nI 0) hx hb dX8_otherOf_15 (by rfl) ?_
  refine lv_istore_n (lv' := [(3, .int (nI 0)), (2, .int ((zm_all N) - (zm_pat P t (N - 1)))), (0, .ref m0), (1, .int (nI t))]) hx hb dX8_otherOf_16 rfl hl (by decide) rfl (fun ls hl => ?_)
  suffices KL17 : ∀ (kz : Nat) (i : Nat) (H : Heap) (locs : List Loc) (ls : Array Slot), (N - i) < kz → (zm_oth N P t = zm_findI (fun i => zm_pat P i (N - 1)) (zm_all N - zm_pat P t (N - 1)) (N - i) i) → (i ≤ N) → va_P D vwCl [(m0, .inr (6, [.ref w0, .ref w1, .ref w2, .int ik, .ref w3, .int (nI tx), .int he, .int fa, .ref w4, .ref w5, .int (nI cl), .ref w6, .ref w7, .ref w8, .ref w9])), (w0, .inl (E 0, 137, .inl wv))] H → va_S (fun _ : Nat => False) s.heap H locs → lv_has ls 4 [(0, .ref m0), (2, .int (zm_all N - zm_pat P t (N - 1))), (3, .int (nI i))] → W p l e (headSpec wsX8_otherOf ({ frames := 3, cells := 0, slots := 0, locals := 68 })).room s m ([.ref m0, .int (nI t)] : List Value).toArray below meth c H locs 0 0 Q (F0 m 17 ls []) from
    KL17 _ 0 _ _ ls (Nat.lt_succ_self _) (rfl) (by omega) hP hS (lv_sub hl [2, 1, 0] rfl)
  clear hP hS hl
  intro kz
  induction kz with
  | zero => intro i H locs ls hkz; exact absurd hkz (Nat.not_lt_zero _)
  | succ kz ih17 =>
    intro i H locs ls hkz hq hi hP hS hl
    refine lv_iload_n hx hb dX8_otherOf_17 rfl (lv_at hl 2 rfl) ?_
    refine lv_aload_n hx hb dX8_otherOf_18 rfl (lv_at hl 0 rfl) ?_
    refine va_get (D := D) (ci := 6) (v := .ref w0) (C := RX8) (T := TX8) (N := 15) hx hb hts (by decide +kernel) hown hK.1 hP 0 rfl rfl 0 (by decide) (hts (.fieldLink RX8 11 "HomeRoundsModel" "w" "[I") (by decide +kernel)) (fun _ h9 => h9) rfl dX8_otherOf_19 ?_
    refine lv_iconst (v := nI 0) hx hb dX8_otherOf_22 (by rfl) ?_
    refine va_iald hx hb hK.1 hP 1 0 rfl rfl (vp_in_nI (by omega) (by omega)) dX8_otherOf_23 ?_
    refine zr_ti (y := nI N) ((congrArg wv (nI_clamp (by omega))).trans (hvn)) ?_
    refine lv_icmp_ge (tgt := 44) hx hb dX8_otherOf_24 (by decide) (fun cn_5 => ?_) (fun cn_5 => ?_)
    · skip
      have cn_5 : N ≤ i := (nI_leI (a := N) (b := i) (by omega) (by omega)).mp cn_5
      have hie : i = N := by omega
      refine lv_bipush (v := (-5)) hx hb dX8_otherOf_44 (by rfl) ?_
      subst hQ
      exact W.iret (v := (-5)) hx hb hr (fun tz htz hWz => ⟨⟨(-5), (), rfl, by rw [hq, hie, Nat.sub_self]; rfl, trivial⟩, hS.F htz⟩) hS.2.2 dX8_otherOf_46
    · skip
      have cn_5 : ¬ (N ≤ i) := fun hz => cn_5 ((nI_leI (a := N) (b := i) (by omega) (by omega)).mpr hz)
      refine lv_aload_n hx hb dX8_otherOf_27 rfl (lv_at hl 0 rfl) ?_
      refine lv_iload_n hx hb dX8_otherOf_28 rfl (lv_at hl 2 rfl) ?_
      refine zr_ci hP hS (va_runV (As := [.int (nI i)]) (rest := []) ⟨hx, hb, hml, hown, hts⟩ (c_X8_pattern l D E m0 w0 w1 w2 w3 w4 w5 w6 w7 w8 w9 ik tx he fa cl wv N G P i (hvg) (by omega)) (cwV 1 hts gX8_otherOf_X8_pattern rfl rfl rfl (by decide +kernel) ⟨Nat.le_of_ble_eq_true rfl, Nat.le_of_ble_eq_true rfl⟩) (zr_V hK (hP.sub (ws' := [(m0, .inr (6, [.ref w0, .ref w1, .ref w2, .int ik, .ref w3, .int (nI tx), .int he, .int fa, .ref w4, .ref w5, .int (nI cl), .ref w6, .ref w7, .ref w8, .ref w9])), (w0, .inl (E 0, 137, .inl wv))]) [0, 1] rfl) (ci := 6) (q0 := 0) rfl rfl) rfl rfl hl.1 rfl (lv_room (Nat.le_of_ble_eq_true rfl)) dX8_otherOf_29 ⟨Nat.zero_le _, Nat.zero_le _⟩) (fun r_6 H locs hw_7 hP hS => ?_)
      subst hw_7
      refine lv_iload_n hx hb dX8_otherOf_32 rfl (lv_at hl 1 rfl) ?_
      refine lv_icmp_ne (tgt := 38) hx hb dX8_otherOf_33 (by decide) (fun cn_8 => ?_) (fun cn_8 => ?_)
      · skip
        have hbr := cn_8
        refine lv_iinc (v := nI (i + 1)) (lv' := [(3, .int (nI (i + 1))), (0, .ref m0), (2, .int (zm_all N - zm_pat P t (N - 1)))]) hx hb dX8_otherOf_38 hl (k := 2) rfl (nI_add _ _) (by decide) rfl (fun ls hl => ?_)
        refine lv_goto (tgt := 17) hx hb dX8_otherOf_41 (by decide) ?_
        have hl : lv_has ls 4 [(0, .ref m0), (2, .int (zm_all N - zm_pat P t (N - 1))), (3, .int (nI (i + 1)))] := lv_sub hl [1, 2, 0] rfl
        exact ih17 (i + 1) H locs ls (by omega) (by rw [hq, show N - i = (N - (i + 1)) + 1 from by omega, zm_findI, if_neg hbr]) (by omega) hP hS hl
      · skip
        have hbr := cn_8
        refine lv_iload_n hx hb dX8_otherOf_36 rfl (lv_at hl 2 rfl) ?_
        subst hQ
        exact W.iret (v := nI i) hx hb hr (fun tz htz hWz => ⟨⟨nI i, (), rfl, by rw [hq, show N - i = (N - (i + 1)) + 1 from by omega, zm_findI, if_pos hbr], trivial⟩, hS.F htz⟩) hS.2.2 dX8_otherOf_37

set_option maxHeartbeats 4000000 in
set_option maxRecDepth 100000 in
theorem c_X8_seasonBreaks (l : Launch) (D : va_G) (E : Nat → ClassId) (m0 : Nat) (w0 : Nat) (w1 : Nat) (w2 : Nat) (w3 : Nat) (w4 : Nat) (w5 : Nat) (w6 : Nat) (w7 : Nat) (w8 : Nat) (w9 : Nat) (ik : Int32) (tx : Nat) (he : Int32) (fa : Int32) (cl : Nat) (wv : Nat → Int32) (N : Nat) (G : Nat → Nat → Nat) (P : Nat → Nat → Nat) (t : Nat) (kd : Nat) (hvg : zv_g N G P wv) (ht : t < N) (hkd : kd < 3) (hkv : wv 1 = nI kd) : Met l yX8_seasonBreaks wsX8_seasonBreaks ({ frames := 3, cells := 0, slots := 0, locals := 68 }) (zr_P D E [.ref m0, .int (nI t)] [(m0, .inr (6, [.ref w0, .ref w1, .ref w2, .int ik, .ref w3, .int (nI tx), .int he, .int fa, .ref w4, .ref w5, .int (nI cl), .ref w6, .ref w7, .ref w8, .ref w9])), (w0, .inl (E 0, 137, .inl wv))]) (zr_Qi (fun zv => zv = nI (zm_sb N P kd t))) 0 0 (fun _ => False) := by
  refine Met.ofW (cc := cX8_seasonBreaks) (maxL := 4) (ret := (some .int)) (by decide) rfl ?_
  intro p e s m args below meth c s₁ Bz hml hv
  obtain ⟨rfl, hP, hK⟩ := hv
  have hx := Bz.exec
  have hb := Bz.bytes
  have hr := Bz.returns
  have hts := atoms_spec (ws := wsX8_seasonBreaks) Bz.pre
  have hown : s.vm.findClass RX8 = some m.cls := findClass_of_methodNamed Bz.named
  have hlocks := Bz.notSynchronized
  have hP : va_P D vwCl [(m0, .inr (6, [.ref w0, .ref w1, .ref w2, .int ik, .ref w3, .int (nI tx), .int he, .int fa, .ref w4, .ref w5, .int (nI cl), .ref w6, .ref w7, .ref w8, .ref w9])), (w0, .inl (E 0, 137, .inl wv))] s.heap := hP
  have hS : va_S (fun _ : Nat => False) s.heap s.heap [] := va_S.rf
  have hl := lv_entry ([.ref m0, .int (nI t)]) (n := 4) (Nat.le_of_ble_eq_true rfl)
  rw [lg_entry_eq]
  generalize (lg_sl ([.ref m0, .int (nI t)]) ++ List.replicate (4 - (lg_sl ([.ref m0, .int (nI t)])).length) Slot.unset).toArray = ls at hl ⊢
  have hl : lv_has ls 4 [(0, .ref m0), (1, .int (nI t))] := hl
  refine zr_nQ (fun Q hQ => ?_)
  have hok := hvg.1
  have hN := hok.1
  have hvn := hvg.2.1
  refine lv_iconst (v := nI 0) hx hb dX8_seasonBreaks_0 (by rfl) ?_
  refine lv_istore_n (lv' := [(2, .int (nI 0)), (0, .ref m0), (1, .int (nI t))]) hx hb dX8_seasonBreaks_1 rfl hl (by decide) rfl (fun ls hl => ?_)
  refine lv_iconst (v := nI 1) hx hb dX8_seasonBreaks_2 (by rfl) ?_
  refine lv_istore_n (lv' := [(3, .int (nI 1)), (2, .int (nI 0)), (0, .ref m0), (1, .int (nI t))]) hx hb dX8_seasonBreaks_3 rfl hl (by decide) rfl (fun ls hl => ?_)
  suffices KL4 : ∀ (kz : Nat) (i : Nat) (q : Nat) (H : Heap) (locs : List Loc) (ls : Array Slot), (20 - i) < kz → (q = zm_sum (zm_sbf N P kd t) i) → (i ≤ 2 * (N - 1) - 1) → va_P D vwCl [(m0, .inr (6, [.ref w0, .ref w1, .ref w2, .int ik, .ref w3, .int (nI tx), .int he, .int fa, .ref w4, .ref w5, .int (nI cl), .ref w6, .ref w7, .ref w8, .ref w9])), (w0, .inl (E 0, 137, .inl wv))] H → va_S (fun _ : Nat => False) s.heap H locs → lv_has ls 4 [(0, .ref m0), (1, .int (nI t)), (2, .int (nI q)), (3, .int (nI (i + 1)))] → W p l e (headSpec wsX8_seasonBreaks ({ frames := 3, cells := 0, slots := 0, locals := 68 })).room s m ([.ref m0, .int (nI t)] : List Value).toArray below meth c H locs 0 0 Q (F0 m 4 ls []) from
    KL4 _ 0 0 _ _ ls (Nat.lt_succ_self _) (rfl) (by omega) hP hS (lv_sub hl [2, 3, 1, 0] rfl)
  clear hP hS hl
  intro kz
  induction kz with
  | zero => intro i q H locs ls hkz; exact absurd hkz (Nat.not_lt_zero _)
  | succ kz ih4 =>
    intro i q H locs ls hkz hq hi hP hS hl
    refine lv_iload_n hx hb dX8_seasonBreaks_4 rfl (lv_at hl 3 rfl) ?_
    refine lv_iconst (v := nI 2) hx hb dX8_seasonBreaks_5 (by rfl) ?_
    refine lv_aload_n hx hb dX8_seasonBreaks_6 rfl (lv_at hl 0 rfl) ?_
    refine zr_ci hP hS (va_runV (As := []) (rest := [.int (nI 2), .int (nI (i + 1))]) ⟨hx, hb, hml, hown, hts⟩ (c_X8_rounds l D E m0 w0 w1 w2 w3 w4 w5 w6 w7 w8 w9 ik tx he fa cl wv N (hvn) (hN)) (cwV 0 hts gX8_seasonBreaks_X8_rounds rfl rfl rfl (by decide +kernel) ⟨Nat.le_of_ble_eq_true rfl, Nat.le_of_ble_eq_true rfl⟩) (zr_V hK (hP.sub (ws' := [(m0, .inr (6, [.ref w0, .ref w1, .ref w2, .int ik, .ref w3, .int (nI tx), .int he, .int fa, .ref w4, .ref w5, .int (nI cl), .ref w6, .ref w7, .ref w8, .ref w9])), (w0, .inl (E 0, 137, .inl wv))]) [0, 1] rfl) (ci := 6) (q0 := 0) rfl rfl) rfl rfl hl.1 rfl (lv_room (Nat.le_of_ble_eq_true rfl)) dX8_seasonBreaks_7 ⟨Nat.zero_le _, Nat.zero_le _⟩) (fun r_1 H locs hw_2 hP hS => ?_)
    subst hw_2
    refine lv_imul hx hb dX8_seasonBreaks_10 ?_
    refine zr_ti (y := nI (2 * (N - 1))) (pk_mul _ _) ?_
    refine lv_icmp_ge (tgt := 57) hx hb dX8_seasonBreaks_11 (by decide) (fun cn_3 => ?_) (fun cn_3 => ?_)
    · skip
      have cn_3 : 2 * (N - 1) ≤ i + 1 := (nI_leI (a := 2 * (N - 1)) (b := i + 1) (by omega) (by omega)).mp cn_3
      have hie : i = 2 * (N - 1) - 1 := by omega
      refine lv_iload_n hx hb dX8_seasonBreaks_57 rfl (lv_at hl 2 rfl) ?_
      subst hQ
      exact W.iret (v := nI q) hx hb hr (fun tz htz hWz => ⟨⟨nI q, (), rfl, by rw [hq, hie]; rfl, trivial⟩, hS.F htz⟩) hS.2.2 dX8_seasonBreaks_58
    · skip
      have cn_3 : ¬ (2 * (N - 1) ≤ i + 1) := fun hz => cn_3 ((nI_leI (a := 2 * (N - 1)) (b := i + 1) (by omega) (by omega)).mpr hz)
      refine lv_iload_n hx hb dX8_seasonBreaks_14 rfl (lv_at hl 2 rfl) ?_
      refine lv_aload_n hx hb dX8_seasonBreaks_15 rfl (lv_at hl 0 rfl) ?_
      refine lv_iload_n hx hb dX8_seasonBreaks_16 rfl (lv_at hl 1 rfl) ?_
      refine lv_iload_n hx hb dX8_seasonBreaks_17 rfl (lv_at hl 3 rfl) ?_
      refine lv_aload_n hx hb dX8_seasonBreaks_18 rfl (lv_at hl 0 rfl) ?_
      refine va_get (D := D) (ci := 6) (v := .ref w0) (C := RX8) (T := TX8) (N := 15) hx hb hts (by decide +kernel) hown hK.1 hP 0 rfl rfl 0 (by decide) (hts (.fieldLink RX8 11 "HomeRoundsModel" "w" "[I") (by decide +kernel)) (fun _ h9 => h9) rfl dX8_seasonBreaks_19 ?_
      refine lv_iconst (v := nI 1) hx hb dX8_seasonBreaks_22 (by rfl) ?_
      refine va_iald hx hb hK.1 hP 1 0 rfl rfl (vp_in_nI (by omega) (by omega)) dX8_seasonBreaks_23 ?_
      refine zr_ti (y := nI kd) ((congrArg wv (nI_clamp (by omega))).trans (hkv)) ?_
      refine zr_ci hP hS (va_runV (As := [.int (nI t), .int (nI (i + 1)), .int (nI kd)]) (rest := [.int (nI q)]) ⟨hx, hb, hml, hown, hts⟩ (c_X8_isHomeIn l D E m0 w0 w1 w2 w3 w4 w5 w6 w7 w8 w9 ik tx he fa cl wv N G P t (i + 1) kd (hvg) (by omega) (by omega) (by omega)) (cwV 3 hts gX8_seasonBreaks_X8_isHomeIn rfl rfl rfl (by decide +kernel) ⟨Nat.le_of_ble_eq_true rfl, Nat.le_of_ble_eq_true rfl⟩) (zr_V hK (hP.sub (ws' := [(m0, .inr (6, [.ref w0, .ref w1, .ref w2, .int ik, .ref w3, .int (nI tx), .int he, .int fa, .ref w4, .ref w5, .int (nI cl), .ref w6, .ref w7, .ref w8, .ref w9])), (w0, .inl (E 0, 137, .inl wv))]) [0, 1] rfl) (ci := 6) (q0 := 0) rfl rfl) rfl rfl hl.1 rfl (lv_room (Nat.le_of_ble_eq_true rfl)) dX8_seasonBreaks_24 ⟨Nat.zero_le _, Nat.zero_le _⟩) (fun r_4 H locs hw_5 hP hS => ?_)
      rcases hw_5 with ⟨rfl, hw_5⟩ | ⟨rfl, hw_5⟩
      · skip
        have hA := hw_5
        refine zr_ti (y := nI 1) rfl ?_
        refine lv_aload_n hx hb dX8_seasonBreaks_27 rfl (lv_at hl 0 rfl) ?_
        refine lv_iload_n hx hb dX8_seasonBreaks_28 rfl (lv_at hl 1 rfl) ?_
        refine lv_iload_n hx hb dX8_seasonBreaks_29 rfl (lv_at hl 3 rfl) ?_
        refine lv_iconst (v := nI 1) hx hb dX8_seasonBreaks_30 (by rfl) ?_
        refine lv_isub hx hb dX8_seasonBreaks_31 ?_
        refine zr_ti (y := nI i) (zn_pred _) ?_
        refine lv_aload_n hx hb dX8_seasonBreaks_32 rfl (lv_at hl 0 rfl) ?_
        refine va_get (D := D) (ci := 6) (v := .ref w0) (C := RX8) (T := TX8) (N := 15) hx hb hts (by decide +kernel) hown hK.1 hP 0 rfl rfl 0 (by decide) (hts (.fieldLink RX8 11 "HomeRoundsModel" "w" "[I") (by decide +kernel)) (fun _ h9 => h9) rfl dX8_seasonBreaks_33 ?_
        refine lv_iconst (v := nI 1) hx hb dX8_seasonBreaks_36 (by rfl) ?_
        refine va_iald hx hb hK.1 hP 1 0 rfl rfl (vp_in_nI (by omega) (by omega)) dX8_seasonBreaks_37 ?_
        refine zr_ti (y := nI kd) ((congrArg wv (nI_clamp (by omega))).trans (hkv)) ?_
        refine zr_ci hP hS (va_runV (As := [.int (nI t), .int (nI i), .int (nI kd)]) (rest := [.int (nI 1), .int (nI q)]) ⟨hx, hb, hml, hown, hts⟩ (c_X8_isHomeIn l D E m0 w0 w1 w2 w3 w4 w5 w6 w7 w8 w9 ik tx he fa cl wv N G P t i kd (hvg) (by omega) (by omega) (by omega)) (cwV 3 hts gX8_seasonBreaks_X8_isHomeIn rfl rfl rfl (by decide +kernel) ⟨Nat.le_of_ble_eq_true rfl, Nat.le_of_ble_eq_true rfl⟩) (zr_V hK (hP.sub (ws' := [(m0, .inr (6, [.ref w0, .ref w1, .ref w2, .int ik, .ref w3, .int (nI tx), .int he, .int fa, .ref w4, .ref w5, .int (nI cl), .ref w6, .ref w7, .ref w8, .ref w9])), (w0, .inl (E 0, 137, .inl wv))]) [0, 1] rfl) (ci := 6) (q0 := 0) rfl rfl) rfl rfl hl.1 rfl (lv_room (Nat.le_of_ble_eq_true rfl)) dX8_seasonBreaks_38 ⟨Nat.zero_le _, Nat.zero_le _⟩) (fun r_6 H locs hw_7 hP hS => ?_)
        rcases hw_7 with ⟨rfl, hw_7⟩ | ⟨rfl, hw_7⟩
        · skip
          have hB := hw_7
          refine zr_ti (y := nI 1) rfl ?_
          refine lv_icmp_ne (tgt := 48) hx hb dX8_seasonBreaks_41 (by decide) (fun cn_8 => ?_) (fun cn_8 => ?_)
          · skip
            exact absurd cn_8 (by decide)
          · skip
            refine lv_iconst (v := nI 1) hx hb dX8_seasonBreaks_44 (by rfl) ?_
            refine lv_goto (tgt := 49) hx hb dX8_seasonBreaks_45 (by decide) ?_
            refine lv_iadd hx hb dX8_seasonBreaks_49 ?_
            refine zr_ti (y := nI (q + 1)) (nI_add _ _) ?_
            refine lv_istore_n (lv' := [(2, .int (nI (q + 1))), (0, .ref m0), (1, .int (nI t)), (3, .int (nI (i + 1)))]) hx hb dX8_seasonBreaks_50 rfl hl (by decide) rfl (fun ls hl => ?_)
            refine lv_iinc (v := nI (i + 1 + 1)) (lv' := [(3, .int (nI (i + 1 + 1))), (2, .int (nI (q + 1))), (0, .ref m0), (1, .int (nI t))]) hx hb dX8_seasonBreaks_51 hl (k := 3) rfl (nI_add _ _) (by decide) rfl (fun ls hl => ?_)
            refine lv_goto (tgt := 4) hx hb dX8_seasonBreaks_54 (by decide) ?_
            have hl : lv_has ls 4 [(0, .ref m0), (1, .int (nI t)), (2, .int (nI (q + 1))), (3, .int (nI ((i + 1) + 1)))] := lv_sub hl [2, 3, 1, 0] rfl
            exact ih4 (i + 1) (q + 1) H locs ls (by omega) (by simp only [zm_sum, zm_sbf, hA, hB, hq]; first | rfl | simp) (by omega) hP hS hl
        · skip
          have hB := hw_7
          refine zr_ti (y := nI 0) rfl ?_
          refine lv_icmp_ne (tgt := 48) hx hb dX8_seasonBreaks_41 (by decide) (fun cn_9 => ?_) (fun cn_9 => ?_)
          · skip
            refine lv_iconst (v := nI 0) hx hb dX8_seasonBreaks_48 (by rfl) ?_
            refine lv_iadd hx hb dX8_seasonBreaks_49 ?_
            refine zr_ti (y := nI (q + 0)) (nI_add _ _) ?_
            refine lv_istore_n (lv' := [(2, .int (nI (q + 0))), (0, .ref m0), (1, .int (nI t)), (3, .int (nI (i + 1)))]) hx hb dX8_seasonBreaks_50 rfl hl (by decide) rfl (fun ls hl => ?_)
            refine lv_iinc (v := nI (i + 1 + 1)) (lv' := [(3, .int (nI (i + 1 + 1))), (2, .int (nI (q + 0))), (0, .ref m0), (1, .int (nI t))]) hx hb dX8_seasonBreaks_51 hl (k := 3) rfl (nI_add _ _) (by decide) rfl (fun ls hl => ?_)
            refine lv_goto (tgt := 4) hx hb dX8_seasonBreaks_54 (by decide) ?_
            have hl : lv_has ls 4 [(0, .ref m0), (1, .int (nI t)), (2, .int (nI (q + 0))), (3, .int (nI ((i + 1) + 1)))] := lv_sub hl [2, 3, 1, 0] rfl
            exact ih4 (i + 1) (q + 0) H locs ls (by omega) (by simp only [zm_sum, zm_sbf, hA, hB, hq]; first | rfl | simp) (by omega) hP hS hl
          · skip
            exact absurd cn_9 (by decide)
      · skip
        have hA := hw_5
        refine zr_ti (y := nI 0) rfl ?_
        refine lv_aload_n hx hb dX8_seasonBreaks_27 rfl (lv_at hl 0 rfl) ?_
        refine lv_iload_n hx hb dX8_seasonBreaks_28 rfl (lv_at hl 1 rfl) ?_
        refine lv_iload_n hx hb dX8_seasonBreaks_29 rfl (lv_at hl 3 rfl) ?_
        refine lv_iconst (v := nI 1) hx hb dX8_seasonBreaks_30 (by rfl) ?_
        refine lv_isub hx hb dX8_seasonBreaks_31 ?_
        refine zr_ti (y := nI i) (zn_pred _) ?_
        refine lv_aload_n hx hb dX8_seasonBreaks_32 rfl (lv_at hl 0 rfl) ?_
        refine va_get (D := D) (ci := 6) (v := .ref w0) (C := RX8) (T := TX8) (N := 15) hx hb hts (by decide +kernel) hown hK.1 hP 0 rfl rfl 0 (by decide) (hts (.fieldLink RX8 11 "HomeRoundsModel" "w" "[I") (by decide +kernel)) (fun _ h9 => h9) rfl dX8_seasonBreaks_33 ?_
        refine lv_iconst (v := nI 1) hx hb dX8_seasonBreaks_36 (by rfl) ?_
        refine va_iald hx hb hK.1 hP 1 0 rfl rfl (vp_in_nI (by omega) (by omega)) dX8_seasonBreaks_37 ?_
        refine zr_ti (y := nI kd) ((congrArg wv (nI_clamp (by omega))).trans (hkv)) ?_
        refine zr_ci hP hS (va_runV (As := [.int (nI t), .int (nI i), .int (nI kd)]) (rest := [.int (nI 0), .int (nI q)]) ⟨hx, hb, hml, hown, hts⟩ (c_X8_isHomeIn l D E m0 w0 w1 w2 w3 w4 w5 w6 w7 w8 w9 ik tx he fa cl wv N G P t i kd (hvg) (by omega) (by omega) (by omega)) (cwV 3 hts gX8_seasonBreaks_X8_isHomeIn rfl rfl rfl (by decide +kernel) ⟨Nat.le_of_ble_eq_true rfl, Nat.le_of_ble_eq_true rfl⟩) (zr_V hK (hP.sub (ws' := [(m0, .inr (6, [.ref w0, .ref w1, .ref w2, .int ik, .ref w3, .int (nI tx), .int he, .int fa, .ref w4, .ref w5, .int (nI cl), .ref w6, .ref w7, .ref w8, .ref w9])), (w0, .inl (E 0, 137, .inl wv))]) [0, 1] rfl) (ci := 6) (q0 := 0) rfl rfl) rfl rfl hl.1 rfl (lv_room (Nat.le_of_ble_eq_true rfl)) dX8_seasonBreaks_38 ⟨Nat.zero_le _, Nat.zero_le _⟩) (fun r_10 H locs hw_11 hP hS => ?_)
        rcases hw_11 with ⟨rfl, hw_11⟩ | ⟨rfl, hw_11⟩
        · skip
          have hB := hw_11
          refine zr_ti (y := nI 1) rfl ?_
          refine lv_icmp_ne (tgt := 48) hx hb dX8_seasonBreaks_41 (by decide) (fun cn_12 => ?_) (fun cn_12 => ?_)
          · skip
            refine lv_iconst (v := nI 0) hx hb dX8_seasonBreaks_48 (by rfl) ?_
            refine lv_iadd hx hb dX8_seasonBreaks_49 ?_
            refine zr_ti (y := nI (q + 0)) (nI_add _ _) ?_
            refine lv_istore_n (lv' := [(2, .int (nI (q + 0))), (0, .ref m0), (1, .int (nI t)), (3, .int (nI (i + 1)))]) hx hb dX8_seasonBreaks_50 rfl hl (by decide) rfl (fun ls hl => ?_)
            refine lv_iinc (v := nI (i + 1 + 1)) (lv' := [(3, .int (nI (i + 1 + 1))), (2, .int (nI (q + 0))), (0, .ref m0), (1, .int (nI t))]) hx hb dX8_seasonBreaks_51 hl (k := 3) rfl (nI_add _ _) (by decide) rfl (fun ls hl => ?_)
            refine lv_goto (tgt := 4) hx hb dX8_seasonBreaks_54 (by decide) ?_
            have hl : lv_has ls 4 [(0, .ref m0), (1, .int (nI t)), (2, .int (nI (q + 0))), (3, .int (nI ((i + 1) + 1)))] := lv_sub hl [2, 3, 1, 0] rfl
            exact ih4 (i + 1) (q + 0) H locs ls (by omega) (by simp only [zm_sum, zm_sbf, hA, hB, hq]; first | rfl | simp) (by omega) hP hS hl
          · skip
            exact absurd cn_12 (by decide)
        · skip
          have hB := hw_11
          refine zr_ti (y := nI 0) rfl ?_
          refine lv_icmp_ne (tgt := 48) hx hb dX8_seasonBreaks_41 (by decide) (fun cn_13 => ?_) (fun cn_13 => ?_)
          · skip
            exact absurd cn_13 (by decide)
          · skip
            refine lv_iconst (v := nI 1) hx hb dX8_seasonBreaks_44 (by rfl) ?_
            refine lv_goto (tgt := 49) hx hb dX8_seasonBreaks_45 (by decide) ?_
            refine lv_iadd hx hb dX8_seasonBreaks_49 ?_
            refine zr_ti (y := nI (q + 1)) (nI_add _ _) ?_
            refine lv_istore_n (lv' := [(2, .int (nI (q + 1))), (0, .ref m0), (1, .int (nI t)), (3, .int (nI (i + 1)))]) hx hb dX8_seasonBreaks_50 rfl hl (by decide) rfl (fun ls hl => ?_)
            refine lv_iinc (v := nI (i + 1 + 1)) (lv' := [(3, .int (nI (i + 1 + 1))), (2, .int (nI (q + 1))), (0, .ref m0), (1, .int (nI t))]) hx hb dX8_seasonBreaks_51 hl (k := 3) rfl (nI_add _ _) (by decide) rfl (fun ls hl => ?_)
            refine lv_goto (tgt := 4) hx hb dX8_seasonBreaks_54 (by decide) ?_
            have hl : lv_has ls 4 [(0, .ref m0), (1, .int (nI t)), (2, .int (nI (q + 1))), (3, .int (nI ((i + 1) + 1)))] := lv_sub hl [2, 3, 1, 0] rfl
            exact ih4 (i + 1) (q + 1) H locs ls (by omega) (by simp only [zm_sum, zm_sbf, hA, hB, hq]; first | rfl | simp) (by omega) hP hS hl

set_option maxHeartbeats 4000000 in
set_option maxRecDepth 100000 in
theorem c_X8_allSeasonBreaks (l : Launch) (D : va_G) (E : Nat → ClassId) (m0 : Nat) (w0 : Nat) (w1 : Nat) (w2 : Nat) (w3 : Nat) (w4 : Nat) (w5 : Nat) (w6 : Nat) (w7 : Nat) (w8 : Nat) (w9 : Nat) (ik : Int32) (tx : Nat) (he : Int32) (fa : Int32) (cl : Nat) (wv : Nat → Int32) (N : Nat) (G : Nat → Nat → Nat) (P : Nat → Nat → Nat) (kd : Nat) (hvg : zv_g N G P wv) (hkd : kd < 3) (hkv : wv 1 = nI kd) : Met l yX8_allSeasonBreaks wsX8_allSeasonBreaks ({ frames := 4, cells := 0, slots := 0, locals := 91 }) (zr_P D E [.ref m0] [(m0, .inr (6, [.ref w0, .ref w1, .ref w2, .int ik, .ref w3, .int (nI tx), .int he, .int fa, .ref w4, .ref w5, .int (nI cl), .ref w6, .ref w7, .ref w8, .ref w9])), (w0, .inl (E 0, 137, .inl wv))]) (zr_Qi (fun zv => zv = nI (zm_sbs N P kd))) 0 0 (fun _ => False) := by
  refine Met.ofW (cc := cX8_allSeasonBreaks) (maxL := 3) (ret := (some .int)) (by decide) rfl ?_
  intro p e s m args below meth c s₁ Bz hml hv
  obtain ⟨rfl, hP, hK⟩ := hv
  have hx := Bz.exec
  have hb := Bz.bytes
  have hr := Bz.returns
  have hts := atoms_spec (ws := wsX8_allSeasonBreaks) Bz.pre
  have hown : s.vm.findClass RX8 = some m.cls := findClass_of_methodNamed Bz.named
  have hlocks := Bz.notSynchronized
  have hP : va_P D vwCl [(m0, .inr (6, [.ref w0, .ref w1, .ref w2, .int ik, .ref w3, .int (nI tx), .int he, .int fa, .ref w4, .ref w5, .int (nI cl), .ref w6, .ref w7, .ref w8, .ref w9])), (w0, .inl (E 0, 137, .inl wv))] s.heap := hP
  have hS : va_S (fun _ : Nat => False) s.heap s.heap [] := va_S.rf
  have hl := lv_entry ([.ref m0]) (n := 3) (Nat.le_of_ble_eq_true rfl)
  rw [lg_entry_eq]
  generalize (lg_sl ([.ref m0]) ++ List.replicate (3 - (lg_sl ([.ref m0])).length) Slot.unset).toArray = ls at hl ⊢
  have hl : lv_has ls 3 [(0, .ref m0)] := hl
  refine zr_nQ (fun Q hQ => ?_)
  have hok := hvg.1
  have hN := hok.1
  have hvn := hvg.2.1
  refine lv_iconst (v := nI 0) hx hb dX8_allSeasonBreaks_0 (by rfl) ?_
  refine lv_istore_n (lv' := [(1, .int (nI 0)), (0, .ref m0)]) hx hb dX8_allSeasonBreaks_1 rfl hl (by decide) rfl (fun ls hl => ?_)
  refine lv_iconst (v := nI 0) hx hb dX8_allSeasonBreaks_2 (by rfl) ?_
  refine lv_istore_n (lv' := [(2, .int (nI 0)), (1, .int (nI 0)), (0, .ref m0)]) hx hb dX8_allSeasonBreaks_3 rfl hl (by decide) rfl (fun ls hl => ?_)
  suffices KL4 : ∀ (kz : Nat) (i : Nat) (q : Nat) (H : Heap) (locs : List Loc) (ls : Array Slot), (N - i) < kz → (q = zm_sum (zm_sb N P kd) i) → (i ≤ N) → va_P D vwCl [(m0, .inr (6, [.ref w0, .ref w1, .ref w2, .int ik, .ref w3, .int (nI tx), .int he, .int fa, .ref w4, .ref w5, .int (nI cl), .ref w6, .ref w7, .ref w8, .ref w9])), (w0, .inl (E 0, 137, .inl wv))] H → va_S (fun _ : Nat => False) s.heap H locs → lv_has ls 3 [(0, .ref m0), (1, .int (nI q)), (2, .int (nI i))] → W p l e (headSpec wsX8_allSeasonBreaks ({ frames := 4, cells := 0, slots := 0, locals := 91 })).room s m ([.ref m0] : List Value).toArray below meth c H locs 0 0 Q (F0 m 4 ls []) from
    KL4 _ 0 0 _ _ ls (Nat.lt_succ_self _) (rfl) (by omega) hP hS (lv_sub hl [2, 1, 0] rfl)
  clear hP hS hl
  intro kz
  induction kz with
  | zero => intro i q H locs ls hkz; exact absurd hkz (Nat.not_lt_zero _)
  | succ kz ih4 =>
    intro i q H locs ls hkz hq hi hP hS hl
    refine lv_iload_n hx hb dX8_allSeasonBreaks_4 rfl (lv_at hl 2 rfl) ?_
    refine lv_aload_n hx hb dX8_allSeasonBreaks_5 rfl (lv_at hl 0 rfl) ?_
    refine va_get (D := D) (ci := 6) (v := .ref w0) (C := RX8) (T := TX8) (N := 15) hx hb hts (by decide +kernel) hown hK.1 hP 0 rfl rfl 0 (by decide) (hts (.fieldLink RX8 11 "HomeRoundsModel" "w" "[I") (by decide +kernel)) (fun _ h9 => h9) rfl dX8_allSeasonBreaks_6 ?_
    refine lv_iconst (v := nI 0) hx hb dX8_allSeasonBreaks_9 (by rfl) ?_
    refine va_iald hx hb hK.1 hP 1 0 rfl rfl (vp_in_nI (by omega) (by omega)) dX8_allSeasonBreaks_10 ?_
    refine zr_ti (y := nI N) ((congrArg wv (nI_clamp (by omega))).trans (hvn)) ?_
    refine lv_icmp_ge (tgt := 28) hx hb dX8_allSeasonBreaks_11 (by decide) (fun cn_1 => ?_) (fun cn_1 => ?_)
    · skip
      have cn_1 : N ≤ i := (nI_leI (a := N) (b := i) (by omega) (by omega)).mp cn_1
      have hie : i = N := by omega
      refine lv_iload_n hx hb dX8_allSeasonBreaks_28 rfl (lv_at hl 1 rfl) ?_
      subst hQ
      exact W.iret (v := nI q) hx hb hr (fun tz htz hWz => ⟨⟨nI q, (), rfl, by rw [hq, hie]; rfl, trivial⟩, hS.F htz⟩) hS.2.2 dX8_allSeasonBreaks_29
    · skip
      have cn_1 : ¬ (N ≤ i) := fun hz => cn_1 ((nI_leI (a := N) (b := i) (by omega) (by omega)).mpr hz)
      refine lv_iload_n hx hb dX8_allSeasonBreaks_14 rfl (lv_at hl 1 rfl) ?_
      refine lv_aload_n hx hb dX8_allSeasonBreaks_15 rfl (lv_at hl 0 rfl) ?_
      refine lv_iload_n hx hb dX8_allSeasonBreaks_16 rfl (lv_at hl 2 rfl) ?_
      refine zr_ci hP hS (va_runV (As := [.int (nI i)]) (rest := [.int (nI q)]) ⟨hx, hb, hml, hown, hts⟩ (c_X8_seasonBreaks l D E m0 w0 w1 w2 w3 w4 w5 w6 w7 w8 w9 ik tx he fa cl wv N G P i kd (hvg) (by omega) (by omega) (hkv)) (cwV 1 hts gX8_allSeasonBreaks_X8_seasonBreaks rfl rfl rfl (by decide +kernel) ⟨Nat.le_of_ble_eq_true rfl, Nat.le_of_ble_eq_true rfl⟩) (zr_V hK (hP.sub (ws' := [(m0, .inr (6, [.ref w0, .ref w1, .ref w2, .int ik, .ref w3, .int (nI tx), .int he, .int fa, .ref w4, .ref w5, .int (nI cl), .ref w6, .ref w7, .ref w8, .ref w9])), (w0, .inl (E 0, 137, .inl wv))]) [0, 1] rfl) (ci := 6) (q0 := 0) rfl rfl) rfl rfl hl.1 rfl (lv_room (Nat.le_of_ble_eq_true rfl)) dX8_allSeasonBreaks_17 ⟨Nat.zero_le _, Nat.zero_le _⟩) (fun r_2 H locs hw_3 hP hS => ?_)
      subst hw_3
      refine lv_iadd hx hb dX8_allSeasonBreaks_20 ?_
      refine zr_ti (y := nI (q + (zm_sb N P kd i))) (nI_add _ _) ?_
      refine lv_istore_n (lv' := [(1, .int (nI (q + (zm_sb N P kd i)))), (0, .ref m0), (2, .int (nI i))]) hx hb dX8_allSeasonBreaks_21 rfl hl (by decide) rfl (fun ls hl => ?_)
      refine lv_iinc (v := nI (i + 1)) (lv' := [(2, .int (nI (i + 1))), (1, .int (nI (q + (zm_sb N P kd i)))), (0, .ref m0)]) hx hb dX8_allSeasonBreaks_22 hl (k := 2) rfl (nI_add _ _) (by decide) rfl (fun ls hl => ?_)
      refine lv_goto (tgt := 4) hx hb dX8_allSeasonBreaks_25 (by decide) ?_
      have hl : lv_has ls 3 [(0, .ref m0), (1, .int (nI (q + (zm_sb N P kd i)))), (2, .int (nI (i + 1)))] := lv_sub hl [2, 1, 0] rfl
      exact ih4 (i + 1) (q + (zm_sb N P kd i)) H locs ls (by omega) (by rw [hq]; rfl) (by omega) hP hS hl

