set_option maxHeartbeats 4000000 in
set_option maxRecDepth 100000 in
theorem c_X7_isRate (l : Launch) (D : va_G) (E : Nat → ClassId) (v : Int32)  : Met l yX7_isRate wsX7_isRate ({ frames := 0, cells := 0, slots := 0, locals := 0 }) (zr_P D E [.int v] []) (zr_Qi (fun zv => (zv = 1 ∧ (∃ t : Nat, t < 4 ∧ v = nI t)) ∨ (zv = 0 ∧ (∀ t : Nat, t < 4 → v ≠ nI t)))) 0 0 (fun _ => False) := by
  refine Met.ofW (cc := cX7_isRate) (maxL := 1) (ret := (some .boolean)) (by decide) rfl ?_
  intro p e s m args below meth c s₁ Bz hml hv
  obtain ⟨rfl, hP, hK⟩ := hv
  have hx := Bz.exec
  have hb := Bz.bytes
  have hr := Bz.returns
  have hts := atoms_spec (ws := wsX7_isRate) Bz.pre
  have hown : s.vm.findClass RX7 = some m.cls := findClass_of_methodNamed Bz.named
  have hlocks := Bz.notSynchronized
  have hP : va_P D vwCl [] s.heap := hP
  have hS : va_S (fun _ : Nat => False) s.heap s.heap [] := va_S.rf
  have hl := lv_entry ([.int v]) (n := 1) (Nat.le_of_ble_eq_true rfl)
  rw [lg_entry_eq]
  generalize (lg_sl ([.int v]) ++ List.replicate (1 - (lg_sl ([.int v])).length) Slot.unset).toArray = ls at hl ⊢
  have hl : lv_has ls 1 [(0, .int v)] := hl
  refine zr_nQ (fun Q hQ => ?_)
  refine lv_iload_n hx hb dX7_isRate_0 rfl (lv_at hl 0 rfl) ?_
  refine lv_if_lt (tgt := 13) hx hb dX7_isRate_1 (by decide) (fun cn_1 => ?_) (fun cn_1 => ?_)
  · skip
    have hno := zn_lo (n := 4) cn_1 (by omega)
    refine lv_iconst (v := nI 0) hx hb dX7_isRate_13 (by rfl) ?_
    subst hQ
    exact W.zret (v := nI 0) hx hb hr (by decide) (fun tz htz hWz => ⟨⟨nI 0, (), rfl, Or.inr ⟨rfl, hno⟩, trivial⟩, hS.F htz⟩) hS.2.2 dX7_isRate_14
  · skip
    have hge := cn_1
    refine lv_iload_n hx hb dX7_isRate_4 rfl (lv_at hl 0 rfl) ?_
    refine lv_iconst (v := nI 4) hx hb dX7_isRate_5 (by rfl) ?_
    refine lv_icmp_ge (tgt := 13) hx hb dX7_isRate_6 (by decide) (fun cn_2 => ?_) (fun cn_2 => ?_)
    · skip
      have hno := zn_hi (n := 4) cn_2 (by omega)
      refine lv_iconst (v := nI 0) hx hb dX7_isRate_13 (by rfl) ?_
      subst hQ
      exact W.zret (v := nI 0) hx hb hr (by decide) (fun tz htz hWz => ⟨⟨nI 0, (), rfl, Or.inr ⟨rfl, hno⟩, trivial⟩, hS.F htz⟩) hS.2.2 dX7_isRate_14
    · skip
      have hye := zn_in (n := 4) hge cn_2 (by omega)
      refine lv_iconst (v := nI 1) hx hb dX7_isRate_9 (by rfl) ?_
      refine lv_goto (tgt := 14) hx hb dX7_isRate_10 (by decide) ?_
      subst hQ
      exact W.zret (v := nI 1) hx hb hr (by decide) (fun tz htz hWz => ⟨⟨nI 1, (), rfl, Or.inl ⟨rfl, hye⟩, trivial⟩, hS.F htz⟩) hS.2.2 dX7_isRate_14

set_option maxHeartbeats 4000000 in
set_option maxRecDepth 100000 in
theorem c_X7_isNumber (l : Launch) (D : va_G) (E : Nat → ClassId) (v : Int32)  : Met l yX7_isNumber wsX7_isNumber ({ frames := 0, cells := 0, slots := 0, locals := 0 }) (zr_P D E [.int v] []) (zr_Qi (fun zv => (zv = 1 ∧ (∃ t : Nat, t < 100 ∧ v = nI t)) ∨ (zv = 0 ∧ (∀ t : Nat, t < 100 → v ≠ nI t)))) 0 0 (fun _ => False) := by
  refine Met.ofW (cc := cX7_isNumber) (maxL := 1) (ret := (some .boolean)) (by decide) rfl ?_
  intro p e s m args below meth c s₁ Bz hml hv
  obtain ⟨rfl, hP, hK⟩ := hv
  have hx := Bz.exec
  have hb := Bz.bytes
  have hr := Bz.returns
  have hts := atoms_spec (ws := wsX7_isNumber) Bz.pre
  have hown : s.vm.findClass RX7 = some m.cls := findClass_of_methodNamed Bz.named
  have hlocks := Bz.notSynchronized
  have hP : va_P D vwCl [] s.heap := hP
  have hS : va_S (fun _ : Nat => False) s.heap s.heap [] := va_S.rf
  have hl := lv_entry ([.int v]) (n := 1) (Nat.le_of_ble_eq_true rfl)
  rw [lg_entry_eq]
  generalize (lg_sl ([.int v]) ++ List.replicate (1 - (lg_sl ([.int v])).length) Slot.unset).toArray = ls at hl ⊢
  have hl : lv_has ls 1 [(0, .int v)] := hl
  refine zr_nQ (fun Q hQ => ?_)
  refine lv_iload_n hx hb dX7_isNumber_0 rfl (lv_at hl 0 rfl) ?_
  refine lv_if_lt (tgt := 14) hx hb dX7_isNumber_1 (by decide) (fun cn_1 => ?_) (fun cn_1 => ?_)
  · skip
    have hno := zn_lo (n := 100) cn_1 (by omega)
    refine lv_iconst (v := nI 0) hx hb dX7_isNumber_14 (by rfl) ?_
    subst hQ
    exact W.zret (v := nI 0) hx hb hr (by decide) (fun tz htz hWz => ⟨⟨nI 0, (), rfl, Or.inr ⟨rfl, hno⟩, trivial⟩, hS.F htz⟩) hS.2.2 dX7_isNumber_15
  · skip
    have hge := cn_1
    refine lv_iload_n hx hb dX7_isNumber_4 rfl (lv_at hl 0 rfl) ?_
    refine lv_bipush (v := nI 99) hx hb dX7_isNumber_5 (by rfl) ?_
    refine lv_icmp_gt (tgt := 14) hx hb dX7_isNumber_7 (by decide) (fun cn_2 => ?_) (fun cn_2 => ?_)
    · skip
      have hno := zn_hi (n := 100) (zn_gt (n := 99) (by omega) cn_2) (by omega)
      refine lv_iconst (v := nI 0) hx hb dX7_isNumber_14 (by rfl) ?_
      subst hQ
      exact W.zret (v := nI 0) hx hb hr (by decide) (fun tz htz hWz => ⟨⟨nI 0, (), rfl, Or.inr ⟨rfl, hno⟩, trivial⟩, hS.F htz⟩) hS.2.2 dX7_isNumber_15
    · skip
      have hye := zn_in (n := 100) hge (fun q => cn_2 (zn_lt_of (n := 99) (by omega) q)) (by omega)
      refine lv_iconst (v := nI 1) hx hb dX7_isNumber_10 (by rfl) ?_
      refine lv_goto (tgt := 15) hx hb dX7_isNumber_11 (by decide) ?_
      subst hQ
      exact W.zret (v := nI 1) hx hb hr (by decide) (fun tz htz hWz => ⟨⟨nI 1, (), rfl, Or.inl ⟨rfl, hye⟩, trivial⟩, hS.F htz⟩) hS.2.2 dX7_isNumber_15

set_option maxHeartbeats 4000000 in
set_option maxRecDepth 100000 in
theorem c_X7_isPart (l : Launch) (D : va_G) (E : Nat → ClassId) (v : Int32)  : Met l yX7_isPart wsX7_isPart ({ frames := 0, cells := 0, slots := 0, locals := 0 }) (zr_P D E [.int v] []) (zr_Qi (fun zv => (zv = 1 ∧ (v = nI 0 ∨ v = nI 1)) ∨ (zv = 0 ∧ (v ≠ nI 0 ∧ v ≠ nI 1)))) 0 0 (fun _ => False) := by
  refine Met.ofW (cc := cX7_isPart) (maxL := 1) (ret := (some .boolean)) (by decide) rfl ?_
  intro p e s m args below meth c s₁ Bz hml hv
  obtain ⟨rfl, hP, hK⟩ := hv
  have hx := Bz.exec
  have hb := Bz.bytes
  have hr := Bz.returns
  have hts := atoms_spec (ws := wsX7_isPart) Bz.pre
  have hown : s.vm.findClass RX7 = some m.cls := findClass_of_methodNamed Bz.named
  have hlocks := Bz.notSynchronized
  have hP : va_P D vwCl [] s.heap := hP
  have hS : va_S (fun _ : Nat => False) s.heap s.heap [] := va_S.rf
  have hl := lv_entry ([.int v]) (n := 1) (Nat.le_of_ble_eq_true rfl)
  rw [lg_entry_eq]
  generalize (lg_sl ([.int v]) ++ List.replicate (1 - (lg_sl ([.int v])).length) Slot.unset).toArray = ls at hl ⊢
  have hl : lv_has ls 1 [(0, .int v)] := hl
  refine zr_nQ (fun Q hQ => ?_)
  refine lv_iload_n hx hb dX7_isPart_0 rfl (lv_at hl 0 rfl) ?_
  refine lv_if_eq (tgt := 9) hx hb dX7_isPart_1 (by decide) (fun cn_1 => ?_) (fun cn_1 => ?_)
  · skip
    have h0 := cn_1
    refine lv_iconst (v := nI 1) hx hb dX7_isPart_9 (by rfl) ?_
    refine lv_goto (tgt := 14) hx hb dX7_isPart_10 (by decide) ?_
    subst hQ
    exact W.zret (v := nI 1) hx hb hr (by decide) (fun tz htz hWz => ⟨⟨nI 1, (), rfl, by first | exact Or.inl ⟨rfl, Or.inl h0⟩ | exact Or.inl ⟨rfl, Or.inr h1⟩ | exact Or.inr ⟨rfl, hn0, hn1⟩, trivial⟩, hS.F htz⟩) hS.2.2 dX7_isPart_14
  · skip
    have hn0 := cn_1
    refine lv_iload_n hx hb dX7_isPart_4 rfl (lv_at hl 0 rfl) ?_
    refine lv_iconst (v := nI 1) hx hb dX7_isPart_5 (by rfl) ?_
    refine lv_icmp_ne (tgt := 13) hx hb dX7_isPart_6 (by decide) (fun cn_2 => ?_) (fun cn_2 => ?_)
    · skip
      have hn1 := cn_2
      refine lv_iconst (v := nI 0) hx hb dX7_isPart_13 (by rfl) ?_
      subst hQ
      exact W.zret (v := nI 0) hx hb hr (by decide) (fun tz htz hWz => ⟨⟨nI 0, (), rfl, by first | exact Or.inl ⟨rfl, Or.inl h0⟩ | exact Or.inl ⟨rfl, Or.inr h1⟩ | exact Or.inr ⟨rfl, hn0, hn1⟩, trivial⟩, hS.F htz⟩) hS.2.2 dX7_isPart_14
    · skip
      have h1 := cn_2
      refine lv_iconst (v := nI 1) hx hb dX7_isPart_9 (by rfl) ?_
      refine lv_goto (tgt := 14) hx hb dX7_isPart_10 (by decide) ?_
      subst hQ
      exact W.zret (v := nI 1) hx hb hr (by decide) (fun tz htz hWz => ⟨⟨nI 1, (), rfl, by first | exact Or.inl ⟨rfl, Or.inl h0⟩ | exact Or.inl ⟨rfl, Or.inr h1⟩ | exact Or.inr ⟨rfl, hn0, hn1⟩, trivial⟩, hS.F htz⟩) hS.2.2 dX7_isPart_14

set_option maxHeartbeats 4000000 in
set_option maxRecDepth 100000 in
theorem c_X3_mayChange_0 (l : Launch) (D : va_G) (E : Nat → ClassId) (g0 : Nat) (g1 : Nat) (g2 : Nat) (g3 : Nat) (g4 : Nat) (g5 : Nat) (g6 : Nat) (g7 : Nat) (sk : Nat) (h0 : Nat) (h1 : Nat) (h2 : Nat) (h3 : Nat) (h4 : Nat) (h5 : Nat) (h6 : Nat) (N : Nat) (hm : Nat → Int32) (aw : Nat → Int32) (rv : Nat → Int32) (sd : Nat → Int32) (gm : Nat → Int32) (ca : Nat → Int32) (w : Int32) (x : Int32) (hN : N = 4 ∨ N = 6) : Met l yX3_mayChange wsX3_mayChange ({ frames := 1, cells := 0, slots := 0, locals := 22 }) (zr_P D E [.ref g0, .int (nI 0), .int w, .int x] [(g0, .inr (2, [.ref h0, .ref g1, .ref g2, .ref g3, .ref g4, .int (nI sk), .ref g5, .ref g6, .ref g7])), (h0, .inr (0, [.int (nI N), .ref h1, .ref h2, .ref h3, .ref h4, .ref h5, .ref h6])), (h1, .inl (E 0, 15, .inl hm)), (h2, .inl (E 0, 15, .inl aw)), (h3, .inl (E 0, 30, .inl rv)), (h4, .inl (E 0, 30, .inl sd)), (h5, .inl (E 0, 30, .inl gm)), (h6, .inl (E 0, 36, .inl ca))]) (zr_Qi (fun zv => (zv = 1 ∧ (zm_rg (N - 1) w ∧ zm_rg (N - 1) x)) ∨ (zv = 0 ∧ (¬ (zm_rg (N - 1) w ∧ zm_rg (N - 1) x))))) 0 0 (fun _ => False) := by
  refine Met.ofW (cc := cX3_mayChange) (maxL := 4) (ret := (some .boolean)) (by decide) rfl ?_
  intro p e s m args below meth c s₁ Bz hml hv
  obtain ⟨rfl, hP, hK⟩ := hv
  have hx := Bz.exec
  have hb := Bz.bytes
  have hr := Bz.returns
  have hts := atoms_spec (ws := wsX3_mayChange) Bz.pre
  have hown : s.vm.findClass RX3 = some m.cls := findClass_of_methodNamed Bz.named
  have hlocks := Bz.notSynchronized
  have hP : va_P D vwCl [(g0, .inr (2, [.ref h0, .ref g1, .ref g2, .ref g3, .ref g4, .int (nI sk), .ref g5, .ref g6, .ref g7])), (h0, .inr (0, [.int (nI N), .ref h1, .ref h2, .ref h3, .ref h4, .ref h5, .ref h6])), (h1, .inl (E 0, 15, .inl hm)), (h2, .inl (E 0, 15, .inl aw)), (h3, .inl (E 0, 30, .inl rv)), (h4, .inl (E 0, 30, .inl sd)), (h5, .inl (E 0, 30, .inl gm)), (h6, .inl (E 0, 36, .inl ca))] s.heap := hP
  have hS : va_S (fun _ : Nat => False) s.heap s.heap [] := va_S.rf
  have hl := lv_entry ([.ref g0, .int (nI 0), .int w, .int x]) (n := 4) (Nat.le_of_ble_eq_true rfl)
  rw [lg_entry_eq]
  generalize (lg_sl ([.ref g0, .int (nI 0), .int w, .int x]) ++ List.replicate (4 - (lg_sl ([.ref g0, .int (nI 0), .int w, .int x])).length) Slot.unset).toArray = ls at hl ⊢
  have hl : lv_has ls 4 [(0, .ref g0), (1, .int (nI 0)), (2, .int w), (3, .int x)] := hl
  refine zr_nQ (fun Q hQ => ?_)
  refine lv_iload_n hx hb dX3_mayChange_0 rfl (lv_at hl 1 rfl) ?_
  refine lv_tableIn (x := nI 0) (off := 31) (tgt := 32) hx hb dX3_mayChange_1 (by decide +kernel) (by decide +kernel) (by decide +kernel) (by decide) ?_
  refine lv_aload_n hx hb dX3_mayChange_32 rfl (lv_at hl 0 rfl) ?_
  refine va_get (D := D) (ci := 2) (v := .ref h0) (C := RX3) (T := TX3) (N := 9) hx hb hts (by decide +kernel) hown hK.1 hP 0 rfl rfl 0 (by decide) (hts (.fieldLink RX3 12 "HomeRounds$Setting" "plan" "LHomeRounds$Plan;") (by decide +kernel)) (fun _ h9 => h9) rfl dX3_mayChange_33 ?_
  refine lv_iload_n hx hb dX3_mayChange_36 rfl (lv_at hl 2 rfl) ?_
  refine zr_ci hP hS (va_runV (As := [.int w]) (rest := []) ⟨hx, hb, hml, hown, hts⟩ (c_X1_hasRound l D E h0 h1 h2 h3 h4 h5 h6 N hm aw rv sd gm ca w (hN)) (cwV 1 hts gX3_mayChange_X1_hasRound rfl rfl rfl (by decide +kernel) ⟨Nat.le_of_ble_eq_true rfl, Nat.le_of_ble_eq_true rfl⟩) (zr_V hK (hP.sub (ws' := [(h0, .inr (0, [.int (nI N), .ref h1, .ref h2, .ref h3, .ref h4, .ref h5, .ref h6])), (h1, .inl (E 0, 15, .inl hm)), (h2, .inl (E 0, 15, .inl aw)), (h3, .inl (E 0, 30, .inl rv)), (h4, .inl (E 0, 30, .inl sd)), (h5, .inl (E 0, 30, .inl gm)), (h6, .inl (E 0, 36, .inl ca))]) [1, 2, 3, 4, 5, 6, 7] rfl) (ci := 0) (q0 := 0) rfl rfl) rfl rfl hl.1 rfl (lv_room (Nat.le_of_ble_eq_true rfl)) dX3_mayChange_37 ⟨Nat.zero_le _, Nat.zero_le _⟩) (fun r_1 H locs hw_2 hP hS => ?_)
  rcases hw_2 with ⟨rfl, hw_2⟩ | ⟨rfl, hw_2⟩
  · skip
    have hA := hw_2
    refine zr_ti (y := nI 1) rfl ?_
    refine lv_if_eq (tgt := 58) hx hb dX3_mayChange_40 (by decide) (fun cn_3 => ?_) (fun cn_3 => ?_)
    · skip
      exact absurd cn_3 (by decide)
    · skip
      refine lv_aload_n hx hb dX3_mayChange_43 rfl (lv_at hl 0 rfl) ?_
      refine va_get (D := D) (ci := 2) (v := .ref h0) (C := RX3) (T := TX3) (N := 9) hx hb hts (by decide +kernel) hown hK.1 hP 0 rfl rfl 0 (by decide) (hts (.fieldLink RX3 12 "HomeRounds$Setting" "plan" "LHomeRounds$Plan;") (by decide +kernel)) (fun _ h9 => h9) rfl dX3_mayChange_44 ?_
      refine lv_iload_n hx hb dX3_mayChange_47 rfl (lv_at hl 3 rfl) ?_
      refine zr_ci hP hS (va_runV (As := [.int x]) (rest := []) ⟨hx, hb, hml, hown, hts⟩ (c_X1_hasRound l D E h0 h1 h2 h3 h4 h5 h6 N hm aw rv sd gm ca x (hN)) (cwV 1 hts gX3_mayChange_X1_hasRound rfl rfl rfl (by decide +kernel) ⟨Nat.le_of_ble_eq_true rfl, Nat.le_of_ble_eq_true rfl⟩) (zr_V hK (hP.sub (ws' := [(h0, .inr (0, [.int (nI N), .ref h1, .ref h2, .ref h3, .ref h4, .ref h5, .ref h6])), (h1, .inl (E 0, 15, .inl hm)), (h2, .inl (E 0, 15, .inl aw)), (h3, .inl (E 0, 30, .inl rv)), (h4, .inl (E 0, 30, .inl sd)), (h5, .inl (E 0, 30, .inl gm)), (h6, .inl (E 0, 36, .inl ca))]) [1, 2, 3, 4, 5, 6, 7] rfl) (ci := 0) (q0 := 0) rfl rfl) rfl rfl hl.1 rfl (lv_room (Nat.le_of_ble_eq_true rfl)) dX3_mayChange_48 ⟨Nat.zero_le _, Nat.zero_le _⟩) (fun r_4 H locs hw_5 hP hS => ?_)
      rcases hw_5 with ⟨rfl, hw_5⟩ | ⟨rfl, hw_5⟩
      · skip
        have hB := hw_5
        refine zr_ti (y := nI 1) rfl ?_
        refine lv_if_eq (tgt := 58) hx hb dX3_mayChange_51 (by decide) (fun cn_6 => ?_) (fun cn_6 => ?_)
        · skip
          exact absurd cn_6 (by decide)
        · skip
          refine lv_iconst (v := nI 1) hx hb dX3_mayChange_54 (by rfl) ?_
          refine lv_goto (tgt := 59) hx hb dX3_mayChange_55 (by decide) ?_
          subst hQ
          exact W.zret (v := nI 1) hx hb hr (by decide) (fun tz htz hWz => ⟨⟨nI 1, (), rfl, Or.inl ⟨rfl, hA, hB⟩, trivial⟩, hS.F htz⟩) hS.2.2 dX3_mayChange_59
      · skip
        have hnB := hw_5
        refine zr_ti (y := nI 0) rfl ?_
        refine lv_if_eq (tgt := 58) hx hb dX3_mayChange_51 (by decide) (fun cn_7 => ?_) (fun cn_7 => ?_)
        · skip
          refine lv_iconst (v := nI 0) hx hb dX3_mayChange_58 (by rfl) ?_
          subst hQ
          exact W.zret (v := nI 0) hx hb hr (by decide) (fun tz htz hWz => ⟨⟨nI 0, (), rfl, by first | exact Or.inr ⟨rfl, fun q => q.1.elim (fun t h => hnA t h.1 h.2)⟩ | exact Or.inr ⟨rfl, fun q => q.2.elim (fun t h => hnB t h.1 h.2)⟩, trivial⟩, hS.F htz⟩) hS.2.2 dX3_mayChange_59
        · skip
          exact absurd cn_7 (by decide)
  · skip
    have hnA := hw_2
    refine zr_ti (y := nI 0) rfl ?_
    refine lv_if_eq (tgt := 58) hx hb dX3_mayChange_40 (by decide) (fun cn_8 => ?_) (fun cn_8 => ?_)
    · skip
      refine lv_iconst (v := nI 0) hx hb dX3_mayChange_58 (by rfl) ?_
      subst hQ
      exact W.zret (v := nI 0) hx hb hr (by decide) (fun tz htz hWz => ⟨⟨nI 0, (), rfl, by first | exact Or.inr ⟨rfl, fun q => q.1.elim (fun t h => hnA t h.1 h.2)⟩ | exact Or.inr ⟨rfl, fun q => q.2.elim (fun t h => hnB t h.1 h.2)⟩, trivial⟩, hS.F htz⟩) hS.2.2 dX3_mayChange_59
    · skip
      exact absurd cn_8 (by decide)

set_option maxHeartbeats 4000000 in
set_option maxRecDepth 100000 in
theorem c_X3_mayChange_1 (l : Launch) (D : va_G) (E : Nat → ClassId) (g0 : Nat) (g1 : Nat) (g2 : Nat) (g3 : Nat) (g4 : Nat) (g5 : Nat) (g6 : Nat) (g7 : Nat) (sk : Nat) (h0 : Nat) (h1 : Nat) (h2 : Nat) (h3 : Nat) (h4 : Nat) (h5 : Nat) (h6 : Nat) (N : Nat) (hm : Nat → Int32) (aw : Nat → Int32) (rv : Nat → Int32) (sd : Nat → Int32) (gm : Nat → Int32) (ca : Nat → Int32) (w : Int32) (x : Int32) (hN : N = 4 ∨ N = 6) : Met l yX3_mayChange wsX3_mayChange ({ frames := 1, cells := 0, slots := 0, locals := 22 }) (zr_P D E [.ref g0, .int (nI 1), .int w, .int x] [(g0, .inr (2, [.ref h0, .ref g1, .ref g2, .ref g3, .ref g4, .int (nI sk), .ref g5, .ref g6, .ref g7])), (h0, .inr (0, [.int (nI N), .ref h1, .ref h2, .ref h3, .ref h4, .ref h5, .ref h6])), (h1, .inl (E 0, 15, .inl hm)), (h2, .inl (E 0, 15, .inl aw)), (h3, .inl (E 0, 30, .inl rv)), (h4, .inl (E 0, 30, .inl sd)), (h5, .inl (E 0, 30, .inl gm)), (h6, .inl (E 0, 36, .inl ca))]) (zr_Qi (fun zv => (zv = 1 ∧ (zm_rg (N - 1) w ∧ zm_rg (N / 2) x)) ∨ (zv = 0 ∧ (¬ (zm_rg (N - 1) w ∧ zm_rg (N / 2) x))))) 0 0 (fun _ => False) := by
  refine Met.ofW (cc := cX3_mayChange) (maxL := 4) (ret := (some .boolean)) (by decide) rfl ?_
  intro p e s m args below meth c s₁ Bz hml hv
  obtain ⟨rfl, hP, hK⟩ := hv
  have hx := Bz.exec
  have hb := Bz.bytes
  have hr := Bz.returns
  have hts := atoms_spec (ws := wsX3_mayChange) Bz.pre
  have hown : s.vm.findClass RX3 = some m.cls := findClass_of_methodNamed Bz.named
  have hlocks := Bz.notSynchronized
  have hP : va_P D vwCl [(g0, .inr (2, [.ref h0, .ref g1, .ref g2, .ref g3, .ref g4, .int (nI sk), .ref g5, .ref g6, .ref g7])), (h0, .inr (0, [.int (nI N), .ref h1, .ref h2, .ref h3, .ref h4, .ref h5, .ref h6])), (h1, .inl (E 0, 15, .inl hm)), (h2, .inl (E 0, 15, .inl aw)), (h3, .inl (E 0, 30, .inl rv)), (h4, .inl (E 0, 30, .inl sd)), (h5, .inl (E 0, 30, .inl gm)), (h6, .inl (E 0, 36, .inl ca))] s.heap := hP
  have hS : va_S (fun _ : Nat => False) s.heap s.heap [] := va_S.rf
  have hl := lv_entry ([.ref g0, .int (nI 1), .int w, .int x]) (n := 4) (Nat.le_of_ble_eq_true rfl)
  rw [lg_entry_eq]
  generalize (lg_sl ([.ref g0, .int (nI 1), .int w, .int x]) ++ List.replicate (4 - (lg_sl ([.ref g0, .int (nI 1), .int w, .int x])).length) Slot.unset).toArray = ls at hl ⊢
  have hl : lv_has ls 4 [(0, .ref g0), (1, .int (nI 1)), (2, .int w), (3, .int x)] := hl
  refine zr_nQ (fun Q hQ => ?_)
  refine lv_iload_n hx hb dX3_mayChange_0 rfl (lv_at hl 1 rfl) ?_
  refine lv_tableIn (x := nI 1) (off := 59) (tgt := 60) hx hb dX3_mayChange_1 (by decide +kernel) (by decide +kernel) (by decide +kernel) (by decide) ?_
  refine lv_aload_n hx hb dX3_mayChange_60 rfl (lv_at hl 0 rfl) ?_
  refine va_get (D := D) (ci := 2) (v := .ref h0) (C := RX3) (T := TX3) (N := 9) hx hb hts (by decide +kernel) hown hK.1 hP 0 rfl rfl 0 (by decide) (hts (.fieldLink RX3 12 "HomeRounds$Setting" "plan" "LHomeRounds$Plan;") (by decide +kernel)) (fun _ h9 => h9) rfl dX3_mayChange_61 ?_
  refine lv_iload_n hx hb dX3_mayChange_64 rfl (lv_at hl 2 rfl) ?_
  refine lv_iload_n hx hb dX3_mayChange_65 rfl (lv_at hl 3 rfl) ?_
  refine zr_ci hP hS (va_runV (As := [.int w, .int x]) (rest := []) ⟨hx, hb, hml, hown, hts⟩ (c_X1_hasGame l D E h0 h1 h2 h3 h4 h5 h6 N hm aw rv sd gm ca w x (hN)) (cwV 2 hts gX3_mayChange_X1_hasGame rfl rfl rfl (by decide +kernel) ⟨Nat.le_of_ble_eq_true rfl, Nat.le_of_ble_eq_true rfl⟩) (zr_V hK (hP.sub (ws' := [(h0, .inr (0, [.int (nI N), .ref h1, .ref h2, .ref h3, .ref h4, .ref h5, .ref h6])), (h1, .inl (E 0, 15, .inl hm)), (h2, .inl (E 0, 15, .inl aw)), (h3, .inl (E 0, 30, .inl rv)), (h4, .inl (E 0, 30, .inl sd)), (h5, .inl (E 0, 30, .inl gm)), (h6, .inl (E 0, 36, .inl ca))]) [1, 2, 3, 4, 5, 6, 7] rfl) (ci := 0) (q0 := 0) rfl rfl) rfl rfl hl.1 rfl (lv_room (Nat.le_of_ble_eq_true rfl)) dX3_mayChange_66 ⟨Nat.zero_le _, Nat.zero_le _⟩) (fun r_1 H locs hw_2 hP hS => ?_)
  rcases hw_2 with ⟨rfl, hw_2⟩ | ⟨rfl, hw_2⟩
  · skip
    obtain ⟨hA, hB⟩ := hw_2
    refine zr_ti (y := nI 1) rfl ?_
    subst hQ
    exact W.zret (v := nI 1) hx hb hr (by decide) (fun tz htz hWz => ⟨⟨nI 1, (), rfl, Or.inl ⟨rfl, hA, hB⟩, trivial⟩, hS.F htz⟩) hS.2.2 dX3_mayChange_69
  · skip
    have hAB := hw_2
    refine zr_ti (y := nI 0) rfl ?_
    subst hQ
    exact W.zret (v := nI 0) hx hb hr (by decide) (fun tz htz hWz => ⟨⟨nI 0, (), rfl, Or.inr ⟨rfl, fun q => hAB.elim (fun f => q.1.elim (fun t h => f t h.1 h.2)) (fun f => q.2.elim (fun t h => f t h.1 h.2))⟩, trivial⟩, hS.F htz⟩) hS.2.2 dX3_mayChange_69

set_option maxHeartbeats 4000000 in
set_option maxRecDepth 100000 in
theorem c_X3_mayChange_2 (l : Launch) (D : va_G) (E : Nat → ClassId) (g0 : Nat) (g1 : Nat) (g2 : Nat) (g3 : Nat) (g4 : Nat) (g5 : Nat) (g6 : Nat) (g7 : Nat) (sk : Nat) (h0 : Nat) (h1 : Nat) (h2 : Nat) (h3 : Nat) (h4 : Nat) (h5 : Nat) (h6 : Nat) (N : Nat) (hm : Nat → Int32) (aw : Nat → Int32) (rv : Nat → Int32) (sd : Nat → Int32) (gm : Nat → Int32) (ca : Nat → Int32) (w : Int32) (x : Int32) (hN : N = 4 ∨ N = 6) : Met l yX3_mayChange wsX3_mayChange ({ frames := 1, cells := 0, slots := 0, locals := 22 }) (zr_P D E [.ref g0, .int (nI 2), .int w, .int x] [(g0, .inr (2, [.ref h0, .ref g1, .ref g2, .ref g3, .ref g4, .int (nI sk), .ref g5, .ref g6, .ref g7])), (h0, .inr (0, [.int (nI N), .ref h1, .ref h2, .ref h3, .ref h4, .ref h5, .ref h6])), (h1, .inl (E 0, 15, .inl hm)), (h2, .inl (E 0, 15, .inl aw)), (h3, .inl (E 0, 30, .inl rv)), (h4, .inl (E 0, 30, .inl sd)), (h5, .inl (E 0, 30, .inl gm)), (h6, .inl (E 0, 36, .inl ca))]) (zr_Qi (fun zv => (zv = 1 ∧ (zm_rg (N) w ∧ zm_rg (N) x)) ∨ (zv = 0 ∧ (¬ (zm_rg (N) w ∧ zm_rg (N) x))))) 0 0 (fun _ => False) := by
  refine Met.ofW (cc := cX3_mayChange) (maxL := 4) (ret := (some .boolean)) (by decide) rfl ?_
  intro p e s m args below meth c s₁ Bz hml hv
  obtain ⟨rfl, hP, hK⟩ := hv
  have hx := Bz.exec
  have hb := Bz.bytes
  have hr := Bz.returns
  have hts := atoms_spec (ws := wsX3_mayChange) Bz.pre
  have hown : s.vm.findClass RX3 = some m.cls := findClass_of_methodNamed Bz.named
  have hlocks := Bz.notSynchronized
  have hP : va_P D vwCl [(g0, .inr (2, [.ref h0, .ref g1, .ref g2, .ref g3, .ref g4, .int (nI sk), .ref g5, .ref g6, .ref g7])), (h0, .inr (0, [.int (nI N), .ref h1, .ref h2, .ref h3, .ref h4, .ref h5, .ref h6])), (h1, .inl (E 0, 15, .inl hm)), (h2, .inl (E 0, 15, .inl aw)), (h3, .inl (E 0, 30, .inl rv)), (h4, .inl (E 0, 30, .inl sd)), (h5, .inl (E 0, 30, .inl gm)), (h6, .inl (E 0, 36, .inl ca))] s.heap := hP
  have hS : va_S (fun _ : Nat => False) s.heap s.heap [] := va_S.rf
  have hl := lv_entry ([.ref g0, .int (nI 2), .int w, .int x]) (n := 4) (Nat.le_of_ble_eq_true rfl)
  rw [lg_entry_eq]
  generalize (lg_sl ([.ref g0, .int (nI 2), .int w, .int x]) ++ List.replicate (4 - (lg_sl ([.ref g0, .int (nI 2), .int w, .int x])).length) Slot.unset).toArray = ls at hl ⊢
  have hl : lv_has ls 4 [(0, .ref g0), (1, .int (nI 2)), (2, .int w), (3, .int x)] := hl
  refine zr_nQ (fun Q hQ => ?_)
  refine lv_iload_n hx hb dX3_mayChange_0 rfl (lv_at hl 1 rfl) ?_
  refine lv_tableIn (x := nI 2) (off := 69) (tgt := 70) hx hb dX3_mayChange_1 (by decide +kernel) (by decide +kernel) (by decide +kernel) (by decide) ?_
  refine lv_aload_n hx hb dX3_mayChange_70 rfl (lv_at hl 0 rfl) ?_
  refine va_get (D := D) (ci := 2) (v := .ref h0) (C := RX3) (T := TX3) (N := 9) hx hb hts (by decide +kernel) hown hK.1 hP 0 rfl rfl 0 (by decide) (hts (.fieldLink RX3 12 "HomeRounds$Setting" "plan" "LHomeRounds$Plan;") (by decide +kernel)) (fun _ h9 => h9) rfl dX3_mayChange_71 ?_
  refine lv_iload_n hx hb dX3_mayChange_74 rfl (lv_at hl 2 rfl) ?_
  refine zr_ci hP hS (va_runV (As := [.int w]) (rest := []) ⟨hx, hb, hml, hown, hts⟩ (c_X1_hasTeam l D E h0 h1 h2 h3 h4 h5 h6 N hm aw rv sd gm ca w (hN)) (cwV 1 hts gX3_mayChange_X1_hasTeam rfl rfl rfl (by decide +kernel) ⟨Nat.le_of_ble_eq_true rfl, Nat.le_of_ble_eq_true rfl⟩) (zr_V hK (hP.sub (ws' := [(h0, .inr (0, [.int (nI N), .ref h1, .ref h2, .ref h3, .ref h4, .ref h5, .ref h6])), (h1, .inl (E 0, 15, .inl hm)), (h2, .inl (E 0, 15, .inl aw)), (h3, .inl (E 0, 30, .inl rv)), (h4, .inl (E 0, 30, .inl sd)), (h5, .inl (E 0, 30, .inl gm)), (h6, .inl (E 0, 36, .inl ca))]) [1, 2, 3, 4, 5, 6, 7] rfl) (ci := 0) (q0 := 0) rfl rfl) rfl rfl hl.1 rfl (lv_room (Nat.le_of_ble_eq_true rfl)) dX3_mayChange_75 ⟨Nat.zero_le _, Nat.zero_le _⟩) (fun r_1 H locs hw_2 hP hS => ?_)
  rcases hw_2 with ⟨rfl, hw_2⟩ | ⟨rfl, hw_2⟩
  · skip
    have hA := hw_2
    refine zr_ti (y := nI 1) rfl ?_
    refine lv_if_eq (tgt := 96) hx hb dX3_mayChange_78 (by decide) (fun cn_3 => ?_) (fun cn_3 => ?_)
    · skip
      exact absurd cn_3 (by decide)
    · skip
      refine lv_aload_n hx hb dX3_mayChange_81 rfl (lv_at hl 0 rfl) ?_
      refine va_get (D := D) (ci := 2) (v := .ref h0) (C := RX3) (T := TX3) (N := 9) hx hb hts (by decide +kernel) hown hK.1 hP 0 rfl rfl 0 (by decide) (hts (.fieldLink RX3 12 "HomeRounds$Setting" "plan" "LHomeRounds$Plan;") (by decide +kernel)) (fun _ h9 => h9) rfl dX3_mayChange_82 ?_
      refine lv_iload_n hx hb dX3_mayChange_85 rfl (lv_at hl 3 rfl) ?_
      refine zr_ci hP hS (va_runV (As := [.int x]) (rest := []) ⟨hx, hb, hml, hown, hts⟩ (c_X1_hasTeam l D E h0 h1 h2 h3 h4 h5 h6 N hm aw rv sd gm ca x (hN)) (cwV 1 hts gX3_mayChange_X1_hasTeam rfl rfl rfl (by decide +kernel) ⟨Nat.le_of_ble_eq_true rfl, Nat.le_of_ble_eq_true rfl⟩) (zr_V hK (hP.sub (ws' := [(h0, .inr (0, [.int (nI N), .ref h1, .ref h2, .ref h3, .ref h4, .ref h5, .ref h6])), (h1, .inl (E 0, 15, .inl hm)), (h2, .inl (E 0, 15, .inl aw)), (h3, .inl (E 0, 30, .inl rv)), (h4, .inl (E 0, 30, .inl sd)), (h5, .inl (E 0, 30, .inl gm)), (h6, .inl (E 0, 36, .inl ca))]) [1, 2, 3, 4, 5, 6, 7] rfl) (ci := 0) (q0 := 0) rfl rfl) rfl rfl hl.1 rfl (lv_room (Nat.le_of_ble_eq_true rfl)) dX3_mayChange_86 ⟨Nat.zero_le _, Nat.zero_le _⟩) (fun r_4 H locs hw_5 hP hS => ?_)
      rcases hw_5 with ⟨rfl, hw_5⟩ | ⟨rfl, hw_5⟩
      · skip
        have hB := hw_5
        refine zr_ti (y := nI 1) rfl ?_
        refine lv_if_eq (tgt := 96) hx hb dX3_mayChange_89 (by decide) (fun cn_6 => ?_) (fun cn_6 => ?_)
        · skip
          exact absurd cn_6 (by decide)
        · skip
          refine lv_iconst (v := nI 1) hx hb dX3_mayChange_92 (by rfl) ?_
          refine lv_goto (tgt := 97) hx hb dX3_mayChange_93 (by decide) ?_
          subst hQ
          exact W.zret (v := nI 1) hx hb hr (by decide) (fun tz htz hWz => ⟨⟨nI 1, (), rfl, Or.inl ⟨rfl, hA, hB⟩, trivial⟩, hS.F htz⟩) hS.2.2 dX3_mayChange_97
      · skip
        have hnB := hw_5
        refine zr_ti (y := nI 0) rfl ?_
        refine lv_if_eq (tgt := 96) hx hb dX3_mayChange_89 (by decide) (fun cn_7 => ?_) (fun cn_7 => ?_)
        · skip
          refine lv_iconst (v := nI 0) hx hb dX3_mayChange_96 (by rfl) ?_
          subst hQ
          exact W.zret (v := nI 0) hx hb hr (by decide) (fun tz htz hWz => ⟨⟨nI 0, (), rfl, by first | exact Or.inr ⟨rfl, fun q => q.1.elim (fun t h => hnA t h.1 h.2)⟩ | exact Or.inr ⟨rfl, fun q => q.2.elim (fun t h => hnB t h.1 h.2)⟩, trivial⟩, hS.F htz⟩) hS.2.2 dX3_mayChange_97
        · skip
          exact absurd cn_7 (by decide)
  · skip
    have hnA := hw_2
    refine zr_ti (y := nI 0) rfl ?_
    refine lv_if_eq (tgt := 96) hx hb dX3_mayChange_78 (by decide) (fun cn_8 => ?_) (fun cn_8 => ?_)
    · skip
      refine lv_iconst (v := nI 0) hx hb dX3_mayChange_96 (by rfl) ?_
      subst hQ
      exact W.zret (v := nI 0) hx hb hr (by decide) (fun tz htz hWz => ⟨⟨nI 0, (), rfl, by first | exact Or.inr ⟨rfl, fun q => q.1.elim (fun t h => hnA t h.1 h.2)⟩ | exact Or.inr ⟨rfl, fun q => q.2.elim (fun t h => hnB t h.1 h.2)⟩, trivial⟩, hS.F htz⟩) hS.2.2 dX3_mayChange_97
    · skip
      exact absurd cn_8 (by decide)

set_option maxHeartbeats 4000000 in
set_option maxRecDepth 100000 in
theorem c_X3_mayChange_3 (l : Launch) (D : va_G) (E : Nat → ClassId) (g0 : Nat) (g1 : Nat) (g2 : Nat) (g3 : Nat) (g4 : Nat) (g5 : Nat) (g6 : Nat) (g7 : Nat) (sk : Nat) (h0 : Nat) (h1 : Nat) (h2 : Nat) (h3 : Nat) (h4 : Nat) (h5 : Nat) (h6 : Nat) (N : Nat) (hm : Nat → Int32) (aw : Nat → Int32) (rv : Nat → Int32) (sd : Nat → Int32) (gm : Nat → Int32) (ca : Nat → Int32) (w : Int32) (x : Int32) (hN : N = 4 ∨ N = 6) : Met l yX3_mayChange wsX3_mayChange ({ frames := 1, cells := 0, slots := 0, locals := 22 }) (zr_P D E [.ref g0, .int (nI 3), .int w, .int x] [(g0, .inr (2, [.ref h0, .ref g1, .ref g2, .ref g3, .ref g4, .int (nI sk), .ref g5, .ref g6, .ref g7])), (h0, .inr (0, [.int (nI N), .ref h1, .ref h2, .ref h3, .ref h4, .ref h5, .ref h6])), (h1, .inl (E 0, 15, .inl hm)), (h2, .inl (E 0, 15, .inl aw)), (h3, .inl (E 0, 30, .inl rv)), (h4, .inl (E 0, 30, .inl sd)), (h5, .inl (E 0, 30, .inl gm)), (h6, .inl (E 0, 36, .inl ca))]) (zr_Qi (fun zv => (zv = 1 ∧ (zm_rg (4) w ∧ zm_rg (100) x)) ∨ (zv = 0 ∧ (¬ (zm_rg (4) w ∧ zm_rg (100) x))))) 0 0 (fun _ => False) := by
  refine Met.ofW (cc := cX3_mayChange) (maxL := 4) (ret := (some .boolean)) (by decide) rfl ?_
  intro p e s m args below meth c s₁ Bz hml hv
  obtain ⟨rfl, hP, hK⟩ := hv
  have hx := Bz.exec
  have hb := Bz.bytes
  have hr := Bz.returns
  have hts := atoms_spec (ws := wsX3_mayChange) Bz.pre
  have hown : s.vm.findClass RX3 = some m.cls := findClass_of_methodNamed Bz.named
  have hlocks := Bz.notSynchronized
  have hP : va_P D vwCl [(g0, .inr (2, [.ref h0, .ref g1, .ref g2, .ref g3, .ref g4, .int (nI sk), .ref g5, .ref g6, .ref g7])), (h0, .inr (0, [.int (nI N), .ref h1, .ref h2, .ref h3, .ref h4, .ref h5, .ref h6])), (h1, .inl (E 0, 15, .inl hm)), (h2, .inl (E 0, 15, .inl aw)), (h3, .inl (E 0, 30, .inl rv)), (h4, .inl (E 0, 30, .inl sd)), (h5, .inl (E 0, 30, .inl gm)), (h6, .inl (E 0, 36, .inl ca))] s.heap := hP
  have hS : va_S (fun _ : Nat => False) s.heap s.heap [] := va_S.rf
  have hl := lv_entry ([.ref g0, .int (nI 3), .int w, .int x]) (n := 4) (Nat.le_of_ble_eq_true rfl)
  rw [lg_entry_eq]
  generalize (lg_sl ([.ref g0, .int (nI 3), .int w, .int x]) ++ List.replicate (4 - (lg_sl ([.ref g0, .int (nI 3), .int w, .int x])).length) Slot.unset).toArray = ls at hl ⊢
  have hl : lv_has ls 4 [(0, .ref g0), (1, .int (nI 3)), (2, .int w), (3, .int x)] := hl
  refine zr_nQ (fun Q hQ => ?_)
  refine lv_iload_n hx hb dX3_mayChange_0 rfl (lv_at hl 1 rfl) ?_
  refine lv_tableIn (x := nI 3) (off := 97) (tgt := 98) hx hb dX3_mayChange_1 (by decide +kernel) (by decide +kernel) (by decide +kernel) (by decide) ?_
  refine lv_iload_n hx hb dX3_mayChange_98 rfl (lv_at hl 2 rfl) ?_
  refine zr_ci hP hS (va_runSN (As := [.int w]) (rest := []) ⟨hx, hb, hml, hown, hts⟩ (c_X7_isRate l D E w ) ⟨va_cnB 1 hts gX3_mayChange_X7_isRate_n81 rfl rfl rfl hK.2.2.2.2.2.1 (hts (.initialized RX7) (by decide +kernel)) (by decide +kernel) ⟨Nat.le_of_ble_eq_true rfl, Nat.le_of_ble_eq_true rfl⟩, hts (.static yX7_isRate) (by decide +kernel), trivial⟩ (zr_S hK (hP.sub (ws' := []) [] rfl)) rfl rfl hl.1 rfl (lv_room (Nat.le_of_ble_eq_true rfl)) dX3_mayChange_99 ⟨Nat.zero_le _, Nat.zero_le _⟩) (fun r_1 H locs hw_2 hP hS => ?_)
  rcases hw_2 with ⟨rfl, hw_2⟩ | ⟨rfl, hw_2⟩
  · skip
    have hA := hw_2
    refine zr_ti (y := nI 1) rfl ?_
    refine lv_if_eq (tgt := 116) hx hb dX3_mayChange_102 (by decide) (fun cn_3 => ?_) (fun cn_3 => ?_)
    · skip
      exact absurd cn_3 (by decide)
    · skip
      refine lv_iload_n hx hb dX3_mayChange_105 rfl (lv_at hl 3 rfl) ?_
      refine zr_ci hP hS (va_runSN (As := [.int x]) (rest := []) ⟨hx, hb, hml, hown, hts⟩ (c_X7_isNumber l D E x ) ⟨va_cnB 1 hts gX3_mayChange_X7_isNumber_n84 rfl rfl rfl hK.2.2.2.2.2.2.1 (hts (.initialized RX7) (by decide +kernel)) (by decide +kernel) ⟨Nat.le_of_ble_eq_true rfl, Nat.le_of_ble_eq_true rfl⟩, hts (.static yX7_isNumber) (by decide +kernel), trivial⟩ (zr_S hK (hP.sub (ws' := []) [] rfl)) rfl rfl hl.1 rfl (lv_room (Nat.le_of_ble_eq_true rfl)) dX3_mayChange_106 ⟨Nat.zero_le _, Nat.zero_le _⟩) (fun r_4 H locs hw_5 hP hS => ?_)
      rcases hw_5 with ⟨rfl, hw_5⟩ | ⟨rfl, hw_5⟩
      · skip
        have hB := hw_5
        refine zr_ti (y := nI 1) rfl ?_
        refine lv_if_eq (tgt := 116) hx hb dX3_mayChange_109 (by decide) (fun cn_6 => ?_) (fun cn_6 => ?_)
        · skip
          exact absurd cn_6 (by decide)
        · skip
          refine lv_iconst (v := nI 1) hx hb dX3_mayChange_112 (by rfl) ?_
          refine lv_goto (tgt := 117) hx hb dX3_mayChange_113 (by decide) ?_
          subst hQ
          exact W.zret (v := nI 1) hx hb hr (by decide) (fun tz htz hWz => ⟨⟨nI 1, (), rfl, Or.inl ⟨rfl, hA, hB⟩, trivial⟩, hS.F htz⟩) hS.2.2 dX3_mayChange_117
      · skip
        have hnB := hw_5
        refine zr_ti (y := nI 0) rfl ?_
        refine lv_if_eq (tgt := 116) hx hb dX3_mayChange_109 (by decide) (fun cn_7 => ?_) (fun cn_7 => ?_)
        · skip
          refine lv_iconst (v := nI 0) hx hb dX3_mayChange_116 (by rfl) ?_
          subst hQ
          exact W.zret (v := nI 0) hx hb hr (by decide) (fun tz htz hWz => ⟨⟨nI 0, (), rfl, by first | exact Or.inr ⟨rfl, fun q => q.1.elim (fun t h => hnA t h.1 h.2)⟩ | exact Or.inr ⟨rfl, fun q => q.2.elim (fun t h => hnB t h.1 h.2)⟩, trivial⟩, hS.F htz⟩) hS.2.2 dX3_mayChange_117
        · skip
          exact absurd cn_7 (by decide)
  · skip
    have hnA := hw_2
    refine zr_ti (y := nI 0) rfl ?_
    refine lv_if_eq (tgt := 116) hx hb dX3_mayChange_102 (by decide) (fun cn_8 => ?_) (fun cn_8 => ?_)
    · skip
      refine lv_iconst (v := nI 0) hx hb dX3_mayChange_116 (by rfl) ?_
      subst hQ
      exact W.zret (v := nI 0) hx hb hr (by decide) (fun tz htz hWz => ⟨⟨nI 0, (), rfl, by first | exact Or.inr ⟨rfl, fun q => q.1.elim (fun t h => hnA t h.1 h.2)⟩ | exact Or.inr ⟨rfl, fun q => q.2.elim (fun t h => hnB t h.1 h.2)⟩, trivial⟩, hS.F htz⟩) hS.2.2 dX3_mayChange_117
    · skip
      exact absurd cn_8 (by decide)

set_option maxHeartbeats 4000000 in
set_option maxRecDepth 100000 in
theorem c_X3_mayChange_o (l : Launch) (D : va_G) (E : Nat → ClassId) (g0 : Nat) (g1 : Nat) (g2 : Nat) (g3 : Nat) (g4 : Nat) (g5 : Nat) (g6 : Nat) (g7 : Nat) (sk : Nat) (h0 : Nat) (h1 : Nat) (h2 : Nat) (h3 : Nat) (h4 : Nat) (h5 : Nat) (h6 : Nat) (N : Nat) (hm : Nat → Int32) (aw : Nat → Int32) (rv : Nat → Int32) (sd : Nat → Int32) (gm : Nat → Int32) (ca : Nat → Int32) (v : Int32) (w : Int32) (x : Int32) (hN : N = 4 ∨ N = 6) (hvo : ∀ t : Nat, t < 4 → v ≠ nI t) : Met l yX3_mayChange wsX3_mayChange ({ frames := 1, cells := 0, slots := 0, locals := 22 }) (zr_P D E [.ref g0, .int v, .int w, .int x] [(g0, .inr (2, [.ref h0, .ref g1, .ref g2, .ref g3, .ref g4, .int (nI sk), .ref g5, .ref g6, .ref g7])), (h0, .inr (0, [.int (nI N), .ref h1, .ref h2, .ref h3, .ref h4, .ref h5, .ref h6])), (h1, .inl (E 0, 15, .inl hm)), (h2, .inl (E 0, 15, .inl aw)), (h3, .inl (E 0, 30, .inl rv)), (h4, .inl (E 0, 30, .inl sd)), (h5, .inl (E 0, 30, .inl gm)), (h6, .inl (E 0, 36, .inl ca))]) (zr_Qi (fun zv => zv = nI 0)) 0 0 (fun _ => False) := by
  refine Met.ofW (cc := cX3_mayChange) (maxL := 4) (ret := (some .boolean)) (by decide) rfl ?_
  intro p e s m args below meth c s₁ Bz hml hv
  obtain ⟨rfl, hP, hK⟩ := hv
  have hx := Bz.exec
  have hb := Bz.bytes
  have hr := Bz.returns
  have hts := atoms_spec (ws := wsX3_mayChange) Bz.pre
  have hown : s.vm.findClass RX3 = some m.cls := findClass_of_methodNamed Bz.named
  have hlocks := Bz.notSynchronized
  have hP : va_P D vwCl [(g0, .inr (2, [.ref h0, .ref g1, .ref g2, .ref g3, .ref g4, .int (nI sk), .ref g5, .ref g6, .ref g7])), (h0, .inr (0, [.int (nI N), .ref h1, .ref h2, .ref h3, .ref h4, .ref h5, .ref h6])), (h1, .inl (E 0, 15, .inl hm)), (h2, .inl (E 0, 15, .inl aw)), (h3, .inl (E 0, 30, .inl rv)), (h4, .inl (E 0, 30, .inl sd)), (h5, .inl (E 0, 30, .inl gm)), (h6, .inl (E 0, 36, .inl ca))] s.heap := hP
  have hS : va_S (fun _ : Nat => False) s.heap s.heap [] := va_S.rf
  have hl := lv_entry ([.ref g0, .int v, .int w, .int x]) (n := 4) (Nat.le_of_ble_eq_true rfl)
  rw [lg_entry_eq]
  generalize (lg_sl ([.ref g0, .int v, .int w, .int x]) ++ List.replicate (4 - (lg_sl ([.ref g0, .int v, .int w, .int x])).length) Slot.unset).toArray = ls at hl ⊢
  have hl : lv_has ls 4 [(0, .ref g0), (1, .int v), (2, .int w), (3, .int x)] := hl
  refine zr_nQ (fun Q hQ => ?_)
  refine lv_iload_n hx hb dX3_mayChange_0 rfl (lv_at hl 1 rfl) ?_
  have hsw : v.toInt < 0 ∨ 3 < v.toInt := by rcases zn_sw v 4 with ⟨k, hk, h⟩ | h; exact absurd h (hvo k hk); simpa using h
  refine lv_tableOut (tgt := 118) hx hb dX3_mayChange_1 hsw (by decide) ?_
  refine lv_iconst (v := nI 0) hx hb dX3_mayChange_118 (by rfl) ?_
  subst hQ
  exact W.zret (v := nI 0) hx hb hr (by decide) (fun tz htz hWz => ⟨⟨nI 0, (), rfl, rfl, trivial⟩, hS.F htz⟩) hS.2.2 dX3_mayChange_119

set_option maxHeartbeats 4000000 in
set_option maxRecDepth 100000 in
theorem c_X3_change_0 (l : Launch) (D : va_G) (E : Nat → ClassId) (g0 : Nat) (g1 : Nat) (g2 : Nat) (g3 : Nat) (g4 : Nat) (g5 : Nat) (g6 : Nat) (g7 : Nat) (sk : Nat) (h0 : Nat) (h1 : Nat) (h2 : Nat) (h3 : Nat) (h4 : Nat) (h5 : Nat) (h6 : Nat) (N : Nat) (hm : Nat → Int32) (aw : Nat → Int32) (rv : Nat → Int32) (sd : Nat → Int32) (gm : Nat → Int32) (ca : Nat → Int32) (G : Nat → Nat → Nat) (P : Nat → Nat → Nat) (r : Nat) (q : Nat) (hpl : zm_pl N G P hm aw rv sd gm) (hr0 : r < N - 1) (hq0 : q < N - 1) : Met l yX3_change wsX3_change ({ frames := 3, cells := 0, slots := 0, locals := 73 }) (zw_P D E [.ref g0, .int (nI 0), .int (nI r), .int (nI q)] [(g0, .inr (2, [.ref h0, .ref g1, .ref g2, .ref g3, .ref g4, .int (nI sk), .ref g5, .ref g6, .ref g7])), (h0, .inr (0, [.int (nI N), .ref h1, .ref h2, .ref h3, .ref h4, .ref h5, .ref h6])), (h1, .inl (E 0, 15, .inl hm)), (h2, .inl (E 0, 15, .inl aw)), (h3, .inl (E 0, 30, .inl rv)), (h4, .inl (E 0, 30, .inl sd)), (h5, .inl (E 0, 30, .inl gm)), (h6, .inl (E 0, 36, .inl ca))]) (zw_Qv D [(g0, .inr (2, [.ref h0, .ref g1, .ref g2, .ref g3, .ref g4, .int (nI sk), .ref g5, .ref g6, .ref g7])), (h0, .inr (0, [.int (nI N), .ref h1, .ref h2, .ref h3, .ref h4, .ref h5, .ref h6])), (h1, .inl (E 0, 15, .inl hm)), (h2, .inl (E 0, 15, .inl aw)), (h3, .inl (E 0, 30, .inl rv)), (h4, .inl (E 0, 30, .inl sd)), (h5, .inl (E 0, 30, .inl gm)), (h6, .inl (E 0, 36, .inl ca))] (fun (u : (Nat → Int32) × (Nat → Int32) × (Nat → Int32) × (Nat → Int32) × (Nat → Int32)) => zm_pl N (zm_sw G r q) (zm_sw P r q) u.1 u.2.1 u.2.2.1 u.2.2.2.1 u.2.2.2.2) (fun (u : (Nat → Int32) × (Nat → Int32) × (Nat → Int32) × (Nat → Int32) × (Nat → Int32)) => [(g0, .inr (2, [.ref h0, .ref g1, .ref g2, .ref g3, .ref g4, .int (nI sk), .ref g5, .ref g6, .ref g7])), (h0, .inr (0, [.int (nI N), .ref h1, .ref h2, .ref h3, .ref h4, .ref h5, .ref h6])), (h1, .inl (E 0, 15, .inl u.1)), (h2, .inl (E 0, 15, .inl u.2.1)), (h3, .inl (E 0, 30, .inl u.2.2.1)), (h4, .inl (E 0, 30, .inl u.2.2.2.1)), (h5, .inl (E 0, 30, .inl u.2.2.2.2)), (h6, .inl (E 0, 36, .inl ca))])) 0 0 (zw_A [(g0, .inr (2, [.ref h0, .ref g1, .ref g2, .ref g3, .ref g4, .int (nI sk), .ref g5, .ref g6, .ref g7])), (h0, .inr (0, [.int (nI N), .ref h1, .ref h2, .ref h3, .ref h4, .ref h5, .ref h6])), (h1, .inl (E 0, 15, .inl hm)), (h2, .inl (E 0, 15, .inl aw)), (h3, .inl (E 0, 30, .inl rv)), (h4, .inl (E 0, 30, .inl sd)), (h5, .inl (E 0, 30, .inl gm)), (h6, .inl (E 0, 36, .inl ca))]) := by
  refine Met.ofW (cc := cX3_change) (maxL := 4) (ret := none) (by decide) rfl ?_
  intro p e s m args below meth c s₁ Bz hml hv
  obtain ⟨rfl, hP, hK, hD0⟩ := hv
  have hx := Bz.exec
  have hb := Bz.bytes
  have hr := Bz.returns
  have hts := atoms_spec (ws := wsX3_change) Bz.pre
  have hown : s.vm.findClass RX3 = some m.cls := findClass_of_methodNamed Bz.named
  have hlocks := Bz.notSynchronized
  have hP : va_P D vwCl [(g0, .inr (2, [.ref h0, .ref g1, .ref g2, .ref g3, .ref g4, .int (nI sk), .ref g5, .ref g6, .ref g7])), (h0, .inr (0, [.int (nI N), .ref h1, .ref h2, .ref h3, .ref h4, .ref h5, .ref h6])), (h1, .inl (E 0, 15, .inl hm)), (h2, .inl (E 0, 15, .inl aw)), (h3, .inl (E 0, 30, .inl rv)), (h4, .inl (E 0, 30, .inl sd)), (h5, .inl (E 0, 30, .inl gm)), (h6, .inl (E 0, 36, .inl ca))] s.heap := hP
  obtain ⟨A, hAe⟩ : ∃ A : Nat → Prop, A = zw_A [(g0, .inr (2, [.ref h0, .ref g1, .ref g2, .ref g3, .ref g4, .int (nI sk), .ref g5, .ref g6, .ref g7])), (h0, .inr (0, [.int (nI N), .ref h1, .ref h2, .ref h3, .ref h4, .ref h5, .ref h6])), (h1, .inl (E 0, 15, .inl hm)), (h2, .inl (E 0, 15, .inl aw)), (h3, .inl (E 0, 30, .inl rv)), (h4, .inl (E 0, 30, .inl sd)), (h5, .inl (E 0, 30, .inl gm)), (h6, .inl (E 0, 36, .inl ca))] := ⟨_, rfl⟩
  have hD : va_D A [(g0, .inr (2, [.ref h0, .ref g1, .ref g2, .ref g3, .ref g4, .int (nI sk), .ref g5, .ref g6, .ref g7])), (h0, .inr (0, [.int (nI N), .ref h1, .ref h2, .ref h3, .ref h4, .ref h5, .ref h6])), (h1, .inl (E 0, 15, .inl hm)), (h2, .inl (E 0, 15, .inl aw)), (h3, .inl (E 0, 30, .inl rv)), (h4, .inl (E 0, 30, .inl sd)), (h5, .inl (E 0, 30, .inl gm)), (h6, .inl (E 0, 36, .inl ca))] := hAe ▸ zw_own hD0
  have hS : va_S A s.heap s.heap [] := va_S.rf
  have hl := lv_entry ([.ref g0, .int (nI 0), .int (nI r), .int (nI q)]) (n := 4) (Nat.le_of_ble_eq_true rfl)
  rw [lg_entry_eq]
  generalize (lg_sl ([.ref g0, .int (nI 0), .int (nI r), .int (nI q)]) ++ List.replicate (4 - (lg_sl ([.ref g0, .int (nI 0), .int (nI r), .int (nI q)])).length) Slot.unset).toArray = ls at hl ⊢
  have hl : lv_has ls 4 [(0, .ref g0), (1, .int (nI 0)), (2, .int (nI r)), (3, .int (nI q))] := hl
  refine zr_nQ (fun Q hQ => ?_)
  refine lv_iload_n hx hb dX3_change_0 rfl (lv_at hl 1 rfl) ?_
  refine lv_tableIn (x := nI 0) (off := 27) (tgt := 28) hx hb dX3_change_1 (by decide +kernel) (by decide +kernel) (by decide +kernel) (by decide) ?_
  refine lv_aload_n hx hb dX3_change_28 rfl (lv_at hl 0 rfl) ?_
  refine va_get (D := D) (ci := 2) (v := .ref h0) (C := RX3) (T := TX3) (N := 9) hx hb hts (by decide +kernel) hown hK.1 hP 0 rfl rfl 0 (by decide) (hts (.fieldLink RX3 12 "HomeRounds$Setting" "plan" "LHomeRounds$Plan;") (by decide +kernel)) (fun _ h9 => h9) rfl dX3_change_29 ?_
  refine lv_iload_n hx hb dX3_change_32 rfl (lv_at hl 2 rfl) ?_
  refine lv_iload_n hx hb dX3_change_33 rfl (lv_at hl 3 rfl) ?_
  have hPc := hP.sub (ws' := [(h0, .inr (0, [.int (nI N), .ref h1, .ref h2, .ref h3, .ref h4, .ref h5, .ref h6])), (h1, .inl (E 0, 15, .inl hm)), (h2, .inl (E 0, 15, .inl aw)), (h3, .inl (E 0, 30, .inl rv)), (h4, .inl (E 0, 30, .inl sd)), (h5, .inl (E 0, 30, .inl gm)), (h6, .inl (E 0, 36, .inl ca))]) [1, 2, 3, 4, 5, 6, 7] rfl
  have hDc := hD.sub (ws' := [(h0, .inr (0, [.int (nI N), .ref h1, .ref h2, .ref h3, .ref h4, .ref h5, .ref h6])), (h1, .inl (E 0, 15, .inl hm)), (h2, .inl (E 0, 15, .inl aw)), (h3, .inl (E 0, 30, .inl rv)), (h4, .inl (E 0, 30, .inl sd)), (h5, .inl (E 0, 30, .inl gm)), (h6, .inl (E 0, 36, .inl ca))]) [1, 2, 3, 4, 5, 6, 7] (by decide +kernel) rfl
  have hAc := zw_AA (wc := [(h0, .inr (0, [.int (nI N), .ref h1, .ref h2, .ref h3, .ref h4, .ref h5, .ref h6])), (h1, .inl (E 0, 15, .inl hm)), (h2, .inl (E 0, 15, .inl aw)), (h3, .inl (E 0, 30, .inl rv)), (h4, .inl (E 0, 30, .inl sd)), (h5, .inl (E 0, 30, .inl gm)), (h6, .inl (E 0, 36, .inl ca))]) hD [1, 2, 3, 4, 5, 6, 7] rfl
  refine zw_cv hAc hS (va_runV (As := [.int (nI r), .int (nI q)]) (rest := []) ⟨hx, hb, hml, hown, hts⟩ (c_X1_swapRounds l D E h0 h1 h2 h3 h4 h5 h6 N hm aw rv sd gm ca G P r q (hpl) (by omega) (by omega)) (cwV 2 hts gX3_change_X1_swapRounds rfl rfl rfl (by decide +kernel) ⟨Nat.le_of_ble_eq_true rfl, Nat.le_of_ble_eq_true rfl⟩) (zw_V hK hPc hDc (ci := 0) (q0 := 0) rfl rfl) rfl rfl hl.1 rfl (lv_room (Nat.le_of_ble_eq_true rfl)) dX3_change_34 ⟨Nat.zero_le _, Nat.zero_le _⟩) (fun u_3 H locs hw_2 hP1 hD1 hk1 hS => ?_)
  obtain ⟨hm_4, aw_5, rv_6, sd_7, gm_8⟩ := u_3
  try dsimp only at hw_2 hP1 hD1
  obtain ⟨hP, hD⟩ := zw_join (wr := [(g0, .inr (2, [.ref h0, .ref g1, .ref g2, .ref g3, .ref g4, .int (nI sk), .ref g5, .ref g6, .ref g7]))]) (w1 := [(h0, .inr (0, [.int (nI N), .ref h1, .ref h2, .ref h3, .ref h4, .ref h5, .ref h6])), (h1, .inl (E 0, 15, .inl hm_4)), (h2, .inl (E 0, 15, .inl aw_5)), (h3, .inl (E 0, 30, .inl rv_6)), (h4, .inl (E 0, 30, .inl sd_7)), (h5, .inl (E 0, 30, .inl gm_8)), (h6, .inl (E 0, 36, .inl ca))]) (ws' := [(g0, .inr (2, [.ref h0, .ref g1, .ref g2, .ref g3, .ref g4, .int (nI sk), .ref g5, .ref g6, .ref g7])), (h0, .inr (0, [.int (nI N), .ref h1, .ref h2, .ref h3, .ref h4, .ref h5, .ref h6])), (h1, .inl (E 0, 15, .inl hm_4)), (h2, .inl (E 0, 15, .inl aw_5)), (h3, .inl (E 0, 30, .inl rv_6)), (h4, .inl (E 0, 30, .inl sd_7)), (h5, .inl (E 0, 30, .inl gm_8)), (h6, .inl (E 0, 36, .inl ca))]) hP hD [1, 2, 3, 4, 5, 6, 7] [0] [0, 1, 2, 3, 4, 5, 6, 7] rfl rfl (by decide +kernel) (by decide +kernel) hAc hk1 hP1 hD1 (by decide +kernel) rfl
  clear hP1 hD1 hk1 hPc hDc hAc
  have hnew := hw_2
  refine lv_goto (tgt := 78) hx hb dX3_change_37 (by decide) ?_
  subst hQ; subst hAe
  exact W.vret hx hb hr (fun tz htz hWz => ⟨⟨(hm_4, aw_5, rv_6, sd_7, gm_8), rfl, hnew, by rw [htz]; exact hP, hD⟩, hS.F htz⟩) hS.2.2 dX3_change_78

set_option maxHeartbeats 4000000 in
set_option maxRecDepth 100000 in
theorem c_X3_change_1 (l : Launch) (D : va_G) (E : Nat → ClassId) (g0 : Nat) (g1 : Nat) (g2 : Nat) (g3 : Nat) (g4 : Nat) (g5 : Nat) (g6 : Nat) (g7 : Nat) (sk : Nat) (h0 : Nat) (h1 : Nat) (h2 : Nat) (h3 : Nat) (h4 : Nat) (h5 : Nat) (h6 : Nat) (N : Nat) (hm : Nat → Int32) (aw : Nat → Int32) (rv : Nat → Int32) (sd : Nat → Int32) (gm : Nat → Int32) (ca : Nat → Int32) (G : Nat → Nat → Nat) (P : Nat → Nat → Nat) (r : Nat) (k : Nat) (hpl : zm_pl N G P hm aw rv sd gm) (hr0 : r < N - 1) (hk0 : k < N / 2) : Met l yX3_change wsX3_change ({ frames := 3, cells := 0, slots := 0, locals := 73 }) (zw_P D E [.ref g0, .int (nI 1), .int (nI r), .int (nI k)] [(g0, .inr (2, [.ref h0, .ref g1, .ref g2, .ref g3, .ref g4, .int (nI sk), .ref g5, .ref g6, .ref g7])), (h0, .inr (0, [.int (nI N), .ref h1, .ref h2, .ref h3, .ref h4, .ref h5, .ref h6])), (h1, .inl (E 0, 15, .inl hm)), (h2, .inl (E 0, 15, .inl aw)), (h3, .inl (E 0, 30, .inl rv)), (h4, .inl (E 0, 30, .inl sd)), (h5, .inl (E 0, 30, .inl gm)), (h6, .inl (E 0, 36, .inl ca))]) (zw_Qv D [(g0, .inr (2, [.ref h0, .ref g1, .ref g2, .ref g3, .ref g4, .int (nI sk), .ref g5, .ref g6, .ref g7])), (h0, .inr (0, [.int (nI N), .ref h1, .ref h2, .ref h3, .ref h4, .ref h5, .ref h6])), (h1, .inl (E 0, 15, .inl hm)), (h2, .inl (E 0, 15, .inl aw)), (h3, .inl (E 0, 30, .inl rv)), (h4, .inl (E 0, 30, .inl sd)), (h5, .inl (E 0, 30, .inl gm)), (h6, .inl (E 0, 36, .inl ca))] (fun (u : (Nat → Int32) × (Nat → Int32) × (Nat → Int32) × (Nat → Int32) × (Nat → Int32)) => zm_pl N (zm_tuG G r k) (zm_tuP P r k) u.1 u.2.1 u.2.2.1 u.2.2.2.1 u.2.2.2.2) (fun (u : (Nat → Int32) × (Nat → Int32) × (Nat → Int32) × (Nat → Int32) × (Nat → Int32)) => [(g0, .inr (2, [.ref h0, .ref g1, .ref g2, .ref g3, .ref g4, .int (nI sk), .ref g5, .ref g6, .ref g7])), (h0, .inr (0, [.int (nI N), .ref h1, .ref h2, .ref h3, .ref h4, .ref h5, .ref h6])), (h1, .inl (E 0, 15, .inl u.1)), (h2, .inl (E 0, 15, .inl u.2.1)), (h3, .inl (E 0, 30, .inl u.2.2.1)), (h4, .inl (E 0, 30, .inl u.2.2.2.1)), (h5, .inl (E 0, 30, .inl u.2.2.2.2)), (h6, .inl (E 0, 36, .inl ca))])) 0 0 (zw_A [(g0, .inr (2, [.ref h0, .ref g1, .ref g2, .ref g3, .ref g4, .int (nI sk), .ref g5, .ref g6, .ref g7])), (h0, .inr (0, [.int (nI N), .ref h1, .ref h2, .ref h3, .ref h4, .ref h5, .ref h6])), (h1, .inl (E 0, 15, .inl hm)), (h2, .inl (E 0, 15, .inl aw)), (h3, .inl (E 0, 30, .inl rv)), (h4, .inl (E 0, 30, .inl sd)), (h5, .inl (E 0, 30, .inl gm)), (h6, .inl (E 0, 36, .inl ca))]) := by
  refine Met.ofW (cc := cX3_change) (maxL := 4) (ret := none) (by decide) rfl ?_
  intro p e s m args below meth c s₁ Bz hml hv
  obtain ⟨rfl, hP, hK, hD0⟩ := hv
  have hx := Bz.exec
  have hb := Bz.bytes
  have hr := Bz.returns
  have hts := atoms_spec (ws := wsX3_change) Bz.pre
  have hown : s.vm.findClass RX3 = some m.cls := findClass_of_methodNamed Bz.named
  have hlocks := Bz.notSynchronized
  have hP : va_P D vwCl [(g0, .inr (2, [.ref h0, .ref g1, .ref g2, .ref g3, .ref g4, .int (nI sk), .ref g5, .ref g6, .ref g7])), (h0, .inr (0, [.int (nI N), .ref h1, .ref h2, .ref h3, .ref h4, .ref h5, .ref h6])), (h1, .inl (E 0, 15, .inl hm)), (h2, .inl (E 0, 15, .inl aw)), (h3, .inl (E 0, 30, .inl rv)), (h4, .inl (E 0, 30, .inl sd)), (h5, .inl (E 0, 30, .inl gm)), (h6, .inl (E 0, 36, .inl ca))] s.heap := hP
  obtain ⟨A, hAe⟩ : ∃ A : Nat → Prop, A = zw_A [(g0, .inr (2, [.ref h0, .ref g1, .ref g2, .ref g3, .ref g4, .int (nI sk), .ref g5, .ref g6, .ref g7])), (h0, .inr (0, [.int (nI N), .ref h1, .ref h2, .ref h3, .ref h4, .ref h5, .ref h6])), (h1, .inl (E 0, 15, .inl hm)), (h2, .inl (E 0, 15, .inl aw)), (h3, .inl (E 0, 30, .inl rv)), (h4, .inl (E 0, 30, .inl sd)), (h5, .inl (E 0, 30, .inl gm)), (h6, .inl (E 0, 36, .inl ca))] := ⟨_, rfl⟩
  have hD : va_D A [(g0, .inr (2, [.ref h0, .ref g1, .ref g2, .ref g3, .ref g4, .int (nI sk), .ref g5, .ref g6, .ref g7])), (h0, .inr (0, [.int (nI N), .ref h1, .ref h2, .ref h3, .ref h4, .ref h5, .ref h6])), (h1, .inl (E 0, 15, .inl hm)), (h2, .inl (E 0, 15, .inl aw)), (h3, .inl (E 0, 30, .inl rv)), (h4, .inl (E 0, 30, .inl sd)), (h5, .inl (E 0, 30, .inl gm)), (h6, .inl (E 0, 36, .inl ca))] := hAe ▸ zw_own hD0
  have hS : va_S A s.heap s.heap [] := va_S.rf
  have hl := lv_entry ([.ref g0, .int (nI 1), .int (nI r), .int (nI k)]) (n := 4) (Nat.le_of_ble_eq_true rfl)
  rw [lg_entry_eq]
  generalize (lg_sl ([.ref g0, .int (nI 1), .int (nI r), .int (nI k)]) ++ List.replicate (4 - (lg_sl ([.ref g0, .int (nI 1), .int (nI r), .int (nI k)])).length) Slot.unset).toArray = ls at hl ⊢
  have hl : lv_has ls 4 [(0, .ref g0), (1, .int (nI 1)), (2, .int (nI r)), (3, .int (nI k))] := hl
  refine zr_nQ (fun Q hQ => ?_)
  refine lv_iload_n hx hb dX3_change_0 rfl (lv_at hl 1 rfl) ?_
  refine lv_tableIn (x := nI 1) (off := 39) (tgt := 40) hx hb dX3_change_1 (by decide +kernel) (by decide +kernel) (by decide +kernel) (by decide) ?_
  refine lv_aload_n hx hb dX3_change_40 rfl (lv_at hl 0 rfl) ?_
  refine va_get (D := D) (ci := 2) (v := .ref h0) (C := RX3) (T := TX3) (N := 9) hx hb hts (by decide +kernel) hown hK.1 hP 0 rfl rfl 0 (by decide) (hts (.fieldLink RX3 12 "HomeRounds$Setting" "plan" "LHomeRounds$Plan;") (by decide +kernel)) (fun _ h9 => h9) rfl dX3_change_41 ?_
  refine lv_iload_n hx hb dX3_change_44 rfl (lv_at hl 2 rfl) ?_
  refine lv_iload_n hx hb dX3_change_45 rfl (lv_at hl 3 rfl) ?_
  have hPc := hP.sub (ws' := [(h0, .inr (0, [.int (nI N), .ref h1, .ref h2, .ref h3, .ref h4, .ref h5, .ref h6])), (h1, .inl (E 0, 15, .inl hm)), (h2, .inl (E 0, 15, .inl aw)), (h3, .inl (E 0, 30, .inl rv)), (h4, .inl (E 0, 30, .inl sd)), (h5, .inl (E 0, 30, .inl gm)), (h6, .inl (E 0, 36, .inl ca))]) [1, 2, 3, 4, 5, 6, 7] rfl
  have hDc := hD.sub (ws' := [(h0, .inr (0, [.int (nI N), .ref h1, .ref h2, .ref h3, .ref h4, .ref h5, .ref h6])), (h1, .inl (E 0, 15, .inl hm)), (h2, .inl (E 0, 15, .inl aw)), (h3, .inl (E 0, 30, .inl rv)), (h4, .inl (E 0, 30, .inl sd)), (h5, .inl (E 0, 30, .inl gm)), (h6, .inl (E 0, 36, .inl ca))]) [1, 2, 3, 4, 5, 6, 7] (by decide +kernel) rfl
  have hAc := zw_AA (wc := [(h0, .inr (0, [.int (nI N), .ref h1, .ref h2, .ref h3, .ref h4, .ref h5, .ref h6])), (h1, .inl (E 0, 15, .inl hm)), (h2, .inl (E 0, 15, .inl aw)), (h3, .inl (E 0, 30, .inl rv)), (h4, .inl (E 0, 30, .inl sd)), (h5, .inl (E 0, 30, .inl gm)), (h6, .inl (E 0, 36, .inl ca))]) hD [1, 2, 3, 4, 5, 6, 7] rfl
  refine zw_cv hAc hS (va_runV (As := [.int (nI r), .int (nI k)]) (rest := []) ⟨hx, hb, hml, hown, hts⟩ (c_X1_turnGame l D E h0 h1 h2 h3 h4 h5 h6 N hm aw rv sd gm ca G P r k (hpl) (by omega) (by omega)) (cwV 2 hts gX3_change_X1_turnGame rfl rfl rfl (by decide +kernel) ⟨Nat.le_of_ble_eq_true rfl, Nat.le_of_ble_eq_true rfl⟩) (zw_V hK hPc hDc (ci := 0) (q0 := 0) rfl rfl) rfl rfl hl.1 rfl (lv_room (Nat.le_of_ble_eq_true rfl)) dX3_change_46 ⟨Nat.zero_le _, Nat.zero_le _⟩) (fun u_3 H locs hw_2 hP1 hD1 hk1 hS => ?_)
  obtain ⟨hm_4, aw_5, rv_6, sd_7, gm_8⟩ := u_3
  try dsimp only at hw_2 hP1 hD1
  obtain ⟨hP, hD⟩ := zw_join (wr := [(g0, .inr (2, [.ref h0, .ref g1, .ref g2, .ref g3, .ref g4, .int (nI sk), .ref g5, .ref g6, .ref g7]))]) (w1 := [(h0, .inr (0, [.int (nI N), .ref h1, .ref h2, .ref h3, .ref h4, .ref h5, .ref h6])), (h1, .inl (E 0, 15, .inl hm_4)), (h2, .inl (E 0, 15, .inl aw_5)), (h3, .inl (E 0, 30, .inl rv_6)), (h4, .inl (E 0, 30, .inl sd_7)), (h5, .inl (E 0, 30, .inl gm_8)), (h6, .inl (E 0, 36, .inl ca))]) (ws' := [(g0, .inr (2, [.ref h0, .ref g1, .ref g2, .ref g3, .ref g4, .int (nI sk), .ref g5, .ref g6, .ref g7])), (h0, .inr (0, [.int (nI N), .ref h1, .ref h2, .ref h3, .ref h4, .ref h5, .ref h6])), (h1, .inl (E 0, 15, .inl hm_4)), (h2, .inl (E 0, 15, .inl aw_5)), (h3, .inl (E 0, 30, .inl rv_6)), (h4, .inl (E 0, 30, .inl sd_7)), (h5, .inl (E 0, 30, .inl gm_8)), (h6, .inl (E 0, 36, .inl ca))]) hP hD [1, 2, 3, 4, 5, 6, 7] [0] [0, 1, 2, 3, 4, 5, 6, 7] rfl rfl (by decide +kernel) (by decide +kernel) hAc hk1 hP1 hD1 (by decide +kernel) rfl
  clear hP1 hD1 hk1 hPc hDc hAc
  have hnew := hw_2
  refine lv_goto (tgt := 78) hx hb dX3_change_49 (by decide) ?_
  subst hQ; subst hAe
  exact W.vret hx hb hr (fun tz htz hWz => ⟨⟨(hm_4, aw_5, rv_6, sd_7, gm_8), rfl, hnew, by rw [htz]; exact hP, hD⟩, hS.F htz⟩) hS.2.2 dX3_change_78

set_option maxHeartbeats 4000000 in
set_option maxRecDepth 100000 in
theorem c_X3_change_2 (l : Launch) (D : va_G) (E : Nat → ClassId) (g0 : Nat) (g1 : Nat) (g2 : Nat) (g3 : Nat) (g4 : Nat) (g5 : Nat) (g6 : Nat) (g7 : Nat) (sk : Nat) (h0 : Nat) (h1 : Nat) (h2 : Nat) (h3 : Nat) (h4 : Nat) (h5 : Nat) (h6 : Nat) (N : Nat) (hm : Nat → Int32) (aw : Nat → Int32) (rv : Nat → Int32) (sd : Nat → Int32) (gm : Nat → Int32) (ca : Nat → Int32) (G : Nat → Nat → Nat) (P : Nat → Nat → Nat) (i : Nat) (j : Nat) (hpl : zm_pl N G P hm aw rv sd gm) (hi0 : i < N) (hj0 : j < N) : Met l yX3_change wsX3_change ({ frames := 3, cells := 0, slots := 0, locals := 73 }) (zw_P D E [.ref g0, .int (nI 2), .int (nI i), .int (nI j)] [(g0, .inr (2, [.ref h0, .ref g1, .ref g2, .ref g3, .ref g4, .int (nI sk), .ref g5, .ref g6, .ref g7])), (h0, .inr (0, [.int (nI N), .ref h1, .ref h2, .ref h3, .ref h4, .ref h5, .ref h6])), (h1, .inl (E 0, 15, .inl hm)), (h2, .inl (E 0, 15, .inl aw)), (h3, .inl (E 0, 30, .inl rv)), (h4, .inl (E 0, 30, .inl sd)), (h5, .inl (E 0, 30, .inl gm)), (h6, .inl (E 0, 36, .inl ca))]) (zw_Qv D [(g0, .inr (2, [.ref h0, .ref g1, .ref g2, .ref g3, .ref g4, .int (nI sk), .ref g5, .ref g6, .ref g7])), (h0, .inr (0, [.int (nI N), .ref h1, .ref h2, .ref h3, .ref h4, .ref h5, .ref h6])), (h1, .inl (E 0, 15, .inl hm)), (h2, .inl (E 0, 15, .inl aw)), (h3, .inl (E 0, 30, .inl rv)), (h4, .inl (E 0, 30, .inl sd)), (h5, .inl (E 0, 30, .inl gm)), (h6, .inl (E 0, 36, .inl ca))] (fun (u : (Nat → Int32) × (Nat → Int32) × (Nat → Int32) × (Nat → Int32) × (Nat → Int32)) => zm_pl N (zm_exG G i j) (zm_exP P i j) u.1 u.2.1 u.2.2.1 u.2.2.2.1 u.2.2.2.2) (fun (u : (Nat → Int32) × (Nat → Int32) × (Nat → Int32) × (Nat → Int32) × (Nat → Int32)) => [(g0, .inr (2, [.ref h0, .ref g1, .ref g2, .ref g3, .ref g4, .int (nI sk), .ref g5, .ref g6, .ref g7])), (h0, .inr (0, [.int (nI N), .ref h1, .ref h2, .ref h3, .ref h4, .ref h5, .ref h6])), (h1, .inl (E 0, 15, .inl u.1)), (h2, .inl (E 0, 15, .inl u.2.1)), (h3, .inl (E 0, 30, .inl u.2.2.1)), (h4, .inl (E 0, 30, .inl u.2.2.2.1)), (h5, .inl (E 0, 30, .inl u.2.2.2.2)), (h6, .inl (E 0, 36, .inl ca))])) 0 0 (zw_A [(g0, .inr (2, [.ref h0, .ref g1, .ref g2, .ref g3, .ref g4, .int (nI sk), .ref g5, .ref g6, .ref g7])), (h0, .inr (0, [.int (nI N), .ref h1, .ref h2, .ref h3, .ref h4, .ref h5, .ref h6])), (h1, .inl (E 0, 15, .inl hm)), (h2, .inl (E 0, 15, .inl aw)), (h3, .inl (E 0, 30, .inl rv)), (h4, .inl (E 0, 30, .inl sd)), (h5, .inl (E 0, 30, .inl gm)), (h6, .inl (E 0, 36, .inl ca))]) := by
  refine Met.ofW (cc := cX3_change) (maxL := 4) (ret := none) (by decide) rfl ?_
  intro p e s m args below meth c s₁ Bz hml hv
  obtain ⟨rfl, hP, hK, hD0⟩ := hv
  have hx := Bz.exec
  have hb := Bz.bytes
  have hr := Bz.returns
  have hts := atoms_spec (ws := wsX3_change) Bz.pre
  have hown : s.vm.findClass RX3 = some m.cls := findClass_of_methodNamed Bz.named
  have hlocks := Bz.notSynchronized
  have hP : va_P D vwCl [(g0, .inr (2, [.ref h0, .ref g1, .ref g2, .ref g3, .ref g4, .int (nI sk), .ref g5, .ref g6, .ref g7])), (h0, .inr (0, [.int (nI N), .ref h1, .ref h2, .ref h3, .ref h4, .ref h5, .ref h6])), (h1, .inl (E 0, 15, .inl hm)), (h2, .inl (E 0, 15, .inl aw)), (h3, .inl (E 0, 30, .inl rv)), (h4, .inl (E 0, 30, .inl sd)), (h5, .inl (E 0, 30, .inl gm)), (h6, .inl (E 0, 36, .inl ca))] s.heap := hP
  obtain ⟨A, hAe⟩ : ∃ A : Nat → Prop, A = zw_A [(g0, .inr (2, [.ref h0, .ref g1, .ref g2, .ref g3, .ref g4, .int (nI sk), .ref g5, .ref g6, .ref g7])), (h0, .inr (0, [.int (nI N), .ref h1, .ref h2, .ref h3, .ref h4, .ref h5, .ref h6])), (h1, .inl (E 0, 15, .inl hm)), (h2, .inl (E 0, 15, .inl aw)), (h3, .inl (E 0, 30, .inl rv)), (h4, .inl (E 0, 30, .inl sd)), (h5, .inl (E 0, 30, .inl gm)), (h6, .inl (E 0, 36, .inl ca))] := ⟨_, rfl⟩
  have hD : va_D A [(g0, .inr (2, [.ref h0, .ref g1, .ref g2, .ref g3, .ref g4, .int (nI sk), .ref g5, .ref g6, .ref g7])), (h0, .inr (0, [.int (nI N), .ref h1, .ref h2, .ref h3, .ref h4, .ref h5, .ref h6])), (h1, .inl (E 0, 15, .inl hm)), (h2, .inl (E 0, 15, .inl aw)), (h3, .inl (E 0, 30, .inl rv)), (h4, .inl (E 0, 30, .inl sd)), (h5, .inl (E 0, 30, .inl gm)), (h6, .inl (E 0, 36, .inl ca))] := hAe ▸ zw_own hD0
  have hS : va_S A s.heap s.heap [] := va_S.rf
  have hl := lv_entry ([.ref g0, .int (nI 2), .int (nI i), .int (nI j)]) (n := 4) (Nat.le_of_ble_eq_true rfl)
  rw [lg_entry_eq]
  generalize (lg_sl ([.ref g0, .int (nI 2), .int (nI i), .int (nI j)]) ++ List.replicate (4 - (lg_sl ([.ref g0, .int (nI 2), .int (nI i), .int (nI j)])).length) Slot.unset).toArray = ls at hl ⊢
  have hl : lv_has ls 4 [(0, .ref g0), (1, .int (nI 2)), (2, .int (nI i)), (3, .int (nI j))] := hl
  refine zr_nQ (fun Q hQ => ?_)
  refine lv_iload_n hx hb dX3_change_0 rfl (lv_at hl 1 rfl) ?_
  refine lv_tableIn (x := nI 2) (off := 51) (tgt := 52) hx hb dX3_change_1 (by decide +kernel) (by decide +kernel) (by decide +kernel) (by decide) ?_
  refine lv_aload_n hx hb dX3_change_52 rfl (lv_at hl 0 rfl) ?_
  refine va_get (D := D) (ci := 2) (v := .ref h0) (C := RX3) (T := TX3) (N := 9) hx hb hts (by decide +kernel) hown hK.1 hP 0 rfl rfl 0 (by decide) (hts (.fieldLink RX3 12 "HomeRounds$Setting" "plan" "LHomeRounds$Plan;") (by decide +kernel)) (fun _ h9 => h9) rfl dX3_change_53 ?_
  refine lv_iload_n hx hb dX3_change_56 rfl (lv_at hl 2 rfl) ?_
  refine lv_iload_n hx hb dX3_change_57 rfl (lv_at hl 3 rfl) ?_
  have hPc := hP.sub (ws' := [(h0, .inr (0, [.int (nI N), .ref h1, .ref h2, .ref h3, .ref h4, .ref h5, .ref h6])), (h1, .inl (E 0, 15, .inl hm)), (h2, .inl (E 0, 15, .inl aw)), (h3, .inl (E 0, 30, .inl rv)), (h4, .inl (E 0, 30, .inl sd)), (h5, .inl (E 0, 30, .inl gm)), (h6, .inl (E 0, 36, .inl ca))]) [1, 2, 3, 4, 5, 6, 7] rfl
  have hDc := hD.sub (ws' := [(h0, .inr (0, [.int (nI N), .ref h1, .ref h2, .ref h3, .ref h4, .ref h5, .ref h6])), (h1, .inl (E 0, 15, .inl hm)), (h2, .inl (E 0, 15, .inl aw)), (h3, .inl (E 0, 30, .inl rv)), (h4, .inl (E 0, 30, .inl sd)), (h5, .inl (E 0, 30, .inl gm)), (h6, .inl (E 0, 36, .inl ca))]) [1, 2, 3, 4, 5, 6, 7] (by decide +kernel) rfl
  have hAc := zw_AA (wc := [(h0, .inr (0, [.int (nI N), .ref h1, .ref h2, .ref h3, .ref h4, .ref h5, .ref h6])), (h1, .inl (E 0, 15, .inl hm)), (h2, .inl (E 0, 15, .inl aw)), (h3, .inl (E 0, 30, .inl rv)), (h4, .inl (E 0, 30, .inl sd)), (h5, .inl (E 0, 30, .inl gm)), (h6, .inl (E 0, 36, .inl ca))]) hD [1, 2, 3, 4, 5, 6, 7] rfl
  refine zw_cv hAc hS (va_runV (As := [.int (nI i), .int (nI j)]) (rest := []) ⟨hx, hb, hml, hown, hts⟩ (c_X1_exchangeTeams l D E h0 h1 h2 h3 h4 h5 h6 N hm aw rv sd gm ca G P i j (hpl) (by omega) (by omega)) (cwV 2 hts gX3_change_X1_exchangeTeams rfl rfl rfl (by decide +kernel) ⟨Nat.le_of_ble_eq_true rfl, Nat.le_of_ble_eq_true rfl⟩) (zw_V hK hPc hDc (ci := 0) (q0 := 0) rfl rfl) rfl rfl hl.1 rfl (lv_room (Nat.le_of_ble_eq_true rfl)) dX3_change_58 ⟨Nat.zero_le _, Nat.zero_le _⟩) (fun u_3 H locs hw_2 hP1 hD1 hk1 hS => ?_)
  obtain ⟨hm_4, aw_5, rv_6, sd_7, gm_8⟩ := u_3
  try dsimp only at hw_2 hP1 hD1
  obtain ⟨hP, hD⟩ := zw_join (wr := [(g0, .inr (2, [.ref h0, .ref g1, .ref g2, .ref g3, .ref g4, .int (nI sk), .ref g5, .ref g6, .ref g7]))]) (w1 := [(h0, .inr (0, [.int (nI N), .ref h1, .ref h2, .ref h3, .ref h4, .ref h5, .ref h6])), (h1, .inl (E 0, 15, .inl hm_4)), (h2, .inl (E 0, 15, .inl aw_5)), (h3, .inl (E 0, 30, .inl rv_6)), (h4, .inl (E 0, 30, .inl sd_7)), (h5, .inl (E 0, 30, .inl gm_8)), (h6, .inl (E 0, 36, .inl ca))]) (ws' := [(g0, .inr (2, [.ref h0, .ref g1, .ref g2, .ref g3, .ref g4, .int (nI sk), .ref g5, .ref g6, .ref g7])), (h0, .inr (0, [.int (nI N), .ref h1, .ref h2, .ref h3, .ref h4, .ref h5, .ref h6])), (h1, .inl (E 0, 15, .inl hm_4)), (h2, .inl (E 0, 15, .inl aw_5)), (h3, .inl (E 0, 30, .inl rv_6)), (h4, .inl (E 0, 30, .inl sd_7)), (h5, .inl (E 0, 30, .inl gm_8)), (h6, .inl (E 0, 36, .inl ca))]) hP hD [1, 2, 3, 4, 5, 6, 7] [0] [0, 1, 2, 3, 4, 5, 6, 7] rfl rfl (by decide +kernel) (by decide +kernel) hAc hk1 hP1 hD1 (by decide +kernel) rfl
  clear hP1 hD1 hk1 hPc hDc hAc
  have hnew := hw_2
  refine lv_goto (tgt := 78) hx hb dX3_change_61 (by decide) ?_
  subst hQ; subst hAe
  exact W.vret hx hb hr (fun tz htz hWz => ⟨⟨(hm_4, aw_5, rv_6, sd_7, gm_8), rfl, hnew, by rw [htz]; exact hP, hD⟩, hS.F htz⟩) hS.2.2 dX3_change_78

set_option maxHeartbeats 4000000 in
set_option maxRecDepth 100000 in
theorem c_X3_change_3 (l : Launch) (D : va_G) (E : Nat → ClassId) (g0 : Nat) (g1 : Nat) (g2 : Nat) (g3 : Nat) (g4 : Nat) (g5 : Nat) (g6 : Nat) (g7 : Nat) (sk : Nat) (h0 : Nat) (rt : Nat → Int32) (k : Nat) (b : Nat) (hk0 : k < 4) : Met l yX3_change wsX3_change ({ frames := 3, cells := 0, slots := 0, locals := 73 }) (zw_P D E [.ref g0, .int (nI 3), .int (nI k), .int (nI b)] [(g0, .inr (2, [.ref h0, .ref g1, .ref g2, .ref g3, .ref g4, .int (nI sk), .ref g5, .ref g6, .ref g7])), (g4, .inl (E 0, 4, .inl rt))]) (zw_Qv D [(g0, .inr (2, [.ref h0, .ref g1, .ref g2, .ref g3, .ref g4, .int (nI sk), .ref g5, .ref g6, .ref g7])), (g4, .inl (E 0, 4, .inl rt))] (fun (u : Unit) => True) (fun (u : Unit) => [(g0, .inr (2, [.ref h0, .ref g1, .ref g2, .ref g3, .ref g4, .int (nI sk), .ref g5, .ref g6, .ref g7])), (g4, .inl (E 0, 4, .inl (upd rt k (nI b))))])) 0 0 (zw_A [(g0, .inr (2, [.ref h0, .ref g1, .ref g2, .ref g3, .ref g4, .int (nI sk), .ref g5, .ref g6, .ref g7])), (g4, .inl (E 0, 4, .inl rt))]) := by
  refine Met.ofW (cc := cX3_change) (maxL := 4) (ret := none) (by decide) rfl ?_
  intro p e s m args below meth c s₁ Bz hml hv
  obtain ⟨rfl, hP, hK, hD0⟩ := hv
  have hx := Bz.exec
  have hb := Bz.bytes
  have hr := Bz.returns
  have hts := atoms_spec (ws := wsX3_change) Bz.pre
  have hown : s.vm.findClass RX3 = some m.cls := findClass_of_methodNamed Bz.named
  have hlocks := Bz.notSynchronized
  have hP : va_P D vwCl [(g0, .inr (2, [.ref h0, .ref g1, .ref g2, .ref g3, .ref g4, .int (nI sk), .ref g5, .ref g6, .ref g7])), (g4, .inl (E 0, 4, .inl rt))] s.heap := hP
  obtain ⟨A, hAe⟩ : ∃ A : Nat → Prop, A = zw_A [(g0, .inr (2, [.ref h0, .ref g1, .ref g2, .ref g3, .ref g4, .int (nI sk), .ref g5, .ref g6, .ref g7])), (g4, .inl (E 0, 4, .inl rt))] := ⟨_, rfl⟩
  have hD : va_D A [(g0, .inr (2, [.ref h0, .ref g1, .ref g2, .ref g3, .ref g4, .int (nI sk), .ref g5, .ref g6, .ref g7])), (g4, .inl (E 0, 4, .inl rt))] := hAe ▸ zw_own hD0
  have hS : va_S A s.heap s.heap [] := va_S.rf
  have hl := lv_entry ([.ref g0, .int (nI 3), .int (nI k), .int (nI b)]) (n := 4) (Nat.le_of_ble_eq_true rfl)
  rw [lg_entry_eq]
  generalize (lg_sl ([.ref g0, .int (nI 3), .int (nI k), .int (nI b)]) ++ List.replicate (4 - (lg_sl ([.ref g0, .int (nI 3), .int (nI k), .int (nI b)])).length) Slot.unset).toArray = ls at hl ⊢
  have hl : lv_has ls 4 [(0, .ref g0), (1, .int (nI 3)), (2, .int (nI k)), (3, .int (nI b))] := hl
  refine zr_nQ (fun Q hQ => ?_)
  refine lv_iload_n hx hb dX3_change_0 rfl (lv_at hl 1 rfl) ?_
  refine lv_tableOut (x := nI 3) (tgt := 64) hx hb dX3_change_1 (by decide +kernel) (by decide) ?_
  refine lv_iload_n hx hb dX3_change_64 rfl (lv_at hl 2 rfl) ?_
  refine zr_ci hP hS (va_runSN (As := [.int (nI k)]) (rest := []) ⟨hx, hb, hml, hown, hts⟩ (c_X7_isRate l D E (nI k) ) ⟨va_cnB 1 hts gX3_change_X7_isRate_n81 rfl rfl rfl hK.2.2.2.2.2.1 (hts (.initialized RX7) (by decide +kernel)) (by decide +kernel) ⟨Nat.le_of_ble_eq_true rfl, Nat.le_of_ble_eq_true rfl⟩, hts (.static yX7_isRate) (by decide +kernel), trivial⟩ (zr_S hK (hP.sub (ws' := []) [] rfl)) rfl rfl hl.1 rfl (lv_room (Nat.le_of_ble_eq_true rfl)) dX3_change_65 ⟨Nat.zero_le _, Nat.zero_le _⟩) (fun r_1 H locs hw_2 hP hS => ?_)
  have hrz : r_1 = 1 := by rcases hw_2 with ⟨h9, -⟩ | ⟨-, h9⟩; exact h9; exact absurd rfl (h9 k hk0)
  subst hrz; clear hw_2
  refine zr_ti (y := nI 1) rfl ?_
  refine lv_if_eq (tgt := 78) hx hb dX3_change_68 (by decide) (fun cn_3 => ?_) (fun cn_3 => ?_)
  · skip
    exact absurd cn_3 (by decide)
  · skip
    refine lv_aload_n hx hb dX3_change_71 rfl (lv_at hl 0 rfl) ?_
    refine va_get (D := D) (ci := 2) (v := .ref g4) (C := RX3) (T := TX3) (N := 9) hx hb hts (by decide +kernel) hown hK.1 hP 0 rfl rfl 4 (by decide) (hts (.fieldLink RX3 29 "HomeRounds$Setting" "rates" "[I") (by decide +kernel)) (fun _ h9 => h9) rfl dX3_change_72 ?_
    refine lv_iload_n hx hb dX3_change_75 rfl (lv_at hl 2 rfl) ?_
    refine lv_iload_n hx hb dX3_change_76 rfl (lv_at hl 3 rfl) ?_
    refine va_iast hx hb hK.1 hP hD hS 1 0 rfl rfl (vp_in_nI (by omega) (by omega)) dX3_change_77 (fun H locs hP hD hS => ?_)
    have hP : va_P D vwCl [(g0, .inr (2, [.ref h0, .ref g1, .ref g2, .ref g3, .ref g4, .int (nI sk), .ref g5, .ref g6, .ref g7])), (g4, .inl (E 0, 4, .inl (upd rt (nI k).toNatClampNeg (nI b))))] H := hP
    have hD : va_D A [(g0, .inr (2, [.ref h0, .ref g1, .ref g2, .ref g3, .ref g4, .int (nI sk), .ref g5, .ref g6, .ref g7])), (g4, .inl (E 0, 4, .inl (upd rt (nI k).toNatClampNeg (nI b))))] := hD
    have hcz : (upd rt (nI k).toNatClampNeg (nI b)) = (upd rt k (nI b)) := by rw [nI_clamp (n := k) (by omega)]
    rw [hcz] at hP hD
    subst hQ; subst hAe
    exact W.vret hx hb hr (fun tz htz hWz => ⟨⟨(), rfl, trivial, by rw [htz]; exact hP, hD⟩, hS.F htz⟩) hS.2.2 dX3_change_78

