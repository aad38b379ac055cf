set_option maxHeartbeats 4000000 in
set_option maxRecDepth 100000 in
theorem c_X7_cellOf (l : Launch) (D : va_G) (E : Nat → ClassId) (t : Nat) (r : Nat) (ht : t < 6) (hr0 : r < 5) : Met l yX7_cellOf wsX7_cellOf ({ frames := 0, cells := 0, slots := 0, locals := 0 }) (zr_P D E [.int (nI t), .int (nI r)] []) (zr_Qi (fun zv => zv = nI (r * 6 + t))) 0 0 (fun _ => False) := by
  refine Met.ofW (cc := cX7_cellOf) (maxL := 2) (ret := (some .int)) (by decide) rfl ?_
  intro p e s m args below meth c s₁ Bz hml hv
  obtain ⟨rfl, hP, hK⟩ := hv
  have hx := Bz.exec
  have hb := Bz.bytes
  have hr := Bz.returns
  have hts := atoms_spec (ws := wsX7_cellOf) Bz.pre
  have hown : s.vm.findClass RX7 = some m.cls := findClass_of_methodNamed Bz.named
  have hlocks := Bz.notSynchronized
  have hP : va_P D vwCl [] s.heap := hP
  have hS : va_S (fun _ : Nat => False) s.heap s.heap [] := va_S.rf
  have hl := lv_entry ([.int (nI t), .int (nI r)]) (n := 2) (Nat.le_of_ble_eq_true rfl)
  rw [lg_entry_eq]
  generalize (lg_sl ([.int (nI t), .int (nI r)]) ++ List.replicate (2 - (lg_sl ([.int (nI t), .int (nI r)])).length) Slot.unset).toArray = ls at hl ⊢
  have hl : lv_has ls 2 [(0, .int (nI t)), (1, .int (nI r))] := hl
  refine zr_nQ (fun Q hQ => ?_)
  refine lv_iload_n hx hb dX7_cellOf_0 rfl (lv_at hl 1 rfl) ?_
  refine lv_bipush (v := nI 6) hx hb dX7_cellOf_1 (by rfl) ?_
  refine lv_imul hx hb dX7_cellOf_3 ?_
  refine zr_ti (y := nI (r * 6)) (pk_mul _ _) ?_
  refine lv_iload_n hx hb dX7_cellOf_4 rfl (lv_at hl 0 rfl) ?_
  refine lv_iadd hx hb dX7_cellOf_5 ?_
  refine zr_ti (y := nI ((r * 6) + t)) (nI_add _ _) ?_
  subst hQ
  exact W.iret (v := nI ((r * 6) + t)) hx hb hr (fun tz htz hWz => ⟨⟨nI ((r * 6) + t), (), rfl, rfl, trivial⟩, hS.F htz⟩) hS.2.2 dX7_cellOf_6

set_option maxHeartbeats 4000000 in
set_option maxRecDepth 100000 in
theorem c_X1_hasTeam (l : Launch) (D : va_G) (E : Nat → ClassId) (h0 : Nat) (h1 : Nat) (h2 : Nat) (h3 : Nat) (h4 : Nat) (h5 : Nat) (h6 : Nat) (N : Nat) (hm : Nat → Int32) (aw : Nat → Int32) (rv : Nat → Int32) (sd : Nat → Int32) (gm : Nat → Int32) (ca : Nat → Int32) (v : Int32) (hN : N = 4 ∨ N = 6) : Met l yX1_hasTeam wsX1_hasTeam ({ frames := 0, cells := 0, slots := 0, locals := 0 }) (zr_P D E [.ref h0, .int v] [(h0, .inr (0, [.int (nI N), .ref h1, .ref h2, .ref h3, .ref h4, .ref h5, .ref h6])), (h1, .inl (E 0, 15, .inl hm)), (h2, .inl (E 0, 15, .inl aw)), (h3, .inl (E 0, 30, .inl rv)), (h4, .inl (E 0, 30, .inl sd)), (h5, .inl (E 0, 30, .inl gm)), (h6, .inl (E 0, 36, .inl ca))]) (zr_Qi (fun zv => (zv = 1 ∧ (∃ t : Nat, t < N ∧ v = nI t)) ∨ (zv = 0 ∧ (∀ t : Nat, t < N → v ≠ nI t)))) 0 0 (fun _ => False) := by
  refine Met.ofW (cc := cX1_hasTeam) (maxL := 2) (ret := (some .boolean)) (by decide) rfl ?_
  intro p e s m args below meth c s₁ Bz hml hv
  obtain ⟨rfl, hP, hK⟩ := hv
  have hx := Bz.exec
  have hb := Bz.bytes
  have hr := Bz.returns
  have hts := atoms_spec (ws := wsX1_hasTeam) Bz.pre
  have hown : s.vm.findClass RX1 = some m.cls := findClass_of_methodNamed Bz.named
  have hlocks := Bz.notSynchronized
  have hP : va_P D vwCl [(h0, .inr (0, [.int (nI N), .ref h1, .ref h2, .ref h3, .ref h4, .ref h5, .ref h6])), (h1, .inl (E 0, 15, .inl hm)), (h2, .inl (E 0, 15, .inl aw)), (h3, .inl (E 0, 30, .inl rv)), (h4, .inl (E 0, 30, .inl sd)), (h5, .inl (E 0, 30, .inl gm)), (h6, .inl (E 0, 36, .inl ca))] s.heap := hP
  have hS : va_S (fun _ : Nat => False) s.heap s.heap [] := va_S.rf
  have hl := lv_entry ([.ref h0, .int v]) (n := 2) (Nat.le_of_ble_eq_true rfl)
  rw [lg_entry_eq]
  generalize (lg_sl ([.ref h0, .int v]) ++ List.replicate (2 - (lg_sl ([.ref h0, .int v])).length) Slot.unset).toArray = ls at hl ⊢
  have hl : lv_has ls 2 [(0, .ref h0), (1, .int v)] := hl
  refine zr_nQ (fun Q hQ => ?_)
  refine lv_iload_n hx hb dX1_hasTeam_0 rfl (lv_at hl 1 rfl) ?_
  refine lv_if_lt (tgt := 16) hx hb dX1_hasTeam_1 (by decide) (fun cn_1 => ?_) (fun cn_1 => ?_)
  · skip
    have hno := zn_lo (n := N) cn_1 (by omega)
    refine lv_iconst (v := nI 0) hx hb dX1_hasTeam_16 (by rfl) ?_
    subst hQ
    exact W.zret (v := nI 0) hx hb hr (by decide) (fun tz htz hWz => ⟨⟨nI 0, (), rfl, Or.inr ⟨rfl, hno⟩, trivial⟩, hS.F htz⟩) hS.2.2 dX1_hasTeam_17
  · skip
    have hge := cn_1
    refine lv_iload_n hx hb dX1_hasTeam_4 rfl (lv_at hl 1 rfl) ?_
    refine lv_aload_n hx hb dX1_hasTeam_5 rfl (lv_at hl 0 rfl) ?_
    refine va_get (D := D) (ci := 0) (v := .int (nI N)) (C := RX1) (T := TX1) (N := 7) hx hb hts (by decide +kernel) hown hK.1 hP 0 rfl rfl 0 (by decide) (hts (.fieldLink RX1 30 "HomeRounds$Plan" "n" "I") (by decide +kernel)) (fun _ h9 => h9) rfl dX1_hasTeam_6 ?_
    refine lv_icmp_ge (tgt := 16) hx hb dX1_hasTeam_9 (by decide) (fun cn_2 => ?_) (fun cn_2 => ?_)
    · skip
      have hno := zn_hi cn_2 (by omega)
      refine lv_iconst (v := nI 0) hx hb dX1_hasTeam_16 (by rfl) ?_
      subst hQ
      exact W.zret (v := nI 0) hx hb hr (by decide) (fun tz htz hWz => ⟨⟨nI 0, (), rfl, Or.inr ⟨rfl, hno⟩, trivial⟩, hS.F htz⟩) hS.2.2 dX1_hasTeam_17
    · skip
      have hye := zn_in hge cn_2 (by omega)
      refine lv_iconst (v := nI 1) hx hb dX1_hasTeam_12 (by rfl) ?_
      refine lv_goto (tgt := 17) hx hb dX1_hasTeam_13 (by decide) ?_
      subst hQ
      exact W.zret (v := nI 1) hx hb hr (by decide) (fun tz htz hWz => ⟨⟨nI 1, (), rfl, Or.inl ⟨rfl, hye⟩, trivial⟩, hS.F htz⟩) hS.2.2 dX1_hasTeam_17

set_option maxHeartbeats 4000000 in
set_option maxRecDepth 100000 in
theorem c_X1_hasRound (l : Launch) (D : va_G) (E : Nat → ClassId) (h0 : Nat) (h1 : Nat) (h2 : Nat) (h3 : Nat) (h4 : Nat) (h5 : Nat) (h6 : Nat) (N : Nat) (hm : Nat → Int32) (aw : Nat → Int32) (rv : Nat → Int32) (sd : Nat → Int32) (gm : Nat → Int32) (ca : Nat → Int32) (v : Int32) (hN : N = 4 ∨ N = 6) : Met l yX1_hasRound wsX1_hasRound ({ frames := 0, cells := 0, slots := 0, locals := 0 }) (zr_P D E [.ref h0, .int v] [(h0, .inr (0, [.int (nI N), .ref h1, .ref h2, .ref h3, .ref h4, .ref h5, .ref h6])), (h1, .inl (E 0, 15, .inl hm)), (h2, .inl (E 0, 15, .inl aw)), (h3, .inl (E 0, 30, .inl rv)), (h4, .inl (E 0, 30, .inl sd)), (h5, .inl (E 0, 30, .inl gm)), (h6, .inl (E 0, 36, .inl ca))]) (zr_Qi (fun zv => (zv = 1 ∧ (∃ t : Nat, t < N - 1 ∧ v = nI t)) ∨ (zv = 0 ∧ (∀ t : Nat, t < N - 1 → v ≠ nI t)))) 0 0 (fun _ => False) := by
  refine Met.ofW (cc := cX1_hasRound) (maxL := 2) (ret := (some .boolean)) (by decide) rfl ?_
  intro p e s m args below meth c s₁ Bz hml hv
  obtain ⟨rfl, hP, hK⟩ := hv
  have hx := Bz.exec
  have hb := Bz.bytes
  have hr := Bz.returns
  have hts := atoms_spec (ws := wsX1_hasRound) Bz.pre
  have hown : s.vm.findClass RX1 = some m.cls := findClass_of_methodNamed Bz.named
  have hlocks := Bz.notSynchronized
  have hP : va_P D vwCl [(h0, .inr (0, [.int (nI N), .ref h1, .ref h2, .ref h3, .ref h4, .ref h5, .ref h6])), (h1, .inl (E 0, 15, .inl hm)), (h2, .inl (E 0, 15, .inl aw)), (h3, .inl (E 0, 30, .inl rv)), (h4, .inl (E 0, 30, .inl sd)), (h5, .inl (E 0, 30, .inl gm)), (h6, .inl (E 0, 36, .inl ca))] s.heap := hP
  have hS : va_S (fun _ : Nat => False) s.heap s.heap [] := va_S.rf
  have hl := lv_entry ([.ref h0, .int v]) (n := 2) (Nat.le_of_ble_eq_true rfl)
  rw [lg_entry_eq]
  generalize (lg_sl ([.ref h0, .int v]) ++ List.replicate (2 - (lg_sl ([.ref h0, .int v])).length) Slot.unset).toArray = ls at hl ⊢
  have hl : lv_has ls 2 [(0, .ref h0), (1, .int v)] := hl
  refine zr_nQ (fun Q hQ => ?_)
  refine lv_iload_n hx hb dX1_hasRound_0 rfl (lv_at hl 1 rfl) ?_
  refine lv_if_lt (tgt := 18) hx hb dX1_hasRound_1 (by decide) (fun cn_1 => ?_) (fun cn_1 => ?_)
  · skip
    have hno := zn_lo (n := N - 1) cn_1 (by omega)
    refine lv_iconst (v := nI 0) hx hb dX1_hasRound_18 (by rfl) ?_
    subst hQ
    exact W.zret (v := nI 0) hx hb hr (by decide) (fun tz htz hWz => ⟨⟨nI 0, (), rfl, Or.inr ⟨rfl, hno⟩, trivial⟩, hS.F htz⟩) hS.2.2 dX1_hasRound_19
  · skip
    have hge := cn_1
    refine lv_iload_n hx hb dX1_hasRound_4 rfl (lv_at hl 1 rfl) ?_
    refine lv_aload_n hx hb dX1_hasRound_5 rfl (lv_at hl 0 rfl) ?_
    refine va_get (D := D) (ci := 0) (v := .int (nI N)) (C := RX1) (T := TX1) (N := 7) hx hb hts (by decide +kernel) hown hK.1 hP 0 rfl rfl 0 (by decide) (hts (.fieldLink RX1 30 "HomeRounds$Plan" "n" "I") (by decide +kernel)) (fun _ h9 => h9) rfl dX1_hasRound_6 ?_
    refine lv_iconst (v := nI 1) hx hb dX1_hasRound_9 (by rfl) ?_
    refine lv_isub hx hb dX1_hasRound_10 ?_
    refine zr_ti (y := nI (N - 1)) (pk_sub (by omega)) ?_
    refine lv_icmp_ge (tgt := 18) hx hb dX1_hasRound_11 (by decide) (fun cn_2 => ?_) (fun cn_2 => ?_)
    · skip
      have hno := zn_hi cn_2 (by omega)
      refine lv_iconst (v := nI 0) hx hb dX1_hasRound_18 (by rfl) ?_
      subst hQ
      exact W.zret (v := nI 0) hx hb hr (by decide) (fun tz htz hWz => ⟨⟨nI 0, (), rfl, Or.inr ⟨rfl, hno⟩, trivial⟩, hS.F htz⟩) hS.2.2 dX1_hasRound_19
    · skip
      have hye := zn_in hge cn_2 (by omega)
      refine lv_iconst (v := nI 1) hx hb dX1_hasRound_14 (by rfl) ?_
      refine lv_goto (tgt := 19) hx hb dX1_hasRound_15 (by decide) ?_
      subst hQ
      exact W.zret (v := nI 1) hx hb hr (by decide) (fun tz htz hWz => ⟨⟨nI 1, (), rfl, Or.inl ⟨rfl, hye⟩, trivial⟩, hS.F htz⟩) hS.2.2 dX1_hasRound_19

set_option maxHeartbeats 4000000 in
set_option maxRecDepth 100000 in
theorem c_X1_hasPlace (l : Launch) (D : va_G) (E : Nat → ClassId) (h0 : Nat) (h1 : Nat) (h2 : Nat) (h3 : Nat) (h4 : Nat) (h5 : Nat) (h6 : Nat) (N : Nat) (hm : Nat → Int32) (aw : Nat → Int32) (rv : Nat → Int32) (sd : Nat → Int32) (gm : Nat → Int32) (ca : Nat → Int32) (v : Int32) (w : Int32) (hN : N = 4 ∨ N = 6) : Met l yX1_hasPlace wsX1_hasPlace ({ frames := 0, cells := 0, slots := 0, locals := 0 }) (zr_P D E [.ref h0, .int v, .int w] [(h0, .inr (0, [.int (nI N), .ref h1, .ref h2, .ref h3, .ref h4, .ref h5, .ref h6])), (h1, .inl (E 0, 15, .inl hm)), (h2, .inl (E 0, 15, .inl aw)), (h3, .inl (E 0, 30, .inl rv)), (h4, .inl (E 0, 30, .inl sd)), (h5, .inl (E 0, 30, .inl gm)), (h6, .inl (E 0, 36, .inl ca))]) (zr_Qi (fun zv => (zv = 1 ∧ ((∃ t : Nat, t < N ∧ v = nI t) ∧ (∃ t : Nat, t < N - 1 ∧ w = nI t))) ∨ (zv = 0 ∧ ((∀ t : Nat, t < N → v ≠ nI t) ∨ (∀ t : Nat, t < N - 1 → w ≠ nI t))))) 0 0 (fun _ => False) := by
  refine Met.ofW (cc := cX1_hasPlace) (maxL := 3) (ret := (some .boolean)) (by decide) rfl ?_
  intro p e s m args below meth c s₁ Bz hml hv
  obtain ⟨rfl, hP, hK⟩ := hv
  have hx := Bz.exec
  have hb := Bz.bytes
  have hr := Bz.returns
  have hts := atoms_spec (ws := wsX1_hasPlace) Bz.pre
  have hown : s.vm.findClass RX1 = some m.cls := findClass_of_methodNamed Bz.named
  have hlocks := Bz.notSynchronized
  have hP : va_P D vwCl [(h0, .inr (0, [.int (nI N), .ref h1, .ref h2, .ref h3, .ref h4, .ref h5, .ref h6])), (h1, .inl (E 0, 15, .inl hm)), (h2, .inl (E 0, 15, .inl aw)), (h3, .inl (E 0, 30, .inl rv)), (h4, .inl (E 0, 30, .inl sd)), (h5, .inl (E 0, 30, .inl gm)), (h6, .inl (E 0, 36, .inl ca))] s.heap := hP
  have hS : va_S (fun _ : Nat => False) s.heap s.heap [] := va_S.rf
  have hl := lv_entry ([.ref h0, .int v, .int w]) (n := 3) (Nat.le_of_ble_eq_true rfl)
  rw [lg_entry_eq]
  generalize (lg_sl ([.ref h0, .int v, .int w]) ++ List.replicate (3 - (lg_sl ([.ref h0, .int v, .int w])).length) Slot.unset).toArray = ls at hl ⊢
  have hl : lv_has ls 3 [(0, .ref h0), (1, .int v), (2, .int w)] := hl
  refine zr_nQ (fun Q hQ => ?_)
  refine lv_iload_n hx hb dX1_hasPlace_0 rfl (lv_at hl 1 rfl) ?_
  refine lv_if_lt (tgt := 30) hx hb dX1_hasPlace_1 (by decide) (fun cn_1 => ?_) (fun cn_1 => ?_)
  · skip
    have hnA := zn_lo (n := N) cn_1 (by omega)
    refine lv_iconst (v := nI 0) hx hb dX1_hasPlace_30 (by rfl) ?_
    subst hQ
    exact W.zret (v := nI 0) hx hb hr (by decide) (fun tz htz hWz => ⟨⟨nI 0, (), rfl, by first | exact Or.inl ⟨rfl, hA, hB⟩ | exact Or.inr ⟨rfl, Or.inl hnA⟩ | exact Or.inr ⟨rfl, Or.inr hnB⟩, trivial⟩, hS.F htz⟩) hS.2.2 dX1_hasPlace_31
  · skip
    have hghA := cn_1
    refine lv_iload_n hx hb dX1_hasPlace_4 rfl (lv_at hl 1 rfl) ?_
    refine lv_aload_n hx hb dX1_hasPlace_5 rfl (lv_at hl 0 rfl) ?_
    refine va_get (D := D) (ci := 0) (v := .int (nI N)) (C := RX1) (T := TX1) (N := 7) hx hb hts (by decide +kernel) hown hK.1 hP 0 rfl rfl 0 (by decide) (hts (.fieldLink RX1 30 "HomeRounds$Plan" "n" "I") (by decide +kernel)) (fun _ h9 => h9) rfl dX1_hasPlace_6 ?_
    refine lv_icmp_ge (tgt := 30) hx hb dX1_hasPlace_9 (by decide) (fun cn_2 => ?_) (fun cn_2 => ?_)
    · skip
      have hnA := zn_hi (n := N) cn_2 (by omega)
      refine lv_iconst (v := nI 0) hx hb dX1_hasPlace_30 (by rfl) ?_
      subst hQ
      exact W.zret (v := nI 0) hx hb hr (by decide) (fun tz htz hWz => ⟨⟨nI 0, (), rfl, by first | exact Or.inl ⟨rfl, hA, hB⟩ | exact Or.inr ⟨rfl, Or.inl hnA⟩ | exact Or.inr ⟨rfl, Or.inr hnB⟩, trivial⟩, hS.F htz⟩) hS.2.2 dX1_hasPlace_31
    · skip
      have hA := zn_in (n := N) hghA cn_2 (by omega)
      refine lv_iload_n hx hb dX1_hasPlace_12 rfl (lv_at hl 2 rfl) ?_
      refine lv_if_lt (tgt := 30) hx hb dX1_hasPlace_13 (by decide) (fun cn_3 => ?_) (fun cn_3 => ?_)
      · skip
        have hnB := zn_lo (n := N - 1) cn_3 (by omega)
        refine lv_iconst (v := nI 0) hx hb dX1_hasPlace_30 (by rfl) ?_
        subst hQ
        exact W.zret (v := nI 0) hx hb hr (by decide) (fun tz htz hWz => ⟨⟨nI 0, (), rfl, by first | exact Or.inl ⟨rfl, hA, hB⟩ | exact Or.inr ⟨rfl, Or.inl hnA⟩ | exact Or.inr ⟨rfl, Or.inr hnB⟩, trivial⟩, hS.F htz⟩) hS.2.2 dX1_hasPlace_31
      · skip
        have hghB := cn_3
        refine lv_iload_n hx hb dX1_hasPlace_16 rfl (lv_at hl 2 rfl) ?_
        refine lv_aload_n hx hb dX1_hasPlace_17 rfl (lv_at hl 0 rfl) ?_
        refine va_get (D := D) (ci := 0) (v := .int (nI N)) (C := RX1) (T := TX1) (N := 7) hx hb hts (by decide +kernel) hown hK.1 hP 0 rfl rfl 0 (by decide) (hts (.fieldLink RX1 30 "HomeRounds$Plan" "n" "I") (by decide +kernel)) (fun _ h9 => h9) rfl dX1_hasPlace_18 ?_
        refine lv_iconst (v := nI 1) hx hb dX1_hasPlace_21 (by rfl) ?_
        refine lv_isub hx hb dX1_hasPlace_22 ?_
        refine zr_ti (y := nI (N - 1)) (pk_sub (by omega)) ?_
        refine lv_icmp_ge (tgt := 30) hx hb dX1_hasPlace_23 (by decide) (fun cn_4 => ?_) (fun cn_4 => ?_)
        · skip
          have hnB := zn_hi (n := N - 1) cn_4 (by omega)
          refine lv_iconst (v := nI 0) hx hb dX1_hasPlace_30 (by rfl) ?_
          subst hQ
          exact W.zret (v := nI 0) hx hb hr (by decide) (fun tz htz hWz => ⟨⟨nI 0, (), rfl, by first | exact Or.inl ⟨rfl, hA, hB⟩ | exact Or.inr ⟨rfl, Or.inl hnA⟩ | exact Or.inr ⟨rfl, Or.inr hnB⟩, trivial⟩, hS.F htz⟩) hS.2.2 dX1_hasPlace_31
        · skip
          have hB := zn_in (n := N - 1) hghB cn_4 (by omega)
          refine lv_iconst (v := nI 1) hx hb dX1_hasPlace_26 (by rfl) ?_
          refine lv_goto (tgt := 31) hx hb dX1_hasPlace_27 (by decide) ?_
          subst hQ
          exact W.zret (v := nI 1) hx hb hr (by decide) (fun tz htz hWz => ⟨⟨nI 1, (), rfl, by first | exact Or.inl ⟨rfl, hA, hB⟩ | exact Or.inr ⟨rfl, Or.inl hnA⟩ | exact Or.inr ⟨rfl, Or.inr hnB⟩, trivial⟩, hS.F htz⟩) hS.2.2 dX1_hasPlace_31

set_option maxHeartbeats 4000000 in
set_option maxRecDepth 100000 in
theorem c_X1_hasPair (l : Launch) (D : va_G) (E : Nat → ClassId) (h0 : Nat) (h1 : Nat) (h2 : Nat) (h3 : Nat) (h4 : Nat) (h5 : Nat) (h6 : Nat) (N : Nat) (hm : Nat → Int32) (aw : Nat → Int32) (rv : Nat → Int32) (sd : Nat → Int32) (gm : Nat → Int32) (ca : Nat → Int32) (v : Int32) (w : Int32) (hN : N = 4 ∨ N = 6) : Met l yX1_hasPair wsX1_hasPair ({ frames := 0, cells := 0, slots := 0, locals := 0 }) (zr_P D E [.ref h0, .int v, .int w] [(h0, .inr (0, [.int (nI N), .ref h1, .ref h2, .ref h3, .ref h4, .ref h5, .ref h6])), (h1, .inl (E 0, 15, .inl hm)), (h2, .inl (E 0, 15, .inl aw)), (h3, .inl (E 0, 30, .inl rv)), (h4, .inl (E 0, 30, .inl sd)), (h5, .inl (E 0, 30, .inl gm)), (h6, .inl (E 0, 36, .inl ca))]) (zr_Qi (fun zv => (zv = 1 ∧ ((∃ t : Nat, t < N ∧ v = nI t) ∧ (∃ t : Nat, t < N ∧ w = nI t) ∧ v ≠ w)) ∨ (zv = 0 ∧ ((∀ t : Nat, t < N → v ≠ nI t) ∨ (∀ t : Nat, t < N → w ≠ nI t) ∨ v = w)))) 0 0 (fun _ => False) := by
  refine Met.ofW (cc := cX1_hasPair) (maxL := 3) (ret := (some .boolean)) (by decide) rfl ?_
  intro p e s m args below meth c s₁ Bz hml hv
  obtain ⟨rfl, hP, hK⟩ := hv
  have hx := Bz.exec
  have hb := Bz.bytes
  have hr := Bz.returns
  have hts := atoms_spec (ws := wsX1_hasPair) Bz.pre
  have hown : s.vm.findClass RX1 = some m.cls := findClass_of_methodNamed Bz.named
  have hlocks := Bz.notSynchronized
  have hP : va_P D vwCl [(h0, .inr (0, [.int (nI N), .ref h1, .ref h2, .ref h3, .ref h4, .ref h5, .ref h6])), (h1, .inl (E 0, 15, .inl hm)), (h2, .inl (E 0, 15, .inl aw)), (h3, .inl (E 0, 30, .inl rv)), (h4, .inl (E 0, 30, .inl sd)), (h5, .inl (E 0, 30, .inl gm)), (h6, .inl (E 0, 36, .inl ca))] s.heap := hP
  have hS : va_S (fun _ : Nat => False) s.heap s.heap [] := va_S.rf
  have hl := lv_entry ([.ref h0, .int v, .int w]) (n := 3) (Nat.le_of_ble_eq_true rfl)
  rw [lg_entry_eq]
  generalize (lg_sl ([.ref h0, .int v, .int w]) ++ List.replicate (3 - (lg_sl ([.ref h0, .int v, .int w])).length) Slot.unset).toArray = ls at hl ⊢
  have hl : lv_has ls 3 [(0, .ref h0), (1, .int v), (2, .int w)] := hl
  refine zr_nQ (fun Q hQ => ?_)
  refine lv_iload_n hx hb dX1_hasPair_0 rfl (lv_at hl 1 rfl) ?_
  refine lv_if_lt (tgt := 33) hx hb dX1_hasPair_1 (by decide) (fun cn_1 => ?_) (fun cn_1 => ?_)
  · skip
    have hnA := zn_lo (n := N) cn_1 (by omega)
    refine lv_iconst (v := nI 0) hx hb dX1_hasPair_33 (by rfl) ?_
    subst hQ
    exact W.zret (v := nI 0) hx hb hr (by decide) (fun tz htz hWz => ⟨⟨nI 0, (), rfl, by first | exact Or.inl ⟨rfl, hA, hB, hnq⟩ | exact Or.inr ⟨rfl, Or.inl hnA⟩ | exact Or.inr ⟨rfl, Or.inr (Or.inl hnB)⟩ | exact Or.inr ⟨rfl, Or.inr (Or.inr hq)⟩, trivial⟩, hS.F htz⟩) hS.2.2 dX1_hasPair_34
  · skip
    have hghA := cn_1
    refine lv_iload_n hx hb dX1_hasPair_4 rfl (lv_at hl 1 rfl) ?_
    refine lv_aload_n hx hb dX1_hasPair_5 rfl (lv_at hl 0 rfl) ?_
    refine va_get (D := D) (ci := 0) (v := .int (nI N)) (C := RX1) (T := TX1) (N := 7) hx hb hts (by decide +kernel) hown hK.1 hP 0 rfl rfl 0 (by decide) (hts (.fieldLink RX1 30 "HomeRounds$Plan" "n" "I") (by decide +kernel)) (fun _ h9 => h9) rfl dX1_hasPair_6 ?_
    refine lv_icmp_ge (tgt := 33) hx hb dX1_hasPair_9 (by decide) (fun cn_2 => ?_) (fun cn_2 => ?_)
    · skip
      have hnA := zn_hi (n := N) cn_2 (by omega)
      refine lv_iconst (v := nI 0) hx hb dX1_hasPair_33 (by rfl) ?_
      subst hQ
      exact W.zret (v := nI 0) hx hb hr (by decide) (fun tz htz hWz => ⟨⟨nI 0, (), rfl, by first | exact Or.inl ⟨rfl, hA, hB, hnq⟩ | exact Or.inr ⟨rfl, Or.inl hnA⟩ | exact Or.inr ⟨rfl, Or.inr (Or.inl hnB)⟩ | exact Or.inr ⟨rfl, Or.inr (Or.inr hq)⟩, trivial⟩, hS.F htz⟩) hS.2.2 dX1_hasPair_34
    · skip
      have hA := zn_in (n := N) hghA cn_2 (by omega)
      refine lv_iload_n hx hb dX1_hasPair_12 rfl (lv_at hl 2 rfl) ?_
      refine lv_if_lt (tgt := 33) hx hb dX1_hasPair_13 (by decide) (fun cn_3 => ?_) (fun cn_3 => ?_)
      · skip
        have hnB := zn_lo (n := N) cn_3 (by omega)
        refine lv_iconst (v := nI 0) hx hb dX1_hasPair_33 (by rfl) ?_
        subst hQ
        exact W.zret (v := nI 0) hx hb hr (by decide) (fun tz htz hWz => ⟨⟨nI 0, (), rfl, by first | exact Or.inl ⟨rfl, hA, hB, hnq⟩ | exact Or.inr ⟨rfl, Or.inl hnA⟩ | exact Or.inr ⟨rfl, Or.inr (Or.inl hnB)⟩ | exact Or.inr ⟨rfl, Or.inr (Or.inr hq)⟩, trivial⟩, hS.F htz⟩) hS.2.2 dX1_hasPair_34
      · skip
        have hghB := cn_3
        refine lv_iload_n hx hb dX1_hasPair_16 rfl (lv_at hl 2 rfl) ?_
        refine lv_aload_n hx hb dX1_hasPair_17 rfl (lv_at hl 0 rfl) ?_
        refine va_get (D := D) (ci := 0) (v := .int (nI N)) (C := RX1) (T := TX1) (N := 7) hx hb hts (by decide +kernel) hown hK.1 hP 0 rfl rfl 0 (by decide) (hts (.fieldLink RX1 30 "HomeRounds$Plan" "n" "I") (by decide +kernel)) (fun _ h9 => h9) rfl dX1_hasPair_18 ?_
        refine lv_icmp_ge (tgt := 33) hx hb dX1_hasPair_21 (by decide) (fun cn_4 => ?_) (fun cn_4 => ?_)
        · skip
          have hnB := zn_hi (n := N) cn_4 (by omega)
          refine lv_iconst (v := nI 0) hx hb dX1_hasPair_33 (by rfl) ?_
          subst hQ
          exact W.zret (v := nI 0) hx hb hr (by decide) (fun tz htz hWz => ⟨⟨nI 0, (), rfl, by first | exact Or.inl ⟨rfl, hA, hB, hnq⟩ | exact Or.inr ⟨rfl, Or.inl hnA⟩ | exact Or.inr ⟨rfl, Or.inr (Or.inl hnB)⟩ | exact Or.inr ⟨rfl, Or.inr (Or.inr hq)⟩, trivial⟩, hS.F htz⟩) hS.2.2 dX1_hasPair_34
        · skip
          have hB := zn_in (n := N) hghB cn_4 (by omega)
          refine lv_iload_n hx hb dX1_hasPair_24 rfl (lv_at hl 1 rfl) ?_
          refine lv_iload_n hx hb dX1_hasPair_25 rfl (lv_at hl 2 rfl) ?_
          refine lv_icmp_eq (tgt := 33) hx hb dX1_hasPair_26 (by decide) (fun cn_5 => ?_) (fun cn_5 => ?_)
          · skip
            have hq := cn_5
            refine lv_iconst (v := nI 0) hx hb dX1_hasPair_33 (by rfl) ?_
            subst hQ
            exact W.zret (v := nI 0) hx hb hr (by decide) (fun tz htz hWz => ⟨⟨nI 0, (), rfl, by first | exact Or.inl ⟨rfl, hA, hB, hnq⟩ | exact Or.inr ⟨rfl, Or.inl hnA⟩ | exact Or.inr ⟨rfl, Or.inr (Or.inl hnB)⟩ | exact Or.inr ⟨rfl, Or.inr (Or.inr hq)⟩, trivial⟩, hS.F htz⟩) hS.2.2 dX1_hasPair_34
          · skip
            have hnq := cn_5
            refine lv_iconst (v := nI 1) hx hb dX1_hasPair_29 (by rfl) ?_
            refine lv_goto (tgt := 34) hx hb dX1_hasPair_30 (by decide) ?_
            subst hQ
            exact W.zret (v := nI 1) hx hb hr (by decide) (fun tz htz hWz => ⟨⟨nI 1, (), rfl, by first | exact Or.inl ⟨rfl, hA, hB, hnq⟩ | exact Or.inr ⟨rfl, Or.inl hnA⟩ | exact Or.inr ⟨rfl, Or.inr (Or.inl hnB)⟩ | exact Or.inr ⟨rfl, Or.inr (Or.inr hq)⟩, trivial⟩, hS.F htz⟩) hS.2.2 dX1_hasPair_34

set_option maxHeartbeats 4000000 in
set_option maxRecDepth 100000 in
theorem c_X1_hasGame (l : Launch) (D : va_G) (E : Nat → ClassId) (h0 : Nat) (h1 : Nat) (h2 : Nat) (h3 : Nat) (h4 : Nat) (h5 : Nat) (h6 : Nat) (N : Nat) (hm : Nat → Int32) (aw : Nat → Int32) (rv : Nat → Int32) (sd : Nat → Int32) (gm : Nat → Int32) (ca : Nat → Int32) (v : Int32) (w : Int32) (hN : N = 4 ∨ N = 6) : Met l yX1_hasGame wsX1_hasGame ({ frames := 0, cells := 0, slots := 0, locals := 0 }) (zr_P D E [.ref h0, .int v, .int w] [(h0, .inr (0, [.int (nI N), .ref h1, .ref h2, .ref h3, .ref h4, .ref h5, .ref h6])), (h1, .inl (E 0, 15, .inl hm)), (h2, .inl (E 0, 15, .inl aw)), (h3, .inl (E 0, 30, .inl rv)), (h4, .inl (E 0, 30, .inl sd)), (h5, .inl (E 0, 30, .inl gm)), (h6, .inl (E 0, 36, .inl ca))]) (zr_Qi (fun zv => (zv = 1 ∧ ((∃ t : Nat, t < N - 1 ∧ v = nI t) ∧ (∃ t : Nat, t < N / 2 ∧ w = nI t))) ∨ (zv = 0 ∧ ((∀ t : Nat, t < N - 1 → v ≠ nI t) ∨ (∀ t : Nat, t < N / 2 → w ≠ nI t))))) 0 0 (fun _ => False) := by
  refine Met.ofW (cc := cX1_hasGame) (maxL := 3) (ret := (some .boolean)) (by decide) rfl ?_
  intro p e s m args below meth c s₁ Bz hml hv
  obtain ⟨rfl, hP, hK⟩ := hv
  have hx := Bz.exec
  have hb := Bz.bytes
  have hr := Bz.returns
  have hts := atoms_spec (ws := wsX1_hasGame) Bz.pre
  have hown : s.vm.findClass RX1 = some m.cls := findClass_of_methodNamed Bz.named
  have hlocks := Bz.notSynchronized
  have hP : va_P D vwCl [(h0, .inr (0, [.int (nI N), .ref h1, .ref h2, .ref h3, .ref h4, .ref h5, .ref h6])), (h1, .inl (E 0, 15, .inl hm)), (h2, .inl (E 0, 15, .inl aw)), (h3, .inl (E 0, 30, .inl rv)), (h4, .inl (E 0, 30, .inl sd)), (h5, .inl (E 0, 30, .inl gm)), (h6, .inl (E 0, 36, .inl ca))] s.heap := hP
  have hS : va_S (fun _ : Nat => False) s.heap s.heap [] := va_S.rf
  have hl := lv_entry ([.ref h0, .int v, .int w]) (n := 3) (Nat.le_of_ble_eq_true rfl)
  rw [lg_entry_eq]
  generalize (lg_sl ([.ref h0, .int v, .int w]) ++ List.replicate (3 - (lg_sl ([.ref h0, .int v, .int w])).length) Slot.unset).toArray = ls at hl ⊢
  have hl : lv_has ls 3 [(0, .ref h0), (1, .int v), (2, .int w)] := hl
  refine zr_nQ (fun Q hQ => ?_)
  refine lv_iload_n hx hb dX1_hasGame_0 rfl (lv_at hl 1 rfl) ?_
  refine lv_if_lt (tgt := 32) hx hb dX1_hasGame_1 (by decide) (fun cn_1 => ?_) (fun cn_1 => ?_)
  · skip
    have hnA := zn_lo (n := N - 1) cn_1 (by omega)
    refine lv_iconst (v := nI 0) hx hb dX1_hasGame_32 (by rfl) ?_
    subst hQ
    exact W.zret (v := nI 0) hx hb hr (by decide) (fun tz htz hWz => ⟨⟨nI 0, (), rfl, by first | exact Or.inl ⟨rfl, hA, hB⟩ | exact Or.inr ⟨rfl, Or.inl hnA⟩ | exact Or.inr ⟨rfl, Or.inr hnB⟩, trivial⟩, hS.F htz⟩) hS.2.2 dX1_hasGame_33
  · skip
    have hghA := cn_1
    refine lv_iload_n hx hb dX1_hasGame_4 rfl (lv_at hl 1 rfl) ?_
    refine lv_aload_n hx hb dX1_hasGame_5 rfl (lv_at hl 0 rfl) ?_
    refine va_get (D := D) (ci := 0) (v := .int (nI N)) (C := RX1) (T := TX1) (N := 7) hx hb hts (by decide +kernel) hown hK.1 hP 0 rfl rfl 0 (by decide) (hts (.fieldLink RX1 30 "HomeRounds$Plan" "n" "I") (by decide +kernel)) (fun _ h9 => h9) rfl dX1_hasGame_6 ?_
    refine lv_iconst (v := nI 1) hx hb dX1_hasGame_9 (by rfl) ?_
    refine lv_isub hx hb dX1_hasGame_10 ?_
    refine zr_ti (y := nI (N - 1)) (pk_sub (by omega)) ?_
    refine lv_icmp_ge (tgt := 32) hx hb dX1_hasGame_11 (by decide) (fun cn_2 => ?_) (fun cn_2 => ?_)
    · skip
      have hnA := zn_hi (n := N - 1) cn_2 (by omega)
      refine lv_iconst (v := nI 0) hx hb dX1_hasGame_32 (by rfl) ?_
      subst hQ
      exact W.zret (v := nI 0) hx hb hr (by decide) (fun tz htz hWz => ⟨⟨nI 0, (), rfl, by first | exact Or.inl ⟨rfl, hA, hB⟩ | exact Or.inr ⟨rfl, Or.inl hnA⟩ | exact Or.inr ⟨rfl, Or.inr hnB⟩, trivial⟩, hS.F htz⟩) hS.2.2 dX1_hasGame_33
    · skip
      have hA := zn_in (n := N - 1) hghA cn_2 (by omega)
      refine lv_iload_n hx hb dX1_hasGame_14 rfl (lv_at hl 2 rfl) ?_
      refine lv_if_lt (tgt := 32) hx hb dX1_hasGame_15 (by decide) (fun cn_3 => ?_) (fun cn_3 => ?_)
      · skip
        have hnB := zn_lo (n := N / 2) cn_3 (by omega)
        refine lv_iconst (v := nI 0) hx hb dX1_hasGame_32 (by rfl) ?_
        subst hQ
        exact W.zret (v := nI 0) hx hb hr (by decide) (fun tz htz hWz => ⟨⟨nI 0, (), rfl, by first | exact Or.inl ⟨rfl, hA, hB⟩ | exact Or.inr ⟨rfl, Or.inl hnA⟩ | exact Or.inr ⟨rfl, Or.inr hnB⟩, trivial⟩, hS.F htz⟩) hS.2.2 dX1_hasGame_33
      · skip
        have hghB := cn_3
        refine lv_iload_n hx hb dX1_hasGame_18 rfl (lv_at hl 2 rfl) ?_
        refine lv_aload_n hx hb dX1_hasGame_19 rfl (lv_at hl 0 rfl) ?_
        refine va_get (D := D) (ci := 0) (v := .int (nI N)) (C := RX1) (T := TX1) (N := 7) hx hb hts (by decide +kernel) hown hK.1 hP 0 rfl rfl 0 (by decide) (hts (.fieldLink RX1 30 "HomeRounds$Plan" "n" "I") (by decide +kernel)) (fun _ h9 => h9) rfl dX1_hasGame_20 ?_
        refine lv_iconst (v := nI 2) hx hb dX1_hasGame_23 (by rfl) ?_
        refine lv_idiv hx hb dX1_hasGame_24 (by decide) ?_
        refine zr_ti (y := nI (N / 2)) (pk_div (by omega) (by omega) (by omega)) ?_
        refine lv_icmp_ge (tgt := 32) hx hb dX1_hasGame_25 (by decide) (fun cn_4 => ?_) (fun cn_4 => ?_)
        · skip
          have hnB := zn_hi (n := N / 2) cn_4 (by omega)
          refine lv_iconst (v := nI 0) hx hb dX1_hasGame_32 (by rfl) ?_
          subst hQ
          exact W.zret (v := nI 0) hx hb hr (by decide) (fun tz htz hWz => ⟨⟨nI 0, (), rfl, by first | exact Or.inl ⟨rfl, hA, hB⟩ | exact Or.inr ⟨rfl, Or.inl hnA⟩ | exact Or.inr ⟨rfl, Or.inr hnB⟩, trivial⟩, hS.F htz⟩) hS.2.2 dX1_hasGame_33
        · skip
          have hB := zn_in (n := N / 2) hghB cn_4 (by omega)
          refine lv_iconst (v := nI 1) hx hb dX1_hasGame_28 (by rfl) ?_
          refine lv_goto (tgt := 33) hx hb dX1_hasGame_29 (by decide) ?_
          subst hQ
          exact W.zret (v := nI 1) hx hb hr (by decide) (fun tz htz hWz => ⟨⟨nI 1, (), rfl, by first | exact Or.inl ⟨rfl, hA, hB⟩ | exact Or.inr ⟨rfl, Or.inl hnA⟩ | exact Or.inr ⟨rfl, Or.inr hnB⟩, trivial⟩, hS.F htz⟩) hS.2.2 dX1_hasGame_33

set_option maxHeartbeats 4000000 in
set_option maxRecDepth 100000 in
theorem c_X1_homeOf (l : Launch) (D : va_G) (E : Nat → ClassId) (h0 : Nat) (h1 : Nat) (h2 : Nat) (h3 : Nat) (h4 : Nat) (h5 : Nat) (h6 : Nat) (N : Nat) (hm : Nat → Int32) (aw : Nat → Int32) (rv : Nat → Int32) (sd : Nat → Int32) (gm : Nat → Int32) (ca : Nat → Int32) (r : Nat) (k : Nat) (hN : N = 4 ∨ N = 6) (hr0 : r < N - 1) (hk0 : k < N / 2) : Met l yX1_homeOf wsX1_homeOf ({ frames := 1, cells := 0, slots := 0, locals := 22 }) (zr_P D E [.ref h0, .int (nI r), .int (nI k)] [(h0, .inr (0, [.int (nI N), .ref h1, .ref h2, .ref h3, .ref h4, .ref h5, .ref h6])), (h1, .inl (E 0, 15, .inl hm)), (h2, .inl (E 0, 15, .inl aw)), (h3, .inl (E 0, 30, .inl rv)), (h4, .inl (E 0, 30, .inl sd)), (h5, .inl (E 0, 30, .inl gm)), (h6, .inl (E 0, 36, .inl ca))]) (zr_Qi (fun zv => zv = hm (r * 3 + k))) 0 0 (fun _ => False) := by
  refine Met.ofW (cc := cX1_homeOf) (maxL := 3) (ret := (some .int)) (by decide) rfl ?_
  intro p e s m args below meth c s₁ Bz hml hv
  obtain ⟨rfl, hP, hK⟩ := hv
  have hx := Bz.exec
  have hb := Bz.bytes
  have hr := Bz.returns
  have hts := atoms_spec (ws := wsX1_homeOf) Bz.pre
  have hown : s.vm.findClass RX1 = some m.cls := findClass_of_methodNamed Bz.named
  have hlocks := Bz.notSynchronized
  have hP : va_P D vwCl [(h0, .inr (0, [.int (nI N), .ref h1, .ref h2, .ref h3, .ref h4, .ref h5, .ref h6])), (h1, .inl (E 0, 15, .inl hm)), (h2, .inl (E 0, 15, .inl aw)), (h3, .inl (E 0, 30, .inl rv)), (h4, .inl (E 0, 30, .inl sd)), (h5, .inl (E 0, 30, .inl gm)), (h6, .inl (E 0, 36, .inl ca))] s.heap := hP
  have hS : va_S (fun _ : Nat => False) s.heap s.heap [] := va_S.rf
  have hl := lv_entry ([.ref h0, .int (nI r), .int (nI k)]) (n := 3) (Nat.le_of_ble_eq_true rfl)
  rw [lg_entry_eq]
  generalize (lg_sl ([.ref h0, .int (nI r), .int (nI k)]) ++ List.replicate (3 - (lg_sl ([.ref h0, .int (nI r), .int (nI k)])).length) Slot.unset).toArray = ls at hl ⊢
  have hl : lv_has ls 3 [(0, .ref h0), (1, .int (nI r)), (2, .int (nI k))] := hl
  refine zr_nQ (fun Q hQ => ?_)
  refine lv_aload_n hx hb dX1_homeOf_0 rfl (lv_at hl 0 rfl) ?_
  refine lv_iload_n hx hb dX1_homeOf_1 rfl (lv_at hl 1 rfl) ?_
  refine lv_iload_n hx hb dX1_homeOf_2 rfl (lv_at hl 2 rfl) ?_
  refine zr_ci hP hS (va_runV (As := [.int (nI r), .int (nI k)]) (rest := []) ⟨hx, hb, hml, hown, hts⟩ (c_X1_hasGame l D E h0 h1 h2 h3 h4 h5 h6 N hm aw rv sd gm ca (nI r) (nI k) (hN)) (cwV 2 hts gX1_homeOf_X1_hasGame rfl rfl rfl (by decide +kernel) ⟨Nat.le_of_ble_eq_true rfl, Nat.le_of_ble_eq_true rfl⟩) (zr_V hK (hP.sub (ws' := [(h0, .inr (0, [.int (nI N), .ref h1, .ref h2, .ref h3, .ref h4, .ref h5, .ref h6])), (h1, .inl (E 0, 15, .inl hm)), (h2, .inl (E 0, 15, .inl aw)), (h3, .inl (E 0, 30, .inl rv)), (h4, .inl (E 0, 30, .inl sd)), (h5, .inl (E 0, 30, .inl gm)), (h6, .inl (E 0, 36, .inl ca))]) [0, 1, 2, 3, 4, 5, 6] rfl) (ci := 0) (q0 := 0) rfl rfl) rfl rfl hl.1 rfl (lv_room (Nat.le_of_ble_eq_true rfl)) dX1_homeOf_3 ⟨Nat.zero_le _, Nat.zero_le _⟩) (fun r_1 H locs hw_2 hP hS => ?_)
  have hrz : r_1 = 1 := by rcases hw_2 with ⟨h9, -⟩ | ⟨-, h9⟩; exact h9; exact h9.elim (fun q => absurd rfl (q r hr0)) (fun q => absurd rfl (q k hk0))
  subst hrz; clear hw_2
  refine zr_ti (y := nI 1) rfl ?_
  refine lv_if_eq (tgt := 22) hx hb dX1_homeOf_6 (by decide) (fun cn_3 => ?_) (fun cn_3 => ?_)
  · skip
    exact absurd cn_3 (by decide)
  · skip
    refine lv_aload_n hx hb dX1_homeOf_9 rfl (lv_at hl 0 rfl) ?_
    refine va_get (D := D) (ci := 0) (v := .ref h1) (C := RX1) (T := TX1) (N := 7) hx hb hts (by decide +kernel) hown hK.1 hP 0 rfl rfl 1 (by decide) (hts (.fieldLink RX1 9 "HomeRounds$Plan" "homes" "[I") (by decide +kernel)) (fun _ h9 => h9) rfl dX1_homeOf_10 ?_
    refine lv_iload_n hx hb dX1_homeOf_13 rfl (lv_at hl 1 rfl) ?_
    refine lv_iconst (v := nI 3) hx hb dX1_homeOf_14 (by rfl) ?_
    refine lv_imul hx hb dX1_homeOf_15 ?_
    refine zr_ti (y := nI (r * 3)) (pk_mul _ _) ?_
    refine lv_iload_n hx hb dX1_homeOf_16 rfl (lv_at hl 2 rfl) ?_
    refine lv_iadd hx hb dX1_homeOf_17 ?_
    refine zr_ti (y := nI ((r * 3) + k)) (nI_add _ _) ?_
    refine va_iald hx hb hK.1 hP 1 0 rfl rfl (vp_in_nI (by omega) (by omega)) dX1_homeOf_18 ?_
    refine zr_ti (y := hm ((r * 3) + k)) ((congrArg hm (nI_clamp (by omega))).trans (rfl)) ?_
    refine lv_goto (tgt := 23) hx hb dX1_homeOf_19 (by decide) ?_
    subst hQ
    exact W.iret (v := hm ((r * 3) + k)) hx hb hr (fun tz htz hWz => ⟨⟨hm ((r * 3) + k), (), rfl, rfl, trivial⟩, hS.F htz⟩) hS.2.2 dX1_homeOf_23

set_option maxHeartbeats 4000000 in
set_option maxRecDepth 100000 in
theorem c_X1_awayOf (l : Launch) (D : va_G) (E : Nat → ClassId) (h0 : Nat) (h1 : Nat) (h2 : Nat) (h3 : Nat) (h4 : Nat) (h5 : Nat) (h6 : Nat) (N : Nat) (hm : Nat → Int32) (aw : Nat → Int32) (rv : Nat → Int32) (sd : Nat → Int32) (gm : Nat → Int32) (ca : Nat → Int32) (r : Nat) (k : Nat) (hN : N = 4 ∨ N = 6) (hr0 : r < N - 1) (hk0 : k < N / 2) : Met l yX1_awayOf wsX1_awayOf ({ frames := 1, cells := 0, slots := 0, locals := 22 }) (zr_P D E [.ref h0, .int (nI r), .int (nI k)] [(h0, .inr (0, [.int (nI N), .ref h1, .ref h2, .ref h3, .ref h4, .ref h5, .ref h6])), (h1, .inl (E 0, 15, .inl hm)), (h2, .inl (E 0, 15, .inl aw)), (h3, .inl (E 0, 30, .inl rv)), (h4, .inl (E 0, 30, .inl sd)), (h5, .inl (E 0, 30, .inl gm)), (h6, .inl (E 0, 36, .inl ca))]) (zr_Qi (fun zv => zv = aw (r * 3 + k))) 0 0 (fun _ => False) := by
  refine Met.ofW (cc := cX1_awayOf) (maxL := 3) (ret := (some .int)) (by decide) rfl ?_
  intro p e s m args below meth c s₁ Bz hml hv
  obtain ⟨rfl, hP, hK⟩ := hv
  have hx := Bz.exec
  have hb := Bz.bytes
  have hr := Bz.returns
  have hts := atoms_spec (ws := wsX1_awayOf) Bz.pre
  have hown : s.vm.findClass RX1 = some m.cls := findClass_of_methodNamed Bz.named
  have hlocks := Bz.notSynchronized
  have hP : va_P D vwCl [(h0, .inr (0, [.int (nI N), .ref h1, .ref h2, .ref h3, .ref h4, .ref h5, .ref h6])), (h1, .inl (E 0, 15, .inl hm)), (h2, .inl (E 0, 15, .inl aw)), (h3, .inl (E 0, 30, .inl rv)), (h4, .inl (E 0, 30, .inl sd)), (h5, .inl (E 0, 30, .inl gm)), (h6, .inl (E 0, 36, .inl ca))] s.heap := hP
  have hS : va_S (fun _ : Nat => False) s.heap s.heap [] := va_S.rf
  have hl := lv_entry ([.ref h0, .int (nI r), .int (nI k)]) (n := 3) (Nat.le_of_ble_eq_true rfl)
  rw [lg_entry_eq]
  generalize (lg_sl ([.ref h0, .int (nI r), .int (nI k)]) ++ List.replicate (3 - (lg_sl ([.ref h0, .int (nI r), .int (nI k)])).length) Slot.unset).toArray = ls at hl ⊢
  have hl : lv_has ls 3 [(0, .ref h0), (1, .int (nI r)), (2, .int (nI k))] := hl
  refine zr_nQ (fun Q hQ => ?_)
  refine lv_aload_n hx hb dX1_awayOf_0 rfl (lv_at hl 0 rfl) ?_
  refine lv_iload_n hx hb dX1_awayOf_1 rfl (lv_at hl 1 rfl) ?_
  refine lv_iload_n hx hb dX1_awayOf_2 rfl (lv_at hl 2 rfl) ?_
  refine zr_ci hP hS (va_runV (As := [.int (nI r), .int (nI k)]) (rest := []) ⟨hx, hb, hml, hown, hts⟩ (c_X1_hasGame l D E h0 h1 h2 h3 h4 h5 h6 N hm aw rv sd gm ca (nI r) (nI k) (hN)) (cwV 2 hts gX1_awayOf_X1_hasGame rfl rfl rfl (by decide +kernel) ⟨Nat.le_of_ble_eq_true rfl, Nat.le_of_ble_eq_true rfl⟩) (zr_V hK (hP.sub (ws' := [(h0, .inr (0, [.int (nI N), .ref h1, .ref h2, .ref h3, .ref h4, .ref h5, .ref h6])), (h1, .inl (E 0, 15, .inl hm)), (h2, .inl (E 0, 15, .inl aw)), (h3, .inl (E 0, 30, .inl rv)), (h4, .inl (E 0, 30, .inl sd)), (h5, .inl (E 0, 30, .inl gm)), (h6, .inl (E 0, 36, .inl ca))]) [0, 1, 2, 3, 4, 5, 6] rfl) (ci := 0) (q0 := 0) rfl rfl) rfl rfl hl.1 rfl (lv_room (Nat.le_of_ble_eq_true rfl)) dX1_awayOf_3 ⟨Nat.zero_le _, Nat.zero_le _⟩) (fun r_1 H locs hw_2 hP hS => ?_)
  have hrz : r_1 = 1 := by rcases hw_2 with ⟨h9, -⟩ | ⟨-, h9⟩; exact h9; exact h9.elim (fun q => absurd rfl (q r hr0)) (fun q => absurd rfl (q k hk0))
  subst hrz; clear hw_2
  refine zr_ti (y := nI 1) rfl ?_
  refine lv_if_eq (tgt := 22) hx hb dX1_awayOf_6 (by decide) (fun cn_3 => ?_) (fun cn_3 => ?_)
  · skip
    exact absurd cn_3 (by decide)
  · skip
    refine lv_aload_n hx hb dX1_awayOf_9 rfl (lv_at hl 0 rfl) ?_
    refine va_get (D := D) (ci := 0) (v := .ref h2) (C := RX1) (T := TX1) (N := 7) hx hb hts (by decide +kernel) hown hK.1 hP 0 rfl rfl 2 (by decide) (hts (.fieldLink RX1 15 "HomeRounds$Plan" "aways" "[I") (by decide +kernel)) (fun _ h9 => h9) rfl dX1_awayOf_10 ?_
    refine lv_iload_n hx hb dX1_awayOf_13 rfl (lv_at hl 1 rfl) ?_
    refine lv_iconst (v := nI 3) hx hb dX1_awayOf_14 (by rfl) ?_
    refine lv_imul hx hb dX1_awayOf_15 ?_
    refine zr_ti (y := nI (r * 3)) (pk_mul _ _) ?_
    refine lv_iload_n hx hb dX1_awayOf_16 rfl (lv_at hl 2 rfl) ?_
    refine lv_iadd hx hb dX1_awayOf_17 ?_
    refine zr_ti (y := nI ((r * 3) + k)) (nI_add _ _) ?_
    refine va_iald hx hb hK.1 hP 2 0 rfl rfl (vp_in_nI (by omega) (by omega)) dX1_awayOf_18 ?_
    refine zr_ti (y := aw ((r * 3) + k)) ((congrArg aw (nI_clamp (by omega))).trans (rfl)) ?_
    refine lv_goto (tgt := 23) hx hb dX1_awayOf_19 (by decide) ?_
    subst hQ
    exact W.iret (v := aw ((r * 3) + k)) hx hb hr (fun tz htz hWz => ⟨⟨aw ((r * 3) + k), (), rfl, rfl, trivial⟩, hS.F htz⟩) hS.2.2 dX1_awayOf_23

set_option maxHeartbeats 4000000 in
set_option maxRecDepth 100000 in
theorem c_X1_rivalOf (l : Launch) (D : va_G) (E : Nat → ClassId) (h0 : Nat) (h1 : Nat) (h2 : Nat) (h3 : Nat) (h4 : Nat) (h5 : Nat) (h6 : Nat) (N : Nat) (hm : Nat → Int32) (aw : Nat → Int32) (rv : Nat → Int32) (sd : Nat → Int32) (gm : Nat → Int32) (ca : Nat → Int32) (G : Nat → Nat → Nat) (P : Nat → Nat → Nat) (t : Nat) (r : Nat) (hpl : zm_pl N G P hm aw rv sd gm) (ht : t < N) (hr0 : r < N - 1) : Met l yX1_rivalOf wsX1_rivalOf ({ frames := 1, cells := 0, slots := 0, locals := 22 }) (zr_P D E [.ref h0, .int (nI t), .int (nI r)] [(h0, .inr (0, [.int (nI N), .ref h1, .ref h2, .ref h3, .ref h4, .ref h5, .ref h6])), (h1, .inl (E 0, 15, .inl hm)), (h2, .inl (E 0, 15, .inl aw)), (h3, .inl (E 0, 30, .inl rv)), (h4, .inl (E 0, 30, .inl sd)), (h5, .inl (E 0, 30, .inl gm)), (h6, .inl (E 0, 36, .inl ca))]) (zr_Qi (fun zv => zv = nI (zm_rv G P t r))) 0 0 (fun _ => False) := by
  refine Met.ofW (cc := cX1_rivalOf) (maxL := 3) (ret := (some .int)) (by decide) rfl ?_
  intro p e s m args below meth c s₁ Bz hml hv
  obtain ⟨rfl, hP, hK⟩ := hv
  have hx := Bz.exec
  have hb := Bz.bytes
  have hr := Bz.returns
  have hts := atoms_spec (ws := wsX1_rivalOf) Bz.pre
  have hown : s.vm.findClass RX1 = some m.cls := findClass_of_methodNamed Bz.named
  have hlocks := Bz.notSynchronized
  have hP : va_P D vwCl [(h0, .inr (0, [.int (nI N), .ref h1, .ref h2, .ref h3, .ref h4, .ref h5, .ref h6])), (h1, .inl (E 0, 15, .inl hm)), (h2, .inl (E 0, 15, .inl aw)), (h3, .inl (E 0, 30, .inl rv)), (h4, .inl (E 0, 30, .inl sd)), (h5, .inl (E 0, 30, .inl gm)), (h6, .inl (E 0, 36, .inl ca))] s.heap := hP
  have hS : va_S (fun _ : Nat => False) s.heap s.heap [] := va_S.rf
  have hl := lv_entry ([.ref h0, .int (nI t), .int (nI r)]) (n := 3) (Nat.le_of_ble_eq_true rfl)
  rw [lg_entry_eq]
  generalize (lg_sl ([.ref h0, .int (nI t), .int (nI r)]) ++ List.replicate (3 - (lg_sl ([.ref h0, .int (nI t), .int (nI r)])).length) Slot.unset).toArray = ls at hl ⊢
  have hl : lv_has ls 3 [(0, .ref h0), (1, .int (nI t)), (2, .int (nI r))] := hl
  refine zr_nQ (fun Q hQ => ?_)
  have hN := hpl.1.1
  refine lv_aload_n hx hb dX1_rivalOf_0 rfl (lv_at hl 0 rfl) ?_
  refine lv_iload_n hx hb dX1_rivalOf_1 rfl (lv_at hl 1 rfl) ?_
  refine lv_iload_n hx hb dX1_rivalOf_2 rfl (lv_at hl 2 rfl) ?_
  refine zr_ci hP hS (va_runV (As := [.int (nI t), .int (nI r)]) (rest := []) ⟨hx, hb, hml, hown, hts⟩ (c_X1_hasPlace l D E h0 h1 h2 h3 h4 h5 h6 N hm aw rv sd gm ca (nI t) (nI r) (hN)) (cwV 2 hts gX1_rivalOf_X1_hasPlace rfl rfl rfl (by decide +kernel) ⟨Nat.le_of_ble_eq_true rfl, Nat.le_of_ble_eq_true rfl⟩) (zr_V hK (hP.sub (ws' := [(h0, .inr (0, [.int (nI N), .ref h1, .ref h2, .ref h3, .ref h4, .ref h5, .ref h6])), (h1, .inl (E 0, 15, .inl hm)), (h2, .inl (E 0, 15, .inl aw)), (h3, .inl (E 0, 30, .inl rv)), (h4, .inl (E 0, 30, .inl sd)), (h5, .inl (E 0, 30, .inl gm)), (h6, .inl (E 0, 36, .inl ca))]) [0, 1, 2, 3, 4, 5, 6] rfl) (ci := 0) (q0 := 0) rfl rfl) rfl rfl hl.1 rfl (lv_room (Nat.le_of_ble_eq_true rfl)) dX1_rivalOf_3 ⟨Nat.zero_le _, Nat.zero_le _⟩) (fun r_1 H locs hw_2 hP hS => ?_)
  have hrz : r_1 = 1 := by rcases hw_2 with ⟨h9, -⟩ | ⟨-, h9⟩; exact h9; exact h9.elim (fun q => absurd rfl (q t ht)) (fun q => absurd rfl (q r hr0))
  subst hrz; clear hw_2
  refine zr_ti (y := nI 1) rfl ?_
  refine lv_if_eq (tgt := 22) hx hb dX1_rivalOf_6 (by decide) (fun cn_3 => ?_) (fun cn_3 => ?_)
  · skip
    exact absurd cn_3 (by decide)
  · skip
    refine lv_aload_n hx hb dX1_rivalOf_9 rfl (lv_at hl 0 rfl) ?_
    refine va_get (D := D) (ci := 0) (v := .ref h3) (C := RX1) (T := TX1) (N := 7) hx hb hts (by decide +kernel) hown hK.1 hP 0 rfl rfl 3 (by decide) (hts (.fieldLink RX1 18 "HomeRounds$Plan" "rivals" "[I") (by decide +kernel)) (fun _ h9 => h9) rfl dX1_rivalOf_10 ?_
    refine lv_iload_n hx hb dX1_rivalOf_13 rfl (lv_at hl 1 rfl) ?_
    refine lv_iload_n hx hb dX1_rivalOf_14 rfl (lv_at hl 2 rfl) ?_
    refine zr_ci hP hS (va_runSN (As := [.int (nI t), .int (nI r)]) (rest := [.ref h3]) ⟨hx, hb, hml, hown, hts⟩ (c_X7_cellOf l D E t r (by omega) (by omega)) ⟨va_cnB 2 hts gX1_rivalOf_X7_cellOf_n41 rfl rfl rfl hK.2.1 (hts (.initialized RX7) (by decide +kernel)) (by decide +kernel) ⟨Nat.le_of_ble_eq_true rfl, Nat.le_of_ble_eq_true rfl⟩, hts (.static yX7_cellOf) (by decide +kernel), trivial⟩ (zr_S hK (hP.sub (ws' := []) [] rfl)) rfl rfl hl.1 rfl (lv_room (Nat.le_of_ble_eq_true rfl)) dX1_rivalOf_15 ⟨Nat.zero_le _, Nat.zero_le _⟩) (fun r_4 H locs hw_5 hP hS => ?_)
    subst hw_5
    refine va_iald hx hb hK.1 hP 3 0 rfl rfl (vp_in_nI (by omega) (by omega)) dX1_rivalOf_18 ?_
    refine zr_ti (y := nI (zm_rv G P t r)) ((congrArg rv (nI_clamp (by omega))).trans (hpl.2.2.2.1 r t hr0 ht)) ?_
    refine lv_goto (tgt := 23) hx hb dX1_rivalOf_19 (by decide) ?_
    subst hQ
    exact W.iret (v := nI (zm_rv G P t r)) hx hb hr (fun tz htz hWz => ⟨⟨nI (zm_rv G P t r), (), rfl, rfl, trivial⟩, hS.F htz⟩) hS.2.2 dX1_rivalOf_23

set_option maxHeartbeats 4000000 in
set_option maxRecDepth 100000 in
theorem c_X1_sideOf (l : Launch) (D : va_G) (E : Nat → ClassId) (h0 : Nat) (h1 : Nat) (h2 : Nat) (h3 : Nat) (h4 : Nat) (h5 : Nat) (h6 : Nat) (N : Nat) (hm : Nat → Int32) (aw : Nat → Int32) (rv : Nat → Int32) (sd : Nat → Int32) (gm : Nat → Int32) (ca : Nat → Int32) (G : Nat → Nat → Nat) (P : Nat → Nat → Nat) (t : Nat) (r : Nat) (hpl : zm_pl N G P hm aw rv sd gm) (ht : t < N) (hr0 : r < N - 1) : Met l yX1_sideOf wsX1_sideOf ({ frames := 1, cells := 0, slots := 0, locals := 22 }) (zr_P D E [.ref h0, .int (nI t), .int (nI r)] [(h0, .inr (0, [.int (nI N), .ref h1, .ref h2, .ref h3, .ref h4, .ref h5, .ref h6])), (h1, .inl (E 0, 15, .inl hm)), (h2, .inl (E 0, 15, .inl aw)), (h3, .inl (E 0, 30, .inl rv)), (h4, .inl (E 0, 30, .inl sd)), (h5, .inl (E 0, 30, .inl gm)), (h6, .inl (E 0, 36, .inl ca))]) (zr_Qi (fun zv => zv = nI (zm_sd P t r))) 0 0 (fun _ => False) := by
  refine Met.ofW (cc := cX1_sideOf) (maxL := 3) (ret := (some .int)) (by decide) rfl ?_
  intro p e s m args below meth c s₁ Bz hml hv
  obtain ⟨rfl, hP, hK⟩ := hv
  have hx := Bz.exec
  have hb := Bz.bytes
  have hr := Bz.returns
  have hts := atoms_spec (ws := wsX1_sideOf) Bz.pre
  have hown : s.vm.findClass RX1 = some m.cls := findClass_of_methodNamed Bz.named
  have hlocks := Bz.notSynchronized
  have hP : va_P D vwCl [(h0, .inr (0, [.int (nI N), .ref h1, .ref h2, .ref h3, .ref h4, .ref h5, .ref h6])), (h1, .inl (E 0, 15, .inl hm)), (h2, .inl (E 0, 15, .inl aw)), (h3, .inl (E 0, 30, .inl rv)), (h4, .inl (E 0, 30, .inl sd)), (h5, .inl (E 0, 30, .inl gm)), (h6, .inl (E 0, 36, .inl ca))] s.heap := hP
  have hS : va_S (fun _ : Nat => False) s.heap s.heap [] := va_S.rf
  have hl := lv_entry ([.ref h0, .int (nI t), .int (nI r)]) (n := 3) (Nat.le_of_ble_eq_true rfl)
  rw [lg_entry_eq]
  generalize (lg_sl ([.ref h0, .int (nI t), .int (nI r)]) ++ List.replicate (3 - (lg_sl ([.ref h0, .int (nI t), .int (nI r)])).length) Slot.unset).toArray = ls at hl ⊢
  have hl : lv_has ls 3 [(0, .ref h0), (1, .int (nI t)), (2, .int (nI r))] := hl
  refine zr_nQ (fun Q hQ => ?_)
  have hN := hpl.1.1
  refine lv_aload_n hx hb dX1_sideOf_0 rfl (lv_at hl 0 rfl) ?_
  refine lv_iload_n hx hb dX1_sideOf_1 rfl (lv_at hl 1 rfl) ?_
  refine lv_iload_n hx hb dX1_sideOf_2 rfl (lv_at hl 2 rfl) ?_
  refine zr_ci hP hS (va_runV (As := [.int (nI t), .int (nI r)]) (rest := []) ⟨hx, hb, hml, hown, hts⟩ (c_X1_hasPlace l D E h0 h1 h2 h3 h4 h5 h6 N hm aw rv sd gm ca (nI t) (nI r) (hN)) (cwV 2 hts gX1_sideOf_X1_hasPlace rfl rfl rfl (by decide +kernel) ⟨Nat.le_of_ble_eq_true rfl, Nat.le_of_ble_eq_true rfl⟩) (zr_V hK (hP.sub (ws' := [(h0, .inr (0, [.int (nI N), .ref h1, .ref h2, .ref h3, .ref h4, .ref h5, .ref h6])), (h1, .inl (E 0, 15, .inl hm)), (h2, .inl (E 0, 15, .inl aw)), (h3, .inl (E 0, 30, .inl rv)), (h4, .inl (E 0, 30, .inl sd)), (h5, .inl (E 0, 30, .inl gm)), (h6, .inl (E 0, 36, .inl ca))]) [0, 1, 2, 3, 4, 5, 6] rfl) (ci := 0) (q0 := 0) rfl rfl) rfl rfl hl.1 rfl (lv_room (Nat.le_of_ble_eq_true rfl)) dX1_sideOf_3 ⟨Nat.zero_le _, Nat.zero_le _⟩) (fun r_1 H locs hw_2 hP hS => ?_)
  have hrz : r_1 = 1 := by rcases hw_2 with ⟨h9, -⟩ | ⟨-, h9⟩; exact h9; exact h9.elim (fun q => absurd rfl (q t ht)) (fun q => absurd rfl (q r hr0))
  subst hrz; clear hw_2
  refine zr_ti (y := nI 1) rfl ?_
  refine lv_if_eq (tgt := 22) hx hb dX1_sideOf_6 (by decide) (fun cn_3 => ?_) (fun cn_3 => ?_)
  · skip
    exact absurd cn_3 (by decide)
  · skip
    refine lv_aload_n hx hb dX1_sideOf_9 rfl (lv_at hl 0 rfl) ?_
    refine va_get (D := D) (ci := 0) (v := .ref h4) (C := RX1) (T := TX1) (N := 7) hx hb hts (by decide +kernel) hown hK.1 hP 0 rfl rfl 4 (by decide) (hts (.fieldLink RX1 21 "HomeRounds$Plan" "sides" "[I") (by decide +kernel)) (fun _ h9 => h9) rfl dX1_sideOf_10 ?_
    refine lv_iload_n hx hb dX1_sideOf_13 rfl (lv_at hl 1 rfl) ?_
    refine lv_iload_n hx hb dX1_sideOf_14 rfl (lv_at hl 2 rfl) ?_
    refine zr_ci hP hS (va_runSN (As := [.int (nI t), .int (nI r)]) (rest := [.ref h4]) ⟨hx, hb, hml, hown, hts⟩ (c_X7_cellOf l D E t r (by omega) (by omega)) ⟨va_cnB 2 hts gX1_sideOf_X7_cellOf_n41 rfl rfl rfl hK.2.1 (hts (.initialized RX7) (by decide +kernel)) (by decide +kernel) ⟨Nat.le_of_ble_eq_true rfl, Nat.le_of_ble_eq_true rfl⟩, hts (.static yX7_cellOf) (by decide +kernel), trivial⟩ (zr_S hK (hP.sub (ws' := []) [] rfl)) rfl rfl hl.1 rfl (lv_room (Nat.le_of_ble_eq_true rfl)) dX1_sideOf_15 ⟨Nat.zero_le _, Nat.zero_le _⟩) (fun r_4 H locs hw_5 hP hS => ?_)
    subst hw_5
    refine va_iald hx hb hK.1 hP 4 0 rfl rfl (vp_in_nI (by omega) (by omega)) dX1_sideOf_18 ?_
    refine zr_ti (y := nI (zm_sd P t r)) ((congrArg sd (nI_clamp (by omega))).trans (hpl.2.2.2.2.1 r t hr0 ht)) ?_
    refine lv_goto (tgt := 23) hx hb dX1_sideOf_19 (by decide) ?_
    subst hQ
    exact W.iret (v := nI (zm_sd P t r)) hx hb hr (fun tz htz hWz => ⟨⟨nI (zm_sd P t r), (), rfl, rfl, trivial⟩, hS.F htz⟩) hS.2.2 dX1_sideOf_23

set_option maxHeartbeats 4000000 in
set_option maxRecDepth 100000 in
theorem c_X1_gameOf (l : Launch) (D : va_G) (E : Nat → ClassId) (h0 : Nat) (h1 : Nat) (h2 : Nat) (h3 : Nat) (h4 : Nat) (h5 : Nat) (h6 : Nat) (N : Nat) (hm : Nat → Int32) (aw : Nat → Int32) (rv : Nat → Int32) (sd : Nat → Int32) (gm : Nat → Int32) (ca : Nat → Int32) (G : Nat → Nat → Nat) (P : Nat → Nat → Nat) (t : Nat) (r : Nat) (hpl : zm_pl N G P hm aw rv sd gm) (ht : t < N) (hr0 : r < N - 1) : Met l yX1_gameOf wsX1_gameOf ({ frames := 1, cells := 0, slots := 0, locals := 22 }) (zr_P D E [.ref h0, .int (nI t), .int (nI r)] [(h0, .inr (0, [.int (nI N), .ref h1, .ref h2, .ref h3, .ref h4, .ref h5, .ref h6])), (h1, .inl (E 0, 15, .inl hm)), (h2, .inl (E 0, 15, .inl aw)), (h3, .inl (E 0, 30, .inl rv)), (h4, .inl (E 0, 30, .inl sd)), (h5, .inl (E 0, 30, .inl gm)), (h6, .inl (E 0, 36, .inl ca))]) (zr_Qi (fun zv => zv = nI (zm_gm P t r))) 0 0 (fun _ => False) := by
  refine Met.ofW (cc := cX1_gameOf) (maxL := 3) (ret := (some .int)) (by decide) rfl ?_
  intro p e s m args below meth c s₁ Bz hml hv
  obtain ⟨rfl, hP, hK⟩ := hv
  have hx := Bz.exec
  have hb := Bz.bytes
  have hr := Bz.returns
  have hts := atoms_spec (ws := wsX1_gameOf) Bz.pre
  have hown : s.vm.findClass RX1 = some m.cls := findClass_of_methodNamed Bz.named
  have hlocks := Bz.notSynchronized
  have hP : va_P D vwCl [(h0, .inr (0, [.int (nI N), .ref h1, .ref h2, .ref h3, .ref h4, .ref h5, .ref h6])), (h1, .inl (E 0, 15, .inl hm)), (h2, .inl (E 0, 15, .inl aw)), (h3, .inl (E 0, 30, .inl rv)), (h4, .inl (E 0, 30, .inl sd)), (h5, .inl (E 0, 30, .inl gm)), (h6, .inl (E 0, 36, .inl ca))] s.heap := hP
  have hS : va_S (fun _ : Nat => False) s.heap s.heap [] := va_S.rf
  have hl := lv_entry ([.ref h0, .int (nI t), .int (nI r)]) (n := 3) (Nat.le_of_ble_eq_true rfl)
  rw [lg_entry_eq]
  generalize (lg_sl ([.ref h0, .int (nI t), .int (nI r)]) ++ List.replicate (3 - (lg_sl ([.ref h0, .int (nI t), .int (nI r)])).length) Slot.unset).toArray = ls at hl ⊢
  have hl : lv_has ls 3 [(0, .ref h0), (1, .int (nI t)), (2, .int (nI r))] := hl
  refine zr_nQ (fun Q hQ => ?_)
  have hN := hpl.1.1
  refine lv_aload_n hx hb dX1_gameOf_0 rfl (lv_at hl 0 rfl) ?_
  refine lv_iload_n hx hb dX1_gameOf_1 rfl (lv_at hl 1 rfl) ?_
  refine lv_iload_n hx hb dX1_gameOf_2 rfl (lv_at hl 2 rfl) ?_
  refine zr_ci hP hS (va_runV (As := [.int (nI t), .int (nI r)]) (rest := []) ⟨hx, hb, hml, hown, hts⟩ (c_X1_hasPlace l D E h0 h1 h2 h3 h4 h5 h6 N hm aw rv sd gm ca (nI t) (nI r) (hN)) (cwV 2 hts gX1_gameOf_X1_hasPlace rfl rfl rfl (by decide +kernel) ⟨Nat.le_of_ble_eq_true rfl, Nat.le_of_ble_eq_true rfl⟩) (zr_V hK (hP.sub (ws' := [(h0, .inr (0, [.int (nI N), .ref h1, .ref h2, .ref h3, .ref h4, .ref h5, .ref h6])), (h1, .inl (E 0, 15, .inl hm)), (h2, .inl (E 0, 15, .inl aw)), (h3, .inl (E 0, 30, .inl rv)), (h4, .inl (E 0, 30, .inl sd)), (h5, .inl (E 0, 30, .inl gm)), (h6, .inl (E 0, 36, .inl ca))]) [0, 1, 2, 3, 4, 5, 6] rfl) (ci := 0) (q0 := 0) rfl rfl) rfl rfl hl.1 rfl (lv_room (Nat.le_of_ble_eq_true rfl)) dX1_gameOf_3 ⟨Nat.zero_le _, Nat.zero_le _⟩) (fun r_1 H locs hw_2 hP hS => ?_)
  have hrz : r_1 = 1 := by rcases hw_2 with ⟨h9, -⟩ | ⟨-, h9⟩; exact h9; exact h9.elim (fun q => absurd rfl (q t ht)) (fun q => absurd rfl (q r hr0))
  subst hrz; clear hw_2
  refine zr_ti (y := nI 1) rfl ?_
  refine lv_if_eq (tgt := 22) hx hb dX1_gameOf_6 (by decide) (fun cn_3 => ?_) (fun cn_3 => ?_)
  · skip
    exact absurd cn_3 (by decide)
  · skip
    refine lv_aload_n hx hb dX1_gameOf_9 rfl (lv_at hl 0 rfl) ?_
    refine va_get (D := D) (ci := 0) (v := .ref h5) (C := RX1) (T := TX1) (N := 7) hx hb hts (by decide +kernel) hown hK.1 hP 0 rfl rfl 5 (by decide) (hts (.fieldLink RX1 24 "HomeRounds$Plan" "games" "[I") (by decide +kernel)) (fun _ h9 => h9) rfl dX1_gameOf_10 ?_
    refine lv_iload_n hx hb dX1_gameOf_13 rfl (lv_at hl 1 rfl) ?_
    refine lv_iload_n hx hb dX1_gameOf_14 rfl (lv_at hl 2 rfl) ?_
    refine zr_ci hP hS (va_runSN (As := [.int (nI t), .int (nI r)]) (rest := [.ref h5]) ⟨hx, hb, hml, hown, hts⟩ (c_X7_cellOf l D E t r (by omega) (by omega)) ⟨va_cnB 2 hts gX1_gameOf_X7_cellOf_n41 rfl rfl rfl hK.2.1 (hts (.initialized RX7) (by decide +kernel)) (by decide +kernel) ⟨Nat.le_of_ble_eq_true rfl, Nat.le_of_ble_eq_true rfl⟩, hts (.static yX7_cellOf) (by decide +kernel), trivial⟩ (zr_S hK (hP.sub (ws' := []) [] rfl)) rfl rfl hl.1 rfl (lv_room (Nat.le_of_ble_eq_true rfl)) dX1_gameOf_15 ⟨Nat.zero_le _, Nat.zero_le _⟩) (fun r_4 H locs hw_5 hP hS => ?_)
    subst hw_5
    refine va_iald hx hb hK.1 hP 5 0 rfl rfl (vp_in_nI (by omega) (by omega)) dX1_gameOf_18 ?_
    refine zr_ti (y := nI (zm_gm P t r)) ((congrArg gm (nI_clamp (by omega))).trans (hpl.2.2.2.2.2 r t hr0 ht)) ?_
    refine lv_goto (tgt := 23) hx hb dX1_gameOf_19 (by decide) ?_
    subst hQ
    exact W.iret (v := nI (zm_gm P t r)) hx hb hr (fun tz htz hWz => ⟨⟨nI (zm_gm P t r), (), rfl, rfl, trivial⟩, hS.F htz⟩) hS.2.2 dX1_gameOf_23

set_option maxHeartbeats 4000000 in
set_option maxRecDepth 100000 in
theorem c_X1_hostOf_n (l : Launch) (D : va_G) (E : Nat → ClassId) (h0 : Nat) (h1 : Nat) (h2 : Nat) (h3 : Nat) (h4 : Nat) (h5 : Nat) (h6 : Nat) (N : Nat) (hm : Nat → Int32) (aw : Nat → Int32) (rv : Nat → Int32) (sd : Nat → Int32) (gm : Nat → Int32) (ca : Nat → Int32) (G : Nat → Nat → Nat) (P : Nat → Nat → Nat) (t : Nat) (v : Int32) (hpl : zm_pl N G P hm aw rv sd gm) (ht : t < N) (hvn : v < 0) : Met l yX1_hostOf wsX1_hostOf ({ frames := 1, cells := 0, slots := 0, locals := 22 }) (zr_P D E [.ref h0, .int (nI t), .int v] [(h0, .inr (0, [.int (nI N), .ref h1, .ref h2, .ref h3, .ref h4, .ref h5, .ref h6])), (h1, .inl (E 0, 15, .inl hm)), (h2, .inl (E 0, 15, .inl aw)), (h3, .inl (E 0, 30, .inl rv)), (h4, .inl (E 0, 30, .inl sd)), (h5, .inl (E 0, 30, .inl gm)), (h6, .inl (E 0, 36, .inl ca))]) (zr_Qi (fun zv => zv = nI (zm_host G P t 0))) 0 0 (fun _ => False) := by
  refine Met.ofW (cc := cX1_hostOf) (maxL := 4) (ret := (some .int)) (by decide) rfl ?_
  intro p e s m args below meth c s₁ Bz hml hv
  obtain ⟨rfl, hP, hK⟩ := hv
  have hx := Bz.exec
  have hb := Bz.bytes
  have hr := Bz.returns
  have hts := atoms_spec (ws := wsX1_hostOf) Bz.pre
  have hown : s.vm.findClass RX1 = some m.cls := findClass_of_methodNamed Bz.named
  have hlocks := Bz.notSynchronized
  have hP : va_P D vwCl [(h0, .inr (0, [.int (nI N), .ref h1, .ref h2, .ref h3, .ref h4, .ref h5, .ref h6])), (h1, .inl (E 0, 15, .inl hm)), (h2, .inl (E 0, 15, .inl aw)), (h3, .inl (E 0, 30, .inl rv)), (h4, .inl (E 0, 30, .inl sd)), (h5, .inl (E 0, 30, .inl gm)), (h6, .inl (E 0, 36, .inl ca))] s.heap := hP
  have hS : va_S (fun _ : Nat => False) s.heap s.heap [] := va_S.rf
  have hl := lv_entry ([.ref h0, .int (nI t), .int v]) (n := 4) (Nat.le_of_ble_eq_true rfl)
  rw [lg_entry_eq]
  generalize (lg_sl ([.ref h0, .int (nI t), .int v]) ++ List.replicate (4 - (lg_sl ([.ref h0, .int (nI t), .int v])).length) Slot.unset).toArray = ls at hl ⊢
  have hl : lv_has ls 4 [(0, .ref h0), (1, .int (nI t)), (2, .int v)] := hl
  refine zr_nQ (fun Q hQ => ?_)
  have hN := hpl.1.1
  refine lv_aload_n hx hb dX1_hostOf_0 rfl (lv_at hl 0 rfl) ?_
  refine lv_iload_n hx hb dX1_hostOf_1 rfl (lv_at hl 1 rfl) ?_
  refine lv_iload_n hx hb dX1_hostOf_2 rfl (lv_at hl 2 rfl) ?_
  refine zr_ci hP hS (va_runV (As := [.int (nI t), .int v]) (rest := []) ⟨hx, hb, hml, hown, hts⟩ (c_X1_hasPlace l D E h0 h1 h2 h3 h4 h5 h6 N hm aw rv sd gm ca (nI t) v (hN)) (cwV 2 hts gX1_hostOf_X1_hasPlace rfl rfl rfl (by decide +kernel) ⟨Nat.le_of_ble_eq_true rfl, Nat.le_of_ble_eq_true rfl⟩) (zr_V hK (hP.sub (ws' := [(h0, .inr (0, [.int (nI N), .ref h1, .ref h2, .ref h3, .ref h4, .ref h5, .ref h6])), (h1, .inl (E 0, 15, .inl hm)), (h2, .inl (E 0, 15, .inl aw)), (h3, .inl (E 0, 30, .inl rv)), (h4, .inl (E 0, 30, .inl sd)), (h5, .inl (E 0, 30, .inl gm)), (h6, .inl (E 0, 36, .inl ca))]) [0, 1, 2, 3, 4, 5, 6] rfl) (ci := 0) (q0 := 0) rfl rfl) rfl rfl hl.1 rfl (lv_room (Nat.le_of_ble_eq_true rfl)) dX1_hostOf_3 ⟨Nat.zero_le _, Nat.zero_le _⟩) (fun r_1 H locs hw_2 hP hS => ?_)
  have hrz : r_1 = 0 := by rcases hw_2 with ⟨-, h9⟩ | ⟨h9, -⟩; obtain ⟨-, x9, hx9, hv9⟩ := h9; exact absurd hv9 (zn_lo (n := N - 1) hvn (by omega) x9 hx9); exact h9
  subst hrz; clear hw_2
  refine zr_ti (y := nI 0) rfl ?_
  refine lv_if_ne (tgt := 11) hx hb dX1_hostOf_6 (by decide) (fun cn_3 => ?_) (fun cn_3 => ?_)
  · skip
    exact absurd cn_3 (by decide)
  · skip
    refine lv_iload_n hx hb dX1_hostOf_9 rfl (lv_at hl 1 rfl) ?_
    subst hQ
    exact W.iret (v := nI t) hx hb hr (fun tz htz hWz => ⟨⟨nI t, (), rfl, rfl, trivial⟩, hS.F htz⟩) hS.2.2 dX1_hostOf_10

set_option maxHeartbeats 4000000 in
set_option maxRecDepth 100000 in
theorem c_X1_hostOf (l : Launch) (D : va_G) (E : Nat → ClassId) (h0 : Nat) (h1 : Nat) (h2 : Nat) (h3 : Nat) (h4 : Nat) (h5 : Nat) (h6 : Nat) (N : Nat) (hm : Nat → Int32) (aw : Nat → Int32) (rv : Nat → Int32) (sd : Nat → Int32) (gm : Nat → Int32) (ca : Nat → Int32) (G : Nat → Nat → Nat) (P : Nat → Nat → Nat) (t : Nat) (r : Nat) (hpl : zm_pl N G P hm aw rv sd gm) (ht : t < N) (hr0 : r < N - 1) : Met l yX1_hostOf wsX1_hostOf ({ frames := 1, cells := 0, slots := 0, locals := 22 }) (zr_P D E [.ref h0, .int (nI t), .int (nI r)] [(h0, .inr (0, [.int (nI N), .ref h1, .ref h2, .ref h3, .ref h4, .ref h5, .ref h6])), (h1, .inl (E 0, 15, .inl hm)), (h2, .inl (E 0, 15, .inl aw)), (h3, .inl (E 0, 30, .inl rv)), (h4, .inl (E 0, 30, .inl sd)), (h5, .inl (E 0, 30, .inl gm)), (h6, .inl (E 0, 36, .inl ca))]) (zr_Qi (fun zv => zv = nI (zm_host G P t (r + 1)))) 0 0 (fun _ => False) := by
  refine Met.ofW (cc := cX1_hostOf) (maxL := 4) (ret := (some .int)) (by decide) rfl ?_
  intro p e s m args below meth c s₁ Bz hml hv
  obtain ⟨rfl, hP, hK⟩ := hv
  have hx := Bz.exec
  have hb := Bz.bytes
  have hr := Bz.returns
  have hts := atoms_spec (ws := wsX1_hostOf) Bz.pre
  have hown : s.vm.findClass RX1 = some m.cls := findClass_of_methodNamed Bz.named
  have hlocks := Bz.notSynchronized
  have hP : va_P D vwCl [(h0, .inr (0, [.int (nI N), .ref h1, .ref h2, .ref h3, .ref h4, .ref h5, .ref h6])), (h1, .inl (E 0, 15, .inl hm)), (h2, .inl (E 0, 15, .inl aw)), (h3, .inl (E 0, 30, .inl rv)), (h4, .inl (E 0, 30, .inl sd)), (h5, .inl (E 0, 30, .inl gm)), (h6, .inl (E 0, 36, .inl ca))] s.heap := hP
  have hS : va_S (fun _ : Nat => False) s.heap s.heap [] := va_S.rf
  have hl := lv_entry ([.ref h0, .int (nI t), .int (nI r)]) (n := 4) (Nat.le_of_ble_eq_true rfl)
  rw [lg_entry_eq]
  generalize (lg_sl ([.ref h0, .int (nI t), .int (nI r)]) ++ List.replicate (4 - (lg_sl ([.ref h0, .int (nI t), .int (nI r)])).length) Slot.unset).toArray = ls at hl ⊢
  have hl : lv_has ls 4 [(0, .ref h0), (1, .int (nI t)), (2, .int (nI r))] := hl
  refine zr_nQ (fun Q hQ => ?_)
  have hN := hpl.1.1
  have hs1 := zm_sd_lt (P := P) (t := t) (r := r)
  refine lv_aload_n hx hb dX1_hostOf_0 rfl (lv_at hl 0 rfl) ?_
  refine lv_iload_n hx hb dX1_hostOf_1 rfl (lv_at hl 1 rfl) ?_
  refine lv_iload_n hx hb dX1_hostOf_2 rfl (lv_at hl 2 rfl) ?_
  refine zr_ci hP hS (va_runV (As := [.int (nI t), .int (nI r)]) (rest := []) ⟨hx, hb, hml, hown, hts⟩ (c_X1_hasPlace l D E h0 h1 h2 h3 h4 h5 h6 N hm aw rv sd gm ca (nI t) (nI r) (hN)) (cwV 2 hts gX1_hostOf_X1_hasPlace rfl rfl rfl (by decide +kernel) ⟨Nat.le_of_ble_eq_true rfl, Nat.le_of_ble_eq_true rfl⟩) (zr_V hK (hP.sub (ws' := [(h0, .inr (0, [.int (nI N), .ref h1, .ref h2, .ref h3, .ref h4, .ref h5, .ref h6])), (h1, .inl (E 0, 15, .inl hm)), (h2, .inl (E 0, 15, .inl aw)), (h3, .inl (E 0, 30, .inl rv)), (h4, .inl (E 0, 30, .inl sd)), (h5, .inl (E 0, 30, .inl gm)), (h6, .inl (E 0, 36, .inl ca))]) [0, 1, 2, 3, 4, 5, 6] rfl) (ci := 0) (q0 := 0) rfl rfl) rfl rfl hl.1 rfl (lv_room (Nat.le_of_ble_eq_true rfl)) dX1_hostOf_3 ⟨Nat.zero_le _, Nat.zero_le _⟩) (fun r_1 H locs hw_2 hP hS => ?_)
  have hrz : r_1 = 1 := by rcases hw_2 with ⟨h9, -⟩ | ⟨-, h9⟩; exact h9; exact h9.elim (fun q => absurd rfl (q t ht)) (fun q => absurd rfl (q r hr0))
  subst hrz; clear hw_2
  refine zr_ti (y := nI 1) rfl ?_
  refine lv_if_ne (tgt := 11) hx hb dX1_hostOf_6 (by decide) (fun cn_3 => ?_) (fun cn_3 => ?_)
  · skip
    refine lv_iload_n hx hb dX1_hostOf_11 rfl (lv_at hl 1 rfl) ?_
    refine lv_iload_n hx hb dX1_hostOf_12 rfl (lv_at hl 2 rfl) ?_
    refine zr_ci hP hS (va_runSN (As := [.int (nI t), .int (nI r)]) (rest := []) ⟨hx, hb, hml, hown, hts⟩ (c_X7_cellOf l D E t r (by omega) (by omega)) ⟨va_cnB 2 hts gX1_hostOf_X7_cellOf_n41 rfl rfl rfl hK.2.1 (hts (.initialized RX7) (by decide +kernel)) (by decide +kernel) ⟨Nat.le_of_ble_eq_true rfl, Nat.le_of_ble_eq_true rfl⟩, hts (.static yX7_cellOf) (by decide +kernel), trivial⟩ (zr_S hK (hP.sub (ws' := []) [] rfl)) rfl rfl hl.1 rfl (lv_room (Nat.le_of_ble_eq_true rfl)) dX1_hostOf_13 ⟨Nat.zero_le _, Nat.zero_le _⟩) (fun r_4 H locs hw_5 hP hS => ?_)
    subst hw_5
    refine lv_istore_n (lv' := [(3, .int (nI (r * 6 + t))), (0, .ref h0), (1, .int (nI t)), (2, .int (nI r))]) hx hb dX1_hostOf_16 rfl hl (by decide) rfl (fun ls hl => ?_)
    refine lv_aload_n hx hb dX1_hostOf_17 rfl (lv_at hl 1 rfl) ?_
    refine va_get (D := D) (ci := 0) (v := .ref h4) (C := RX1) (T := TX1) (N := 7) hx hb hts (by decide +kernel) hown hK.1 hP 0 rfl rfl 4 (by decide) (hts (.fieldLink RX1 21 "HomeRounds$Plan" "sides" "[I") (by decide +kernel)) (fun _ h9 => h9) rfl dX1_hostOf_18 ?_
    refine lv_iload_n hx hb dX1_hostOf_21 rfl (lv_at hl 0 rfl) ?_
    refine va_iald hx hb hK.1 hP 4 0 rfl rfl (vp_in_nI (by omega) (by omega)) dX1_hostOf_22 ?_
    refine zr_ti (y := nI (zm_sd P t r)) ((congrArg sd (nI_clamp (by omega))).trans (hpl.2.2.2.2.1 r t hr0 ht)) ?_
    refine lv_iconst (v := nI 1) hx hb dX1_hostOf_23 (by rfl) ?_
    refine lv_icmp_ne (tgt := 31) hx hb dX1_hostOf_24 (by decide) (fun cn_6 => ?_) (fun cn_6 => ?_)
    · skip
      have cn_6 : ¬ (zm_sd P t r = 1) := fun hz => cn_6 ((nI_eq (a := zm_sd P t r) (b := 1) (by omega) (by omega)).mpr hz)
      have hbr := cn_6
      refine lv_aload_n hx hb dX1_hostOf_31 rfl (lv_at hl 1 rfl) ?_
      refine va_get (D := D) (ci := 0) (v := .ref h3) (C := RX1) (T := TX1) (N := 7) hx hb hts (by decide +kernel) hown hK.1 hP 0 rfl rfl 3 (by decide) (hts (.fieldLink RX1 18 "HomeRounds$Plan" "rivals" "[I") (by decide +kernel)) (fun _ h9 => h9) rfl dX1_hostOf_32 ?_
      refine lv_iload_n hx hb dX1_hostOf_35 rfl (lv_at hl 0 rfl) ?_
      refine va_iald hx hb hK.1 hP 3 0 rfl rfl (vp_in_nI (by omega) (by omega)) dX1_hostOf_36 ?_
      refine zr_ti (y := nI (zm_rv G P t r)) ((congrArg rv (nI_clamp (by omega))).trans (hpl.2.2.2.1 r t hr0 ht)) ?_
      subst hQ
      exact W.iret (v := nI (zm_rv G P t r)) hx hb hr (fun tz htz hWz => ⟨⟨nI (zm_rv G P t r), (), rfl, by rw [zm_host]; first | rw [if_pos hbr] | rw [if_neg hbr], trivial⟩, hS.F htz⟩) hS.2.2 dX1_hostOf_37
    · skip
      have cn_6 : zm_sd P t r = 1 := (nI_eq (a := zm_sd P t r) (b := 1) (by omega) (by omega)).mp cn_6
      have hbr := cn_6
      refine lv_iload_n hx hb dX1_hostOf_27 rfl (lv_at hl 2 rfl) ?_
      refine lv_goto (tgt := 37) hx hb dX1_hostOf_28 (by decide) ?_
      subst hQ
      exact W.iret (v := nI t) hx hb hr (fun tz htz hWz => ⟨⟨nI t, (), rfl, by rw [zm_host]; first | rw [if_pos hbr] | rw [if_neg hbr], trivial⟩, hS.F htz⟩) hS.2.2 dX1_hostOf_37
  · skip
    exact absurd cn_3 (by decide)

set_option maxHeartbeats 4000000 in
set_option maxRecDepth 100000 in
theorem c_X1_patternOf (l : Launch) (D : va_G) (E : Nat → ClassId) (h0 : Nat) (h1 : Nat) (h2 : Nat) (h3 : Nat) (h4 : Nat) (h5 : Nat) (h6 : Nat) (N : Nat) (hm : Nat → Int32) (aw : Nat → Int32) (rv : Nat → Int32) (sd : Nat → Int32) (gm : Nat → Int32) (ca : Nat → Int32) (G : Nat → Nat → Nat) (P : Nat → Nat → Nat) (t : Nat) (hpl : zm_pl N G P hm aw rv sd gm) (ht : t < N) : Met l yX1_patternOf wsX1_patternOf ({ frames := 2, cells := 0, slots := 0, locals := 44 }) (zr_P D E [.ref h0, .int (nI t)] [(h0, .inr (0, [.int (nI N), .ref h1, .ref h2, .ref h3, .ref h4, .ref h5, .ref h6])), (h1, .inl (E 0, 15, .inl hm)), (h2, .inl (E 0, 15, .inl aw)), (h3, .inl (E 0, 30, .inl rv)), (h4, .inl (E 0, 30, .inl sd)), (h5, .inl (E 0, 30, .inl gm)), (h6, .inl (E 0, 36, .inl ca))]) (zr_Qi (fun zv => zv = zm_pat P t (N - 1))) 0 0 (fun _ => False) := by
  refine Met.ofW (cc := cX1_patternOf) (maxL := 4) (ret := (some .int)) (by decide) rfl ?_
  intro p e s m args below meth c s₁ Bz hml hv
  obtain ⟨rfl, hP, hK⟩ := hv
  have hx := Bz.exec
  have hb := Bz.bytes
  have hr := Bz.returns
  have hts := atoms_spec (ws := wsX1_patternOf) Bz.pre
  have hown : s.vm.findClass RX1 = some m.cls := findClass_of_methodNamed Bz.named
  have hlocks := Bz.notSynchronized
  have hP : va_P D vwCl [(h0, .inr (0, [.int (nI N), .ref h1, .ref h2, .ref h3, .ref h4, .ref h5, .ref h6])), (h1, .inl (E 0, 15, .inl hm)), (h2, .inl (E 0, 15, .inl aw)), (h3, .inl (E 0, 30, .inl rv)), (h4, .inl (E 0, 30, .inl sd)), (h5, .inl (E 0, 30, .inl gm)), (h6, .inl (E 0, 36, .inl ca))] s.heap := hP
  have hS : va_S (fun _ : Nat => False) s.heap s.heap [] := va_S.rf
  have hl := lv_entry ([.ref h0, .int (nI t)]) (n := 4) (Nat.le_of_ble_eq_true rfl)
  rw [lg_entry_eq]
  generalize (lg_sl ([.ref h0, .int (nI t)]) ++ List.replicate (4 - (lg_sl ([.ref h0, .int (nI t)])).length) Slot.unset).toArray = ls at hl ⊢
  have hl : lv_has ls 4 [(0, .ref h0), (1, .int (nI t))] := hl
  refine zr_nQ (fun Q hQ => ?_)
  have hN := hpl.1.1
  refine lv_iconst (v := nI 0) hx hb dX1_patternOf_0 (by rfl) ?_
  refine lv_istore_n (lv' := [(2, .int (nI 0)), (0, .ref h0), (1, .int (nI t))]) hx hb dX1_patternOf_1 rfl hl (by decide) rfl (fun ls hl => ?_)
  refine lv_iconst (v := nI 0) hx hb dX1_patternOf_2 (by rfl) ?_
  refine lv_istore_n (lv' := [(3, .int (nI 0)), (2, .int (nI 0)), (0, .ref h0), (1, .int (nI t))]) hx hb dX1_patternOf_3 rfl hl (by decide) rfl (fun ls hl => ?_)
  suffices KL4 : ∀ (kz : Nat) (i : Nat) (b : Int32) (H : Heap) (locs : List Loc) (ls : Array Slot), (N - i) < kz → (b = zm_pat P t i) → (i ≤ N - 1) → va_P D vwCl [(h0, .inr (0, [.int (nI N), .ref h1, .ref h2, .ref h3, .ref h4, .ref h5, .ref h6])), (h1, .inl (E 0, 15, .inl hm)), (h2, .inl (E 0, 15, .inl aw)), (h3, .inl (E 0, 30, .inl rv)), (h4, .inl (E 0, 30, .inl sd)), (h5, .inl (E 0, 30, .inl gm)), (h6, .inl (E 0, 36, .inl ca))] H → va_S (fun _ : Nat => False) s.heap H locs → lv_has ls 4 [(0, .ref h0), (1, .int (nI t)), (2, .int b), (3, .int (nI i))] → W p l e (headSpec wsX1_patternOf ({ frames := 2, cells := 0, slots := 0, locals := 44 })).room s m ([.ref h0, .int (nI t)] : List Value).toArray below meth c H locs 0 0 Q (F0 m 4 ls []) from
    KL4 _ 0 (nI 0) _ _ ls (Nat.lt_succ_self _) (rfl) (by omega) hP hS (lv_sub hl [2, 3, 1, 0] rfl)
  clear hP hS hl
  intro kz
  induction kz with
  | zero => intro i b H locs ls hkz; exact absurd hkz (Nat.not_lt_zero _)
  | succ kz ih4 =>
    intro i b H locs ls hkz hbq hi hP hS hl
    have hs1 := zm_sd_lt (P := P) (t := t) (r := i)
    refine lv_iload_n hx hb dX1_patternOf_4 rfl (lv_at hl 3 rfl) ?_
    refine lv_aload_n hx hb dX1_patternOf_5 rfl (lv_at hl 0 rfl) ?_
    refine va_get (D := D) (ci := 0) (v := .int (nI N)) (C := RX1) (T := TX1) (N := 7) hx hb hts (by decide +kernel) hown hK.1 hP 0 rfl rfl 0 (by decide) (hts (.fieldLink RX1 30 "HomeRounds$Plan" "n" "I") (by decide +kernel)) (fun _ h9 => h9) rfl dX1_patternOf_6 ?_
    refine lv_iconst (v := nI 1) hx hb dX1_patternOf_9 (by rfl) ?_
    refine lv_isub hx hb dX1_patternOf_10 ?_
    refine zr_ti (y := nI (N - 1)) (pk_sub (by omega)) ?_
    refine lv_icmp_ge (tgt := 36) hx hb dX1_patternOf_11 (by decide) (fun cn_1 => ?_) (fun cn_1 => ?_)
    · skip
      have cn_1 : N - 1 ≤ i := (nI_leI (a := N - 1) (b := i) (by omega) (by omega)).mp cn_1
      have hie : i = N - 1 := by omega
      refine lv_iload_n hx hb dX1_patternOf_36 rfl (lv_at hl 2 rfl) ?_
      subst hQ
      exact W.iret (v := b) hx hb hr (fun tz htz hWz => ⟨⟨b, (), rfl, by rw [hbq, hie], trivial⟩, hS.F htz⟩) hS.2.2 dX1_patternOf_37
    · skip
      have cn_1 : ¬ (N - 1 ≤ i) := fun hz => cn_1 ((nI_leI (a := N - 1) (b := i) (by omega) (by omega)).mpr hz)
      refine lv_aload_n hx hb dX1_patternOf_14 rfl (lv_at hl 0 rfl) ?_
      refine lv_iload_n hx hb dX1_patternOf_15 rfl (lv_at hl 1 rfl) ?_
      refine lv_iload_n hx hb dX1_patternOf_16 rfl (lv_at hl 3 rfl) ?_
      refine zr_ci hP hS (va_runV (As := [.int (nI t), .int (nI i)]) (rest := []) ⟨hx, hb, hml, hown, hts⟩ (c_X1_sideOf l D E h0 h1 h2 h3 h4 h5 h6 N hm aw rv sd gm ca G P t i (hpl) (by omega) (by omega)) (cwV 2 hts gX1_patternOf_X1_sideOf rfl rfl rfl (by decide +kernel) ⟨Nat.le_of_ble_eq_true rfl, Nat.le_of_ble_eq_true rfl⟩) (zr_V hK (hP.sub (ws' := [(h0, .inr (0, [.int (nI N), .ref h1, .ref h2, .ref h3, .ref h4, .ref h5, .ref h6])), (h1, .inl (E 0, 15, .inl hm)), (h2, .inl (E 0, 15, .inl aw)), (h3, .inl (E 0, 30, .inl rv)), (h4, .inl (E 0, 30, .inl sd)), (h5, .inl (E 0, 30, .inl gm)), (h6, .inl (E 0, 36, .inl ca))]) [0, 1, 2, 3, 4, 5, 6] rfl) (ci := 0) (q0 := 0) rfl rfl) rfl rfl hl.1 rfl (lv_room (Nat.le_of_ble_eq_true rfl)) dX1_patternOf_17 ⟨Nat.zero_le _, Nat.zero_le _⟩) (fun r_2 H locs hw_3 hP hS => ?_)
      subst hw_3
      refine lv_iconst (v := nI 1) hx hb dX1_patternOf_20 (by rfl) ?_
      refine lv_icmp_ne (tgt := 30) hx hb dX1_patternOf_21 (by decide) (fun cn_4 => ?_) (fun cn_4 => ?_)
      · skip
        have cn_4 : ¬ (zm_sd P t i = 1) := fun hz => cn_4 ((nI_eq (a := zm_sd P t i) (b := 1) (by omega) (by omega)).mpr hz)
        have hbr := cn_4
        refine lv_iinc (v := nI (i + 1)) (lv' := [(3, .int (nI (i + 1))), (0, .ref h0), (1, .int (nI t)), (2, .int b)]) hx hb dX1_patternOf_30 hl (k := 3) rfl (nI_add _ _) (by decide) rfl (fun ls hl => ?_)
        refine lv_goto (tgt := 4) hx hb dX1_patternOf_33 (by decide) ?_
        have hl : lv_has ls 4 [(0, .ref h0), (1, .int (nI t)), (2, .int b), (3, .int (nI (i + 1)))] := lv_sub hl [1, 2, 3, 0] rfl
        exact ih4 (i + 1) b H locs ls (by omega) (by simp only [zm_pat, hbr, hbq]; first | rfl | simp) (by omega) hP hS hl
      · skip
        have cn_4 : zm_sd P t i = 1 := (nI_eq (a := zm_sd P t i) (b := 1) (by omega) (by omega)).mp cn_4
        have hbr := cn_4
        refine lv_iload_n hx hb dX1_patternOf_24 rfl (lv_at hl 2 rfl) ?_
        refine lv_iconst (v := nI 1) hx hb dX1_patternOf_25 (by rfl) ?_
        refine lv_iload_n hx hb dX1_patternOf_26 rfl (lv_at hl 3 rfl) ?_
        refine lv_ishl hx hb dX1_patternOf_27 ?_
        refine lv_ior hx hb dX1_patternOf_28 ?_
        refine lv_istore_n (lv' := [(2, .int (b ||| ((nI 1) <<< ((nI i) &&& 31)))), (0, .ref h0), (1, .int (nI t)), (3, .int (nI i))]) hx hb dX1_patternOf_29 rfl hl (by decide) rfl (fun ls hl => ?_)
        refine lv_iinc (v := nI (i + 1)) (lv' := [(3, .int (nI (i + 1))), (2, .int (b ||| ((nI 1) <<< ((nI i) &&& 31)))), (0, .ref h0), (1, .int (nI t))]) hx hb dX1_patternOf_30 hl (k := 3) rfl (nI_add _ _) (by decide) rfl (fun ls hl => ?_)
        refine lv_goto (tgt := 4) hx hb dX1_patternOf_33 (by decide) ?_
        have hl : lv_has ls 4 [(0, .ref h0), (1, .int (nI t)), (2, .int (b ||| ((nI 1) <<< ((nI i) &&& 31)))), (3, .int (nI (i + 1)))] := lv_sub hl [2, 3, 1, 0] rfl
        exact ih4 (i + 1) (b ||| ((nI 1) <<< ((nI i) &&& 31))) H locs ls (by omega) (by simp only [zm_pat, hbr, hbq]; first | rfl | simp) (by omega) hP hS hl

set_option maxHeartbeats 4000000 in
set_option maxRecDepth 100000 in
theorem c_X1_breaksOf (l : Launch) (D : va_G) (E : Nat → ClassId) (h0 : Nat) (h1 : Nat) (h2 : Nat) (h3 : Nat) (h4 : Nat) (h5 : Nat) (h6 : Nat) (N : Nat) (hm : Nat → Int32) (aw : Nat → Int32) (rv : Nat → Int32) (sd : Nat → Int32) (gm : Nat → Int32) (ca : Nat → Int32) (G : Nat → Nat → Nat) (P : Nat → Nat → Nat) (t : Nat) (hpl : zm_pl N G P hm aw rv sd gm) (ht : t < N) : Met l yX1_breaksOf wsX1_breaksOf ({ frames := 2, cells := 0, slots := 0, locals := 44 }) (zr_P D E [.ref h0, .int (nI t)] [(h0, .inr (0, [.int (nI N), .ref h1, .ref h2, .ref h3, .ref h4, .ref h5, .ref h6])), (h1, .inl (E 0, 15, .inl hm)), (h2, .inl (E 0, 15, .inl aw)), (h3, .inl (E 0, 30, .inl rv)), (h4, .inl (E 0, 30, .inl sd)), (h5, .inl (E 0, 30, .inl gm)), (h6, .inl (E 0, 36, .inl ca))]) (zr_Qi (fun zv => zv = nI (zm_br N P t))) 0 0 (fun _ => False) := by
  refine Met.ofW (cc := cX1_breaksOf) (maxL := 4) (ret := (some .int)) (by decide) rfl ?_
  intro p e s m args below meth c s₁ Bz hml hv
  obtain ⟨rfl, hP, hK⟩ := hv
  have hx := Bz.exec
  have hb := Bz.bytes
  have hr := Bz.returns
  have hts := atoms_spec (ws := wsX1_breaksOf) Bz.pre
  have hown : s.vm.findClass RX1 = some m.cls := findClass_of_methodNamed Bz.named
  have hlocks := Bz.notSynchronized
  have hP : va_P D vwCl [(h0, .inr (0, [.int (nI N), .ref h1, .ref h2, .ref h3, .ref h4, .ref h5, .ref h6])), (h1, .inl (E 0, 15, .inl hm)), (h2, .inl (E 0, 15, .inl aw)), (h3, .inl (E 0, 30, .inl rv)), (h4, .inl (E 0, 30, .inl sd)), (h5, .inl (E 0, 30, .inl gm)), (h6, .inl (E 0, 36, .inl ca))] s.heap := hP
  have hS : va_S (fun _ : Nat => False) s.heap s.heap [] := va_S.rf
  have hl := lv_entry ([.ref h0, .int (nI t)]) (n := 4) (Nat.le_of_ble_eq_true rfl)
  rw [lg_entry_eq]
  generalize (lg_sl ([.ref h0, .int (nI t)]) ++ List.replicate (4 - (lg_sl ([.ref h0, .int (nI t)])).length) Slot.unset).toArray = ls at hl ⊢
  have hl : lv_has ls 4 [(0, .ref h0), (1, .int (nI t))] := hl
  refine zr_nQ (fun Q hQ => ?_)
  have hN := hpl.1.1
  refine lv_iconst (v := nI 0) hx hb dX1_breaksOf_0 (by rfl) ?_
  refine lv_istore_n (lv' := [(2, .int (nI 0)), (0, .ref h0), (1, .int (nI t))]) hx hb dX1_breaksOf_1 rfl hl (by decide) rfl (fun ls hl => ?_)
  refine lv_iconst (v := nI 0) hx hb dX1_breaksOf_2 (by rfl) ?_
  refine lv_istore_n (lv' := [(3, .int (nI 0)), (2, .int (nI 0)), (0, .ref h0), (1, .int (nI t))]) hx hb dX1_breaksOf_3 rfl hl (by decide) rfl (fun ls hl => ?_)
  suffices KL4 : ∀ (kz : Nat) (i : Nat) (q : Nat) (H : Heap) (locs : List Loc) (ls : Array Slot), (N - i) < kz → (q = zm_sum (zm_bf P t) i) → (i ≤ N - 2) → (q ≤ i) → va_P D vwCl [(h0, .inr (0, [.int (nI N), .ref h1, .ref h2, .ref h3, .ref h4, .ref h5, .ref h6])), (h1, .inl (E 0, 15, .inl hm)), (h2, .inl (E 0, 15, .inl aw)), (h3, .inl (E 0, 30, .inl rv)), (h4, .inl (E 0, 30, .inl sd)), (h5, .inl (E 0, 30, .inl gm)), (h6, .inl (E 0, 36, .inl ca))] H → va_S (fun _ : Nat => False) s.heap H locs → lv_has ls 4 [(0, .ref h0), (1, .int (nI t)), (2, .int (nI q)), (3, .int (nI i))] → W p l e (headSpec wsX1_breaksOf ({ frames := 2, cells := 0, slots := 0, locals := 44 })).room s m ([.ref h0, .int (nI t)] : List Value).toArray below meth c H locs 0 0 Q (F0 m 4 ls []) from
    KL4 _ 0 0 _ _ ls (Nat.lt_succ_self _) (rfl) (by omega) (by omega) hP hS (lv_sub hl [2, 3, 1, 0] rfl)
  clear hP hS hl
  intro kz
  induction kz with
  | zero => intro i q H locs ls hkz; exact absurd hkz (Nat.not_lt_zero _)
  | succ kz ih4 =>
    intro i q H locs ls hkz hq hi hqi hP hS hl
    have hs1 := zm_sd_lt (P := P) (t := t) (r := i)
    have hs2 := zm_sd_lt (P := P) (t := t) (r := i + 1)
    refine lv_iload_n hx hb dX1_breaksOf_4 rfl (lv_at hl 3 rfl) ?_
    refine lv_iconst (v := nI 1) hx hb dX1_breaksOf_5 (by rfl) ?_
    refine lv_iadd hx hb dX1_breaksOf_6 ?_
    refine zr_ti (y := nI (i + 1)) (nI_add _ _) ?_
    refine lv_aload_n hx hb dX1_breaksOf_7 rfl (lv_at hl 0 rfl) ?_
    refine va_get (D := D) (ci := 0) (v := .int (nI N)) (C := RX1) (T := TX1) (N := 7) hx hb hts (by decide +kernel) hown hK.1 hP 0 rfl rfl 0 (by decide) (hts (.fieldLink RX1 30 "HomeRounds$Plan" "n" "I") (by decide +kernel)) (fun _ h9 => h9) rfl dX1_breaksOf_8 ?_
    refine lv_iconst (v := nI 1) hx hb dX1_breaksOf_11 (by rfl) ?_
    refine lv_isub hx hb dX1_breaksOf_12 ?_
    refine zr_ti (y := nI (N - 1)) (pk_sub (by omega)) ?_
    refine lv_icmp_ge (tgt := 42) hx hb dX1_breaksOf_13 (by decide) (fun cn_1 => ?_) (fun cn_1 => ?_)
    · skip
      have cn_1 : N - 1 ≤ i + 1 := (nI_leI (a := N - 1) (b := i + 1) (by omega) (by omega)).mp cn_1
      have hie : i = N - 2 := by omega
      refine lv_iload_n hx hb dX1_breaksOf_42 rfl (lv_at hl 2 rfl) ?_
      subst hQ
      exact W.iret (v := nI q) hx hb hr (fun tz htz hWz => ⟨⟨nI q, (), rfl, by rw [hq, hie]; rfl, trivial⟩, hS.F htz⟩) hS.2.2 dX1_breaksOf_43
    · skip
      have cn_1 : ¬ (N - 1 ≤ i + 1) := fun hz => cn_1 ((nI_leI (a := N - 1) (b := i + 1) (by omega) (by omega)).mpr hz)
      refine lv_aload_n hx hb dX1_breaksOf_16 rfl (lv_at hl 0 rfl) ?_
      refine lv_iload_n hx hb dX1_breaksOf_17 rfl (lv_at hl 1 rfl) ?_
      refine lv_iload_n hx hb dX1_breaksOf_18 rfl (lv_at hl 3 rfl) ?_
      refine zr_ci hP hS (va_runV (As := [.int (nI t), .int (nI i)]) (rest := []) ⟨hx, hb, hml, hown, hts⟩ (c_X1_sideOf l D E h0 h1 h2 h3 h4 h5 h6 N hm aw rv sd gm ca G P t i (hpl) (by omega) (by omega)) (cwV 2 hts gX1_breaksOf_X1_sideOf rfl rfl rfl (by decide +kernel) ⟨Nat.le_of_ble_eq_true rfl, Nat.le_of_ble_eq_true rfl⟩) (zr_V hK (hP.sub (ws' := [(h0, .inr (0, [.int (nI N), .ref h1, .ref h2, .ref h3, .ref h4, .ref h5, .ref h6])), (h1, .inl (E 0, 15, .inl hm)), (h2, .inl (E 0, 15, .inl aw)), (h3, .inl (E 0, 30, .inl rv)), (h4, .inl (E 0, 30, .inl sd)), (h5, .inl (E 0, 30, .inl gm)), (h6, .inl (E 0, 36, .inl ca))]) [0, 1, 2, 3, 4, 5, 6] rfl) (ci := 0) (q0 := 0) rfl rfl) rfl rfl hl.1 rfl (lv_room (Nat.le_of_ble_eq_true rfl)) dX1_breaksOf_19 ⟨Nat.zero_le _, Nat.zero_le _⟩) (fun r_2 H locs hw_3 hP hS => ?_)
      subst hw_3
      refine lv_aload_n hx hb dX1_breaksOf_22 rfl (lv_at hl 0 rfl) ?_
      refine lv_iload_n hx hb dX1_breaksOf_23 rfl (lv_at hl 1 rfl) ?_
      refine lv_iload_n hx hb dX1_breaksOf_24 rfl (lv_at hl 3 rfl) ?_
      refine lv_iconst (v := nI 1) hx hb dX1_breaksOf_25 (by rfl) ?_
      refine lv_iadd hx hb dX1_breaksOf_26 ?_
      refine zr_ti (y := nI (i + 1)) (nI_add _ _) ?_
      refine zr_ci hP hS (va_runV (As := [.int (nI t), .int (nI (i + 1))]) (rest := [.int (nI (zm_sd P t i))]) ⟨hx, hb, hml, hown, hts⟩ (c_X1_sideOf l D E h0 h1 h2 h3 h4 h5 h6 N hm aw rv sd gm ca G P t (i + 1) (hpl) (by omega) (by omega)) (cwV 2 hts gX1_breaksOf_X1_sideOf rfl rfl rfl (by decide +kernel) ⟨Nat.le_of_ble_eq_true rfl, Nat.le_of_ble_eq_true rfl⟩) (zr_V hK (hP.sub (ws' := [(h0, .inr (0, [.int (nI N), .ref h1, .ref h2, .ref h3, .ref h4, .ref h5, .ref h6])), (h1, .inl (E 0, 15, .inl hm)), (h2, .inl (E 0, 15, .inl aw)), (h3, .inl (E 0, 30, .inl rv)), (h4, .inl (E 0, 30, .inl sd)), (h5, .inl (E 0, 30, .inl gm)), (h6, .inl (E 0, 36, .inl ca))]) [0, 1, 2, 3, 4, 5, 6] rfl) (ci := 0) (q0 := 0) rfl rfl) rfl rfl hl.1 rfl (lv_room (Nat.le_of_ble_eq_true rfl)) dX1_breaksOf_27 ⟨Nat.zero_le _, Nat.zero_le _⟩) (fun r_4 H locs hw_5 hP hS => ?_)
      subst hw_5
      refine lv_icmp_ne (tgt := 36) hx hb dX1_breaksOf_30 (by decide) (fun cn_6 => ?_) (fun cn_6 => ?_)
      · skip
        have cn_6 : ¬ (zm_sd P t i = zm_sd P t (i + 1)) := fun hz => cn_6 ((nI_eq (a := zm_sd P t i) (b := zm_sd P t (i + 1)) (by omega) (by omega)).mpr hz)
        have hbr := cn_6
        refine lv_iinc (v := nI (i + 1)) (lv' := [(3, .int (nI (i + 1))), (0, .ref h0), (1, .int (nI t)), (2, .int (nI q))]) hx hb dX1_breaksOf_36 hl (k := 3) rfl (nI_add _ _) (by decide) rfl (fun ls hl => ?_)
        refine lv_goto (tgt := 4) hx hb dX1_breaksOf_39 (by decide) ?_
        have hl : lv_has ls 4 [(0, .ref h0), (1, .int (nI t)), (2, .int (nI q)), (3, .int (nI (i + 1)))] := lv_sub hl [1, 2, 3, 0] rfl
        exact ih4 (i + 1) q H locs ls (by omega) (by simp only [zm_sum, zm_bf, hbr, hq]; first | rfl | simp) (by omega) (by omega) hP hS hl
      · skip
        have cn_6 : zm_sd P t i = zm_sd P t (i + 1) := (nI_eq (a := zm_sd P t i) (b := zm_sd P t (i + 1)) (by omega) (by omega)).mp cn_6
        have hbr := cn_6
        refine lv_iinc (v := nI (q + 1)) (lv' := [(2, .int (nI (q + 1))), (0, .ref h0), (1, .int (nI t)), (3, .int (nI i))]) hx hb dX1_breaksOf_33 hl (k := 2) rfl (nI_add _ _) (by decide) rfl (fun ls hl => ?_)
        refine lv_iinc (v := nI (i + 1)) (lv' := [(3, .int (nI (i + 1))), (2, .int (nI (q + 1))), (0, .ref h0), (1, .int (nI t))]) hx hb dX1_breaksOf_36 hl (k := 3) rfl (nI_add _ _) (by decide) rfl (fun ls hl => ?_)
        refine lv_goto (tgt := 4) hx hb dX1_breaksOf_39 (by decide) ?_
        have hl : lv_has ls 4 [(0, .ref h0), (1, .int (nI t)), (2, .int (nI (q + 1))), (3, .int (nI (i + 1)))] := lv_sub hl [2, 3, 1, 0] rfl
        exact ih4 (i + 1) (q + 1) H locs ls (by omega) (by simp only [zm_sum, zm_bf, hbr, hq]; first | rfl | simp) (by omega) (by omega) hP hS hl

set_option maxHeartbeats 4000000 in
set_option maxRecDepth 100000 in
theorem c_X1_allBreaks (l : Launch) (D : va_G) (E : Nat → ClassId) (h0 : Nat) (h1 : Nat) (h2 : Nat) (h3 : Nat) (h4 : Nat) (h5 : Nat) (h6 : Nat) (N : Nat) (hm : Nat → Int32) (aw : Nat → Int32) (rv : Nat → Int32) (sd : Nat → Int32) (gm : Nat → Int32) (ca : Nat → Int32) (G : Nat → Nat → Nat) (P : Nat → Nat → Nat) (hpl : zm_pl N G P hm aw rv sd gm) : Met l yX1_allBreaks wsX1_allBreaks ({ frames := 3, cells := 0, slots := 0, locals := 67 }) (zr_P D E [.ref h0] [(h0, .inr (0, [.int (nI N), .ref h1, .ref h2, .ref h3, .ref h4, .ref h5, .ref h6])), (h1, .inl (E 0, 15, .inl hm)), (h2, .inl (E 0, 15, .inl aw)), (h3, .inl (E 0, 30, .inl rv)), (h4, .inl (E 0, 30, .inl sd)), (h5, .inl (E 0, 30, .inl gm)), (h6, .inl (E 0, 36, .inl ca))]) (zr_Qi (fun zv => zv = nI (zm_brs N P))) 0 0 (fun _ => False) := by
  refine Met.ofW (cc := cX1_allBreaks) (maxL := 3) (ret := (some .int)) (by decide) rfl ?_
  intro p e s m args below meth c s₁ Bz hml hv
  obtain ⟨rfl, hP, hK⟩ := hv
  have hx := Bz.exec
  have hb := Bz.bytes
  have hr := Bz.returns
  have hts := atoms_spec (ws := wsX1_allBreaks) Bz.pre
  have hown : s.vm.findClass RX1 = some m.cls := findClass_of_methodNamed Bz.named
  have hlocks := Bz.notSynchronized
  have hP : va_P D vwCl [(h0, .inr (0, [.int (nI N), .ref h1, .ref h2, .ref h3, .ref h4, .ref h5, .ref h6])), (h1, .inl (E 0, 15, .inl hm)), (h2, .inl (E 0, 15, .inl aw)), (h3, .inl (E 0, 30, .inl rv)), (h4, .inl (E 0, 30, .inl sd)), (h5, .inl (E 0, 30, .inl gm)), (h6, .inl (E 0, 36, .inl ca))] s.heap := hP
  have hS : va_S (fun _ : Nat => False) s.heap s.heap [] := va_S.rf
  have hl := lv_entry ([.ref h0]) (n := 3) (Nat.le_of_ble_eq_true rfl)
  rw [lg_entry_eq]
  generalize (lg_sl ([.ref h0]) ++ List.replicate (3 - (lg_sl ([.ref h0])).length) Slot.unset).toArray = ls at hl ⊢
  have hl : lv_has ls 3 [(0, .ref h0)] := hl
  refine zr_nQ (fun Q hQ => ?_)
  have hN := hpl.1.1
  refine lv_iconst (v := nI 0) hx hb dX1_allBreaks_0 (by rfl) ?_
  refine lv_istore_n (lv' := [(1, .int (nI 0)), (0, .ref h0)]) hx hb dX1_allBreaks_1 rfl hl (by decide) rfl (fun ls hl => ?_)
  refine lv_iconst (v := nI 0) hx hb dX1_allBreaks_2 (by rfl) ?_
  refine lv_istore_n (lv' := [(2, .int (nI 0)), (1, .int (nI 0)), (0, .ref h0)]) hx hb dX1_allBreaks_3 rfl hl (by decide) rfl (fun ls hl => ?_)
  suffices KL4 : ∀ (kz : Nat) (i : Nat) (q : Nat) (H : Heap) (locs : List Loc) (ls : Array Slot), (N - i) < kz → (q = zm_sum (zm_br N P) i) → (i ≤ N) → va_P D vwCl [(h0, .inr (0, [.int (nI N), .ref h1, .ref h2, .ref h3, .ref h4, .ref h5, .ref h6])), (h1, .inl (E 0, 15, .inl hm)), (h2, .inl (E 0, 15, .inl aw)), (h3, .inl (E 0, 30, .inl rv)), (h4, .inl (E 0, 30, .inl sd)), (h5, .inl (E 0, 30, .inl gm)), (h6, .inl (E 0, 36, .inl ca))] H → va_S (fun _ : Nat => False) s.heap H locs → lv_has ls 3 [(0, .ref h0), (1, .int (nI q)), (2, .int (nI i))] → W p l e (headSpec wsX1_allBreaks ({ frames := 3, cells := 0, slots := 0, locals := 67 })).room s m ([.ref h0] : List Value).toArray below meth c H locs 0 0 Q (F0 m 4 ls []) from
    KL4 _ 0 0 _ _ ls (Nat.lt_succ_self _) (rfl) (by omega) hP hS (lv_sub hl [2, 1, 0] rfl)
  clear hP hS hl
  intro kz
  induction kz with
  | zero => intro i q H locs ls hkz; exact absurd hkz (Nat.not_lt_zero _)
  | succ kz ih4 =>
    intro i q H locs ls hkz hq hi hP hS hl
    refine lv_iload_n hx hb dX1_allBreaks_4 rfl (lv_at hl 2 rfl) ?_
    refine lv_aload_n hx hb dX1_allBreaks_5 rfl (lv_at hl 0 rfl) ?_
    refine va_get (D := D) (ci := 0) (v := .int (nI N)) (C := RX1) (T := TX1) (N := 7) hx hb hts (by decide +kernel) hown hK.1 hP 0 rfl rfl 0 (by decide) (hts (.fieldLink RX1 30 "HomeRounds$Plan" "n" "I") (by decide +kernel)) (fun _ h9 => h9) rfl dX1_allBreaks_6 ?_
    refine lv_icmp_ge (tgt := 26) hx hb dX1_allBreaks_9 (by decide) (fun cn_1 => ?_) (fun cn_1 => ?_)
    · skip
      have cn_1 : N ≤ i := (nI_leI (a := N) (b := i) (by omega) (by omega)).mp cn_1
      have hie : i = N := by omega
      refine lv_iload_n hx hb dX1_allBreaks_26 rfl (lv_at hl 1 rfl) ?_
      subst hQ
      exact W.iret (v := nI q) hx hb hr (fun tz htz hWz => ⟨⟨nI q, (), rfl, by rw [hq, hie]; rfl, trivial⟩, hS.F htz⟩) hS.2.2 dX1_allBreaks_27
    · skip
      have cn_1 : ¬ (N ≤ i) := fun hz => cn_1 ((nI_leI (a := N) (b := i) (by omega) (by omega)).mpr hz)
      refine lv_iload_n hx hb dX1_allBreaks_12 rfl (lv_at hl 1 rfl) ?_
      refine lv_aload_n hx hb dX1_allBreaks_13 rfl (lv_at hl 0 rfl) ?_
      refine lv_iload_n hx hb dX1_allBreaks_14 rfl (lv_at hl 2 rfl) ?_
      refine zr_ci hP hS (va_runV (As := [.int (nI i)]) (rest := [.int (nI q)]) ⟨hx, hb, hml, hown, hts⟩ (c_X1_breaksOf l D E h0 h1 h2 h3 h4 h5 h6 N hm aw rv sd gm ca G P i (hpl) (by omega)) (cwV 1 hts gX1_allBreaks_X1_breaksOf rfl rfl rfl (by decide +kernel) ⟨Nat.le_of_ble_eq_true rfl, Nat.le_of_ble_eq_true rfl⟩) (zr_V hK (hP.sub (ws' := [(h0, .inr (0, [.int (nI N), .ref h1, .ref h2, .ref h3, .ref h4, .ref h5, .ref h6])), (h1, .inl (E 0, 15, .inl hm)), (h2, .inl (E 0, 15, .inl aw)), (h3, .inl (E 0, 30, .inl rv)), (h4, .inl (E 0, 30, .inl sd)), (h5, .inl (E 0, 30, .inl gm)), (h6, .inl (E 0, 36, .inl ca))]) [0, 1, 2, 3, 4, 5, 6] rfl) (ci := 0) (q0 := 0) rfl rfl) rfl rfl hl.1 rfl (lv_room (Nat.le_of_ble_eq_true rfl)) dX1_allBreaks_15 ⟨Nat.zero_le _, Nat.zero_le _⟩) (fun r_2 H locs hw_3 hP hS => ?_)
      subst hw_3
      refine lv_iadd hx hb dX1_allBreaks_18 ?_
      refine zr_ti (y := nI (q + (zm_br N P i))) (nI_add _ _) ?_
      refine lv_istore_n (lv' := [(1, .int (nI (q + (zm_br N P i)))), (0, .ref h0), (2, .int (nI i))]) hx hb dX1_allBreaks_19 rfl hl (by decide) rfl (fun ls hl => ?_)
      refine lv_iinc (v := nI (i + 1)) (lv' := [(2, .int (nI (i + 1))), (1, .int (nI (q + (zm_br N P i)))), (0, .ref h0)]) hx hb dX1_allBreaks_20 hl (k := 2) rfl (nI_add _ _) (by decide) rfl (fun ls hl => ?_)
      refine lv_goto (tgt := 4) hx hb dX1_allBreaks_23 (by decide) ?_
      have hl : lv_has ls 3 [(0, .ref h0), (1, .int (nI (q + (zm_br N P i)))), (2, .int (nI (i + 1)))] := lv_sub hl [2, 1, 0] rfl
      exact ih4 (i + 1) (q + (zm_br N P i)) H locs ls (by omega) (by rw [hq]; rfl) (by omega) hP hS hl

set_option maxHeartbeats 4000000 in
set_option maxRecDepth 100000 in
theorem c_X1_meetingOf (l : Launch) (D : va_G) (E : Nat → ClassId) (h0 : Nat) (h1 : Nat) (h2 : Nat) (h3 : Nat) (h4 : Nat) (h5 : Nat) (h6 : Nat) (N : Nat) (hm : Nat → Int32) (aw : Nat → Int32) (rv : Nat → Int32) (sd : Nat → Int32) (gm : Nat → Int32) (ca : Nat → Int32) (G : Nat → Nat → Nat) (P : Nat → Nat → Nat) (t : Nat) (j : Nat) (hpl : zm_pl N G P hm aw rv sd gm) (ht : t < N) (hj : j < N) : Met l yX1_meetingOf wsX1_meetingOf ({ frames := 2, cells := 0, slots := 0, locals := 44 }) (zr_P D E [.ref h0, .int (nI t), .int (nI j)] [(h0, .inr (0, [.int (nI N), .ref h1, .ref h2, .ref h3, .ref h4, .ref h5, .ref h6])), (h1, .inl (E 0, 15, .inl hm)), (h2, .inl (E 0, 15, .inl aw)), (h3, .inl (E 0, 30, .inl rv)), (h4, .inl (E 0, 30, .inl sd)), (h5, .inl (E 0, 30, .inl gm)), (h6, .inl (E 0, 36, .inl ca))]) (zr_Qi (fun zv => zv = zm_meet N G P t j)) 0 0 (fun _ => False) := by
  refine Met.ofW (cc := cX1_meetingOf) (maxL := 4) (ret := (some .int)) (by decide) rfl ?_
  intro p e s m args below meth c s₁ Bz hml hv
  obtain ⟨rfl, hP, hK⟩ := hv
  have hx := Bz.exec
  have hb := Bz.bytes
  have hr := Bz.returns
  have hts := atoms_spec (ws := wsX1_meetingOf) Bz.pre
  have hown : s.vm.findClass RX1 = some m.cls := findClass_of_methodNamed Bz.named
  have hlocks := Bz.notSynchronized
  have hP : va_P D vwCl [(h0, .inr (0, [.int (nI N), .ref h1, .ref h2, .ref h3, .ref h4, .ref h5, .ref h6])), (h1, .inl (E 0, 15, .inl hm)), (h2, .inl (E 0, 15, .inl aw)), (h3, .inl (E 0, 30, .inl rv)), (h4, .inl (E 0, 30, .inl sd)), (h5, .inl (E 0, 30, .inl gm)), (h6, .inl (E 0, 36, .inl ca))] s.heap := hP
  have hS : va_S (fun _ : Nat => False) s.heap s.heap [] := va_S.rf
  have hl := lv_entry ([.ref h0, .int (nI t), .int (nI j)]) (n := 4) (Nat.le_of_ble_eq_true rfl)
  rw [lg_entry_eq]
  generalize (lg_sl ([.ref h0, .int (nI t), .int (nI j)]) ++ List.replicate (4 - (lg_sl ([.ref h0, .int (nI t), .int (nI j)])).length) Slot.unset).toArray = ls at hl ⊢
  have hl : lv_has ls 4 [(0, .ref h0), (1, .int (nI t)), (2, .int (nI j))] := hl
  refine zr_nQ (fun Q hQ => ?_)
  have hN := hpl.1.1
  refine lv_iconst (v := nI 0) hx hb dX1_meetingOf_0 (by rfl) ?_
  refine lv_istore_n (lv' := [(3, .int (nI 0)), (0, .ref h0), (1, .int (nI t)), (2, .int (nI j))]) hx hb dX1_meetingOf_1 rfl hl (by decide) rfl (fun ls hl => ?_)
  suffices KL2 : ∀ (kz : Nat) (i : Nat) (H : Heap) (locs : List Loc) (ls : Array Slot), (N - i) < kz → (zm_meet N G P t j = zm_find (zm_rv G P t) j (N - 1 - i) i) → (i ≤ N - 1) → va_P D vwCl [(h0, .inr (0, [.int (nI N), .ref h1, .ref h2, .ref h3, .ref h4, .ref h5, .ref h6])), (h1, .inl (E 0, 15, .inl hm)), (h2, .inl (E 0, 15, .inl aw)), (h3, .inl (E 0, 30, .inl rv)), (h4, .inl (E 0, 30, .inl sd)), (h5, .inl (E 0, 30, .inl gm)), (h6, .inl (E 0, 36, .inl ca))] H → va_S (fun _ : Nat => False) s.heap H locs → lv_has ls 4 [(0, .ref h0), (1, .int (nI t)), (2, .int (nI j)), (3, .int (nI i))] → W p l e (headSpec wsX1_meetingOf ({ frames := 2, cells := 0, slots := 0, locals := 44 })).room s m ([.ref h0, .int (nI t), .int (nI j)] : List Value).toArray below meth c H locs 0 0 Q (F0 m 2 ls []) from
    KL2 _ 0 _ _ ls (Nat.lt_succ_self _) (rfl) (by omega) hP hS (lv_sub hl [1, 2, 3, 0] rfl)
  clear hP hS hl
  intro kz
  induction kz with
  | zero => intro i H locs ls hkz; exact absurd hkz (Nat.not_lt_zero _)
  | succ kz ih2 =>
    intro i H locs ls hkz hq hi hP hS hl
    refine lv_iload_n hx hb dX1_meetingOf_2 rfl (lv_at hl 3 rfl) ?_
    refine lv_aload_n hx hb dX1_meetingOf_3 rfl (lv_at hl 0 rfl) ?_
    refine va_get (D := D) (ci := 0) (v := .int (nI N)) (C := RX1) (T := TX1) (N := 7) hx hb hts (by decide +kernel) hown hK.1 hP 0 rfl rfl 0 (by decide) (hts (.fieldLink RX1 30 "HomeRounds$Plan" "n" "I") (by decide +kernel)) (fun _ h9 => h9) rfl dX1_meetingOf_4 ?_
    refine lv_iconst (v := nI 1) hx hb dX1_meetingOf_7 (by rfl) ?_
    refine lv_isub hx hb dX1_meetingOf_8 ?_
    refine zr_ti (y := nI (N - 1)) (pk_sub (by omega)) ?_
    refine lv_icmp_ge (tgt := 30) hx hb dX1_meetingOf_9 (by decide) (fun cn_1 => ?_) (fun cn_1 => ?_)
    · skip
      have cn_1 : N - 1 ≤ i := (nI_leI (a := N - 1) (b := i) (by omega) (by omega)).mp cn_1
      have hie : i = N - 1 := by omega
      refine lv_iconst (v := (-1)) hx hb dX1_meetingOf_30 (by rfl) ?_
      subst hQ
      exact W.iret (v := (-1)) hx hb hr (fun tz htz hWz => ⟨⟨(-1), (), rfl, by rw [hq, hie, Nat.sub_self]; rfl, trivial⟩, hS.F htz⟩) hS.2.2 dX1_meetingOf_31
    · skip
      have cn_1 : ¬ (N - 1 ≤ i) := fun hz => cn_1 ((nI_leI (a := N - 1) (b := i) (by omega) (by omega)).mpr hz)
      refine lv_aload_n hx hb dX1_meetingOf_12 rfl (lv_at hl 0 rfl) ?_
      refine lv_iload_n hx hb dX1_meetingOf_13 rfl (lv_at hl 1 rfl) ?_
      refine lv_iload_n hx hb dX1_meetingOf_14 rfl (lv_at hl 3 rfl) ?_
      refine zr_ci hP hS (va_runV (As := [.int (nI t), .int (nI i)]) (rest := []) ⟨hx, hb, hml, hown, hts⟩ (c_X1_rivalOf l D E h0 h1 h2 h3 h4 h5 h6 N hm aw rv sd gm ca G P t i (hpl) (by omega) (by omega)) (cwV 2 hts gX1_meetingOf_X1_rivalOf rfl rfl rfl (by decide +kernel) ⟨Nat.le_of_ble_eq_true rfl, Nat.le_of_ble_eq_true rfl⟩) (zr_V hK (hP.sub (ws' := [(h0, .inr (0, [.int (nI N), .ref h1, .ref h2, .ref h3, .ref h4, .ref h5, .ref h6])), (h1, .inl (E 0, 15, .inl hm)), (h2, .inl (E 0, 15, .inl aw)), (h3, .inl (E 0, 30, .inl rv)), (h4, .inl (E 0, 30, .inl sd)), (h5, .inl (E 0, 30, .inl gm)), (h6, .inl (E 0, 36, .inl ca))]) [0, 1, 2, 3, 4, 5, 6] rfl) (ci := 0) (q0 := 0) rfl rfl) rfl rfl hl.1 rfl (lv_room (Nat.le_of_ble_eq_true rfl)) dX1_meetingOf_15 ⟨Nat.zero_le _, Nat.zero_le _⟩) (fun r_2 H locs hw_3 hP hS => ?_)
      subst hw_3
      have hs1 := zm_rv_lt hpl.1 (r := i) (t := t) (by omega) ht
      refine lv_iload_n hx hb dX1_meetingOf_18 rfl (lv_at hl 2 rfl) ?_
      refine lv_icmp_ne (tgt := 24) hx hb dX1_meetingOf_19 (by decide) (fun cn_4 => ?_) (fun cn_4 => ?_)
      · skip
        have cn_4 : ¬ (zm_rv G P t i = j) := fun hz => cn_4 ((nI_eq (a := zm_rv G P t i) (b := j) (by omega) (by omega)).mpr hz)
        have hbr := cn_4
        refine lv_iinc (v := nI (i + 1)) (lv' := [(3, .int (nI (i + 1))), (0, .ref h0), (1, .int (nI t)), (2, .int (nI j))]) hx hb dX1_meetingOf_24 hl (k := 3) rfl (nI_add _ _) (by decide) rfl (fun ls hl => ?_)
        refine lv_goto (tgt := 2) hx hb dX1_meetingOf_27 (by decide) ?_
        have hl : lv_has ls 4 [(0, .ref h0), (1, .int (nI t)), (2, .int (nI j)), (3, .int (nI (i + 1)))] := lv_sub hl [1, 2, 3, 0] rfl
        exact ih2 (i + 1) H locs ls (by omega) (by rw [hq, show N - 1 - i = (N - 1 - (i + 1)) + 1 from by omega, zm_find, if_neg hbr]) (by omega) hP hS hl
      · skip
        have cn_4 : zm_rv G P t i = j := (nI_eq (a := zm_rv G P t i) (b := j) (by omega) (by omega)).mp cn_4
        have hbr := cn_4
        refine lv_iload_n hx hb dX1_meetingOf_22 rfl (lv_at hl 3 rfl) ?_
        subst hQ
        exact W.iret (v := nI i) hx hb hr (fun tz htz hWz => ⟨⟨nI i, (), rfl, by rw [hq, show N - 1 - i = (N - 1 - (i + 1)) + 1 from by omega, zm_find, if_pos hbr], trivial⟩, hS.F htz⟩) hS.2.2 dX1_meetingOf_23

set_option maxHeartbeats 4000000 in
set_option maxRecDepth 100000 in
theorem c_X1_seasonLength (l : Launch) (D : va_G) (E : Nat → ClassId) (h0 : Nat) (h1 : Nat) (h2 : Nat) (h3 : Nat) (h4 : Nat) (h5 : Nat) (h6 : Nat) (N : Nat) (hm : Nat → Int32) (aw : Nat → Int32) (rv : Nat → Int32) (sd : Nat → Int32) (gm : Nat → Int32) (ca : Nat → Int32) (hN : N = 4 ∨ N = 6) : Met l yX1_seasonLength wsX1_seasonLength ({ frames := 0, cells := 0, slots := 0, locals := 0 }) (zr_P D E [.ref h0] [(h0, .inr (0, [.int (nI N), .ref h1, .ref h2, .ref h3, .ref h4, .ref h5, .ref h6])), (h1, .inl (E 0, 15, .inl hm)), (h2, .inl (E 0, 15, .inl aw)), (h3, .inl (E 0, 30, .inl rv)), (h4, .inl (E 0, 30, .inl sd)), (h5, .inl (E 0, 30, .inl gm)), (h6, .inl (E 0, 36, .inl ca))]) (zr_Qi (fun zv => zv = nI (2 * (N - 1)))) 0 0 (fun _ => False) := by
  refine Met.ofW (cc := cX1_seasonLength) (maxL := 1) (ret := (some .int)) (by decide) rfl ?_
  intro p e s m args below meth c s₁ Bz hml hv
  obtain ⟨rfl, hP, hK⟩ := hv
  have hx := Bz.exec
  have hb := Bz.bytes
  have hr := Bz.returns
  have hts := atoms_spec (ws := wsX1_seasonLength) Bz.pre
  have hown : s.vm.findClass RX1 = some m.cls := findClass_of_methodNamed Bz.named
  have hlocks := Bz.notSynchronized
  have hP : va_P D vwCl [(h0, .inr (0, [.int (nI N), .ref h1, .ref h2, .ref h3, .ref h4, .ref h5, .ref h6])), (h1, .inl (E 0, 15, .inl hm)), (h2, .inl (E 0, 15, .inl aw)), (h3, .inl (E 0, 30, .inl rv)), (h4, .inl (E 0, 30, .inl sd)), (h5, .inl (E 0, 30, .inl gm)), (h6, .inl (E 0, 36, .inl ca))] s.heap := hP
  have hS : va_S (fun _ : Nat => False) s.heap s.heap [] := va_S.rf
  have hl := lv_entry ([.ref h0]) (n := 1) (Nat.le_of_ble_eq_true rfl)
  rw [lg_entry_eq]
  generalize (lg_sl ([.ref h0]) ++ List.replicate (1 - (lg_sl ([.ref h0])).length) Slot.unset).toArray = ls at hl ⊢
  have hl : lv_has ls 1 [(0, .ref h0)] := hl
  refine zr_nQ (fun Q hQ => ?_)
  refine lv_iconst (v := nI 2) hx hb dX1_seasonLength_0 (by rfl) ?_
  refine lv_aload_n hx hb dX1_seasonLength_1 rfl (lv_at hl 0 rfl) ?_
  refine va_get (D := D) (ci := 0) (v := .int (nI N)) (C := RX1) (T := TX1) (N := 7) hx hb hts (by decide +kernel) hown hK.1 hP 0 rfl rfl 0 (by decide) (hts (.fieldLink RX1 30 "HomeRounds$Plan" "n" "I") (by decide +kernel)) (fun _ h9 => h9) rfl dX1_seasonLength_2 ?_
  refine lv_iconst (v := nI 1) hx hb dX1_seasonLength_5 (by rfl) ?_
  refine lv_isub hx hb dX1_seasonLength_6 ?_
  refine zr_ti (y := nI (N - 1)) (pk_sub (by omega)) ?_
  refine lv_imul hx hb dX1_seasonLength_7 ?_
  refine zr_ti (y := nI (2 * (N - 1))) (pk_mul _ _) ?_
  subst hQ
  exact W.iret (v := nI (2 * (N - 1))) hx hb hr (fun tz htz hWz => ⟨⟨nI (2 * (N - 1)), (), rfl, rfl, trivial⟩, hS.F htz⟩) hS.2.2 dX1_seasonLength_8

set_option maxHeartbeats 4000000 in
set_option maxRecDepth 100000 in
theorem c_X1_hasSeasonRound (l : Launch) (D : va_G) (E : Nat → ClassId) (h0 : Nat) (h1 : Nat) (h2 : Nat) (h3 : Nat) (h4 : Nat) (h5 : Nat) (h6 : Nat) (N : Nat) (hm : Nat → Int32) (aw : Nat → Int32) (rv : Nat → Int32) (sd : Nat → Int32) (gm : Nat → Int32) (ca : Nat → Int32) (v : Int32) (hN : N = 4 ∨ N = 6) : Met l yX1_hasSeasonRound wsX1_hasSeasonRound ({ frames := 1, cells := 0, slots := 0, locals := 20 }) (zr_P D E [.ref h0, .int v] [(h0, .inr (0, [.int (nI N), .ref h1, .ref h2, .ref h3, .ref h4, .ref h5, .ref h6])), (h1, .inl (E 0, 15, .inl hm)), (h2, .inl (E 0, 15, .inl aw)), (h3, .inl (E 0, 30, .inl rv)), (h4, .inl (E 0, 30, .inl sd)), (h5, .inl (E 0, 30, .inl gm)), (h6, .inl (E 0, 36, .inl ca))]) (zr_Qi (fun zv => (zv = 1 ∧ (∃ t : Nat, t < 2 * (N - 1) ∧ v = nI t)) ∨ (zv = 0 ∧ (∀ t : Nat, t < 2 * (N - 1) → v ≠ nI t)))) 0 0 (fun _ => False) := by
  refine Met.ofW (cc := cX1_hasSeasonRound) (maxL := 2) (ret := (some .boolean)) (by decide) rfl ?_
  intro p e s m args below meth c s₁ Bz hml hv
  obtain ⟨rfl, hP, hK⟩ := hv
  have hx := Bz.exec
  have hb := Bz.bytes
  have hr := Bz.returns
  have hts := atoms_spec (ws := wsX1_hasSeasonRound) Bz.pre
  have hown : s.vm.findClass RX1 = some m.cls := findClass_of_methodNamed Bz.named
  have hlocks := Bz.notSynchronized
  have hP : va_P D vwCl [(h0, .inr (0, [.int (nI N), .ref h1, .ref h2, .ref h3, .ref h4, .ref h5, .ref h6])), (h1, .inl (E 0, 15, .inl hm)), (h2, .inl (E 0, 15, .inl aw)), (h3, .inl (E 0, 30, .inl rv)), (h4, .inl (E 0, 30, .inl sd)), (h5, .inl (E 0, 30, .inl gm)), (h6, .inl (E 0, 36, .inl ca))] s.heap := hP
  have hS : va_S (fun _ : Nat => False) s.heap s.heap [] := va_S.rf
  have hl := lv_entry ([.ref h0, .int v]) (n := 2) (Nat.le_of_ble_eq_true rfl)
  rw [lg_entry_eq]
  generalize (lg_sl ([.ref h0, .int v]) ++ List.replicate (2 - (lg_sl ([.ref h0, .int v])).length) Slot.unset).toArray = ls at hl ⊢
  have hl : lv_has ls 2 [(0, .ref h0), (1, .int v)] := hl
  refine zr_nQ (fun Q hQ => ?_)
  refine lv_iload_n hx hb dX1_hasSeasonRound_0 rfl (lv_at hl 1 rfl) ?_
  refine lv_if_lt (tgt := 16) hx hb dX1_hasSeasonRound_1 (by decide) (fun cn_1 => ?_) (fun cn_1 => ?_)
  · skip
    have hno := zn_lo (n := 2 * (N - 1)) cn_1 (by omega)
    refine lv_iconst (v := nI 0) hx hb dX1_hasSeasonRound_16 (by rfl) ?_
    subst hQ
    exact W.zret (v := nI 0) hx hb hr (by decide) (fun tz htz hWz => ⟨⟨nI 0, (), rfl, Or.inr ⟨rfl, hno⟩, trivial⟩, hS.F htz⟩) hS.2.2 dX1_hasSeasonRound_17
  · skip
    have hge := cn_1
    refine lv_iload_n hx hb dX1_hasSeasonRound_4 rfl (lv_at hl 1 rfl) ?_
    refine lv_aload_n hx hb dX1_hasSeasonRound_5 rfl (lv_at hl 0 rfl) ?_
    refine zr_ci hP hS (va_runV (As := []) (rest := [.int v]) ⟨hx, hb, hml, hown, hts⟩ (c_X1_seasonLength l D E h0 h1 h2 h3 h4 h5 h6 N hm aw rv sd gm ca (hN)) (cwV 0 hts gX1_hasSeasonRound_X1_seasonLength rfl rfl rfl (by decide +kernel) ⟨Nat.le_of_ble_eq_true rfl, Nat.le_of_ble_eq_true rfl⟩) (zr_V hK (hP.sub (ws' := [(h0, .inr (0, [.int (nI N), .ref h1, .ref h2, .ref h3, .ref h4, .ref h5, .ref h6])), (h1, .inl (E 0, 15, .inl hm)), (h2, .inl (E 0, 15, .inl aw)), (h3, .inl (E 0, 30, .inl rv)), (h4, .inl (E 0, 30, .inl sd)), (h5, .inl (E 0, 30, .inl gm)), (h6, .inl (E 0, 36, .inl ca))]) [0, 1, 2, 3, 4, 5, 6] rfl) (ci := 0) (q0 := 0) rfl rfl) rfl rfl hl.1 rfl (lv_room (Nat.le_of_ble_eq_true rfl)) dX1_hasSeasonRound_6 ⟨Nat.zero_le _, Nat.zero_le _⟩) (fun r_2 H locs hw_3 hP hS => ?_)
    subst hw_3
    refine lv_icmp_ge (tgt := 16) hx hb dX1_hasSeasonRound_9 (by decide) (fun cn_4 => ?_) (fun cn_4 => ?_)
    · skip
      have hno := zn_hi cn_4 (by omega)
      refine lv_iconst (v := nI 0) hx hb dX1_hasSeasonRound_16 (by rfl) ?_
      subst hQ
      exact W.zret (v := nI 0) hx hb hr (by decide) (fun tz htz hWz => ⟨⟨nI 0, (), rfl, Or.inr ⟨rfl, hno⟩, trivial⟩, hS.F htz⟩) hS.2.2 dX1_hasSeasonRound_17
    · skip
      have hye := zn_in hge cn_4 (by omega)
      refine lv_iconst (v := nI 1) hx hb dX1_hasSeasonRound_12 (by rfl) ?_
      refine lv_goto (tgt := 17) hx hb dX1_hasSeasonRound_13 (by decide) ?_
      subst hQ
      exact W.zret (v := nI 1) hx hb hr (by decide) (fun tz htz hWz => ⟨⟨nI 1, (), rfl, Or.inl ⟨rfl, hye⟩, trivial⟩, hS.F htz⟩) hS.2.2 dX1_hasSeasonRound_17

set_option maxHeartbeats 4000000 in
set_option maxRecDepth 100000 in
theorem c_X1_halfRound (l : Launch) (D : va_G) (E : Nat → ClassId) (h0 : Nat) (h1 : Nat) (h2 : Nat) (h3 : Nat) (h4 : Nat) (h5 : Nat) (h6 : Nat) (N : Nat) (hm : Nat → Int32) (aw : Nat → Int32) (rv : Nat → Int32) (sd : Nat → Int32) (gm : Nat → Int32) (ca : Nat → Int32) (G : Nat → Nat → Nat) (P : Nat → Nat → Nat) (r : Nat) (kd : Nat) (hpl : zm_pl N G P hm aw rv sd gm) (hr0 : r < 2 * (N - 1)) (hkd : kd < 3) : Met l yX1_halfRound wsX1_halfRound ({ frames := 0, cells := 0, slots := 0, locals := 0 }) (zr_P D E [.ref h0, .int (nI r), .int (nI kd)] [(h0, .inr (0, [.int (nI N), .ref h1, .ref h2, .ref h3, .ref h4, .ref h5, .ref h6])), (h1, .inl (E 0, 15, .inl hm)), (h2, .inl (E 0, 15, .inl aw)), (h3, .inl (E 0, 30, .inl rv)), (h4, .inl (E 0, 30, .inl sd)), (h5, .inl (E 0, 30, .inl gm)), (h6, .inl (E 0, 36, .inl ca))]) (zr_Qi (fun zv => zv = nI (zm_half N kd r))) 0 0 (fun _ => False) := by
  refine Met.ofW (cc := cX1_halfRound) (maxL := 5) (ret := (some .int)) (by decide) rfl ?_
  intro p e s m args below meth c s₁ Bz hml hv
  obtain ⟨rfl, hP, hK⟩ := hv
  have hx := Bz.exec
  have hb := Bz.bytes
  have hr := Bz.returns
  have hts := atoms_spec (ws := wsX1_halfRound) Bz.pre
  have hown : s.vm.findClass RX1 = some m.cls := findClass_of_methodNamed Bz.named
  have hlocks := Bz.notSynchronized
  have hP : va_P D vwCl [(h0, .inr (0, [.int (nI N), .ref h1, .ref h2, .ref h3, .ref h4, .ref h5, .ref h6])), (h1, .inl (E 0, 15, .inl hm)), (h2, .inl (E 0, 15, .inl aw)), (h3, .inl (E 0, 30, .inl rv)), (h4, .inl (E 0, 30, .inl sd)), (h5, .inl (E 0, 30, .inl gm)), (h6, .inl (E 0, 36, .inl ca))] s.heap := hP
  have hS : va_S (fun _ : Nat => False) s.heap s.heap [] := va_S.rf
  have hl := lv_entry ([.ref h0, .int (nI r), .int (nI kd)]) (n := 5) (Nat.le_of_ble_eq_true rfl)
  rw [lg_entry_eq]
  generalize (lg_sl ([.ref h0, .int (nI r), .int (nI kd)]) ++ List.replicate (5 - (lg_sl ([.ref h0, .int (nI r), .int (nI kd)])).length) Slot.unset).toArray = ls at hl ⊢
  have hl : lv_has ls 5 [(0, .ref h0), (1, .int (nI r)), (2, .int (nI kd))] := hl
  refine zr_nQ (fun Q hQ => ?_)
  have hN := hpl.1.1
  refine lv_aload_n hx hb dX1_halfRound_0 rfl (lv_at hl 0 rfl) ?_
  refine va_get (D := D) (ci := 0) (v := .int (nI N)) (C := RX1) (T := TX1) (N := 7) hx hb hts (by decide +kernel) hown hK.1 hP 0 rfl rfl 0 (by decide) (hts (.fieldLink RX1 30 "HomeRounds$Plan" "n" "I") (by decide +kernel)) (fun _ h9 => h9) rfl dX1_halfRound_1 ?_
  refine lv_iconst (v := nI 2) hx hb dX1_halfRound_4 (by rfl) ?_
  refine lv_isub hx hb dX1_halfRound_5 ?_
  refine zr_ti (y := nI (N - 2)) (pk_sub (by omega)) ?_
  refine lv_istore_n (lv' := [(3, .int (nI (N - 2))), (0, .ref h0), (1, .int (nI r)), (2, .int (nI kd))]) hx hb dX1_halfRound_6 rfl hl (by decide) rfl (fun ls hl => ?_)
  refine lv_iload_n hx hb dX1_halfRound_7 rfl (lv_at hl 2 rfl) ?_
  refine lv_aload_n hx hb dX1_halfRound_8 rfl (lv_at hl 1 rfl) ?_
  refine va_get (D := D) (ci := 0) (v := .int (nI N)) (C := RX1) (T := TX1) (N := 7) hx hb hts (by decide +kernel) hown hK.1 hP 0 rfl rfl 0 (by decide) (hts (.fieldLink RX1 30 "HomeRounds$Plan" "n" "I") (by decide +kernel)) (fun _ h9 => h9) rfl dX1_halfRound_9 ?_
  refine lv_iconst (v := nI 1) hx hb dX1_halfRound_12 (by rfl) ?_
  refine lv_isub hx hb dX1_halfRound_13 ?_
  refine zr_ti (y := nI (N - 1)) (pk_sub (by omega)) ?_
  refine lv_isub hx hb dX1_halfRound_14 ?_
  rcases Nat.lt_or_ge (r) (N - 1) with hlt | hge
  · skip
    refine lv_istore (lv' := [(4, .int ((nI r) - (nI (N - 1)))), (3, .int (nI (N - 2))), (0, .ref h0), (1, .int (nI r)), (2, .int (nI kd))]) hx hb dX1_halfRound_15 hl (by decide) rfl (fun ls hl => ?_)
    refine lv_iload hx hb dX1_halfRound_17 (lv_at hl 0 rfl) ?_
    refine lv_if_ge (tgt := 24) hx hb dX1_halfRound_19 (by decide) (fun cn_1 => ?_) (fun cn_1 => ?_)
    · skip
      exact absurd cn_1 (zn_sneg (by omega) hlt)
    · skip
      refine lv_iload_n hx hb dX1_halfRound_22 rfl (lv_at hl 3 rfl) ?_
      have hz : nI r = nI (zm_half N kd r) := by
        unfold zm_half; repeat' split
        all_goals first | rfl | (congr 1; omega) | (exfalso; omega)
      subst hQ
      exact W.iret (v := nI r) hx hb hr (fun tz htz hWz => ⟨⟨nI r, (), rfl, hz, trivial⟩, hS.F htz⟩) hS.2.2 dX1_halfRound_23
  · skip
    refine zr_ti (y := nI (r - (N - 1))) (pk_sub hge) ?_
    refine lv_istore (lv' := [(4, .int (nI (r - (N - 1)))), (3, .int (nI (N - 2))), (0, .ref h0), (1, .int (nI r)), (2, .int (nI kd))]) hx hb dX1_halfRound_15 hl (by decide) rfl (fun ls hl => ?_)
    refine lv_iload hx hb dX1_halfRound_17 (lv_at hl 0 rfl) ?_
    refine lv_if_ge (tgt := 24) hx hb dX1_halfRound_19 (by decide) (fun cn_2 => ?_) (fun cn_2 => ?_)
    · skip
      have cn_2 : 0 ≤ r - (N - 1) := (nI_leI (a := 0) (b := r - (N - 1)) (by omega) (by omega)).mp cn_2
      refine lv_iload_n hx hb dX1_halfRound_24 rfl (lv_at hl 4 rfl) ?_
      refine lv_if_ne (tgt := 31) hx hb dX1_halfRound_25 (by decide) (fun cn_3 => ?_) (fun cn_3 => ?_)
      · skip
        have cn_3 : ¬ (kd = 0) := fun hz => cn_3 ((nI_eq (a := kd) (b := 0) (by omega) (by omega)).mpr hz)
        refine lv_iload_n hx hb dX1_halfRound_31 rfl (lv_at hl 4 rfl) ?_
        refine lv_iconst (v := nI 1) hx hb dX1_halfRound_32 (by rfl) ?_
        refine lv_icmp_ne (tgt := 41) hx hb dX1_halfRound_33 (by decide) (fun cn_4 => ?_) (fun cn_4 => ?_)
        · skip
          have cn_4 : ¬ (kd = 1) := fun hz => cn_4 ((nI_eq (a := kd) (b := 1) (by omega) (by omega)).mpr hz)
          refine lv_iload hx hb dX1_halfRound_41 (lv_at hl 0 rfl) ?_
          refine lv_if_ne (tgt := 50) hx hb dX1_halfRound_43 (by decide) (fun cn_5 => ?_) (fun cn_5 => ?_)
          · skip
            have cn_5 : ¬ (r - (N - 1) = 0) := fun hz => cn_5 ((nI_eq (a := r - (N - 1)) (b := 0) (by omega) (by omega)).mpr hz)
            refine lv_iload hx hb dX1_halfRound_50 (lv_at hl 0 rfl) ?_
            refine lv_iconst (v := nI 1) hx hb dX1_halfRound_52 (by rfl) ?_
            refine lv_isub hx hb dX1_halfRound_53 ?_
            refine zr_ti (y := nI ((r - (N - 1)) - 1)) (pk_sub (by omega)) ?_
            have hz : nI ((r - (N - 1)) - 1) = nI (zm_half N kd r) := by
              unfold zm_half; repeat' split
              all_goals first | rfl | (congr 1; omega) | (exfalso; omega)
            subst hQ
            exact W.iret (v := nI ((r - (N - 1)) - 1)) hx hb hr (fun tz htz hWz => ⟨⟨nI ((r - (N - 1)) - 1), (), rfl, hz, trivial⟩, hS.F htz⟩) hS.2.2 dX1_halfRound_54
          · skip
            have cn_5 : r - (N - 1) = 0 := (nI_eq (a := r - (N - 1)) (b := 0) (by omega) (by omega)).mp cn_5
            refine lv_iload_n hx hb dX1_halfRound_46 rfl (lv_at hl 1 rfl) ?_
            refine lv_goto (tgt := 54) hx hb dX1_halfRound_47 (by decide) ?_
            have hz : nI (N - 2) = nI (zm_half N kd r) := by
              unfold zm_half; repeat' split
              all_goals first | rfl | (congr 1; omega) | (exfalso; omega)
            subst hQ
            exact W.iret (v := nI (N - 2)) hx hb hr (fun tz htz hWz => ⟨⟨nI (N - 2), (), rfl, hz, trivial⟩, hS.F htz⟩) hS.2.2 dX1_halfRound_54
        · skip
          have cn_4 : kd = 1 := (nI_eq (a := kd) (b := 1) (by omega) (by omega)).mp cn_4
          refine lv_iload_n hx hb dX1_halfRound_36 rfl (lv_at hl 1 rfl) ?_
          refine lv_iload hx hb dX1_halfRound_37 (lv_at hl 0 rfl) ?_
          refine lv_isub hx hb dX1_halfRound_39 ?_
          refine zr_ti (y := nI ((N - 2) - (r - (N - 1)))) (pk_sub (by omega)) ?_
          have hz : nI ((N - 2) - (r - (N - 1))) = nI (zm_half N kd r) := by
            unfold zm_half; repeat' split
            all_goals first | rfl | (congr 1; omega) | (exfalso; omega)
          subst hQ
          exact W.iret (v := nI ((N - 2) - (r - (N - 1)))) hx hb hr (fun tz htz hWz => ⟨⟨nI ((N - 2) - (r - (N - 1))), (), rfl, hz, trivial⟩, hS.F htz⟩) hS.2.2 dX1_halfRound_40
      · skip
        have cn_3 : kd = 0 := (nI_eq (a := kd) (b := 0) (by omega) (by omega)).mp cn_3
        refine lv_iload hx hb dX1_halfRound_28 (lv_at hl 0 rfl) ?_
        have hz : nI (r - (N - 1)) = nI (zm_half N kd r) := by
          unfold zm_half; repeat' split
          all_goals first | rfl | (congr 1; omega) | (exfalso; omega)
        subst hQ
        exact W.iret (v := nI (r - (N - 1))) hx hb hr (fun tz htz hWz => ⟨⟨nI (r - (N - 1)), (), rfl, hz, trivial⟩, hS.F htz⟩) hS.2.2 dX1_halfRound_30
    · skip
      have cn_2 : ¬ (0 ≤ r - (N - 1)) := fun hz => cn_2 ((nI_leI (a := 0) (b := r - (N - 1)) (by omega) (by omega)).mpr hz)
      refine lv_iload_n hx hb dX1_halfRound_22 rfl (lv_at hl 3 rfl) ?_
      have hz : nI r = nI (zm_half N kd r) := by
        unfold zm_half; repeat' split
        all_goals first | rfl | (congr 1; omega) | (exfalso; omega)
      subst hQ
      exact W.iret (v := nI r) hx hb hr (fun tz htz hWz => ⟨⟨nI r, (), rfl, hz, trivial⟩, hS.F htz⟩) hS.2.2 dX1_halfRound_23

set_option maxHeartbeats 4000000 in
set_option maxRecDepth 100000 in
theorem c_X1_seasonSide (l : Launch) (D : va_G) (E : Nat → ClassId) (h0 : Nat) (h1 : Nat) (h2 : Nat) (h3 : Nat) (h4 : Nat) (h5 : Nat) (h6 : Nat) (N : Nat) (hm : Nat → Int32) (aw : Nat → Int32) (rv : Nat → Int32) (sd : Nat → Int32) (gm : Nat → Int32) (ca : Nat → Int32) (G : Nat → Nat → Nat) (P : Nat → Nat → Nat) (t : Nat) (r : Nat) (kd : Nat) (hpl : zm_pl N G P hm aw rv sd gm) (ht : t < N) (hr0 : r < 2 * (N - 1)) (hkd : kd < 3) : Met l yX1_seasonSide wsX1_seasonSide ({ frames := 2, cells := 0, slots := 0, locals := 44 }) (zr_P D E [.ref h0, .int (nI t), .int (nI r), .int (nI kd)] [(h0, .inr (0, [.int (nI N), .ref h1, .ref h2, .ref h3, .ref h4, .ref h5, .ref h6])), (h1, .inl (E 0, 15, .inl hm)), (h2, .inl (E 0, 15, .inl aw)), (h3, .inl (E 0, 30, .inl rv)), (h4, .inl (E 0, 30, .inl sd)), (h5, .inl (E 0, 30, .inl gm)), (h6, .inl (E 0, 36, .inl ca))]) (zr_Qi (fun zv => zv = nI (zm_ss N P kd t r))) 0 0 (fun _ => False) := by
  refine Met.ofW (cc := cX1_seasonSide) (maxL := 5) (ret := (some .int)) (by decide) rfl ?_
  intro p e s m args below meth c s₁ Bz hml hv
  obtain ⟨rfl, hP, hK⟩ := hv
  have hx := Bz.exec
  have hb := Bz.bytes
  have hr := Bz.returns
  have hts := atoms_spec (ws := wsX1_seasonSide) Bz.pre
  have hown : s.vm.findClass RX1 = some m.cls := findClass_of_methodNamed Bz.named
  have hlocks := Bz.notSynchronized
  have hP : va_P D vwCl [(h0, .inr (0, [.int (nI N), .ref h1, .ref h2, .ref h3, .ref h4, .ref h5, .ref h6])), (h1, .inl (E 0, 15, .inl hm)), (h2, .inl (E 0, 15, .inl aw)), (h3, .inl (E 0, 30, .inl rv)), (h4, .inl (E 0, 30, .inl sd)), (h5, .inl (E 0, 30, .inl gm)), (h6, .inl (E 0, 36, .inl ca))] s.heap := hP
  have hS : va_S (fun _ : Nat => False) s.heap s.heap [] := va_S.rf
  have hl := lv_entry ([.ref h0, .int (nI t), .int (nI r), .int (nI kd)]) (n := 5) (Nat.le_of_ble_eq_true rfl)
  rw [lg_entry_eq]
  generalize (lg_sl ([.ref h0, .int (nI t), .int (nI r), .int (nI kd)]) ++ List.replicate (5 - (lg_sl ([.ref h0, .int (nI t), .int (nI r), .int (nI kd)])).length) Slot.unset).toArray = ls at hl ⊢
  have hl : lv_has ls 5 [(0, .ref h0), (1, .int (nI t)), (2, .int (nI r)), (3, .int (nI kd))] := hl
  refine zr_nQ (fun Q hQ => ?_)
  have hN := hpl.1.1
  have hh := zm_half_lt (kd := kd) hN hr0
  have hs1 := zm_sd_lt (P := P) (t := t) (r := zm_half N kd r)
  refine lv_aload_n hx hb dX1_seasonSide_0 rfl (lv_at hl 0 rfl) ?_
  refine lv_iload_n hx hb dX1_seasonSide_1 rfl (lv_at hl 1 rfl) ?_
  refine lv_aload_n hx hb dX1_seasonSide_2 rfl (lv_at hl 0 rfl) ?_
  refine lv_iload_n hx hb dX1_seasonSide_3 rfl (lv_at hl 2 rfl) ?_
  refine lv_iload_n hx hb dX1_seasonSide_4 rfl (lv_at hl 3 rfl) ?_
  refine zr_ci hP hS (va_runV (As := [.int (nI r), .int (nI kd)]) (rest := [.int (nI t), .ref h0]) ⟨hx, hb, hml, hown, hts⟩ (c_X1_halfRound l D E h0 h1 h2 h3 h4 h5 h6 N hm aw rv sd gm ca G P r kd (hpl) (by omega) (by omega)) (cwV 2 hts gX1_seasonSide_X1_halfRound rfl rfl rfl (by decide +kernel) ⟨Nat.le_of_ble_eq_true rfl, Nat.le_of_ble_eq_true rfl⟩) (zr_V hK (hP.sub (ws' := [(h0, .inr (0, [.int (nI N), .ref h1, .ref h2, .ref h3, .ref h4, .ref h5, .ref h6])), (h1, .inl (E 0, 15, .inl hm)), (h2, .inl (E 0, 15, .inl aw)), (h3, .inl (E 0, 30, .inl rv)), (h4, .inl (E 0, 30, .inl sd)), (h5, .inl (E 0, 30, .inl gm)), (h6, .inl (E 0, 36, .inl ca))]) [0, 1, 2, 3, 4, 5, 6] rfl) (ci := 0) (q0 := 0) rfl rfl) rfl rfl hl.1 rfl (lv_room (Nat.le_of_ble_eq_true rfl)) dX1_seasonSide_5 ⟨Nat.zero_le _, Nat.zero_le _⟩) (fun r_1 H locs hw_2 hP hS => ?_)
  subst hw_2
  refine zr_ci hP hS (va_runV (As := [.int (nI t), .int (nI (zm_half N kd r))]) (rest := []) ⟨hx, hb, hml, hown, hts⟩ (c_X1_sideOf l D E h0 h1 h2 h3 h4 h5 h6 N hm aw rv sd gm ca G P t (zm_half N kd r) (hpl) (by omega) (by omega)) (cwV 2 hts gX1_seasonSide_X1_sideOf rfl rfl rfl (by decide +kernel) ⟨Nat.le_of_ble_eq_true rfl, Nat.le_of_ble_eq_true rfl⟩) (zr_V hK (hP.sub (ws' := [(h0, .inr (0, [.int (nI N), .ref h1, .ref h2, .ref h3, .ref h4, .ref h5, .ref h6])), (h1, .inl (E 0, 15, .inl hm)), (h2, .inl (E 0, 15, .inl aw)), (h3, .inl (E 0, 30, .inl rv)), (h4, .inl (E 0, 30, .inl sd)), (h5, .inl (E 0, 30, .inl gm)), (h6, .inl (E 0, 36, .inl ca))]) [0, 1, 2, 3, 4, 5, 6] rfl) (ci := 0) (q0 := 0) rfl rfl) rfl rfl hl.1 rfl (lv_room (Nat.le_of_ble_eq_true rfl)) dX1_seasonSide_8 ⟨Nat.zero_le _, Nat.zero_le _⟩) (fun r_3 H locs hw_4 hP hS => ?_)
  subst hw_4
  refine lv_istore (lv' := [(4, .int (nI (zm_sd P t (zm_half N kd r)))), (0, .ref h0), (1, .int (nI t)), (2, .int (nI r)), (3, .int (nI kd))]) hx hb dX1_seasonSide_11 hl (by decide) rfl (fun ls hl => ?_)
  refine lv_iload_n hx hb dX1_seasonSide_13 rfl (lv_at hl 3 rfl) ?_
  refine lv_aload_n hx hb dX1_seasonSide_14 rfl (lv_at hl 1 rfl) ?_
  refine va_get (D := D) (ci := 0) (v := .int (nI N)) (C := RX1) (T := TX1) (N := 7) hx hb hts (by decide +kernel) hown hK.1 hP 0 rfl rfl 0 (by decide) (hts (.fieldLink RX1 30 "HomeRounds$Plan" "n" "I") (by decide +kernel)) (fun _ h9 => h9) rfl dX1_seasonSide_15 ?_
  refine lv_iconst (v := nI 1) hx hb dX1_seasonSide_18 (by rfl) ?_
  refine lv_isub hx hb dX1_seasonSide_19 ?_
  refine zr_ti (y := nI (N - 1)) (pk_sub (by omega)) ?_
  refine lv_icmp_ge (tgt := 28) hx hb dX1_seasonSide_20 (by decide) (fun cn_5 => ?_) (fun cn_5 => ?_)
  · skip
    have cn_5 : N - 1 ≤ r := (nI_leI (a := N - 1) (b := r) (by omega) (by omega)).mp cn_5
    have hbr := cn_5
    refine lv_iconst (v := nI 1) hx hb dX1_seasonSide_28 (by rfl) ?_
    refine lv_iload hx hb dX1_seasonSide_29 (lv_at hl 0 rfl) ?_
    refine lv_isub hx hb dX1_seasonSide_31 ?_
    refine zr_ti (y := nI (1 - (zm_sd P t (zm_half N kd r)))) (pk_sub (by omega)) ?_
    subst hQ
    exact W.iret (v := nI (1 - (zm_sd P t (zm_half N kd r)))) hx hb hr (fun tz htz hWz => ⟨⟨nI (1 - (zm_sd P t (zm_half N kd r))), (), rfl, by unfold zm_ss; split <;> first | rfl | (exfalso; omega), trivial⟩, hS.F htz⟩) hS.2.2 dX1_seasonSide_32
  · skip
    have cn_5 : ¬ (N - 1 ≤ r) := fun hz => cn_5 ((nI_leI (a := N - 1) (b := r) (by omega) (by omega)).mpr hz)
    have hbr := cn_5
    refine lv_iload hx hb dX1_seasonSide_23 (lv_at hl 0 rfl) ?_
    refine lv_goto (tgt := 32) hx hb dX1_seasonSide_25 (by decide) ?_
    subst hQ
    exact W.iret (v := nI (zm_sd P t (zm_half N kd r))) hx hb hr (fun tz htz hWz => ⟨⟨nI (zm_sd P t (zm_half N kd r)), (), rfl, by unfold zm_ss; split <;> first | rfl | (exfalso; omega), trivial⟩, hS.F htz⟩) hS.2.2 dX1_seasonSide_32

set_option maxHeartbeats 4000000 in
set_option maxRecDepth 100000 in
theorem c_X1_seasonBreaks (l : Launch) (D : va_G) (E : Nat → ClassId) (h0 : Nat) (h1 : Nat) (h2 : Nat) (h3 : Nat) (h4 : Nat) (h5 : Nat) (h6 : Nat) (N : Nat) (hm : Nat → Int32) (aw : Nat → Int32) (rv : Nat → Int32) (sd : Nat → Int32) (gm : Nat → Int32) (ca : Nat → Int32) (G : Nat → Nat → Nat) (P : Nat → Nat → Nat) (t : Nat) (kd : Nat) (hpl : zm_pl N G P hm aw rv sd gm) (ht : t < N) (hkd : kd < 3) : Met l yX1_seasonBreaks wsX1_seasonBreaks ({ frames := 3, cells := 0, slots := 0, locals := 68 }) (zr_P D E [.ref h0, .int (nI t), .int (nI kd)] [(h0, .inr (0, [.int (nI N), .ref h1, .ref h2, .ref h3, .ref h4, .ref h5, .ref h6])), (h1, .inl (E 0, 15, .inl hm)), (h2, .inl (E 0, 15, .inl aw)), (h3, .inl (E 0, 30, .inl rv)), (h4, .inl (E 0, 30, .inl sd)), (h5, .inl (E 0, 30, .inl gm)), (h6, .inl (E 0, 36, .inl ca))]) (zr_Qi (fun zv => zv = nI (zm_sb N P kd t))) 0 0 (fun _ => False) := by
  refine Met.ofW (cc := cX1_seasonBreaks) (maxL := 5) (ret := (some .int)) (by decide) rfl ?_
  intro p e s m args below meth c s₁ Bz hml hv
  obtain ⟨rfl, hP, hK⟩ := hv
  have hx := Bz.exec
  have hb := Bz.bytes
  have hr := Bz.returns
  have hts := atoms_spec (ws := wsX1_seasonBreaks) Bz.pre
  have hown : s.vm.findClass RX1 = some m.cls := findClass_of_methodNamed Bz.named
  have hlocks := Bz.notSynchronized
  have hP : va_P D vwCl [(h0, .inr (0, [.int (nI N), .ref h1, .ref h2, .ref h3, .ref h4, .ref h5, .ref h6])), (h1, .inl (E 0, 15, .inl hm)), (h2, .inl (E 0, 15, .inl aw)), (h3, .inl (E 0, 30, .inl rv)), (h4, .inl (E 0, 30, .inl sd)), (h5, .inl (E 0, 30, .inl gm)), (h6, .inl (E 0, 36, .inl ca))] s.heap := hP
  have hS : va_S (fun _ : Nat => False) s.heap s.heap [] := va_S.rf
  have hl := lv_entry ([.ref h0, .int (nI t), .int (nI kd)]) (n := 5) (Nat.le_of_ble_eq_true rfl)
  rw [lg_entry_eq]
  generalize (lg_sl ([.ref h0, .int (nI t), .int (nI kd)]) ++ List.replicate (5 - (lg_sl ([.ref h0, .int (nI t), .int (nI kd)])).length) Slot.unset).toArray = ls at hl ⊢
  have hl : lv_has ls 5 [(0, .ref h0), (1, .int (nI t)), (2, .int (nI kd))] := hl
  refine zr_nQ (fun Q hQ => ?_)
  have hN := hpl.1.1
  refine lv_iconst (v := nI 0) hx hb dX1_seasonBreaks_0 (by rfl) ?_
  refine lv_istore_n (lv' := [(3, .int (nI 0)), (0, .ref h0), (1, .int (nI t)), (2, .int (nI kd))]) hx hb dX1_seasonBreaks_1 rfl hl (by decide) rfl (fun ls hl => ?_)
  refine lv_iconst (v := nI 0) hx hb dX1_seasonBreaks_2 (by rfl) ?_
  refine lv_istore (lv' := [(4, .int (nI 0)), (3, .int (nI 0)), (0, .ref h0), (1, .int (nI t)), (2, .int (nI kd))]) hx hb dX1_seasonBreaks_3 hl (by decide) rfl (fun ls hl => ?_)
  suffices KL5 : ∀ (kz : Nat) (i : Nat) (q : Nat) (H : Heap) (locs : List Loc) (ls : Array Slot), (20 - i) < kz → (q = zm_sum (zm_sbf N P kd t) i) → (i ≤ 2 * (N - 1) - 1) → (q ≤ i) → va_P D vwCl [(h0, .inr (0, [.int (nI N), .ref h1, .ref h2, .ref h3, .ref h4, .ref h5, .ref h6])), (h1, .inl (E 0, 15, .inl hm)), (h2, .inl (E 0, 15, .inl aw)), (h3, .inl (E 0, 30, .inl rv)), (h4, .inl (E 0, 30, .inl sd)), (h5, .inl (E 0, 30, .inl gm)), (h6, .inl (E 0, 36, .inl ca))] H → va_S (fun _ : Nat => False) s.heap H locs → lv_has ls 5 [(0, .ref h0), (1, .int (nI t)), (2, .int (nI kd)), (3, .int (nI q)), (4, .int (nI i))] → W p l e (headSpec wsX1_seasonBreaks ({ frames := 3, cells := 0, slots := 0, locals := 68 })).room s m ([.ref h0, .int (nI t), .int (nI kd)] : List Value).toArray below meth c H locs 0 0 Q (F0 m 5 ls []) from
    KL5 _ 0 0 _ _ ls (Nat.lt_succ_self _) (rfl) (by omega) (by omega) hP hS (lv_sub hl [2, 3, 4, 1, 0] rfl)
  clear hP hS hl
  intro kz
  induction kz with
  | zero => intro i q H locs ls hkz; exact absurd hkz (Nat.not_lt_zero _)
  | succ kz ih5 =>
    intro i q H locs ls hkz hq hi hqi hP hS hl
    have hs1 := zm_ss_lt (N := N) (kd := kd) (P := P) (t := t) (r := i)
    have hs2 := zm_ss_lt (N := N) (kd := kd) (P := P) (t := t) (r := i + 1)
    refine lv_iload hx hb dX1_seasonBreaks_5 (lv_at hl 4 rfl) ?_
    refine lv_iconst (v := nI 1) hx hb dX1_seasonBreaks_7 (by rfl) ?_
    refine lv_iadd hx hb dX1_seasonBreaks_8 ?_
    refine zr_ti (y := nI (i + 1)) (nI_add _ _) ?_
    refine lv_aload_n hx hb dX1_seasonBreaks_9 rfl (lv_at hl 0 rfl) ?_
    refine zr_ci hP hS (va_runV (As := []) (rest := [.int (nI (i + 1))]) ⟨hx, hb, hml, hown, hts⟩ (c_X1_seasonLength l D E h0 h1 h2 h3 h4 h5 h6 N hm aw rv sd gm ca (hN)) (cwV 0 hts gX1_seasonBreaks_X1_seasonLength rfl rfl rfl (by decide +kernel) ⟨Nat.le_of_ble_eq_true rfl, Nat.le_of_ble_eq_true rfl⟩) (zr_V hK (hP.sub (ws' := [(h0, .inr (0, [.int (nI N), .ref h1, .ref h2, .ref h3, .ref h4, .ref h5, .ref h6])), (h1, .inl (E 0, 15, .inl hm)), (h2, .inl (E 0, 15, .inl aw)), (h3, .inl (E 0, 30, .inl rv)), (h4, .inl (E 0, 30, .inl sd)), (h5, .inl (E 0, 30, .inl gm)), (h6, .inl (E 0, 36, .inl ca))]) [0, 1, 2, 3, 4, 5, 6] rfl) (ci := 0) (q0 := 0) rfl rfl) rfl rfl hl.1 rfl (lv_room (Nat.le_of_ble_eq_true rfl)) dX1_seasonBreaks_10 ⟨Nat.zero_le _, Nat.zero_le _⟩) (fun r_1 H locs hw_2 hP hS => ?_)
    subst hw_2
    refine lv_icmp_ge (tgt := 46) hx hb dX1_seasonBreaks_13 (by decide) (fun cn_3 => ?_) (fun cn_3 => ?_)
    · skip
      have cn_3 : 2 * (N - 1) ≤ i + 1 := (nI_leI (a := 2 * (N - 1)) (b := i + 1) (by omega) (by omega)).mp cn_3
      have hie : i = 2 * (N - 1) - 1 := by omega
      refine lv_iload_n hx hb dX1_seasonBreaks_46 rfl (lv_at hl 3 rfl) ?_
      subst hQ
      exact W.iret (v := nI q) hx hb hr (fun tz htz hWz => ⟨⟨nI q, (), rfl, by rw [hq, hie]; rfl, trivial⟩, hS.F htz⟩) hS.2.2 dX1_seasonBreaks_47
    · skip
      have cn_3 : ¬ (2 * (N - 1) ≤ i + 1) := fun hz => cn_3 ((nI_leI (a := 2 * (N - 1)) (b := i + 1) (by omega) (by omega)).mpr hz)
      refine lv_aload_n hx hb dX1_seasonBreaks_16 rfl (lv_at hl 0 rfl) ?_
      refine lv_iload_n hx hb dX1_seasonBreaks_17 rfl (lv_at hl 1 rfl) ?_
      refine lv_iload hx hb dX1_seasonBreaks_18 (lv_at hl 4 rfl) ?_
      refine lv_iload_n hx hb dX1_seasonBreaks_20 rfl (lv_at hl 2 rfl) ?_
      refine zr_ci hP hS (va_runV (As := [.int (nI t), .int (nI i), .int (nI kd)]) (rest := []) ⟨hx, hb, hml, hown, hts⟩ (c_X1_seasonSide l D E h0 h1 h2 h3 h4 h5 h6 N hm aw rv sd gm ca G P t i kd (hpl) (by omega) (by omega) (by omega)) (cwV 3 hts gX1_seasonBreaks_X1_seasonSide rfl rfl rfl (by decide +kernel) ⟨Nat.le_of_ble_eq_true rfl, Nat.le_of_ble_eq_true rfl⟩) (zr_V hK (hP.sub (ws' := [(h0, .inr (0, [.int (nI N), .ref h1, .ref h2, .ref h3, .ref h4, .ref h5, .ref h6])), (h1, .inl (E 0, 15, .inl hm)), (h2, .inl (E 0, 15, .inl aw)), (h3, .inl (E 0, 30, .inl rv)), (h4, .inl (E 0, 30, .inl sd)), (h5, .inl (E 0, 30, .inl gm)), (h6, .inl (E 0, 36, .inl ca))]) [0, 1, 2, 3, 4, 5, 6] rfl) (ci := 0) (q0 := 0) rfl rfl) rfl rfl hl.1 rfl (lv_room (Nat.le_of_ble_eq_true rfl)) dX1_seasonBreaks_21 ⟨Nat.zero_le _, Nat.zero_le _⟩) (fun r_4 H locs hw_5 hP hS => ?_)
      subst hw_5
      refine lv_aload_n hx hb dX1_seasonBreaks_24 rfl (lv_at hl 0 rfl) ?_
      refine lv_iload_n hx hb dX1_seasonBreaks_25 rfl (lv_at hl 1 rfl) ?_
      refine lv_iload hx hb dX1_seasonBreaks_26 (lv_at hl 4 rfl) ?_
      refine lv_iconst (v := nI 1) hx hb dX1_seasonBreaks_28 (by rfl) ?_
      refine lv_iadd hx hb dX1_seasonBreaks_29 ?_
      refine zr_ti (y := nI (i + 1)) (nI_add _ _) ?_
      refine lv_iload_n hx hb dX1_seasonBreaks_30 rfl (lv_at hl 2 rfl) ?_
      refine zr_ci hP hS (va_runV (As := [.int (nI t), .int (nI (i + 1)), .int (nI kd)]) (rest := [.int (nI (zm_ss N P kd t i))]) ⟨hx, hb, hml, hown, hts⟩ (c_X1_seasonSide l D E h0 h1 h2 h3 h4 h5 h6 N hm aw rv sd gm ca G P t (i + 1) kd (hpl) (by omega) (by omega) (by omega)) (cwV 3 hts gX1_seasonBreaks_X1_seasonSide rfl rfl rfl (by decide +kernel) ⟨Nat.le_of_ble_eq_true rfl, Nat.le_of_ble_eq_true rfl⟩) (zr_V hK (hP.sub (ws' := [(h0, .inr (0, [.int (nI N), .ref h1, .ref h2, .ref h3, .ref h4, .ref h5, .ref h6])), (h1, .inl (E 0, 15, .inl hm)), (h2, .inl (E 0, 15, .inl aw)), (h3, .inl (E 0, 30, .inl rv)), (h4, .inl (E 0, 30, .inl sd)), (h5, .inl (E 0, 30, .inl gm)), (h6, .inl (E 0, 36, .inl ca))]) [0, 1, 2, 3, 4, 5, 6] rfl) (ci := 0) (q0 := 0) rfl rfl) rfl rfl hl.1 rfl (lv_room (Nat.le_of_ble_eq_true rfl)) dX1_seasonBreaks_31 ⟨Nat.zero_le _, Nat.zero_le _⟩) (fun r_6 H locs hw_7 hP hS => ?_)
      subst hw_7
      refine lv_icmp_ne (tgt := 40) hx hb dX1_seasonBreaks_34 (by decide) (fun cn_8 => ?_) (fun cn_8 => ?_)
      · skip
        have cn_8 : ¬ (zm_ss N P kd t i = zm_ss N P kd t (i + 1)) := fun hz => cn_8 ((nI_eq (a := zm_ss N P kd t i) (b := zm_ss N P kd t (i + 1)) (by omega) (by omega)).mpr hz)
        have hbr := cn_8
        refine lv_iinc (v := nI (i + 1)) (lv' := [(4, .int (nI (i + 1))), (0, .ref h0), (1, .int (nI t)), (2, .int (nI kd)), (3, .int (nI q))]) hx hb dX1_seasonBreaks_40 hl (k := 4) rfl (nI_add _ _) (by decide) rfl (fun ls hl => ?_)
        refine lv_goto (tgt := 5) hx hb dX1_seasonBreaks_43 (by decide) ?_
        have hl : lv_has ls 5 [(0, .ref h0), (1, .int (nI t)), (2, .int (nI kd)), (3, .int (nI q)), (4, .int (nI (i + 1)))] := lv_sub hl [1, 2, 3, 4, 0] rfl
        exact ih5 (i + 1) q H locs ls (by omega) (by simp only [zm_sum, zm_sbf, hbr, hq]; first | rfl | simp) (by omega) (by omega) hP hS hl
      · skip
        have cn_8 : zm_ss N P kd t i = zm_ss N P kd t (i + 1) := (nI_eq (a := zm_ss N P kd t i) (b := zm_ss N P kd t (i + 1)) (by omega) (by omega)).mp cn_8
        have hbr := cn_8
        refine lv_iinc (v := nI (q + 1)) (lv' := [(3, .int (nI (q + 1))), (0, .ref h0), (1, .int (nI t)), (2, .int (nI kd)), (4, .int (nI i))]) hx hb dX1_seasonBreaks_37 hl (k := 3) rfl (nI_add _ _) (by decide) rfl (fun ls hl => ?_)
        refine lv_iinc (v := nI (i + 1)) (lv' := [(4, .int (nI (i + 1))), (3, .int (nI (q + 1))), (0, .ref h0), (1, .int (nI t)), (2, .int (nI kd))]) hx hb dX1_seasonBreaks_40 hl (k := 4) rfl (nI_add _ _) (by decide) rfl (fun ls hl => ?_)
        refine lv_goto (tgt := 5) hx hb dX1_seasonBreaks_43 (by decide) ?_
        have hl : lv_has ls 5 [(0, .ref h0), (1, .int (nI t)), (2, .int (nI kd)), (3, .int (nI (q + 1))), (4, .int (nI (i + 1)))] := lv_sub hl [2, 3, 4, 1, 0] rfl
        exact ih5 (i + 1) (q + 1) H locs ls (by omega) (by simp only [zm_sum, zm_sbf, hbr, hq]; first | rfl | simp) (by omega) (by omega) hP hS hl

set_option maxHeartbeats 4000000 in
set_option maxRecDepth 100000 in
theorem c_X1_allSeasonBreaks (l : Launch) (D : va_G) (E : Nat → ClassId) (h0 : Nat) (h1 : Nat) (h2 : Nat) (h3 : Nat) (h4 : Nat) (h5 : Nat) (h6 : Nat) (N : Nat) (hm : Nat → Int32) (aw : Nat → Int32) (rv : Nat → Int32) (sd : Nat → Int32) (gm : Nat → Int32) (ca : Nat → Int32) (G : Nat → Nat → Nat) (P : Nat → Nat → Nat) (kd : Nat) (hpl : zm_pl N G P hm aw rv sd gm) (hkd : kd < 3) : Met l yX1_allSeasonBreaks wsX1_allSeasonBreaks ({ frames := 4, cells := 0, slots := 0, locals := 92 }) (zr_P D E [.ref h0, .int (nI kd)] [(h0, .inr (0, [.int (nI N), .ref h1, .ref h2, .ref h3, .ref h4, .ref h5, .ref h6])), (h1, .inl (E 0, 15, .inl hm)), (h2, .inl (E 0, 15, .inl aw)), (h3, .inl (E 0, 30, .inl rv)), (h4, .inl (E 0, 30, .inl sd)), (h5, .inl (E 0, 30, .inl gm)), (h6, .inl (E 0, 36, .inl ca))]) (zr_Qi (fun zv => zv = nI (zm_sbs N P kd))) 0 0 (fun _ => False) := by
  refine Met.ofW (cc := cX1_allSeasonBreaks) (maxL := 4) (ret := (some .int)) (by decide) rfl ?_
  intro p e s m args below meth c s₁ Bz hml hv
  obtain ⟨rfl, hP, hK⟩ := hv
  have hx := Bz.exec
  have hb := Bz.bytes
  have hr := Bz.returns
  have hts := atoms_spec (ws := wsX1_allSeasonBreaks) Bz.pre
  have hown : s.vm.findClass RX1 = some m.cls := findClass_of_methodNamed Bz.named
  have hlocks := Bz.notSynchronized
  have hP : va_P D vwCl [(h0, .inr (0, [.int (nI N), .ref h1, .ref h2, .ref h3, .ref h4, .ref h5, .ref h6])), (h1, .inl (E 0, 15, .inl hm)), (h2, .inl (E 0, 15, .inl aw)), (h3, .inl (E 0, 30, .inl rv)), (h4, .inl (E 0, 30, .inl sd)), (h5, .inl (E 0, 30, .inl gm)), (h6, .inl (E 0, 36, .inl ca))] s.heap := hP
  have hS : va_S (fun _ : Nat => False) s.heap s.heap [] := va_S.rf
  have hl := lv_entry ([.ref h0, .int (nI kd)]) (n := 4) (Nat.le_of_ble_eq_true rfl)
  rw [lg_entry_eq]
  generalize (lg_sl ([.ref h0, .int (nI kd)]) ++ List.replicate (4 - (lg_sl ([.ref h0, .int (nI kd)])).length) Slot.unset).toArray = ls at hl ⊢
  have hl : lv_has ls 4 [(0, .ref h0), (1, .int (nI kd))] := hl
  refine zr_nQ (fun Q hQ => ?_)
  have hN := hpl.1.1
  refine lv_iconst (v := nI 0) hx hb dX1_allSeasonBreaks_0 (by rfl) ?_
  refine lv_istore_n (lv' := [(2, .int (nI 0)), (0, .ref h0), (1, .int (nI kd))]) hx hb dX1_allSeasonBreaks_1 rfl hl (by decide) rfl (fun ls hl => ?_)
  refine lv_iconst (v := nI 0) hx hb dX1_allSeasonBreaks_2 (by rfl) ?_
  refine lv_istore_n (lv' := [(3, .int (nI 0)), (2, .int (nI 0)), (0, .ref h0), (1, .int (nI kd))]) hx hb dX1_allSeasonBreaks_3 rfl hl (by decide) rfl (fun ls hl => ?_)
  suffices KL4 : ∀ (kz : Nat) (i : Nat) (q : Nat) (H : Heap) (locs : List Loc) (ls : Array Slot), (N - i) < kz → (q = zm_sum (zm_sb N P kd) i) → (i ≤ N) → va_P D vwCl [(h0, .inr (0, [.int (nI N), .ref h1, .ref h2, .ref h3, .ref h4, .ref h5, .ref h6])), (h1, .inl (E 0, 15, .inl hm)), (h2, .inl (E 0, 15, .inl aw)), (h3, .inl (E 0, 30, .inl rv)), (h4, .inl (E 0, 30, .inl sd)), (h5, .inl (E 0, 30, .inl gm)), (h6, .inl (E 0, 36, .inl ca))] H → va_S (fun _ : Nat => False) s.heap H locs → lv_has ls 4 [(0, .ref h0), (1, .int (nI kd)), (2, .int (nI q)), (3, .int (nI i))] → W p l e (headSpec wsX1_allSeasonBreaks ({ frames := 4, cells := 0, slots := 0, locals := 92 })).room s m ([.ref h0, .int (nI kd)] : List Value).toArray below meth c H locs 0 0 Q (F0 m 4 ls []) from
    KL4 _ 0 0 _ _ ls (Nat.lt_succ_self _) (rfl) (by omega) hP hS (lv_sub hl [2, 3, 1, 0] rfl)
  clear hP hS hl
  intro kz
  induction kz with
  | zero => intro i q H locs ls hkz; exact absurd hkz (Nat.not_lt_zero _)
  | succ kz ih4 =>
    intro i q H locs ls hkz hq hi hP hS hl
    refine lv_iload_n hx hb dX1_allSeasonBreaks_4 rfl (lv_at hl 3 rfl) ?_
    refine lv_aload_n hx hb dX1_allSeasonBreaks_5 rfl (lv_at hl 0 rfl) ?_
    refine va_get (D := D) (ci := 0) (v := .int (nI N)) (C := RX1) (T := TX1) (N := 7) hx hb hts (by decide +kernel) hown hK.1 hP 0 rfl rfl 0 (by decide) (hts (.fieldLink RX1 30 "HomeRounds$Plan" "n" "I") (by decide +kernel)) (fun _ h9 => h9) rfl dX1_allSeasonBreaks_6 ?_
    refine lv_icmp_ge (tgt := 27) hx hb dX1_allSeasonBreaks_9 (by decide) (fun cn_1 => ?_) (fun cn_1 => ?_)
    · skip
      have cn_1 : N ≤ i := (nI_leI (a := N) (b := i) (by omega) (by omega)).mp cn_1
      have hie : i = N := by omega
      refine lv_iload_n hx hb dX1_allSeasonBreaks_27 rfl (lv_at hl 2 rfl) ?_
      subst hQ
      exact W.iret (v := nI q) hx hb hr (fun tz htz hWz => ⟨⟨nI q, (), rfl, by rw [hq, hie]; rfl, trivial⟩, hS.F htz⟩) hS.2.2 dX1_allSeasonBreaks_28
    · skip
      have cn_1 : ¬ (N ≤ i) := fun hz => cn_1 ((nI_leI (a := N) (b := i) (by omega) (by omega)).mpr hz)
      refine lv_iload_n hx hb dX1_allSeasonBreaks_12 rfl (lv_at hl 2 rfl) ?_
      refine lv_aload_n hx hb dX1_allSeasonBreaks_13 rfl (lv_at hl 0 rfl) ?_
      refine lv_iload_n hx hb dX1_allSeasonBreaks_14 rfl (lv_at hl 3 rfl) ?_
      refine lv_iload_n hx hb dX1_allSeasonBreaks_15 rfl (lv_at hl 1 rfl) ?_
      refine zr_ci hP hS (va_runV (As := [.int (nI i), .int (nI kd)]) (rest := [.int (nI q)]) ⟨hx, hb, hml, hown, hts⟩ (c_X1_seasonBreaks l D E h0 h1 h2 h3 h4 h5 h6 N hm aw rv sd gm ca G P i kd (hpl) (by omega) (by omega)) (cwV 2 hts gX1_allSeasonBreaks_X1_seasonBreaks rfl rfl rfl (by decide +kernel) ⟨Nat.le_of_ble_eq_true rfl, Nat.le_of_ble_eq_true rfl⟩) (zr_V hK (hP.sub (ws' := [(h0, .inr (0, [.int (nI N), .ref h1, .ref h2, .ref h3, .ref h4, .ref h5, .ref h6])), (h1, .inl (E 0, 15, .inl hm)), (h2, .inl (E 0, 15, .inl aw)), (h3, .inl (E 0, 30, .inl rv)), (h4, .inl (E 0, 30, .inl sd)), (h5, .inl (E 0, 30, .inl gm)), (h6, .inl (E 0, 36, .inl ca))]) [0, 1, 2, 3, 4, 5, 6] rfl) (ci := 0) (q0 := 0) rfl rfl) rfl rfl hl.1 rfl (lv_room (Nat.le_of_ble_eq_true rfl)) dX1_allSeasonBreaks_16 ⟨Nat.zero_le _, Nat.zero_le _⟩) (fun r_2 H locs hw_3 hP hS => ?_)
      subst hw_3
      refine lv_iadd hx hb dX1_allSeasonBreaks_19 ?_
      refine zr_ti (y := nI (q + (zm_sb N P kd i))) (nI_add _ _) ?_
      refine lv_istore_n (lv' := [(2, .int (nI (q + (zm_sb N P kd i)))), (0, .ref h0), (1, .int (nI kd)), (3, .int (nI i))]) hx hb dX1_allSeasonBreaks_20 rfl hl (by decide) rfl (fun ls hl => ?_)
      refine lv_iinc (v := nI (i + 1)) (lv' := [(3, .int (nI (i + 1))), (2, .int (nI (q + (zm_sb N P kd i)))), (0, .ref h0), (1, .int (nI kd))]) hx hb dX1_allSeasonBreaks_21 hl (k := 3) rfl (nI_add _ _) (by decide) rfl (fun ls hl => ?_)
      refine lv_goto (tgt := 4) hx hb dX1_allSeasonBreaks_24 (by decide) ?_
      have hl : lv_has ls 4 [(0, .ref h0), (1, .int (nI kd)), (2, .int (nI (q + (zm_sb N P kd i)))), (3, .int (nI (i + 1)))] := lv_sub hl [2, 3, 1, 0] rfl
      exact ih4 (i + 1) (q + (zm_sb N P kd i)) H locs ls (by omega) (by rw [hq]; rfl) (by omega) hP hS hl

set_option maxHeartbeats 4000000 in
set_option maxRecDepth 100000 in
theorem c_X1_put (l : Launch) (D : va_G) (E : Nat → ClassId) (h0 : Nat) (h1 : Nat) (h2 : Nat) (h3 : Nat) (h4 : Nat) (h5 : Nat) (h6 : Nat) (N : Nat) (hm : Nat → Int32) (aw : Nat → Int32) (rv : Nat → Int32) (sd : Nat → Int32) (gm : Nat → Int32) (ca : Nat → Int32) (r : Nat) (k : Nat) (a : Nat) (b : Nat) (hN : N = 4 ∨ N = 6) (hr0 : r < N - 1) (hk0 : k < N / 2) (ha : a < N) (hb0 : b < N) (hab : a ≠ b) : Met l yX1_put wsX1_put ({ frames := 1, cells := 0, slots := 0, locals := 22 }) (zw_P D E [.ref h0, .int (nI r), .int (nI k), .int (nI a), .int (nI b)] [(h0, .inr (0, [.int (nI N), .ref h1, .ref h2, .ref h3, .ref h4, .ref h5, .ref h6])), (h1, .inl (E 0, 15, .inl hm)), (h2, .inl (E 0, 15, .inl aw)), (h3, .inl (E 0, 30, .inl rv)), (h4, .inl (E 0, 30, .inl sd)), (h5, .inl (E 0, 30, .inl gm)), (h6, .inl (E 0, 36, .inl ca))]) (zw_Qv D [(h0, .inr (0, [.int (nI N), .ref h1, .ref h2, .ref h3, .ref h4, .ref h5, .ref h6])), (h1, .inl (E 0, 15, .inl hm)), (h2, .inl (E 0, 15, .inl aw)), (h3, .inl (E 0, 30, .inl rv)), (h4, .inl (E 0, 30, .inl sd)), (h5, .inl (E 0, 30, .inl gm)), (h6, .inl (E 0, 36, .inl ca))] (fun (u : Unit) => True) (fun (u : Unit) => [(h0, .inr (0, [.int (nI N), .ref h1, .ref h2, .ref h3, .ref h4, .ref h5, .ref h6])), (h1, .inl (E 0, 15, .inl (upd hm (r * 3 + k) (nI a)))), (h2, .inl (E 0, 15, .inl (upd aw (r * 3 + k) (nI b)))), (h3, .inl (E 0, 30, .inl (upd (upd rv (r * 6 + a) (nI b)) (r * 6 + b) (nI a)))), (h4, .inl (E 0, 30, .inl (upd (upd sd (r * 6 + a) (nI 1)) (r * 6 + b) (nI 0)))), (h5, .inl (E 0, 30, .inl (upd (upd gm (r * 6 + a) (nI k)) (r * 6 + b) (nI k)))), (h6, .inl (E 0, 36, .inl ca))])) 0 0 (zw_A [(h0, .inr (0, [.int (nI N), .ref h1, .ref h2, .ref h3, .ref h4, .ref h5, .ref h6])), (h1, .inl (E 0, 15, .inl hm)), (h2, .inl (E 0, 15, .inl aw)), (h3, .inl (E 0, 30, .inl rv)), (h4, .inl (E 0, 30, .inl sd)), (h5, .inl (E 0, 30, .inl gm)), (h6, .inl (E 0, 36, .inl ca))]) := by
  refine Met.ofW (cc := cX1_put) (maxL := 7) (ret := none) (by decide) rfl ?_
  intro p e s m args below meth c s₁ Bz hml hv
  obtain ⟨rfl, hP, hK, hD0⟩ := hv
  have hx := Bz.exec
  have hb := Bz.bytes
  have hr := Bz.returns
  have hts := atoms_spec (ws := wsX1_put) Bz.pre
  have hown : s.vm.findClass RX1 = some m.cls := findClass_of_methodNamed Bz.named
  have hlocks := Bz.notSynchronized
  have hP : va_P D vwCl [(h0, .inr (0, [.int (nI N), .ref h1, .ref h2, .ref h3, .ref h4, .ref h5, .ref h6])), (h1, .inl (E 0, 15, .inl hm)), (h2, .inl (E 0, 15, .inl aw)), (h3, .inl (E 0, 30, .inl rv)), (h4, .inl (E 0, 30, .inl sd)), (h5, .inl (E 0, 30, .inl gm)), (h6, .inl (E 0, 36, .inl ca))] s.heap := hP
  obtain ⟨A, hAe⟩ : ∃ A : Nat → Prop, A = zw_A [(h0, .inr (0, [.int (nI N), .ref h1, .ref h2, .ref h3, .ref h4, .ref h5, .ref h6])), (h1, .inl (E 0, 15, .inl hm)), (h2, .inl (E 0, 15, .inl aw)), (h3, .inl (E 0, 30, .inl rv)), (h4, .inl (E 0, 30, .inl sd)), (h5, .inl (E 0, 30, .inl gm)), (h6, .inl (E 0, 36, .inl ca))] := ⟨_, rfl⟩
  have hD : va_D A [(h0, .inr (0, [.int (nI N), .ref h1, .ref h2, .ref h3, .ref h4, .ref h5, .ref h6])), (h1, .inl (E 0, 15, .inl hm)), (h2, .inl (E 0, 15, .inl aw)), (h3, .inl (E 0, 30, .inl rv)), (h4, .inl (E 0, 30, .inl sd)), (h5, .inl (E 0, 30, .inl gm)), (h6, .inl (E 0, 36, .inl ca))] := hAe ▸ zw_own hD0
  have hS : va_S A s.heap s.heap [] := va_S.rf
  have hl := lv_entry ([.ref h0, .int (nI r), .int (nI k), .int (nI a), .int (nI b)]) (n := 7) (Nat.le_of_ble_eq_true rfl)
  rw [lg_entry_eq]
  generalize (lg_sl ([.ref h0, .int (nI r), .int (nI k), .int (nI a), .int (nI b)]) ++ List.replicate (7 - (lg_sl ([.ref h0, .int (nI r), .int (nI k), .int (nI a), .int (nI b)])).length) Slot.unset).toArray = ls at hl ⊢
  have hl : lv_has ls 7 [(0, .ref h0), (1, .int (nI r)), (2, .int (nI k)), (3, .int (nI a)), (4, .int (nI b))] := hl
  refine zr_nQ (fun Q hQ => ?_)
  refine lv_aload_n hx hb dX1_put_0 rfl (lv_at hl 0 rfl) ?_
  refine lv_iload_n hx hb dX1_put_1 rfl (lv_at hl 1 rfl) ?_
  refine lv_iload_n hx hb dX1_put_2 rfl (lv_at hl 2 rfl) ?_
  refine zr_ci hP hS (va_runV (As := [.int (nI r), .int (nI k)]) (rest := []) ⟨hx, hb, hml, hown, hts⟩ (c_X1_hasGame l D E h0 h1 h2 h3 h4 h5 h6 N hm aw rv sd gm ca (nI r) (nI k) (hN)) (cwV 2 hts gX1_put_X1_hasGame rfl rfl rfl (by decide +kernel) ⟨Nat.le_of_ble_eq_true rfl, Nat.le_of_ble_eq_true rfl⟩) (zr_V hK (hP.sub (ws' := [(h0, .inr (0, [.int (nI N), .ref h1, .ref h2, .ref h3, .ref h4, .ref h5, .ref h6])), (h1, .inl (E 0, 15, .inl hm)), (h2, .inl (E 0, 15, .inl aw)), (h3, .inl (E 0, 30, .inl rv)), (h4, .inl (E 0, 30, .inl sd)), (h5, .inl (E 0, 30, .inl gm)), (h6, .inl (E 0, 36, .inl ca))]) [0, 1, 2, 3, 4, 5, 6] rfl) (ci := 0) (q0 := 0) rfl rfl) rfl rfl hl.1 rfl (lv_room (Nat.le_of_ble_eq_true rfl)) dX1_put_3 ⟨Nat.zero_le _, Nat.zero_le _⟩) (fun r_1 H locs hw_2 hP hS => ?_)
  have hrz : r_1 = 1 := by rcases hw_2 with ⟨h9, -⟩ | ⟨-, h9⟩; exact h9; exact h9.elim (fun q => absurd rfl (q r hr0)) (fun q => absurd rfl (q k hk0))
  subst hrz; clear hw_2
  refine zr_ti (y := nI 1) rfl ?_
  refine lv_if_eq (tgt := 19) hx hb dX1_put_6 (by decide) (fun cn_3 => ?_) (fun cn_3 => ?_)
  · skip
    exact absurd cn_3 (by decide)
  · skip
    refine lv_aload_n hx hb dX1_put_9 rfl (lv_at hl 0 rfl) ?_
    refine lv_iload_n hx hb dX1_put_10 rfl (lv_at hl 3 rfl) ?_
    refine lv_iload hx hb dX1_put_11 (lv_at hl 4 rfl) ?_
    refine zr_ci hP hS (va_runV (As := [.int (nI a), .int (nI b)]) (rest := []) ⟨hx, hb, hml, hown, hts⟩ (c_X1_hasPair l D E h0 h1 h2 h3 h4 h5 h6 N hm aw rv sd gm ca (nI a) (nI b) (hN)) (cwV 2 hts gX1_put_X1_hasPair rfl rfl rfl (by decide +kernel) ⟨Nat.le_of_ble_eq_true rfl, Nat.le_of_ble_eq_true rfl⟩) (zr_V hK (hP.sub (ws' := [(h0, .inr (0, [.int (nI N), .ref h1, .ref h2, .ref h3, .ref h4, .ref h5, .ref h6])), (h1, .inl (E 0, 15, .inl hm)), (h2, .inl (E 0, 15, .inl aw)), (h3, .inl (E 0, 30, .inl rv)), (h4, .inl (E 0, 30, .inl sd)), (h5, .inl (E 0, 30, .inl gm)), (h6, .inl (E 0, 36, .inl ca))]) [0, 1, 2, 3, 4, 5, 6] rfl) (ci := 0) (q0 := 0) rfl rfl) rfl rfl hl.1 rfl (lv_room (Nat.le_of_ble_eq_true rfl)) dX1_put_13 ⟨Nat.zero_le _, Nat.zero_le _⟩) (fun r_4 H locs hw_5 hP hS => ?_)
    have hrz : r_4 = 1 := by rcases hw_5 with ⟨h9, -⟩ | ⟨-, h9⟩; exact h9; exact h9.elim (fun q => absurd rfl (q a ha)) (fun q => q.elim (fun q => absurd rfl (q b hb0)) (fun q => absurd ((nI_eq (by omega) (by omega)).mp q) hab))
    subst hrz; clear hw_5
    refine zr_ti (y := nI 1) rfl ?_
    refine lv_if_ne (tgt := 20) hx hb dX1_put_16 (by decide) (fun cn_6 => ?_) (fun cn_6 => ?_)
    · skip
      refine lv_aload_n hx hb dX1_put_20 rfl (lv_at hl 0 rfl) ?_
      refine va_get (D := D) (ci := 0) (v := .ref h1) (C := RX1) (T := TX1) (N := 7) hx hb hts (by decide +kernel) hown hK.1 hP 0 rfl rfl 1 (by decide) (hts (.fieldLink RX1 9 "HomeRounds$Plan" "homes" "[I") (by decide +kernel)) (fun _ h9 => h9) rfl dX1_put_21 ?_
      refine lv_iload_n hx hb dX1_put_24 rfl (lv_at hl 1 rfl) ?_
      refine lv_iconst (v := nI 3) hx hb dX1_put_25 (by rfl) ?_
      refine lv_imul hx hb dX1_put_26 ?_
      refine zr_ti (y := nI (r * 3)) (pk_mul _ _) ?_
      refine lv_iload_n hx hb dX1_put_27 rfl (lv_at hl 2 rfl) ?_
      refine lv_iadd hx hb dX1_put_28 ?_
      refine zr_ti (y := nI ((r * 3) + k)) (nI_add _ _) ?_
      refine lv_iload_n hx hb dX1_put_29 rfl (lv_at hl 3 rfl) ?_
      refine va_iast hx hb hK.1 hP hD hS 1 0 rfl rfl (vp_in_nI (by omega) (by omega)) dX1_put_30 (fun H locs hP hD hS => ?_)
      have hP : va_P D vwCl [(h0, .inr (0, [.int (nI N), .ref h1, .ref h2, .ref h3, .ref h4, .ref h5, .ref h6])), (h1, .inl (E 0, 15, .inl (upd hm (nI ((r * 3) + k)).toNatClampNeg (nI a)))), (h2, .inl (E 0, 15, .inl aw)), (h3, .inl (E 0, 30, .inl rv)), (h4, .inl (E 0, 30, .inl sd)), (h5, .inl (E 0, 30, .inl gm)), (h6, .inl (E 0, 36, .inl ca))] H := hP
      have hD : va_D A [(h0, .inr (0, [.int (nI N), .ref h1, .ref h2, .ref h3, .ref h4, .ref h5, .ref h6])), (h1, .inl (E 0, 15, .inl (upd hm (nI ((r * 3) + k)).toNatClampNeg (nI a)))), (h2, .inl (E 0, 15, .inl aw)), (h3, .inl (E 0, 30, .inl rv)), (h4, .inl (E 0, 30, .inl sd)), (h5, .inl (E 0, 30, .inl gm)), (h6, .inl (E 0, 36, .inl ca))] := hD
      have hcz : (upd hm (nI ((r * 3) + k)).toNatClampNeg (nI a)) = (upd hm ((r * 3) + k) (nI a)) := by rw [nI_clamp (n := (r * 3) + k) (by omega)]
      rw [hcz] at hP hD
      refine lv_aload_n hx hb dX1_put_31 rfl (lv_at hl 0 rfl) ?_
      refine va_get (D := D) (ci := 0) (v := .ref h2) (C := RX1) (T := TX1) (N := 7) hx hb hts (by decide +kernel) hown hK.1 hP 0 rfl rfl 2 (by decide) (hts (.fieldLink RX1 15 "HomeRounds$Plan" "aways" "[I") (by decide +kernel)) (fun _ h9 => h9) rfl dX1_put_32 ?_
      refine lv_iload_n hx hb dX1_put_35 rfl (lv_at hl 1 rfl) ?_
      refine lv_iconst (v := nI 3) hx hb dX1_put_36 (by rfl) ?_
      refine lv_imul hx hb dX1_put_37 ?_
      refine zr_ti (y := nI (r * 3)) (pk_mul _ _) ?_
      refine lv_iload_n hx hb dX1_put_38 rfl (lv_at hl 2 rfl) ?_
      refine lv_iadd hx hb dX1_put_39 ?_
      refine zr_ti (y := nI ((r * 3) + k)) (nI_add _ _) ?_
      refine lv_iload hx hb dX1_put_40 (lv_at hl 4 rfl) ?_
      refine va_iast hx hb hK.1 hP hD hS 2 0 rfl rfl (vp_in_nI (by omega) (by omega)) dX1_put_42 (fun H locs hP hD hS => ?_)
      have hP : va_P D vwCl [(h0, .inr (0, [.int (nI N), .ref h1, .ref h2, .ref h3, .ref h4, .ref h5, .ref h6])), (h1, .inl (E 0, 15, .inl (upd hm ((r * 3) + k) (nI a)))), (h2, .inl (E 0, 15, .inl (upd aw (nI ((r * 3) + k)).toNatClampNeg (nI b)))), (h3, .inl (E 0, 30, .inl rv)), (h4, .inl (E 0, 30, .inl sd)), (h5, .inl (E 0, 30, .inl gm)), (h6, .inl (E 0, 36, .inl ca))] H := hP
      have hD : va_D A [(h0, .inr (0, [.int (nI N), .ref h1, .ref h2, .ref h3, .ref h4, .ref h5, .ref h6])), (h1, .inl (E 0, 15, .inl (upd hm ((r * 3) + k) (nI a)))), (h2, .inl (E 0, 15, .inl (upd aw (nI ((r * 3) + k)).toNatClampNeg (nI b)))), (h3, .inl (E 0, 30, .inl rv)), (h4, .inl (E 0, 30, .inl sd)), (h5, .inl (E 0, 30, .inl gm)), (h6, .inl (E 0, 36, .inl ca))] := hD
      have hcz : (upd aw (nI ((r * 3) + k)).toNatClampNeg (nI b)) = (upd aw ((r * 3) + k) (nI b)) := by rw [nI_clamp (n := (r * 3) + k) (by omega)]
      rw [hcz] at hP hD
      refine lv_iload_n hx hb dX1_put_43 rfl (lv_at hl 3 rfl) ?_
      refine lv_iload_n hx hb dX1_put_44 rfl (lv_at hl 1 rfl) ?_
      refine zr_ci hP hS (va_runSN (As := [.int (nI a), .int (nI r)]) (rest := []) ⟨hx, hb, hml, hown, hts⟩ (c_X7_cellOf l D E a r (by omega) (by omega)) ⟨va_cnB 2 hts gX1_put_X7_cellOf_n41 rfl rfl rfl hK.2.1 (hts (.initialized RX7) (by decide +kernel)) (by decide +kernel) ⟨Nat.le_of_ble_eq_true rfl, Nat.le_of_ble_eq_true rfl⟩, hts (.static yX7_cellOf) (by decide +kernel), trivial⟩ (zr_S hK (hP.sub (ws' := []) [] rfl)) rfl rfl hl.1 rfl (lv_room (Nat.le_of_ble_eq_true rfl)) dX1_put_45 ⟨Nat.zero_le _, Nat.zero_le _⟩) (fun r_7 H locs hw_8 hP hS => ?_)
      subst hw_8
      refine lv_istore (lv' := [(5, .int (nI (r * 6 + a))), (0, .ref h0), (1, .int (nI r)), (2, .int (nI k)), (3, .int (nI a)), (4, .int (nI b))]) hx hb dX1_put_48 hl (by decide) rfl (fun ls hl => ?_)
      refine lv_iload hx hb dX1_put_50 (lv_at hl 5 rfl) ?_
      refine lv_iload_n hx hb dX1_put_52 rfl (lv_at hl 2 rfl) ?_
      refine zr_ci hP hS (va_runSN (As := [.int (nI b), .int (nI r)]) (rest := []) ⟨hx, hb, hml, hown, hts⟩ (c_X7_cellOf l D E b r (by omega) (by omega)) ⟨va_cnB 2 hts gX1_put_X7_cellOf_n41 rfl rfl rfl hK.2.1 (hts (.initialized RX7) (by decide +kernel)) (by decide +kernel) ⟨Nat.le_of_ble_eq_true rfl, Nat.le_of_ble_eq_true rfl⟩, hts (.static yX7_cellOf) (by decide +kernel), trivial⟩ (zr_S hK (hP.sub (ws' := []) [] rfl)) rfl rfl hl.1 rfl (lv_room (Nat.le_of_ble_eq_true rfl)) dX1_put_53 ⟨Nat.zero_le _, Nat.zero_le _⟩) (fun r_9 H locs hw_10 hP hS => ?_)
      subst hw_10
      refine lv_istore (lv' := [(6, .int (nI (r * 6 + b))), (5, .int (nI (r * 6 + a))), (0, .ref h0), (1, .int (nI r)), (2, .int (nI k)), (3, .int (nI a)), (4, .int (nI b))]) hx hb dX1_put_56 hl (by decide) rfl (fun ls hl => ?_)
      refine lv_aload_n hx hb dX1_put_58 rfl (lv_at hl 2 rfl) ?_
      refine va_get (D := D) (ci := 0) (v := .ref h3) (C := RX1) (T := TX1) (N := 7) hx hb hts (by decide +kernel) hown hK.1 hP 0 rfl rfl 3 (by decide) (hts (.fieldLink RX1 18 "HomeRounds$Plan" "rivals" "[I") (by decide +kernel)) (fun _ h9 => h9) rfl dX1_put_59 ?_
      refine lv_iload hx hb dX1_put_62 (lv_at hl 1 rfl) ?_
      refine lv_iload hx hb dX1_put_64 (lv_at hl 6 rfl) ?_
      refine va_iast hx hb hK.1 hP hD hS 3 0 rfl rfl (vp_in_nI (by omega) (by omega)) dX1_put_66 (fun H locs hP hD hS => ?_)
      have hP : va_P D vwCl [(h0, .inr (0, [.int (nI N), .ref h1, .ref h2, .ref h3, .ref h4, .ref h5, .ref h6])), (h1, .inl (E 0, 15, .inl (upd hm ((r * 3) + k) (nI a)))), (h2, .inl (E 0, 15, .inl (upd aw ((r * 3) + k) (nI b)))), (h3, .inl (E 0, 30, .inl (upd rv (nI (r * 6 + a)).toNatClampNeg (nI b)))), (h4, .inl (E 0, 30, .inl sd)), (h5, .inl (E 0, 30, .inl gm)), (h6, .inl (E 0, 36, .inl ca))] H := hP
      have hD : va_D A [(h0, .inr (0, [.int (nI N), .ref h1, .ref h2, .ref h3, .ref h4, .ref h5, .ref h6])), (h1, .inl (E 0, 15, .inl (upd hm ((r * 3) + k) (nI a)))), (h2, .inl (E 0, 15, .inl (upd aw ((r * 3) + k) (nI b)))), (h3, .inl (E 0, 30, .inl (upd rv (nI (r * 6 + a)).toNatClampNeg (nI b)))), (h4, .inl (E 0, 30, .inl sd)), (h5, .inl (E 0, 30, .inl gm)), (h6, .inl (E 0, 36, .inl ca))] := hD
      have hcz : (upd rv (nI (r * 6 + a)).toNatClampNeg (nI b)) = (upd rv (r * 6 + a) (nI b)) := by rw [nI_clamp (n := r * 6 + a) (by omega)]
      rw [hcz] at hP hD
      refine lv_aload_n hx hb dX1_put_67 rfl (lv_at hl 2 rfl) ?_
      refine va_get (D := D) (ci := 0) (v := .ref h3) (C := RX1) (T := TX1) (N := 7) hx hb hts (by decide +kernel) hown hK.1 hP 0 rfl rfl 3 (by decide) (hts (.fieldLink RX1 18 "HomeRounds$Plan" "rivals" "[I") (by decide +kernel)) (fun _ h9 => h9) rfl dX1_put_68 ?_
      refine lv_iload hx hb dX1_put_71 (lv_at hl 0 rfl) ?_
      refine lv_iload_n hx hb dX1_put_73 rfl (lv_at hl 5 rfl) ?_
      refine va_iast hx hb hK.1 hP hD hS 3 0 rfl rfl (vp_in_nI (by omega) (by omega)) dX1_put_74 (fun H locs hP hD hS => ?_)
      have hP : va_P D vwCl [(h0, .inr (0, [.int (nI N), .ref h1, .ref h2, .ref h3, .ref h4, .ref h5, .ref h6])), (h1, .inl (E 0, 15, .inl (upd hm ((r * 3) + k) (nI a)))), (h2, .inl (E 0, 15, .inl (upd aw ((r * 3) + k) (nI b)))), (h3, .inl (E 0, 30, .inl (upd (upd rv (r * 6 + a) (nI b)) (nI (r * 6 + b)).toNatClampNeg (nI a)))), (h4, .inl (E 0, 30, .inl sd)), (h5, .inl (E 0, 30, .inl gm)), (h6, .inl (E 0, 36, .inl ca))] H := hP
      have hD : va_D A [(h0, .inr (0, [.int (nI N), .ref h1, .ref h2, .ref h3, .ref h4, .ref h5, .ref h6])), (h1, .inl (E 0, 15, .inl (upd hm ((r * 3) + k) (nI a)))), (h2, .inl (E 0, 15, .inl (upd aw ((r * 3) + k) (nI b)))), (h3, .inl (E 0, 30, .inl (upd (upd rv (r * 6 + a) (nI b)) (nI (r * 6 + b)).toNatClampNeg (nI a)))), (h4, .inl (E 0, 30, .inl sd)), (h5, .inl (E 0, 30, .inl gm)), (h6, .inl (E 0, 36, .inl ca))] := hD
      have hcz : (upd (upd rv (r * 6 + a) (nI b)) (nI (r * 6 + b)).toNatClampNeg (nI a)) = (upd (upd rv (r * 6 + a) (nI b)) (r * 6 + b) (nI a)) := by rw [nI_clamp (n := r * 6 + b) (by omega)]
      rw [hcz] at hP hD
      refine lv_aload_n hx hb dX1_put_75 rfl (lv_at hl 2 rfl) ?_
      refine va_get (D := D) (ci := 0) (v := .ref h4) (C := RX1) (T := TX1) (N := 7) hx hb hts (by decide +kernel) hown hK.1 hP 0 rfl rfl 4 (by decide) (hts (.fieldLink RX1 21 "HomeRounds$Plan" "sides" "[I") (by decide +kernel)) (fun _ h9 => h9) rfl dX1_put_76 ?_
      refine lv_iload hx hb dX1_put_79 (lv_at hl 1 rfl) ?_
      refine lv_iconst (v := nI 1) hx hb dX1_put_81 (by rfl) ?_
      refine va_iast hx hb hK.1 hP hD hS 4 0 rfl rfl (vp_in_nI (by omega) (by omega)) dX1_put_82 (fun H locs hP hD hS => ?_)
      have hP : va_P D vwCl [(h0, .inr (0, [.int (nI N), .ref h1, .ref h2, .ref h3, .ref h4, .ref h5, .ref h6])), (h1, .inl (E 0, 15, .inl (upd hm ((r * 3) + k) (nI a)))), (h2, .inl (E 0, 15, .inl (upd aw ((r * 3) + k) (nI b)))), (h3, .inl (E 0, 30, .inl (upd (upd rv (r * 6 + a) (nI b)) (r * 6 + b) (nI a)))), (h4, .inl (E 0, 30, .inl (upd sd (nI (r * 6 + a)).toNatClampNeg (nI 1)))), (h5, .inl (E 0, 30, .inl gm)), (h6, .inl (E 0, 36, .inl ca))] H := hP
      have hD : va_D A [(h0, .inr (0, [.int (nI N), .ref h1, .ref h2, .ref h3, .ref h4, .ref h5, .ref h6])), (h1, .inl (E 0, 15, .inl (upd hm ((r * 3) + k) (nI a)))), (h2, .inl (E 0, 15, .inl (upd aw ((r * 3) + k) (nI b)))), (h3, .inl (E 0, 30, .inl (upd (upd rv (r * 6 + a) (nI b)) (r * 6 + b) (nI a)))), (h4, .inl (E 0, 30, .inl (upd sd (nI (r * 6 + a)).toNatClampNeg (nI 1)))), (h5, .inl (E 0, 30, .inl gm)), (h6, .inl (E 0, 36, .inl ca))] := hD
      have hcz : (upd sd (nI (r * 6 + a)).toNatClampNeg (nI 1)) = (upd sd (r * 6 + a) (nI 1)) := by rw [nI_clamp (n := r * 6 + a) (by omega)]
      rw [hcz] at hP hD
      refine lv_aload_n hx hb dX1_put_83 rfl (lv_at hl 2 rfl) ?_
      refine va_get (D := D) (ci := 0) (v := .ref h4) (C := RX1) (T := TX1) (N := 7) hx hb hts (by decide +kernel) hown hK.1 hP 0 rfl rfl 4 (by decide) (hts (.fieldLink RX1 21 "HomeRounds$Plan" "sides" "[I") (by decide +kernel)) (fun _ h9 => h9) rfl dX1_put_84 ?_
      refine lv_iload hx hb dX1_put_87 (lv_at hl 0 rfl) ?_
      refine lv_iconst (v := nI 0) hx hb dX1_put_89 (by rfl) ?_
      refine va_iast hx hb hK.1 hP hD hS 4 0 rfl rfl (vp_in_nI (by omega) (by omega)) dX1_put_90 (fun H locs hP hD hS => ?_)
      have hP : va_P D vwCl [(h0, .inr (0, [.int (nI N), .ref h1, .ref h2, .ref h3, .ref h4, .ref h5, .ref h6])), (h1, .inl (E 0, 15, .inl (upd hm ((r * 3) + k) (nI a)))), (h2, .inl (E 0, 15, .inl (upd aw ((r * 3) + k) (nI b)))), (h3, .inl (E 0, 30, .inl (upd (upd rv (r * 6 + a) (nI b)) (r * 6 + b) (nI a)))), (h4, .inl (E 0, 30, .inl (upd (upd sd (r * 6 + a) (nI 1)) (nI (r * 6 + b)).toNatClampNeg (nI 0)))), (h5, .inl (E 0, 30, .inl gm)), (h6, .inl (E 0, 36, .inl ca))] H := hP
      have hD : va_D A [(h0, .inr (0, [.int (nI N), .ref h1, .ref h2, .ref h3, .ref h4, .ref h5, .ref h6])), (h1, .inl (E 0, 15, .inl (upd hm ((r * 3) + k) (nI a)))), (h2, .inl (E 0, 15, .inl (upd aw ((r * 3) + k) (nI b)))), (h3, .inl (E 0, 30, .inl (upd (upd rv (r * 6 + a) (nI b)) (r * 6 + b) (nI a)))), (h4, .inl (E 0, 30, .inl (upd (upd sd (r * 6 + a) (nI 1)) (nI (r * 6 + b)).toNatClampNeg (nI 0)))), (h5, .inl (E 0, 30, .inl gm)), (h6, .inl (E 0, 36, .inl ca))] := hD
      have hcz : (upd (upd sd (r * 6 + a) (nI 1)) (nI (r * 6 + b)).toNatClampNeg (nI 0)) = (upd (upd sd (r * 6 + a) (nI 1)) (r * 6 + b) (nI 0)) := by rw [nI_clamp (n := r * 6 + b) (by omega)]
      rw [hcz] at hP hD
      refine lv_aload_n hx hb dX1_put_91 rfl (lv_at hl 2 rfl) ?_
      refine va_get (D := D) (ci := 0) (v := .ref h5) (C := RX1) (T := TX1) (N := 7) hx hb hts (by decide +kernel) hown hK.1 hP 0 rfl rfl 5 (by decide) (hts (.fieldLink RX1 24 "HomeRounds$Plan" "games" "[I") (by decide +kernel)) (fun _ h9 => h9) rfl dX1_put_92 ?_
      refine lv_iload hx hb dX1_put_95 (lv_at hl 1 rfl) ?_
      refine lv_iload_n hx hb dX1_put_97 rfl (lv_at hl 4 rfl) ?_
      refine va_iast hx hb hK.1 hP hD hS 5 0 rfl rfl (vp_in_nI (by omega) (by omega)) dX1_put_98 (fun H locs hP hD hS => ?_)
      have hP : va_P D vwCl [(h0, .inr (0, [.int (nI N), .ref h1, .ref h2, .ref h3, .ref h4, .ref h5, .ref h6])), (h1, .inl (E 0, 15, .inl (upd hm ((r * 3) + k) (nI a)))), (h2, .inl (E 0, 15, .inl (upd aw ((r * 3) + k) (nI b)))), (h3, .inl (E 0, 30, .inl (upd (upd rv (r * 6 + a) (nI b)) (r * 6 + b) (nI a)))), (h4, .inl (E 0, 30, .inl (upd (upd sd (r * 6 + a) (nI 1)) (r * 6 + b) (nI 0)))), (h5, .inl (E 0, 30, .inl (upd gm (nI (r * 6 + a)).toNatClampNeg (nI k)))), (h6, .inl (E 0, 36, .inl ca))] H := hP
      have hD : va_D A [(h0, .inr (0, [.int (nI N), .ref h1, .ref h2, .ref h3, .ref h4, .ref h5, .ref h6])), (h1, .inl (E 0, 15, .inl (upd hm ((r * 3) + k) (nI a)))), (h2, .inl (E 0, 15, .inl (upd aw ((r * 3) + k) (nI b)))), (h3, .inl (E 0, 30, .inl (upd (upd rv (r * 6 + a) (nI b)) (r * 6 + b) (nI a)))), (h4, .inl (E 0, 30, .inl (upd (upd sd (r * 6 + a) (nI 1)) (r * 6 + b) (nI 0)))), (h5, .inl (E 0, 30, .inl (upd gm (nI (r * 6 + a)).toNatClampNeg (nI k)))), (h6, .inl (E 0, 36, .inl ca))] := hD
      have hcz : (upd gm (nI (r * 6 + a)).toNatClampNeg (nI k)) = (upd gm (r * 6 + a) (nI k)) := by rw [nI_clamp (n := r * 6 + a) (by omega)]
      rw [hcz] at hP hD
      refine lv_aload_n hx hb dX1_put_99 rfl (lv_at hl 2 rfl) ?_
      refine va_get (D := D) (ci := 0) (v := .ref h5) (C := RX1) (T := TX1) (N := 7) hx hb hts (by decide +kernel) hown hK.1 hP 0 rfl rfl 5 (by decide) (hts (.fieldLink RX1 24 "HomeRounds$Plan" "games" "[I") (by decide +kernel)) (fun _ h9 => h9) rfl dX1_put_100 ?_
      refine lv_iload hx hb dX1_put_103 (lv_at hl 0 rfl) ?_
      refine lv_iload_n hx hb dX1_put_105 rfl (lv_at hl 4 rfl) ?_
      refine va_iast hx hb hK.1 hP hD hS 5 0 rfl rfl (vp_in_nI (by omega) (by omega)) dX1_put_106 (fun H locs hP hD hS => ?_)
      have hP : va_P D vwCl [(h0, .inr (0, [.int (nI N), .ref h1, .ref h2, .ref h3, .ref h4, .ref h5, .ref h6])), (h1, .inl (E 0, 15, .inl (upd hm ((r * 3) + k) (nI a)))), (h2, .inl (E 0, 15, .inl (upd aw ((r * 3) + k) (nI b)))), (h3, .inl (E 0, 30, .inl (upd (upd rv (r * 6 + a) (nI b)) (r * 6 + b) (nI a)))), (h4, .inl (E 0, 30, .inl (upd (upd sd (r * 6 + a) (nI 1)) (r * 6 + b) (nI 0)))), (h5, .inl (E 0, 30, .inl (upd (upd gm (r * 6 + a) (nI k)) (nI (r * 6 + b)).toNatClampNeg (nI k)))), (h6, .inl (E 0, 36, .inl ca))] H := hP
      have hD : va_D A [(h0, .inr (0, [.int (nI N), .ref h1, .ref h2, .ref h3, .ref h4, .ref h5, .ref h6])), (h1, .inl (E 0, 15, .inl (upd hm ((r * 3) + k) (nI a)))), (h2, .inl (E 0, 15, .inl (upd aw ((r * 3) + k) (nI b)))), (h3, .inl (E 0, 30, .inl (upd (upd rv (r * 6 + a) (nI b)) (r * 6 + b) (nI a)))), (h4, .inl (E 0, 30, .inl (upd (upd sd (r * 6 + a) (nI 1)) (r * 6 + b) (nI 0)))), (h5, .inl (E 0, 30, .inl (upd (upd gm (r * 6 + a) (nI k)) (nI (r * 6 + b)).toNatClampNeg (nI k)))), (h6, .inl (E 0, 36, .inl ca))] := hD
      have hcz : (upd (upd gm (r * 6 + a) (nI k)) (nI (r * 6 + b)).toNatClampNeg (nI k)) = (upd (upd gm (r * 6 + a) (nI k)) (r * 6 + b) (nI k)) := by rw [nI_clamp (n := r * 6 + b) (by omega)]
      rw [hcz] at hP hD
      subst hQ; subst hAe
      exact W.vret hx hb hr (fun tz htz hWz => ⟨⟨(), rfl, trivial, by rw [htz]; exact hP, hD⟩, hS.F htz⟩) hS.2.2 dX1_put_107
    · skip
      exact absurd cn_6 (by decide)

set_option maxHeartbeats 4000000 in
set_option maxRecDepth 100000 in
theorem c_X1_exchanged (l : Launch) (D : va_G) (E : Nat → ClassId) (t : Nat) (i : Nat) (j : Nat) (ht : t < 6) (hi : i < 6) (hj : j < 6) : Met l yX1_exchanged wsX1_exchanged ({ frames := 0, cells := 0, slots := 0, locals := 0 }) (zr_P D E [.int (nI t), .int (nI i), .int (nI j)] []) (zr_Qi (fun zv => zv = nI (zm_x i j t))) 0 0 (fun _ => False) := by
  refine Met.ofW (cc := cX1_exchanged) (maxL := 3) (ret := (some .int)) (by decide) rfl ?_
  intro p e s m args below meth c s₁ Bz hml hv
  obtain ⟨rfl, hP, hK⟩ := hv
  have hx := Bz.exec
  have hb := Bz.bytes
  have hr := Bz.returns
  have hts := atoms_spec (ws := wsX1_exchanged) Bz.pre
  have hown : s.vm.findClass RX1 = some m.cls := findClass_of_methodNamed Bz.named
  have hlocks := Bz.notSynchronized
  have hP : va_P D vwCl [] s.heap := hP
  have hS : va_S (fun _ : Nat => False) s.heap s.heap [] := va_S.rf
  have hl := lv_entry ([.int (nI t), .int (nI i), .int (nI j)]) (n := 3) (Nat.le_of_ble_eq_true rfl)
  rw [lg_entry_eq]
  generalize (lg_sl ([.int (nI t), .int (nI i), .int (nI j)]) ++ List.replicate (3 - (lg_sl ([.int (nI t), .int (nI i), .int (nI j)])).length) Slot.unset).toArray = ls at hl ⊢
  have hl : lv_has ls 3 [(0, .int (nI t)), (1, .int (nI i)), (2, .int (nI j))] := hl
  refine zr_nQ (fun Q hQ => ?_)
  refine lv_iload_n hx hb dX1_exchanged_0 rfl (lv_at hl 0 rfl) ?_
  refine lv_iload_n hx hb dX1_exchanged_1 rfl (lv_at hl 1 rfl) ?_
  refine lv_icmp_ne (tgt := 9) hx hb dX1_exchanged_2 (by decide) (fun cn_1 => ?_) (fun cn_1 => ?_)
  · skip
    have cn_1 : ¬ (t = i) := fun hz => cn_1 ((nI_eq (a := t) (b := i) (by omega) (by omega)).mpr hz)
    have h1 := cn_1
    refine lv_iload_n hx hb dX1_exchanged_9 rfl (lv_at hl 0 rfl) ?_
    refine lv_iload_n hx hb dX1_exchanged_10 rfl (lv_at hl 2 rfl) ?_
    refine lv_icmp_ne (tgt := 18) hx hb dX1_exchanged_11 (by decide) (fun cn_2 => ?_) (fun cn_2 => ?_)
    · skip
      have cn_2 : ¬ (t = j) := fun hz => cn_2 ((nI_eq (a := t) (b := j) (by omega) (by omega)).mpr hz)
      have h2 := cn_2
      refine lv_iload_n hx hb dX1_exchanged_18 rfl (lv_at hl 0 rfl) ?_
      subst hQ
      exact W.iret (v := nI t) hx hb hr (fun tz htz hWz => ⟨⟨nI t, (), rfl, by unfold zm_x; repeat' split; all_goals first | rfl | (exfalso; omega), trivial⟩, hS.F htz⟩) hS.2.2 dX1_exchanged_19
    · skip
      have cn_2 : t = j := (nI_eq (a := t) (b := j) (by omega) (by omega)).mp cn_2
      have h2 := cn_2
      refine lv_iload_n hx hb dX1_exchanged_14 rfl (lv_at hl 1 rfl) ?_
      refine lv_goto (tgt := 19) hx hb dX1_exchanged_15 (by decide) ?_
      subst hQ
      exact W.iret (v := nI i) hx hb hr (fun tz htz hWz => ⟨⟨nI i, (), rfl, by unfold zm_x; repeat' split; all_goals first | rfl | (exfalso; omega), trivial⟩, hS.F htz⟩) hS.2.2 dX1_exchanged_19
  · skip
    have cn_1 : t = i := (nI_eq (a := t) (b := i) (by omega) (by omega)).mp cn_1
    have h1 := cn_1
    refine lv_iload_n hx hb dX1_exchanged_5 rfl (lv_at hl 2 rfl) ?_
    refine lv_goto (tgt := 19) hx hb dX1_exchanged_6 (by decide) ?_
    subst hQ
    exact W.iret (v := nI j) hx hb hr (fun tz htz hWz => ⟨⟨nI j, (), rfl, by unfold zm_x; repeat' split; all_goals first | rfl | (exfalso; omega), trivial⟩, hS.F htz⟩) hS.2.2 dX1_exchanged_19

set_option maxHeartbeats 4000000 in
set_option maxRecDepth 100000 in
theorem c_X1_turnGame (l : Launch) (D : va_G) (E : Nat → ClassId) (h0 : Nat) (h1 : Nat) (h2 : Nat) (h3 : Nat) (h4 : Nat) (h5 : Nat) (h6 : Nat) (N : Nat) (hm : Nat → Int32) (aw : Nat → Int32) (rv : Nat → Int32) (sd : Nat → Int32) (gm : Nat → Int32) (ca : Nat → Int32) (G : Nat → Nat → Nat) (P : Nat → Nat → Nat) (r : Nat) (k : Nat) (hpl : zm_pl N G P hm aw rv sd gm) (hr0 : r < N - 1) (hk0 : k < N / 2) : Met l yX1_turnGame wsX1_turnGame ({ frames := 2, cells := 0, slots := 0, locals := 48 }) (zw_P D E [.ref h0, .int (nI r), .int (nI k)] [(h0, .inr (0, [.int (nI N), .ref h1, .ref h2, .ref h3, .ref h4, .ref h5, .ref h6])), (h1, .inl (E 0, 15, .inl hm)), (h2, .inl (E 0, 15, .inl aw)), (h3, .inl (E 0, 30, .inl rv)), (h4, .inl (E 0, 30, .inl sd)), (h5, .inl (E 0, 30, .inl gm)), (h6, .inl (E 0, 36, .inl ca))]) (zw_Qv D [(h0, .inr (0, [.int (nI N), .ref h1, .ref h2, .ref h3, .ref h4, .ref h5, .ref h6])), (h1, .inl (E 0, 15, .inl hm)), (h2, .inl (E 0, 15, .inl aw)), (h3, .inl (E 0, 30, .inl rv)), (h4, .inl (E 0, 30, .inl sd)), (h5, .inl (E 0, 30, .inl gm)), (h6, .inl (E 0, 36, .inl ca))] (fun (u : (Nat → Int32) × (Nat → Int32) × (Nat → Int32) × (Nat → Int32) × (Nat → Int32)) => zm_pl N (zm_tuG G r k) (zm_tuP P r k) u.1 u.2.1 u.2.2.1 u.2.2.2.1 u.2.2.2.2) (fun (u : (Nat → Int32) × (Nat → Int32) × (Nat → Int32) × (Nat → Int32) × (Nat → Int32)) => [(h0, .inr (0, [.int (nI N), .ref h1, .ref h2, .ref h3, .ref h4, .ref h5, .ref h6])), (h1, .inl (E 0, 15, .inl u.1)), (h2, .inl (E 0, 15, .inl u.2.1)), (h3, .inl (E 0, 30, .inl u.2.2.1)), (h4, .inl (E 0, 30, .inl u.2.2.2.1)), (h5, .inl (E 0, 30, .inl u.2.2.2.2)), (h6, .inl (E 0, 36, .inl ca))])) 0 0 (zw_A [(h0, .inr (0, [.int (nI N), .ref h1, .ref h2, .ref h3, .ref h4, .ref h5, .ref h6])), (h1, .inl (E 0, 15, .inl hm)), (h2, .inl (E 0, 15, .inl aw)), (h3, .inl (E 0, 30, .inl rv)), (h4, .inl (E 0, 30, .inl sd)), (h5, .inl (E 0, 30, .inl gm)), (h6, .inl (E 0, 36, .inl ca))]) := by
  refine Met.ofW (cc := cX1_turnGame) (maxL := 3) (ret := none) (by decide) rfl ?_
  intro p e s m args below meth c s₁ Bz hml hv
  obtain ⟨rfl, hP, hK, hD0⟩ := hv
  have hx := Bz.exec
  have hb := Bz.bytes
  have hr := Bz.returns
  have hts := atoms_spec (ws := wsX1_turnGame) Bz.pre
  have hown : s.vm.findClass RX1 = some m.cls := findClass_of_methodNamed Bz.named
  have hlocks := Bz.notSynchronized
  have hP : va_P D vwCl [(h0, .inr (0, [.int (nI N), .ref h1, .ref h2, .ref h3, .ref h4, .ref h5, .ref h6])), (h1, .inl (E 0, 15, .inl hm)), (h2, .inl (E 0, 15, .inl aw)), (h3, .inl (E 0, 30, .inl rv)), (h4, .inl (E 0, 30, .inl sd)), (h5, .inl (E 0, 30, .inl gm)), (h6, .inl (E 0, 36, .inl ca))] s.heap := hP
  obtain ⟨A, hAe⟩ : ∃ A : Nat → Prop, A = zw_A [(h0, .inr (0, [.int (nI N), .ref h1, .ref h2, .ref h3, .ref h4, .ref h5, .ref h6])), (h1, .inl (E 0, 15, .inl hm)), (h2, .inl (E 0, 15, .inl aw)), (h3, .inl (E 0, 30, .inl rv)), (h4, .inl (E 0, 30, .inl sd)), (h5, .inl (E 0, 30, .inl gm)), (h6, .inl (E 0, 36, .inl ca))] := ⟨_, rfl⟩
  have hD : va_D A [(h0, .inr (0, [.int (nI N), .ref h1, .ref h2, .ref h3, .ref h4, .ref h5, .ref h6])), (h1, .inl (E 0, 15, .inl hm)), (h2, .inl (E 0, 15, .inl aw)), (h3, .inl (E 0, 30, .inl rv)), (h4, .inl (E 0, 30, .inl sd)), (h5, .inl (E 0, 30, .inl gm)), (h6, .inl (E 0, 36, .inl ca))] := hAe ▸ zw_own hD0
  have hS : va_S A s.heap s.heap [] := va_S.rf
  have hl := lv_entry ([.ref h0, .int (nI r), .int (nI k)]) (n := 3) (Nat.le_of_ble_eq_true rfl)
  rw [lg_entry_eq]
  generalize (lg_sl ([.ref h0, .int (nI r), .int (nI k)]) ++ List.replicate (3 - (lg_sl ([.ref h0, .int (nI r), .int (nI k)])).length) Slot.unset).toArray = ls at hl ⊢
  have hl : lv_has ls 3 [(0, .ref h0), (1, .int (nI r)), (2, .int (nI k))] := hl
  refine zr_nQ (fun Q hQ => ?_)
  have hN := hpl.1.1
  have hok := hpl.1
  have hg1 := zm_G_lt hok hr0 (k := 2 * k) (by omega)
  have hg2 := zm_G_lt hok hr0 (k := 2 * k + 1) (by omega)
  have hg3 := zm_G_ne hok hr0 (k := 2 * k + 1) (j := 2 * k) (by omega) (by omega) (by omega)
  refine lv_aload_n hx hb dX1_turnGame_0 rfl (lv_at hl 0 rfl) ?_
  refine lv_iload_n hx hb dX1_turnGame_1 rfl (lv_at hl 1 rfl) ?_
  refine lv_iload_n hx hb dX1_turnGame_2 rfl (lv_at hl 2 rfl) ?_
  refine lv_aload_n hx hb dX1_turnGame_3 rfl (lv_at hl 0 rfl) ?_
  refine lv_iload_n hx hb dX1_turnGame_4 rfl (lv_at hl 1 rfl) ?_
  refine lv_iload_n hx hb dX1_turnGame_5 rfl (lv_at hl 2 rfl) ?_
  refine zr_ci hP hS (va_runV (As := [.int (nI r), .int (nI k)]) (rest := [.int (nI k), .int (nI r), .ref h0]) ⟨hx, hb, hml, hown, hts⟩ (c_X1_awayOf l D E h0 h1 h2 h3 h4 h5 h6 N hm aw rv sd gm ca r k (hN) (by omega) (by omega)) (cwV 2 hts gX1_turnGame_X1_awayOf rfl rfl rfl (by decide +kernel) ⟨Nat.le_of_ble_eq_true rfl, Nat.le_of_ble_eq_true rfl⟩) (zr_V hK (hP.sub (ws' := [(h0, .inr (0, [.int (nI N), .ref h1, .ref h2, .ref h3, .ref h4, .ref h5, .ref h6])), (h1, .inl (E 0, 15, .inl hm)), (h2, .inl (E 0, 15, .inl aw)), (h3, .inl (E 0, 30, .inl rv)), (h4, .inl (E 0, 30, .inl sd)), (h5, .inl (E 0, 30, .inl gm)), (h6, .inl (E 0, 36, .inl ca))]) [0, 1, 2, 3, 4, 5, 6] rfl) (ci := 0) (q0 := 0) rfl rfl) rfl rfl hl.1 rfl (lv_room (Nat.le_of_ble_eq_true rfl)) dX1_turnGame_6 ⟨Nat.zero_le _, Nat.zero_le _⟩) (fun r_1 H locs hw_2 hP hS => ?_)
  subst hw_2
  refine zr_ti (y := nI (G r (2 * k + 1))) (hpl.2.2.1 r k hr0 hk0) ?_
  refine lv_aload_n hx hb dX1_turnGame_9 rfl (lv_at hl 0 rfl) ?_
  refine lv_iload_n hx hb dX1_turnGame_10 rfl (lv_at hl 1 rfl) ?_
  refine lv_iload_n hx hb dX1_turnGame_11 rfl (lv_at hl 2 rfl) ?_
  refine zr_ci hP hS (va_runV (As := [.int (nI r), .int (nI k)]) (rest := [.int (nI (G r (2 * k + 1))), .int (nI k), .int (nI r), .ref h0]) ⟨hx, hb, hml, hown, hts⟩ (c_X1_homeOf l D E h0 h1 h2 h3 h4 h5 h6 N hm aw rv sd gm ca r k (hN) (by omega) (by omega)) (cwV 2 hts gX1_turnGame_X1_homeOf rfl rfl rfl (by decide +kernel) ⟨Nat.le_of_ble_eq_true rfl, Nat.le_of_ble_eq_true rfl⟩) (zr_V hK (hP.sub (ws' := [(h0, .inr (0, [.int (nI N), .ref h1, .ref h2, .ref h3, .ref h4, .ref h5, .ref h6])), (h1, .inl (E 0, 15, .inl hm)), (h2, .inl (E 0, 15, .inl aw)), (h3, .inl (E 0, 30, .inl rv)), (h4, .inl (E 0, 30, .inl sd)), (h5, .inl (E 0, 30, .inl gm)), (h6, .inl (E 0, 36, .inl ca))]) [0, 1, 2, 3, 4, 5, 6] rfl) (ci := 0) (q0 := 0) rfl rfl) rfl rfl hl.1 rfl (lv_room (Nat.le_of_ble_eq_true rfl)) dX1_turnGame_12 ⟨Nat.zero_le _, Nat.zero_le _⟩) (fun r_3 H locs hw_4 hP hS => ?_)
  subst hw_4
  refine zr_ti (y := nI (G r (2 * k))) (hpl.2.1 r k hr0 hk0) ?_
  have hPc := hP.sub (ws' := [(h0, .inr (0, [.int (nI N), .ref h1, .ref h2, .ref h3, .ref h4, .ref h5, .ref h6])), (h1, .inl (E 0, 15, .inl hm)), (h2, .inl (E 0, 15, .inl aw)), (h3, .inl (E 0, 30, .inl rv)), (h4, .inl (E 0, 30, .inl sd)), (h5, .inl (E 0, 30, .inl gm)), (h6, .inl (E 0, 36, .inl ca))]) [0, 1, 2, 3, 4, 5, 6] rfl
  have hDc := hD.sub (ws' := [(h0, .inr (0, [.int (nI N), .ref h1, .ref h2, .ref h3, .ref h4, .ref h5, .ref h6])), (h1, .inl (E 0, 15, .inl hm)), (h2, .inl (E 0, 15, .inl aw)), (h3, .inl (E 0, 30, .inl rv)), (h4, .inl (E 0, 30, .inl sd)), (h5, .inl (E 0, 30, .inl gm)), (h6, .inl (E 0, 36, .inl ca))]) [0, 1, 2, 3, 4, 5, 6] (by decide +kernel) rfl
  have hAc := zw_AA (wc := [(h0, .inr (0, [.int (nI N), .ref h1, .ref h2, .ref h3, .ref h4, .ref h5, .ref h6])), (h1, .inl (E 0, 15, .inl hm)), (h2, .inl (E 0, 15, .inl aw)), (h3, .inl (E 0, 30, .inl rv)), (h4, .inl (E 0, 30, .inl sd)), (h5, .inl (E 0, 30, .inl gm)), (h6, .inl (E 0, 36, .inl ca))]) hD [0, 1, 2, 3, 4, 5, 6] rfl
  refine zw_cv hAc hS (va_runV (As := [.int (nI r), .int (nI k), .int (nI (G r (2 * k + 1))), .int (nI (G r (2 * k)))]) (rest := []) ⟨hx, hb, hml, hown, hts⟩ (c_X1_put l D E h0 h1 h2 h3 h4 h5 h6 N hm aw rv sd gm ca r k (G r (2 * k + 1)) (G r (2 * k)) (hN) (by omega) (by omega) (by omega) (by omega) (hg3)) (cwV 4 hts gX1_turnGame_X1_put rfl rfl rfl (by decide +kernel) ⟨Nat.le_of_ble_eq_true rfl, Nat.le_of_ble_eq_true rfl⟩) (zw_V hK hPc hDc (ci := 0) (q0 := 0) rfl rfl) rfl rfl hl.1 rfl (lv_room (Nat.le_of_ble_eq_true rfl)) dX1_turnGame_15 ⟨Nat.zero_le _, Nat.zero_le _⟩) (fun u_7 H locs hw_6 hP1 hD1 hk1 hS => ?_)
  obtain ⟨hP, hD⟩ := zw_join (wr := []) (w1 := [(h0, .inr (0, [.int (nI N), .ref h1, .ref h2, .ref h3, .ref h4, .ref h5, .ref h6])), (h1, .inl (E 0, 15, .inl (upd hm (r * 3 + k) (nI (G r (2 * k + 1)))))), (h2, .inl (E 0, 15, .inl (upd aw (r * 3 + k) (nI (G r (2 * k)))))), (h3, .inl (E 0, 30, .inl (upd (upd rv (r * 6 + (G r (2 * k + 1))) (nI (G r (2 * k)))) (r * 6 + (G r (2 * k))) (nI (G r (2 * k + 1)))))), (h4, .inl (E 0, 30, .inl (upd (upd sd (r * 6 + (G r (2 * k + 1))) (nI 1)) (r * 6 + (G r (2 * k))) (nI 0)))), (h5, .inl (E 0, 30, .inl (upd (upd gm (r * 6 + (G r (2 * k + 1))) (nI k)) (r * 6 + (G r (2 * k))) (nI k)))), (h6, .inl (E 0, 36, .inl ca))]) (ws' := [(h0, .inr (0, [.int (nI N), .ref h1, .ref h2, .ref h3, .ref h4, .ref h5, .ref h6])), (h1, .inl (E 0, 15, .inl (upd hm (r * 3 + k) (nI (G r (2 * k + 1)))))), (h2, .inl (E 0, 15, .inl (upd aw (r * 3 + k) (nI (G r (2 * k)))))), (h3, .inl (E 0, 30, .inl (upd (upd rv (r * 6 + (G r (2 * k + 1))) (nI (G r (2 * k)))) (r * 6 + (G r (2 * k))) (nI (G r (2 * k + 1)))))), (h4, .inl (E 0, 30, .inl (upd (upd sd (r * 6 + (G r (2 * k + 1))) (nI 1)) (r * 6 + (G r (2 * k))) (nI 0)))), (h5, .inl (E 0, 30, .inl (upd (upd gm (r * 6 + (G r (2 * k + 1))) (nI k)) (r * 6 + (G r (2 * k))) (nI k)))), (h6, .inl (E 0, 36, .inl ca))]) hP hD [0, 1, 2, 3, 4, 5, 6] [] [0, 1, 2, 3, 4, 5, 6] rfl rfl (by decide +kernel) (by decide +kernel) hAc hk1 hP1 hD1 (by decide +kernel) rfl
  clear hP1 hD1 hk1 hPc hDc hAc
  subst hQ; subst hAe
  exact W.vret hx hb hr (fun tz htz hWz => ⟨⟨(upd hm (r * 3 + k) (nI (G r (2 * k + 1))), upd aw (r * 3 + k) (nI (G r (2 * k))), upd (upd rv (r * 6 + (G r (2 * k + 1))) (nI (G r (2 * k)))) (r * 6 + (G r (2 * k))) (nI (G r (2 * k + 1))), upd (upd sd (r * 6 + (G r (2 * k + 1))) (nI 1)) (r * 6 + (G r (2 * k))) (nI 0), upd (upd gm (r * 6 + (G r (2 * k + 1))) (nI k)) (r * 6 + (G r (2 * k))) (nI k)), rfl, zm_put_turn hpl hr0 hk0, by rw [htz]; exact hP, hD⟩, hS.F htz⟩) hS.2.2 dX1_turnGame_18

set_option maxHeartbeats 4000000 in
set_option maxRecDepth 100000 in
theorem c_X1_swapRounds (l : Launch) (D : va_G) (E : Nat → ClassId) (h0 : Nat) (h1 : Nat) (h2 : Nat) (h3 : Nat) (h4 : Nat) (h5 : Nat) (h6 : Nat) (N : Nat) (hm : Nat → Int32) (aw : Nat → Int32) (rv : Nat → Int32) (sd : Nat → Int32) (gm : Nat → Int32) (ca : Nat → Int32) (G : Nat → Nat → Nat) (P : Nat → Nat → Nat) (r : Nat) (q : Nat) (hpl : zm_pl N G P hm aw rv sd gm) (hr0 : r < N - 1) (hq0 : q < N - 1) : Met l yX1_swapRounds wsX1_swapRounds ({ frames := 2, cells := 0, slots := 0, locals := 48 }) (zw_P D E [.ref h0, .int (nI r), .int (nI q)] [(h0, .inr (0, [.int (nI N), .ref h1, .ref h2, .ref h3, .ref h4, .ref h5, .ref h6])), (h1, .inl (E 0, 15, .inl hm)), (h2, .inl (E 0, 15, .inl aw)), (h3, .inl (E 0, 30, .inl rv)), (h4, .inl (E 0, 30, .inl sd)), (h5, .inl (E 0, 30, .inl gm)), (h6, .inl (E 0, 36, .inl ca))]) (zw_Qv D [(h0, .inr (0, [.int (nI N), .ref h1, .ref h2, .ref h3, .ref h4, .ref h5, .ref h6])), (h1, .inl (E 0, 15, .inl hm)), (h2, .inl (E 0, 15, .inl aw)), (h3, .inl (E 0, 30, .inl rv)), (h4, .inl (E 0, 30, .inl sd)), (h5, .inl (E 0, 30, .inl gm)), (h6, .inl (E 0, 36, .inl ca))] (fun (u : (Nat → Int32) × (Nat → Int32) × (Nat → Int32) × (Nat → Int32) × (Nat → Int32)) => zm_pl N (zm_sw G r q) (zm_sw P r q) u.1 u.2.1 u.2.2.1 u.2.2.2.1 u.2.2.2.2) (fun (u : (Nat → Int32) × (Nat → Int32) × (Nat → Int32) × (Nat → Int32) × (Nat → Int32)) => [(h0, .inr (0, [.int (nI N), .ref h1, .ref h2, .ref h3, .ref h4, .ref h5, .ref h6])), (h1, .inl (E 0, 15, .inl u.1)), (h2, .inl (E 0, 15, .inl u.2.1)), (h3, .inl (E 0, 30, .inl u.2.2.1)), (h4, .inl (E 0, 30, .inl u.2.2.2.1)), (h5, .inl (E 0, 30, .inl u.2.2.2.2)), (h6, .inl (E 0, 36, .inl ca))])) 0 0 (zw_A [(h0, .inr (0, [.int (nI N), .ref h1, .ref h2, .ref h3, .ref h4, .ref h5, .ref h6])), (h1, .inl (E 0, 15, .inl hm)), (h2, .inl (E 0, 15, .inl aw)), (h3, .inl (E 0, 30, .inl rv)), (h4, .inl (E 0, 30, .inl sd)), (h5, .inl (E 0, 30, .inl gm)), (h6, .inl (E 0, 36, .inl ca))]) := by
  refine Met.ofW (cc := cX1_swapRounds) (maxL := 6) (ret := none) (by decide) rfl ?_
  intro p e s m args below meth c s₁ Bz hml hv
  obtain ⟨rfl, hP, hK, hD0⟩ := hv
  have hx := Bz.exec
  have hb := Bz.bytes
  have hr := Bz.returns
  have hts := atoms_spec (ws := wsX1_swapRounds) Bz.pre
  have hown : s.vm.findClass RX1 = some m.cls := findClass_of_methodNamed Bz.named
  have hlocks := Bz.notSynchronized
  have hP : va_P D vwCl [(h0, .inr (0, [.int (nI N), .ref h1, .ref h2, .ref h3, .ref h4, .ref h5, .ref h6])), (h1, .inl (E 0, 15, .inl hm)), (h2, .inl (E 0, 15, .inl aw)), (h3, .inl (E 0, 30, .inl rv)), (h4, .inl (E 0, 30, .inl sd)), (h5, .inl (E 0, 30, .inl gm)), (h6, .inl (E 0, 36, .inl ca))] s.heap := hP
  obtain ⟨A, hAe⟩ : ∃ A : Nat → Prop, A = zw_A [(h0, .inr (0, [.int (nI N), .ref h1, .ref h2, .ref h3, .ref h4, .ref h5, .ref h6])), (h1, .inl (E 0, 15, .inl hm)), (h2, .inl (E 0, 15, .inl aw)), (h3, .inl (E 0, 30, .inl rv)), (h4, .inl (E 0, 30, .inl sd)), (h5, .inl (E 0, 30, .inl gm)), (h6, .inl (E 0, 36, .inl ca))] := ⟨_, rfl⟩
  have hD : va_D A [(h0, .inr (0, [.int (nI N), .ref h1, .ref h2, .ref h3, .ref h4, .ref h5, .ref h6])), (h1, .inl (E 0, 15, .inl hm)), (h2, .inl (E 0, 15, .inl aw)), (h3, .inl (E 0, 30, .inl rv)), (h4, .inl (E 0, 30, .inl sd)), (h5, .inl (E 0, 30, .inl gm)), (h6, .inl (E 0, 36, .inl ca))] := hAe ▸ zw_own hD0
  have hS : va_S A s.heap s.heap [] := va_S.rf
  have hl := lv_entry ([.ref h0, .int (nI r), .int (nI q)]) (n := 6) (Nat.le_of_ble_eq_true rfl)
  rw [lg_entry_eq]
  generalize (lg_sl ([.ref h0, .int (nI r), .int (nI q)]) ++ List.replicate (6 - (lg_sl ([.ref h0, .int (nI r), .int (nI q)])).length) Slot.unset).toArray = ls at hl ⊢
  have hl : lv_has ls 6 [(0, .ref h0), (1, .int (nI r)), (2, .int (nI q))] := hl
  refine zr_nQ (fun Q hQ => ?_)
  have hN := hpl.1.1
  have hok := hpl.1
  refine lv_iconst (v := nI 0) hx hb dX1_swapRounds_0 (by rfl) ?_
  refine lv_istore_n (lv' := [(3, .int (nI 0)), (0, .ref h0), (1, .int (nI r)), (2, .int (nI q))]) hx hb dX1_swapRounds_1 rfl hl (by decide) rfl (fun ls hl => ?_)
  suffices KL2 : ∀ (kz : Nat) (k : Nat) (hmv : Nat → Int32) (awv : Nat → Int32) (rvv : Nat → Int32) (sdv : Nat → Int32) (gmv : Nat → Int32) (H : Heap) (locs : List Loc) (ls : Array Slot), (N - k) < kz → (zm_swI N G r q k hmv awv rvv sdv gmv) → (k ≤ N / 2) → va_P D vwCl [(h0, .inr (0, [.int (nI N), .ref h1, .ref h2, .ref h3, .ref h4, .ref h5, .ref h6])), (h1, .inl (E 0, 15, .inl hmv)), (h2, .inl (E 0, 15, .inl awv)), (h3, .inl (E 0, 30, .inl rvv)), (h4, .inl (E 0, 30, .inl sdv)), (h5, .inl (E 0, 30, .inl gmv)), (h6, .inl (E 0, 36, .inl ca))] H → va_D A [(h0, .inr (0, [.int (nI N), .ref h1, .ref h2, .ref h3, .ref h4, .ref h5, .ref h6])), (h1, .inl (E 0, 15, .inl hmv)), (h2, .inl (E 0, 15, .inl awv)), (h3, .inl (E 0, 30, .inl rvv)), (h4, .inl (E 0, 30, .inl sdv)), (h5, .inl (E 0, 30, .inl gmv)), (h6, .inl (E 0, 36, .inl ca))] → va_S A s.heap H locs → lv_has ls 6 [(0, .ref h0), (1, .int (nI r)), (2, .int (nI q)), (3, .int (nI k))] → W p l e (headSpec wsX1_swapRounds ({ frames := 2, cells := 0, slots := 0, locals := 48 })).room s m ([.ref h0, .int (nI r), .int (nI q)] : List Value).toArray below meth c H locs 0 0 Q (F0 m 2 ls []) from
    KL2 _ 0 hm aw rv sd gm _ _ ls (Nat.lt_succ_self _) (zm_swI_0 hpl hr0 hq0) (by omega) hP hD hS (lv_sub hl [1, 2, 3, 0] rfl)
  clear hP hS hl hD
  intro kz
  induction kz with
  | zero => intro k hmv awv rvv sdv gmv H locs ls hkz; exact absurd hkz (Nat.not_lt_zero _)
  | succ kz ih2 =>
    intro k hmv awv rvv sdv gmv H locs ls hkz hI hk hP hD hS hl
    refine lv_iload_n hx hb dX1_swapRounds_2 rfl (lv_at hl 3 rfl) ?_
    refine lv_aload_n hx hb dX1_swapRounds_3 rfl (lv_at hl 0 rfl) ?_
    refine va_get (D := D) (ci := 0) (v := .int (nI N)) (C := RX1) (T := TX1) (N := 7) hx hb hts (by decide +kernel) hown hK.1 hP 0 rfl rfl 0 (by decide) (hts (.fieldLink RX1 30 "HomeRounds$Plan" "n" "I") (by decide +kernel)) (fun _ h9 => h9) rfl dX1_swapRounds_4 ?_
    refine lv_iconst (v := nI 2) hx hb dX1_swapRounds_7 (by rfl) ?_
    refine lv_idiv hx hb dX1_swapRounds_8 (by decide) ?_
    refine zr_ti (y := nI (N / 2)) (pk_div (by omega) (by omega) (by omega)) ?_
    refine lv_icmp_ge (tgt := 62) hx hb dX1_swapRounds_9 (by decide) (fun cn_1 => ?_) (fun cn_1 => ?_)
    · skip
      have cn_1 : N / 2 ≤ k := (nI_leI (a := N / 2) (b := k) (by omega) (by omega)).mp cn_1
      have hke : k = N / 2 := by omega
      subst hQ; subst hAe
      exact W.vret hx hb hr (fun tz htz hWz => ⟨⟨(hmv, awv, rvv, sdv, gmv), rfl, zm_swI_e hok hr0 hq0 (by rw [hke] at hI; exact hI), by rw [htz]; exact hP, hD⟩, hS.F htz⟩) hS.2.2 dX1_swapRounds_62
    · skip
      have cn_1 : ¬ (N / 2 ≤ k) := fun hz => cn_1 ((nI_leI (a := N / 2) (b := k) (by omega) (by omega)).mpr hz)
      have hkk : k < N / 2 := by omega
      have hg1 := zm_G_lt hok hr0 (k := 2 * k) (by omega)
      have hg2 := zm_G_lt hok hr0 (k := 2 * k + 1) (by omega)
      have hg3 := zm_G_ne hok hr0 (k := 2 * k) (j := 2 * k + 1) (by omega) (by omega) (by omega)
      have hg4 := zm_G_lt hok hq0 (k := 2 * k) (by omega)
      have hg5 := zm_G_lt hok hq0 (k := 2 * k + 1) (by omega)
      have hg6 := zm_G_ne hok hq0 (k := 2 * k) (j := 2 * k + 1) (by omega) (by omega) (by omega)
      obtain ⟨hh1, hh2, hh3, hh4⟩ := hI.2.2 k (Nat.le_refl _) hkk
      refine lv_aload_n hx hb dX1_swapRounds_12 rfl (lv_at hl 0 rfl) ?_
      refine lv_iload_n hx hb dX1_swapRounds_13 rfl (lv_at hl 1 rfl) ?_
      refine lv_iload_n hx hb dX1_swapRounds_14 rfl (lv_at hl 3 rfl) ?_
      refine zr_ci hP hS (va_runV (As := [.int (nI r), .int (nI k)]) (rest := []) ⟨hx, hb, hml, hown, hts⟩ (c_X1_homeOf l D E h0 h1 h2 h3 h4 h5 h6 N hmv awv rvv sdv gmv ca r k (hN) (by omega) (by omega)) (cwV 2 hts gX1_swapRounds_X1_homeOf rfl rfl rfl (by decide +kernel) ⟨Nat.le_of_ble_eq_true rfl, Nat.le_of_ble_eq_true rfl⟩) (zr_V hK (hP.sub (ws' := [(h0, .inr (0, [.int (nI N), .ref h1, .ref h2, .ref h3, .ref h4, .ref h5, .ref h6])), (h1, .inl (E 0, 15, .inl hmv)), (h2, .inl (E 0, 15, .inl awv)), (h3, .inl (E 0, 30, .inl rvv)), (h4, .inl (E 0, 30, .inl sdv)), (h5, .inl (E 0, 30, .inl gmv)), (h6, .inl (E 0, 36, .inl ca))]) [0, 1, 2, 3, 4, 5, 6] rfl) (ci := 0) (q0 := 0) rfl rfl) rfl rfl hl.1 rfl (lv_room (Nat.le_of_ble_eq_true rfl)) dX1_swapRounds_15 ⟨Nat.zero_le _, Nat.zero_le _⟩) (fun r_2 H locs hw_3 hP hS => ?_)
      subst hw_3
      refine zr_ti (y := nI (G r (2 * k))) (hh1) ?_
      refine lv_istore (lv' := [(4, .int (nI (G r (2 * k)))), (0, .ref h0), (1, .int (nI r)), (2, .int (nI q)), (3, .int (nI k))]) hx hb dX1_swapRounds_18 hl (by decide) rfl (fun ls hl => ?_)
      refine lv_aload_n hx hb dX1_swapRounds_20 rfl (lv_at hl 1 rfl) ?_
      refine lv_iload_n hx hb dX1_swapRounds_21 rfl (lv_at hl 2 rfl) ?_
      refine lv_iload_n hx hb dX1_swapRounds_22 rfl (lv_at hl 4 rfl) ?_
      refine zr_ci hP hS (va_runV (As := [.int (nI r), .int (nI k)]) (rest := []) ⟨hx, hb, hml, hown, hts⟩ (c_X1_awayOf l D E h0 h1 h2 h3 h4 h5 h6 N hmv awv rvv sdv gmv ca r k (hN) (by omega) (by omega)) (cwV 2 hts gX1_swapRounds_X1_awayOf rfl rfl rfl (by decide +kernel) ⟨Nat.le_of_ble_eq_true rfl, Nat.le_of_ble_eq_true rfl⟩) (zr_V hK (hP.sub (ws' := [(h0, .inr (0, [.int (nI N), .ref h1, .ref h2, .ref h3, .ref h4, .ref h5, .ref h6])), (h1, .inl (E 0, 15, .inl hmv)), (h2, .inl (E 0, 15, .inl awv)), (h3, .inl (E 0, 30, .inl rvv)), (h4, .inl (E 0, 30, .inl sdv)), (h5, .inl (E 0, 30, .inl gmv)), (h6, .inl (E 0, 36, .inl ca))]) [0, 1, 2, 3, 4, 5, 6] rfl) (ci := 0) (q0 := 0) rfl rfl) rfl rfl hl.1 rfl (lv_room (Nat.le_of_ble_eq_true rfl)) dX1_swapRounds_23 ⟨Nat.zero_le _, Nat.zero_le _⟩) (fun r_4 H locs hw_5 hP hS => ?_)
      subst hw_5
      refine zr_ti (y := nI (G r (2 * k + 1))) (hh2) ?_
      refine lv_istore (lv' := [(5, .int (nI (G r (2 * k + 1)))), (4, .int (nI (G r (2 * k)))), (0, .ref h0), (1, .int (nI r)), (2, .int (nI q)), (3, .int (nI k))]) hx hb dX1_swapRounds_26 hl (by decide) rfl (fun ls hl => ?_)
      refine lv_aload_n hx hb dX1_swapRounds_28 rfl (lv_at hl 2 rfl) ?_
      refine lv_iload_n hx hb dX1_swapRounds_29 rfl (lv_at hl 3 rfl) ?_
      refine lv_iload_n hx hb dX1_swapRounds_30 rfl (lv_at hl 5 rfl) ?_
      refine lv_aload_n hx hb dX1_swapRounds_31 rfl (lv_at hl 2 rfl) ?_
      refine lv_iload_n hx hb dX1_swapRounds_32 rfl (lv_at hl 4 rfl) ?_
      refine lv_iload_n hx hb dX1_swapRounds_33 rfl (lv_at hl 5 rfl) ?_
      refine zr_ci hP hS (va_runV (As := [.int (nI q), .int (nI k)]) (rest := [.int (nI k), .int (nI r), .ref h0]) ⟨hx, hb, hml, hown, hts⟩ (c_X1_homeOf l D E h0 h1 h2 h3 h4 h5 h6 N hmv awv rvv sdv gmv ca q k (hN) (by omega) (by omega)) (cwV 2 hts gX1_swapRounds_X1_homeOf rfl rfl rfl (by decide +kernel) ⟨Nat.le_of_ble_eq_true rfl, Nat.le_of_ble_eq_true rfl⟩) (zr_V hK (hP.sub (ws' := [(h0, .inr (0, [.int (nI N), .ref h1, .ref h2, .ref h3, .ref h4, .ref h5, .ref h6])), (h1, .inl (E 0, 15, .inl hmv)), (h2, .inl (E 0, 15, .inl awv)), (h3, .inl (E 0, 30, .inl rvv)), (h4, .inl (E 0, 30, .inl sdv)), (h5, .inl (E 0, 30, .inl gmv)), (h6, .inl (E 0, 36, .inl ca))]) [0, 1, 2, 3, 4, 5, 6] rfl) (ci := 0) (q0 := 0) rfl rfl) rfl rfl hl.1 rfl (lv_room (Nat.le_of_ble_eq_true rfl)) dX1_swapRounds_34 ⟨Nat.zero_le _, Nat.zero_le _⟩) (fun r_6 H locs hw_7 hP hS => ?_)
      subst hw_7
      refine zr_ti (y := nI (G q (2 * k))) (hh3) ?_
      refine lv_aload_n hx hb dX1_swapRounds_37 rfl (lv_at hl 2 rfl) ?_
      refine lv_iload_n hx hb dX1_swapRounds_38 rfl (lv_at hl 4 rfl) ?_
      refine lv_iload_n hx hb dX1_swapRounds_39 rfl (lv_at hl 5 rfl) ?_
      refine zr_ci hP hS (va_runV (As := [.int (nI q), .int (nI k)]) (rest := [.int (nI (G q (2 * k))), .int (nI k), .int (nI r), .ref h0]) ⟨hx, hb, hml, hown, hts⟩ (c_X1_awayOf l D E h0 h1 h2 h3 h4 h5 h6 N hmv awv rvv sdv gmv ca q k (hN) (by omega) (by omega)) (cwV 2 hts gX1_swapRounds_X1_awayOf rfl rfl rfl (by decide +kernel) ⟨Nat.le_of_ble_eq_true rfl, Nat.le_of_ble_eq_true rfl⟩) (zr_V hK (hP.sub (ws' := [(h0, .inr (0, [.int (nI N), .ref h1, .ref h2, .ref h3, .ref h4, .ref h5, .ref h6])), (h1, .inl (E 0, 15, .inl hmv)), (h2, .inl (E 0, 15, .inl awv)), (h3, .inl (E 0, 30, .inl rvv)), (h4, .inl (E 0, 30, .inl sdv)), (h5, .inl (E 0, 30, .inl gmv)), (h6, .inl (E 0, 36, .inl ca))]) [0, 1, 2, 3, 4, 5, 6] rfl) (ci := 0) (q0 := 0) rfl rfl) rfl rfl hl.1 rfl (lv_room (Nat.le_of_ble_eq_true rfl)) dX1_swapRounds_40 ⟨Nat.zero_le _, Nat.zero_le _⟩) (fun r_8 H locs hw_9 hP hS => ?_)
      subst hw_9
      refine zr_ti (y := nI (G q (2 * k + 1))) (hh4) ?_
      have hPc := hP.sub (ws' := [(h0, .inr (0, [.int (nI N), .ref h1, .ref h2, .ref h3, .ref h4, .ref h5, .ref h6])), (h1, .inl (E 0, 15, .inl hmv)), (h2, .inl (E 0, 15, .inl awv)), (h3, .inl (E 0, 30, .inl rvv)), (h4, .inl (E 0, 30, .inl sdv)), (h5, .inl (E 0, 30, .inl gmv)), (h6, .inl (E 0, 36, .inl ca))]) [0, 1, 2, 3, 4, 5, 6] rfl
      have hDc := hD.sub (ws' := [(h0, .inr (0, [.int (nI N), .ref h1, .ref h2, .ref h3, .ref h4, .ref h5, .ref h6])), (h1, .inl (E 0, 15, .inl hmv)), (h2, .inl (E 0, 15, .inl awv)), (h3, .inl (E 0, 30, .inl rvv)), (h4, .inl (E 0, 30, .inl sdv)), (h5, .inl (E 0, 30, .inl gmv)), (h6, .inl (E 0, 36, .inl ca))]) [0, 1, 2, 3, 4, 5, 6] (by decide +kernel) rfl
      have hAc := zw_AA (wc := [(h0, .inr (0, [.int (nI N), .ref h1, .ref h2, .ref h3, .ref h4, .ref h5, .ref h6])), (h1, .inl (E 0, 15, .inl hmv)), (h2, .inl (E 0, 15, .inl awv)), (h3, .inl (E 0, 30, .inl rvv)), (h4, .inl (E 0, 30, .inl sdv)), (h5, .inl (E 0, 30, .inl gmv)), (h6, .inl (E 0, 36, .inl ca))]) hD [0, 1, 2, 3, 4, 5, 6] rfl
      refine zw_cv hAc hS (va_runV (As := [.int (nI r), .int (nI k), .int (nI (G q (2 * k))), .int (nI (G q (2 * k + 1)))]) (rest := []) ⟨hx, hb, hml, hown, hts⟩ (c_X1_put l D E h0 h1 h2 h3 h4 h5 h6 N hmv awv rvv sdv gmv ca r k (G q (2 * k)) (G q (2 * k + 1)) (hN) (by omega) (by omega) (by omega) (by omega) (by omega)) (cwV 4 hts gX1_swapRounds_X1_put rfl rfl rfl (by decide +kernel) ⟨Nat.le_of_ble_eq_true rfl, Nat.le_of_ble_eq_true rfl⟩) (zw_V hK hPc hDc (ci := 0) (q0 := 0) rfl rfl) rfl rfl hl.1 rfl (lv_room (Nat.le_of_ble_eq_true rfl)) dX1_swapRounds_43 ⟨Nat.zero_le _, Nat.zero_le _⟩) (fun u_12 H locs hw_11 hP1 hD1 hk1 hS => ?_)
      obtain ⟨hP, hD⟩ := zw_join (wr := []) (w1 := [(h0, .inr (0, [.int (nI N), .ref h1, .ref h2, .ref h3, .ref h4, .ref h5, .ref h6])), (h1, .inl (E 0, 15, .inl (upd hmv (r * 3 + k) (nI (G q (2 * k)))))), (h2, .inl (E 0, 15, .inl (upd awv (r * 3 + k) (nI (G q (2 * k + 1)))))), (h3, .inl (E 0, 30, .inl (upd (upd rvv (r * 6 + (G q (2 * k))) (nI (G q (2 * k + 1)))) (r * 6 + (G q (2 * k + 1))) (nI (G q (2 * k)))))), (h4, .inl (E 0, 30, .inl (upd (upd sdv (r * 6 + (G q (2 * k))) (nI 1)) (r * 6 + (G q (2 * k + 1))) (nI 0)))), (h5, .inl (E 0, 30, .inl (upd (upd gmv (r * 6 + (G q (2 * k))) (nI k)) (r * 6 + (G q (2 * k + 1))) (nI k)))), (h6, .inl (E 0, 36, .inl ca))]) (ws' := [(h0, .inr (0, [.int (nI N), .ref h1, .ref h2, .ref h3, .ref h4, .ref h5, .ref h6])), (h1, .inl (E 0, 15, .inl (upd hmv (r * 3 + k) (nI (G q (2 * k)))))), (h2, .inl (E 0, 15, .inl (upd awv (r * 3 + k) (nI (G q (2 * k + 1)))))), (h3, .inl (E 0, 30, .inl (upd (upd rvv (r * 6 + (G q (2 * k))) (nI (G q (2 * k + 1)))) (r * 6 + (G q (2 * k + 1))) (nI (G q (2 * k)))))), (h4, .inl (E 0, 30, .inl (upd (upd sdv (r * 6 + (G q (2 * k))) (nI 1)) (r * 6 + (G q (2 * k + 1))) (nI 0)))), (h5, .inl (E 0, 30, .inl (upd (upd gmv (r * 6 + (G q (2 * k))) (nI k)) (r * 6 + (G q (2 * k + 1))) (nI k)))), (h6, .inl (E 0, 36, .inl ca))]) hP hD [0, 1, 2, 3, 4, 5, 6] [] [0, 1, 2, 3, 4, 5, 6] rfl rfl (by decide +kernel) (by decide +kernel) hAc hk1 hP1 hD1 (by decide +kernel) rfl
      clear hP1 hD1 hk1 hPc hDc hAc
      refine lv_aload_n hx hb dX1_swapRounds_46 rfl (lv_at hl 2 rfl) ?_
      refine lv_iload_n hx hb dX1_swapRounds_47 rfl (lv_at hl 4 rfl) ?_
      refine lv_iload_n hx hb dX1_swapRounds_48 rfl (lv_at hl 5 rfl) ?_
      refine lv_iload hx hb dX1_swapRounds_49 (lv_at hl 1 rfl) ?_
      refine lv_iload hx hb dX1_swapRounds_51 (lv_at hl 0 rfl) ?_
      have hPc := hP.sub (ws' := [(h0, .inr (0, [.int (nI N), .ref h1, .ref h2, .ref h3, .ref h4, .ref h5, .ref h6])), (h1, .inl (E 0, 15, .inl (upd hmv (r * 3 + k) (nI (G q (2 * k)))))), (h2, .inl (E 0, 15, .inl (upd awv (r * 3 + k) (nI (G q (2 * k + 1)))))), (h3, .inl (E 0, 30, .inl (upd (upd rvv (r * 6 + (G q (2 * k))) (nI (G q (2 * k + 1)))) (r * 6 + (G q (2 * k + 1))) (nI (G q (2 * k)))))), (h4, .inl (E 0, 30, .inl (upd (upd sdv (r * 6 + (G q (2 * k))) (nI 1)) (r * 6 + (G q (2 * k + 1))) (nI 0)))), (h5, .inl (E 0, 30, .inl (upd (upd gmv (r * 6 + (G q (2 * k))) (nI k)) (r * 6 + (G q (2 * k + 1))) (nI k)))), (h6, .inl (E 0, 36, .inl ca))]) [0, 1, 2, 3, 4, 5, 6] rfl
      have hDc := hD.sub (ws' := [(h0, .inr (0, [.int (nI N), .ref h1, .ref h2, .ref h3, .ref h4, .ref h5, .ref h6])), (h1, .inl (E 0, 15, .inl (upd hmv (r * 3 + k) (nI (G q (2 * k)))))), (h2, .inl (E 0, 15, .inl (upd awv (r * 3 + k) (nI (G q (2 * k + 1)))))), (h3, .inl (E 0, 30, .inl (upd (upd rvv (r * 6 + (G q (2 * k))) (nI (G q (2 * k + 1)))) (r * 6 + (G q (2 * k + 1))) (nI (G q (2 * k)))))), (h4, .inl (E 0, 30, .inl (upd (upd sdv (r * 6 + (G q (2 * k))) (nI 1)) (r * 6 + (G q (2 * k + 1))) (nI 0)))), (h5, .inl (E 0, 30, .inl (upd (upd gmv (r * 6 + (G q (2 * k))) (nI k)) (r * 6 + (G q (2 * k + 1))) (nI k)))), (h6, .inl (E 0, 36, .inl ca))]) [0, 1, 2, 3, 4, 5, 6] (by decide +kernel) rfl
      have hAc := zw_AA (wc := [(h0, .inr (0, [.int (nI N), .ref h1, .ref h2, .ref h3, .ref h4, .ref h5, .ref h6])), (h1, .inl (E 0, 15, .inl (upd hmv (r * 3 + k) (nI (G q (2 * k)))))), (h2, .inl (E 0, 15, .inl (upd awv (r * 3 + k) (nI (G q (2 * k + 1)))))), (h3, .inl (E 0, 30, .inl (upd (upd rvv (r * 6 + (G q (2 * k))) (nI (G q (2 * k + 1)))) (r * 6 + (G q (2 * k + 1))) (nI (G q (2 * k)))))), (h4, .inl (E 0, 30, .inl (upd (upd sdv (r * 6 + (G q (2 * k))) (nI 1)) (r * 6 + (G q (2 * k + 1))) (nI 0)))), (h5, .inl (E 0, 30, .inl (upd (upd gmv (r * 6 + (G q (2 * k))) (nI k)) (r * 6 + (G q (2 * k + 1))) (nI k)))), (h6, .inl (E 0, 36, .inl ca))]) hD [0, 1, 2, 3, 4, 5, 6] rfl
      refine zw_cv hAc hS (va_runV (As := [.int (nI q), .int (nI k), .int (nI (G r (2 * k))), .int (nI (G r (2 * k + 1)))]) (rest := []) ⟨hx, hb, hml, hown, hts⟩ (c_X1_put l D E h0 h1 h2 h3 h4 h5 h6 N (upd hmv (r * 3 + k) (nI (G q (2 * k)))) (upd awv (r * 3 + k) (nI (G q (2 * k + 1)))) (upd (upd rvv (r * 6 + (G q (2 * k))) (nI (G q (2 * k + 1)))) (r * 6 + (G q (2 * k + 1))) (nI (G q (2 * k)))) (upd (upd sdv (r * 6 + (G q (2 * k))) (nI 1)) (r * 6 + (G q (2 * k + 1))) (nI 0)) (upd (upd gmv (r * 6 + (G q (2 * k))) (nI k)) (r * 6 + (G q (2 * k + 1))) (nI k)) ca q k (G r (2 * k)) (G r (2 * k + 1)) (hN) (by omega) (by omega) (by omega) (by omega) (by omega)) (cwV 4 hts gX1_swapRounds_X1_put rfl rfl rfl (by decide +kernel) ⟨Nat.le_of_ble_eq_true rfl, Nat.le_of_ble_eq_true rfl⟩) (zw_V hK hPc hDc (ci := 0) (q0 := 0) rfl rfl) rfl rfl hl.1 rfl (lv_room (Nat.le_of_ble_eq_true rfl)) dX1_swapRounds_53 ⟨Nat.zero_le _, Nat.zero_le _⟩) (fun u_15 H locs hw_14 hP1 hD1 hk1 hS => ?_)
      obtain ⟨hP, hD⟩ := zw_join (wr := []) (w1 := [(h0, .inr (0, [.int (nI N), .ref h1, .ref h2, .ref h3, .ref h4, .ref h5, .ref h6])), (h1, .inl (E 0, 15, .inl (upd (upd hmv (r * 3 + k) (nI (G q (2 * k)))) (q * 3 + k) (nI (G r (2 * k)))))), (h2, .inl (E 0, 15, .inl (upd (upd awv (r * 3 + k) (nI (G q (2 * k + 1)))) (q * 3 + k) (nI (G r (2 * k + 1)))))), (h3, .inl (E 0, 30, .inl (upd (upd (upd (upd rvv (r * 6 + (G q (2 * k))) (nI (G q (2 * k + 1)))) (r * 6 + (G q (2 * k + 1))) (nI (G q (2 * k)))) (q * 6 + (G r (2 * k))) (nI (G r (2 * k + 1)))) (q * 6 + (G r (2 * k + 1))) (nI (G r (2 * k)))))), (h4, .inl (E 0, 30, .inl (upd (upd (upd (upd sdv (r * 6 + (G q (2 * k))) (nI 1)) (r * 6 + (G q (2 * k + 1))) (nI 0)) (q * 6 + (G r (2 * k))) (nI 1)) (q * 6 + (G r (2 * k + 1))) (nI 0)))), (h5, .inl (E 0, 30, .inl (upd (upd (upd (upd gmv (r * 6 + (G q (2 * k))) (nI k)) (r * 6 + (G q (2 * k + 1))) (nI k)) (q * 6 + (G r (2 * k))) (nI k)) (q * 6 + (G r (2 * k + 1))) (nI k)))), (h6, .inl (E 0, 36, .inl ca))]) (ws' := [(h0, .inr (0, [.int (nI N), .ref h1, .ref h2, .ref h3, .ref h4, .ref h5, .ref h6])), (h1, .inl (E 0, 15, .inl (upd (upd hmv (r * 3 + k) (nI (G q (2 * k)))) (q * 3 + k) (nI (G r (2 * k)))))), (h2, .inl (E 0, 15, .inl (upd (upd awv (r * 3 + k) (nI (G q (2 * k + 1)))) (q * 3 + k) (nI (G r (2 * k + 1)))))), (h3, .inl (E 0, 30, .inl (upd (upd (upd (upd rvv (r * 6 + (G q (2 * k))) (nI (G q (2 * k + 1)))) (r * 6 + (G q (2 * k + 1))) (nI (G q (2 * k)))) (q * 6 + (G r (2 * k))) (nI (G r (2 * k + 1)))) (q * 6 + (G r (2 * k + 1))) (nI (G r (2 * k)))))), (h4, .inl (E 0, 30, .inl (upd (upd (upd (upd sdv (r * 6 + (G q (2 * k))) (nI 1)) (r * 6 + (G q (2 * k + 1))) (nI 0)) (q * 6 + (G r (2 * k))) (nI 1)) (q * 6 + (G r (2 * k + 1))) (nI 0)))), (h5, .inl (E 0, 30, .inl (upd (upd (upd (upd gmv (r * 6 + (G q (2 * k))) (nI k)) (r * 6 + (G q (2 * k + 1))) (nI k)) (q * 6 + (G r (2 * k))) (nI k)) (q * 6 + (G r (2 * k + 1))) (nI k)))), (h6, .inl (E 0, 36, .inl ca))]) hP hD [0, 1, 2, 3, 4, 5, 6] [] [0, 1, 2, 3, 4, 5, 6] rfl rfl (by decide +kernel) (by decide +kernel) hAc hk1 hP1 hD1 (by decide +kernel) rfl
      clear hP1 hD1 hk1 hPc hDc hAc
      refine lv_iinc (v := nI (k + 1)) (lv' := [(3, .int (nI (k + 1))), (5, .int (nI (G r (2 * k + 1)))), (4, .int (nI (G r (2 * k)))), (0, .ref h0), (1, .int (nI r)), (2, .int (nI q))]) hx hb dX1_swapRounds_56 hl (k := 5) rfl (nI_add _ _) (by decide) rfl (fun ls hl => ?_)
      refine lv_goto (tgt := 2) hx hb dX1_swapRounds_59 (by decide) ?_
      have hl : lv_has ls 6 [(0, .ref h0), (1, .int (nI r)), (2, .int (nI q)), (3, .int (nI (k + 1)))] := lv_sub hl [3, 4, 5, 0] rfl
      exact ih2 (k + 1) (upd (upd hmv (r * 3 + k) (nI (G q (2 * k)))) (q * 3 + k) (nI (G r (2 * k)))) (upd (upd awv (r * 3 + k) (nI (G q (2 * k + 1)))) (q * 3 + k) (nI (G r (2 * k + 1)))) (upd (upd (upd (upd rvv (r * 6 + (G q (2 * k))) (nI (G q (2 * k + 1)))) (r * 6 + (G q (2 * k + 1))) (nI (G q (2 * k)))) (q * 6 + (G r (2 * k))) (nI (G r (2 * k + 1)))) (q * 6 + (G r (2 * k + 1))) (nI (G r (2 * k)))) (upd (upd (upd (upd sdv (r * 6 + (G q (2 * k))) (nI 1)) (r * 6 + (G q (2 * k + 1))) (nI 0)) (q * 6 + (G r (2 * k))) (nI 1)) (q * 6 + (G r (2 * k + 1))) (nI 0)) (upd (upd (upd (upd gmv (r * 6 + (G q (2 * k))) (nI k)) (r * 6 + (G q (2 * k + 1))) (nI k)) (q * 6 + (G r (2 * k))) (nI k)) (q * 6 + (G r (2 * k + 1))) (nI k)) H locs ls (by omega) (zm_swI_s hok hr0 hq0 hkk hI) (by omega) hP hD hS hl

set_option maxHeartbeats 4000000 in
set_option maxRecDepth 100000 in
theorem c_X1_layCircle (l : Launch) (D : va_G) (E : Nat → ClassId) (h0 : Nat) (h1 : Nat) (h2 : Nat) (h3 : Nat) (h4 : Nat) (h5 : Nat) (h6 : Nat) (N : Nat) (hm : Nat → Int32) (aw : Nat → Int32) (rv : Nat → Int32) (sd : Nat → Int32) (gm : Nat → Int32) (ca : Nat → Int32) (M : Nat) (hM : M = 4 ∨ M = 6) : Met l yX1_layCircle wsX1_layCircle ({ frames := 2, cells := 0, slots := 0, locals := 48 }) (zw_P D E [.ref h0, .int (nI M)] [(h0, .inr (0, [.int (nI N), .ref h1, .ref h2, .ref h3, .ref h4, .ref h5, .ref h6])), (h1, .inl (E 0, 15, .inl hm)), (h2, .inl (E 0, 15, .inl aw)), (h3, .inl (E 0, 30, .inl rv)), (h4, .inl (E 0, 30, .inl sd)), (h5, .inl (E 0, 30, .inl gm)), (h6, .inl (E 0, 36, .inl ca))]) (zw_Qv D [(h0, .inr (0, [.int (nI N), .ref h1, .ref h2, .ref h3, .ref h4, .ref h5, .ref h6])), (h1, .inl (E 0, 15, .inl hm)), (h2, .inl (E 0, 15, .inl aw)), (h3, .inl (E 0, 30, .inl rv)), (h4, .inl (E 0, 30, .inl sd)), (h5, .inl (E 0, 30, .inl gm)), (h6, .inl (E 0, 36, .inl ca))] (fun (u : (Nat → Int32) × (Nat → Int32) × (Nat → Int32) × (Nat → Int32) × (Nat → Int32)) => zm_pl M (zm_ciG M) (zm_ciP M) u.1 u.2.1 u.2.2.1 u.2.2.2.1 u.2.2.2.2) (fun (u : (Nat → Int32) × (Nat → Int32) × (Nat → Int32) × (Nat → Int32) × (Nat → Int32)) => [(h0, .inr (0, [.int (nI M), .ref h1, .ref h2, .ref h3, .ref h4, .ref h5, .ref h6])), (h1, .inl (E 0, 15, .inl u.1)), (h2, .inl (E 0, 15, .inl u.2.1)), (h3, .inl (E 0, 30, .inl u.2.2.1)), (h4, .inl (E 0, 30, .inl u.2.2.2.1)), (h5, .inl (E 0, 30, .inl u.2.2.2.2)), (h6, .inl (E 0, 36, .inl ca))])) 0 0 (zw_A [(h0, .inr (0, [.int (nI N), .ref h1, .ref h2, .ref h3, .ref h4, .ref h5, .ref h6])), (h1, .inl (E 0, 15, .inl hm)), (h2, .inl (E 0, 15, .inl aw)), (h3, .inl (E 0, 30, .inl rv)), (h4, .inl (E 0, 30, .inl sd)), (h5, .inl (E 0, 30, .inl gm)), (h6, .inl (E 0, 36, .inl ca))]) := by
  refine Met.ofW (cc := cX1_layCircle) (maxL := 7) (ret := none) (by decide) rfl ?_
  intro p e s m args below meth c s₁ Bz hml hv
  obtain ⟨rfl, hP, hK, hD0⟩ := hv
  have hx := Bz.exec
  have hb := Bz.bytes
  have hr := Bz.returns
  have hts := atoms_spec (ws := wsX1_layCircle) Bz.pre
  have hown : s.vm.findClass RX1 = some m.cls := findClass_of_methodNamed Bz.named
  have hlocks := Bz.notSynchronized
  have hP : va_P D vwCl [(h0, .inr (0, [.int (nI N), .ref h1, .ref h2, .ref h3, .ref h4, .ref h5, .ref h6])), (h1, .inl (E 0, 15, .inl hm)), (h2, .inl (E 0, 15, .inl aw)), (h3, .inl (E 0, 30, .inl rv)), (h4, .inl (E 0, 30, .inl sd)), (h5, .inl (E 0, 30, .inl gm)), (h6, .inl (E 0, 36, .inl ca))] s.heap := hP
  obtain ⟨A, hAe⟩ : ∃ A : Nat → Prop, A = zw_A [(h0, .inr (0, [.int (nI N), .ref h1, .ref h2, .ref h3, .ref h4, .ref h5, .ref h6])), (h1, .inl (E 0, 15, .inl hm)), (h2, .inl (E 0, 15, .inl aw)), (h3, .inl (E 0, 30, .inl rv)), (h4, .inl (E 0, 30, .inl sd)), (h5, .inl (E 0, 30, .inl gm)), (h6, .inl (E 0, 36, .inl ca))] := ⟨_, rfl⟩
  have hD : va_D A [(h0, .inr (0, [.int (nI N), .ref h1, .ref h2, .ref h3, .ref h4, .ref h5, .ref h6])), (h1, .inl (E 0, 15, .inl hm)), (h2, .inl (E 0, 15, .inl aw)), (h3, .inl (E 0, 30, .inl rv)), (h4, .inl (E 0, 30, .inl sd)), (h5, .inl (E 0, 30, .inl gm)), (h6, .inl (E 0, 36, .inl ca))] := hAe ▸ zw_own hD0
  have hS : va_S A s.heap s.heap [] := va_S.rf
  have hl := lv_entry ([.ref h0, .int (nI M)]) (n := 7) (Nat.le_of_ble_eq_true rfl)
  rw [lg_entry_eq]
  generalize (lg_sl ([.ref h0, .int (nI M)]) ++ List.replicate (7 - (lg_sl ([.ref h0, .int (nI M)])).length) Slot.unset).toArray = ls at hl ⊢
  have hl : lv_has ls 7 [(0, .ref h0), (1, .int (nI M))] := hl
  refine zr_nQ (fun Q hQ => ?_)
  have hokM := zm_ci_ok hM
  have KJ13 : ∀  (H : Heap) (locs : List Loc) (ls : Array Slot), va_P D vwCl [(h0, .inr (0, [.int (nI N), .ref h1, .ref h2, .ref h3, .ref h4, .ref h5, .ref h6])), (h1, .inl (E 0, 15, .inl hm)), (h2, .inl (E 0, 15, .inl aw)), (h3, .inl (E 0, 30, .inl rv)), (h4, .inl (E 0, 30, .inl sd)), (h5, .inl (E 0, 30, .inl gm)), (h6, .inl (E 0, 36, .inl ca))] H → va_D A [(h0, .inr (0, [.int (nI N), .ref h1, .ref h2, .ref h3, .ref h4, .ref h5, .ref h6])), (h1, .inl (E 0, 15, .inl hm)), (h2, .inl (E 0, 15, .inl aw)), (h3, .inl (E 0, 30, .inl rv)), (h4, .inl (E 0, 30, .inl sd)), (h5, .inl (E 0, 30, .inl gm)), (h6, .inl (E 0, 36, .inl ca))] → va_S A s.heap H locs → lv_has ls 7 [(0, .ref h0), (1, .int (nI M))] → W p l e (headSpec wsX1_layCircle ({ frames := 2, cells := 0, slots := 0, locals := 48 })).room s m ([.ref h0, .int (nI M)] : List Value).toArray below meth c H locs 0 0 Q (F0 m 13 ls [.int (nI M), .ref h0]) := by
    clear hP hS hl hD
    intro  H locs ls  hP hD hS hl
    refine va_put (D := D) (ci := 0) (v := .int (nI M)) (ty := .int) (C := RX1) (T := TX1) (N := 7) hx hb hts (by decide +kernel) tyX1 tyX1_ok nmX1 hown hK.1 hP hD hS 0 rfl rfl 0 (by decide) (hts (.fieldLink RX1 30 "HomeRounds$Plan" "n" "I") (by decide +kernel)) (fun _ h9 => h9) rfl (by decide +kernel) rfl rfl (Nat.le_of_ble_eq_true rfl) dX1_layCircle_13 (fun H locs hP hD hS => ?_)
    have hP : va_P D vwCl [(h0, .inr (0, [.int (nI M), .ref h1, .ref h2, .ref h3, .ref h4, .ref h5, .ref h6])), (h1, .inl (E 0, 15, .inl hm)), (h2, .inl (E 0, 15, .inl aw)), (h3, .inl (E 0, 30, .inl rv)), (h4, .inl (E 0, 30, .inl sd)), (h5, .inl (E 0, 30, .inl gm)), (h6, .inl (E 0, 36, .inl ca))] H := hP
    have hD : va_D A [(h0, .inr (0, [.int (nI M), .ref h1, .ref h2, .ref h3, .ref h4, .ref h5, .ref h6])), (h1, .inl (E 0, 15, .inl hm)), (h2, .inl (E 0, 15, .inl aw)), (h3, .inl (E 0, 30, .inl rv)), (h4, .inl (E 0, 30, .inl sd)), (h5, .inl (E 0, 30, .inl gm)), (h6, .inl (E 0, 36, .inl ca))] := hD
    refine lv_aload_n hx hb dX1_layCircle_16 rfl (lv_at hl 0 rfl) ?_
    refine va_get (D := D) (ci := 0) (v := .int (nI M)) (C := RX1) (T := TX1) (N := 7) hx hb hts (by decide +kernel) hown hK.1 hP 0 rfl rfl 0 (by decide) (hts (.fieldLink RX1 30 "HomeRounds$Plan" "n" "I") (by decide +kernel)) (fun _ h9 => h9) rfl dX1_layCircle_17 ?_
    refine lv_iconst (v := nI 1) hx hb dX1_layCircle_20 (by rfl) ?_
    refine lv_isub hx hb dX1_layCircle_21 ?_
    refine zr_ti (y := nI (M - 1)) (pk_sub (by omega)) ?_
    refine lv_istore_n (lv' := [(2, .int (nI (M - 1))), (0, .ref h0), (1, .int (nI M))]) hx hb dX1_layCircle_22 rfl hl (by decide) rfl (fun ls hl => ?_)
    refine lv_iconst (v := nI 0) hx hb dX1_layCircle_23 (by rfl) ?_
    refine lv_istore_n (lv' := [(3, .int (nI 0)), (2, .int (nI (M - 1))), (0, .ref h0), (1, .int (nI M))]) hx hb dX1_layCircle_24 rfl hl (by decide) rfl (fun ls hl => ?_)
    suffices KL25 : ∀ (kz : Nat) (r : Nat) (hmv : Nat → Int32) (awv : Nat → Int32) (rvv : Nat → Int32) (sdv : Nat → Int32) (gmv : Nat → Int32) (H : Heap) (locs : List Loc) (ls : Array Slot), (M - r) < kz → (zm_done M (zm_ciG M) r 0 hmv awv rvv sdv gmv) → (r ≤ M - 1) → va_P D vwCl [(h0, .inr (0, [.int (nI M), .ref h1, .ref h2, .ref h3, .ref h4, .ref h5, .ref h6])), (h1, .inl (E 0, 15, .inl hmv)), (h2, .inl (E 0, 15, .inl awv)), (h3, .inl (E 0, 30, .inl rvv)), (h4, .inl (E 0, 30, .inl sdv)), (h5, .inl (E 0, 30, .inl gmv)), (h6, .inl (E 0, 36, .inl ca))] H → va_D A [(h0, .inr (0, [.int (nI M), .ref h1, .ref h2, .ref h3, .ref h4, .ref h5, .ref h6])), (h1, .inl (E 0, 15, .inl hmv)), (h2, .inl (E 0, 15, .inl awv)), (h3, .inl (E 0, 30, .inl rvv)), (h4, .inl (E 0, 30, .inl sdv)), (h5, .inl (E 0, 30, .inl gmv)), (h6, .inl (E 0, 36, .inl ca))] → va_S A s.heap H locs → lv_has ls 7 [(0, .ref h0), (2, .int (nI (M - 1))), (3, .int (nI r))] → W p l e (headSpec wsX1_layCircle ({ frames := 2, cells := 0, slots := 0, locals := 48 })).room s m ([.ref h0, .int (nI M)] : List Value).toArray below meth c H locs 0 0 Q (F0 m 25 ls []) from
      KL25 _ 0 hm aw rv sd gm _ _ ls (Nat.lt_succ_self _) (fun _ _ _ _ hd => by omega) (by omega) hP hD hS (lv_sub hl [2, 1, 0] rfl)
    clear hP hS hl hD
    intro kz
    induction kz with
    | zero => intro r hmv awv rvv sdv gmv H locs ls hkz; exact absurd hkz (Nat.not_lt_zero _)
    | succ kz ih25 =>
      intro r hmv awv rvv sdv gmv H locs ls hkz hI hrl hP hD hS hl
      refine lv_iload_n hx hb dX1_layCircle_25 rfl (lv_at hl 2 rfl) ?_
      refine lv_iload_n hx hb dX1_layCircle_26 rfl (lv_at hl 1 rfl) ?_
      refine lv_icmp_ge (tgt := 159) hx hb dX1_layCircle_27 (by decide) (fun cn_1 => ?_) (fun cn_1 => ?_)
      · skip
        have cn_1 : M - 1 ≤ r := (nI_leI (a := M - 1) (b := r) (by omega) (by omega)).mp cn_1
        have hre : M - 1 ≤ r := by omega
        subst hQ; subst hAe
        exact W.vret hx hb hr (fun tz htz hWz => ⟨⟨(hmv, awv, rvv, sdv, gmv), rfl, zm_done_e hokM hre hI, by rw [htz]; exact hP, hD⟩, hS.F htz⟩) hS.2.2 dX1_layCircle_159
      · skip
        have cn_1 : ¬ (M - 1 ≤ r) := fun hz => cn_1 ((nI_leI (a := M - 1) (b := r) (by omega) (by omega)).mpr hz)
        have hrr : r < M - 1 := by omega
        have KJ55 : ∀ (hmu : Nat → Int32) (awu : Nat → Int32) (rvu : Nat → Int32) (sdu : Nat → Int32) (gmu : Nat → Int32) (H : Heap) (locs : List Loc) (ls : Array Slot), (zm_done M (zm_ciG M) r 1 hmu awu rvu sdu gmu) → va_P D vwCl [(h0, .inr (0, [.int (nI M), .ref h1, .ref h2, .ref h3, .ref h4, .ref h5, .ref h6])), (h1, .inl (E 0, 15, .inl hmu)), (h2, .inl (E 0, 15, .inl awu)), (h3, .inl (E 0, 30, .inl rvu)), (h4, .inl (E 0, 30, .inl sdu)), (h5, .inl (E 0, 30, .inl gmu)), (h6, .inl (E 0, 36, .inl ca))] H → va_D A [(h0, .inr (0, [.int (nI M), .ref h1, .ref h2, .ref h3, .ref h4, .ref h5, .ref h6])), (h1, .inl (E 0, 15, .inl hmu)), (h2, .inl (E 0, 15, .inl awu)), (h3, .inl (E 0, 30, .inl rvu)), (h4, .inl (E 0, 30, .inl sdu)), (h5, .inl (E 0, 30, .inl gmu)), (h6, .inl (E 0, 36, .inl ca))] → va_S A s.heap H locs → lv_has ls 7 [(0, .ref h0), (2, .int (nI (M - 1))), (3, .int (nI r))] → W p l e (headSpec wsX1_layCircle ({ frames := 2, cells := 0, slots := 0, locals := 48 })).room s m ([.ref h0, .int (nI M)] : List Value).toArray below meth c H locs 0 0 Q (F0 m 55 ls []) := by
          clear hP hS hl hD
          intro hmu awu rvu sdu gmu H locs ls hI1 hP hD hS hl
          refine lv_iconst (v := nI 1) hx hb dX1_layCircle_55 (by rfl) ?_
          refine lv_istore (lv' := [(4, .int (nI 1)), (0, .ref h0), (2, .int (nI (M - 1))), (3, .int (nI r))]) hx hb dX1_layCircle_56 hl (by decide) rfl (fun ls hl => ?_)
          suffices KL58 : ∀ (kz : Nat) (i : Nat) (hmw : Nat → Int32) (aww : Nat → Int32) (rvw : Nat → Int32) (sdw : Nat → Int32) (gmw : Nat → Int32) (H : Heap) (locs : List Loc) (ls : Array Slot), (M - i) < kz → (zm_done M (zm_ciG M) r i hmw aww rvw sdw gmw) → (i ≤ M / 2) → (1 ≤ i) → va_P D vwCl [(h0, .inr (0, [.int (nI M), .ref h1, .ref h2, .ref h3, .ref h4, .ref h5, .ref h6])), (h1, .inl (E 0, 15, .inl hmw)), (h2, .inl (E 0, 15, .inl aww)), (h3, .inl (E 0, 30, .inl rvw)), (h4, .inl (E 0, 30, .inl sdw)), (h5, .inl (E 0, 30, .inl gmw)), (h6, .inl (E 0, 36, .inl ca))] H → va_D A [(h0, .inr (0, [.int (nI M), .ref h1, .ref h2, .ref h3, .ref h4, .ref h5, .ref h6])), (h1, .inl (E 0, 15, .inl hmw)), (h2, .inl (E 0, 15, .inl aww)), (h3, .inl (E 0, 30, .inl rvw)), (h4, .inl (E 0, 30, .inl sdw)), (h5, .inl (E 0, 30, .inl gmw)), (h6, .inl (E 0, 36, .inl ca))] → va_S A s.heap H locs → lv_has ls 7 [(0, .ref h0), (2, .int (nI (M - 1))), (3, .int (nI r)), (4, .int (nI i))] → W p l e (headSpec wsX1_layCircle ({ frames := 2, cells := 0, slots := 0, locals := 48 })).room s m ([.ref h0, .int (nI M)] : List Value).toArray below meth c H locs 0 0 Q (F0 m 58 ls []) from
            KL58 _ 1 hmu awu rvu sdu gmu _ _ ls (Nat.lt_succ_self _) (hI1) (by omega) (by omega) hP hD hS (lv_sub hl [1, 2, 3, 0] rfl)
          clear hP hS hl hD
          intro kz
          induction kz with
          | zero => intro i hmw aww rvw sdw gmw H locs ls hkz; exact absurd hkz (Nat.not_lt_zero _)
          | succ kz ih58 =>
            intro i hmw aww rvw sdw gmw H locs ls hkz hI2 hk2 hk1 hP hD hS hl
            refine lv_iload hx hb dX1_layCircle_58 (lv_at hl 3 rfl) ?_
            refine lv_aload_n hx hb dX1_layCircle_60 rfl (lv_at hl 0 rfl) ?_
            refine va_get (D := D) (ci := 0) (v := .int (nI M)) (C := RX1) (T := TX1) (N := 7) hx hb hts (by decide +kernel) hown hK.1 hP 0 rfl rfl 0 (by decide) (hts (.fieldLink RX1 30 "HomeRounds$Plan" "n" "I") (by decide +kernel)) (fun _ h9 => h9) rfl dX1_layCircle_61 ?_
            refine lv_iconst (v := nI 2) hx hb dX1_layCircle_64 (by rfl) ?_
            refine lv_idiv hx hb dX1_layCircle_65 (by decide) ?_
            refine zr_ti (y := nI (M / 2)) (pk_div (by omega) (by omega) (by omega)) ?_
            refine lv_icmp_ge (tgt := 153) hx hb dX1_layCircle_66 (by decide) (fun cn_2 => ?_) (fun cn_2 => ?_)
            · skip
              have cn_2 : M / 2 ≤ i := (nI_leI (a := M / 2) (b := i) (by omega) (by omega)).mp cn_2
              refine lv_iinc (v := nI (r + 1)) (lv' := [(3, .int (nI (r + 1))), (0, .ref h0), (2, .int (nI (M - 1))), (4, .int (nI i))]) hx hb dX1_layCircle_153 hl (k := 2) rfl (nI_add _ _) (by decide) rfl (fun ls hl => ?_)
              refine lv_goto (tgt := 25) hx hb dX1_layCircle_156 (by decide) ?_
              have hl : lv_has ls 7 [(0, .ref h0), (2, .int (nI (M - 1))), (3, .int (nI (r + 1)))] := lv_sub hl [1, 2, 0] rfl
              exact ih25 (r + 1) hmw aww rvw sdw gmw H locs ls (by omega) (zm_done_r (by omega) hI2) (by omega) hP hD hS hl
            · skip
              have cn_2 : ¬ (M / 2 ≤ i) := fun hz => cn_2 ((nI_leI (a := M / 2) (b := i) (by omega) (by omega)).mpr hz)
              have hkk : i < M / 2 := by omega
              refine lv_iload_n hx hb dX1_layCircle_69 rfl (lv_at hl 2 rfl) ?_
              refine lv_iload hx hb dX1_layCircle_70 (lv_at hl 3 rfl) ?_
              refine lv_iadd hx hb dX1_layCircle_72 ?_
              refine zr_ti (y := nI (r + i)) (nI_add _ _) ?_
              refine lv_iload_n hx hb dX1_layCircle_73 rfl (lv_at hl 1 rfl) ?_
              refine lv_icmp_ge (tgt := 84) hx hb dX1_layCircle_74 (by decide) (fun cn_3 => ?_) (fun cn_3 => ?_)
              · skip
                have cn_3 : M - 1 ≤ r + i := (nI_leI (a := M - 1) (b := r + i) (by omega) (by omega)).mp cn_3
                have hb1 := cn_3
                refine lv_iload_n hx hb dX1_layCircle_84 rfl (lv_at hl 2 rfl) ?_
                refine lv_iload hx hb dX1_layCircle_85 (lv_at hl 3 rfl) ?_
                refine lv_iadd hx hb dX1_layCircle_87 ?_
                refine zr_ti (y := nI (r + i)) (nI_add _ _) ?_
                refine lv_iload_n hx hb dX1_layCircle_88 rfl (lv_at hl 1 rfl) ?_
                refine lv_isub hx hb dX1_layCircle_89 ?_
                refine zr_ti (y := nI ((r + i) - (M - 1))) (pk_sub (by omega)) ?_
                refine lv_istore (lv' := [(5, .int (nI ((r + i) - (M - 1)))), (0, .ref h0), (2, .int (nI (M - 1))), (3, .int (nI r)), (4, .int (nI i))]) hx hb dX1_layCircle_90 hl (by decide) rfl (fun ls hl => ?_)
                refine lv_iload_n hx hb dX1_layCircle_92 rfl (lv_at hl 3 rfl) ?_
                refine lv_iload hx hb dX1_layCircle_93 (lv_at hl 4 rfl) ?_
                refine lv_isub hx hb dX1_layCircle_95 ?_
                rcases Nat.lt_or_ge (r) (i) with hlt | hge
                · skip
                  refine lv_if_lt (tgt := 106) hx hb dX1_layCircle_96 (by decide) (fun cn_4 => ?_) (fun cn_4 => ?_)
                  · skip
                    refine lv_iload_n hx hb dX1_layCircle_106 rfl (lv_at hl 3 rfl) ?_
                    refine lv_iload hx hb dX1_layCircle_107 (lv_at hl 4 rfl) ?_
                    refine lv_isub hx hb dX1_layCircle_109 ?_
                    refine lv_iload_n hx hb dX1_layCircle_110 rfl (lv_at hl 2 rfl) ?_
                    refine lv_iadd hx hb dX1_layCircle_111 ?_
                    refine zr_ti (y := nI (r + (M - 1) - i)) (zn_wrap (by omega)) ?_
                    refine lv_istore (lv' := [(6, .int (nI (r + (M - 1) - i))), (5, .int (nI ((r + i) - (M - 1)))), (0, .ref h0), (2, .int (nI (M - 1))), (3, .int (nI r)), (4, .int (nI i))]) hx hb dX1_layCircle_112 hl (by decide) rfl (fun ls hl => ?_)
                    refine lv_iload hx hb dX1_layCircle_114 (lv_at hl 5 rfl) ?_
                    refine lv_iconst (v := nI 2) hx hb dX1_layCircle_116 (by rfl) ?_
                    refine lv_irem hx hb dX1_layCircle_117 (by decide) ?_
                    refine zr_ti (y := nI (i % 2)) (pk_rem (by omega) (by omega) (by omega)) ?_
                    refine lv_iconst (v := nI 1) hx hb dX1_layCircle_118 (by rfl) ?_
                    refine lv_icmp_ne (tgt := 136) hx hb dX1_layCircle_119 (by decide) (fun cn_5 => ?_) (fun cn_5 => ?_)
                    · skip
                      have cn_5 : ¬ (i % 2 = 1) := fun hz => cn_5 ((nI_eq (a := i % 2) (b := 1) (by omega) (by omega)).mpr hz)
                      have hb3 := cn_5
                      refine lv_aload_n hx hb dX1_layCircle_136 rfl (lv_at hl 2 rfl) ?_
                      refine lv_iload_n hx hb dX1_layCircle_137 rfl (lv_at hl 4 rfl) ?_
                      refine lv_iload hx hb dX1_layCircle_138 (lv_at hl 5 rfl) ?_
                      refine lv_iload hx hb dX1_layCircle_140 (lv_at hl 0 rfl) ?_
                      refine lv_iload hx hb dX1_layCircle_142 (lv_at hl 1 rfl) ?_
                      have he1 : zm_ciG M r (2 * i) = r + (M - 1) - i := by unfold zm_ciG zm_ca zm_cb; rcases hM with rfl | rfl <;> (repeat' split) <;> omega
                      have he2 : zm_ciG M r (2 * i + 1) = (r + i) - (M - 1) := by unfold zm_ciG zm_ca zm_cb; rcases hM with rfl | rfl <;> (repeat' split) <;> omega
                      have hst := zm_done_s (k := i) hokM hrr (by omega) hI2; rw [he1, he2] at hst
                      have hPc := hP.sub (ws' := [(h0, .inr (0, [.int (nI M), .ref h1, .ref h2, .ref h3, .ref h4, .ref h5, .ref h6])), (h1, .inl (E 0, 15, .inl hmw)), (h2, .inl (E 0, 15, .inl aww)), (h3, .inl (E 0, 30, .inl rvw)), (h4, .inl (E 0, 30, .inl sdw)), (h5, .inl (E 0, 30, .inl gmw)), (h6, .inl (E 0, 36, .inl ca))]) [0, 1, 2, 3, 4, 5, 6] rfl
                      have hDc := hD.sub (ws' := [(h0, .inr (0, [.int (nI M), .ref h1, .ref h2, .ref h3, .ref h4, .ref h5, .ref h6])), (h1, .inl (E 0, 15, .inl hmw)), (h2, .inl (E 0, 15, .inl aww)), (h3, .inl (E 0, 30, .inl rvw)), (h4, .inl (E 0, 30, .inl sdw)), (h5, .inl (E 0, 30, .inl gmw)), (h6, .inl (E 0, 36, .inl ca))]) [0, 1, 2, 3, 4, 5, 6] (by decide +kernel) rfl
                      have hAc := zw_AA (wc := [(h0, .inr (0, [.int (nI M), .ref h1, .ref h2, .ref h3, .ref h4, .ref h5, .ref h6])), (h1, .inl (E 0, 15, .inl hmw)), (h2, .inl (E 0, 15, .inl aww)), (h3, .inl (E 0, 30, .inl rvw)), (h4, .inl (E 0, 30, .inl sdw)), (h5, .inl (E 0, 30, .inl gmw)), (h6, .inl (E 0, 36, .inl ca))]) hD [0, 1, 2, 3, 4, 5, 6] rfl
                      refine zw_cv hAc hS (va_runV (As := [.int (nI r), .int (nI i), .int (nI (r + (M - 1) - i)), .int (nI ((r + i) - (M - 1)))]) (rest := []) ⟨hx, hb, hml, hown, hts⟩ (c_X1_put l D E h0 h1 h2 h3 h4 h5 h6 M hmw aww rvw sdw gmw ca r i (r + (M - 1) - i) ((r + i) - (M - 1)) (hM) (by omega) (by omega) (by omega) (by omega) (by omega)) (cwV 4 hts gX1_layCircle_X1_put rfl rfl rfl (by decide +kernel) ⟨Nat.le_of_ble_eq_true rfl, Nat.le_of_ble_eq_true rfl⟩) (zw_V hK hPc hDc (ci := 0) (q0 := 0) rfl rfl) rfl rfl hl.1 rfl (lv_room (Nat.le_of_ble_eq_true rfl)) dX1_layCircle_144 ⟨Nat.zero_le _, Nat.zero_le _⟩) (fun u_8 H locs hw_7 hP1 hD1 hk1 hS => ?_)
                      obtain ⟨hP, hD⟩ := zw_join (wr := []) (w1 := [(h0, .inr (0, [.int (nI M), .ref h1, .ref h2, .ref h3, .ref h4, .ref h5, .ref h6])), (h1, .inl (E 0, 15, .inl (upd hmw (r * 3 + i) (nI (r + (M - 1) - i))))), (h2, .inl (E 0, 15, .inl (upd aww (r * 3 + i) (nI ((r + i) - (M - 1)))))), (h3, .inl (E 0, 30, .inl (upd (upd rvw (r * 6 + (r + (M - 1) - i)) (nI ((r + i) - (M - 1)))) (r * 6 + ((r + i) - (M - 1))) (nI (r + (M - 1) - i))))), (h4, .inl (E 0, 30, .inl (upd (upd sdw (r * 6 + (r + (M - 1) - i)) (nI 1)) (r * 6 + ((r + i) - (M - 1))) (nI 0)))), (h5, .inl (E 0, 30, .inl (upd (upd gmw (r * 6 + (r + (M - 1) - i)) (nI i)) (r * 6 + ((r + i) - (M - 1))) (nI i)))), (h6, .inl (E 0, 36, .inl ca))]) (ws' := [(h0, .inr (0, [.int (nI M), .ref h1, .ref h2, .ref h3, .ref h4, .ref h5, .ref h6])), (h1, .inl (E 0, 15, .inl (upd hmw (r * 3 + i) (nI (r + (M - 1) - i))))), (h2, .inl (E 0, 15, .inl (upd aww (r * 3 + i) (nI ((r + i) - (M - 1)))))), (h3, .inl (E 0, 30, .inl (upd (upd rvw (r * 6 + (r + (M - 1) - i)) (nI ((r + i) - (M - 1)))) (r * 6 + ((r + i) - (M - 1))) (nI (r + (M - 1) - i))))), (h4, .inl (E 0, 30, .inl (upd (upd sdw (r * 6 + (r + (M - 1) - i)) (nI 1)) (r * 6 + ((r + i) - (M - 1))) (nI 0)))), (h5, .inl (E 0, 30, .inl (upd (upd gmw (r * 6 + (r + (M - 1) - i)) (nI i)) (r * 6 + ((r + i) - (M - 1))) (nI i)))), (h6, .inl (E 0, 36, .inl ca))]) hP hD [0, 1, 2, 3, 4, 5, 6] [] [0, 1, 2, 3, 4, 5, 6] rfl rfl (by decide +kernel) (by decide +kernel) hAc hk1 hP1 hD1 (by decide +kernel) rfl
                      clear hP1 hD1 hk1 hPc hDc hAc
                      refine lv_iinc (v := nI (i + 1)) (lv' := [(4, .int (nI (i + 1))), (6, .int (nI (r + (M - 1) - i))), (5, .int (nI ((r + i) - (M - 1)))), (0, .ref h0), (2, .int (nI (M - 1))), (3, .int (nI r))]) hx hb dX1_layCircle_147 hl (k := 5) rfl (nI_add _ _) (by decide) rfl (fun ls hl => ?_)
                      refine lv_goto (tgt := 58) hx hb dX1_layCircle_150 (by decide) ?_
                      have hl : lv_has ls 7 [(0, .ref h0), (2, .int (nI (M - 1))), (3, .int (nI r)), (4, .int (nI (i + 1)))] := lv_sub hl [3, 4, 5, 0] rfl
                      exact ih58 (i + 1) (upd hmw (r * 3 + i) (nI (r + (M - 1) - i))) (upd aww (r * 3 + i) (nI ((r + i) - (M - 1)))) (upd (upd rvw (r * 6 + (r + (M - 1) - i)) (nI ((r + i) - (M - 1)))) (r * 6 + ((r + i) - (M - 1))) (nI (r + (M - 1) - i))) (upd (upd sdw (r * 6 + (r + (M - 1) - i)) (nI 1)) (r * 6 + ((r + i) - (M - 1))) (nI 0)) (upd (upd gmw (r * 6 + (r + (M - 1) - i)) (nI i)) (r * 6 + ((r + i) - (M - 1))) (nI i)) H locs ls (by omega) (hst) (by omega) (by omega) hP hD hS hl
                    · skip
                      have cn_5 : i % 2 = 1 := (nI_eq (a := i % 2) (b := 1) (by omega) (by omega)).mp cn_5
                      have hb3 := cn_5
                      refine lv_aload_n hx hb dX1_layCircle_122 rfl (lv_at hl 2 rfl) ?_
                      refine lv_iload_n hx hb dX1_layCircle_123 rfl (lv_at hl 4 rfl) ?_
                      refine lv_iload hx hb dX1_layCircle_124 (lv_at hl 5 rfl) ?_
                      refine lv_iload hx hb dX1_layCircle_126 (lv_at hl 1 rfl) ?_
                      refine lv_iload hx hb dX1_layCircle_128 (lv_at hl 0 rfl) ?_
                      have he1 : zm_ciG M r (2 * i) = (r + i) - (M - 1) := by unfold zm_ciG zm_ca zm_cb; rcases hM with rfl | rfl <;> (repeat' split) <;> omega
                      have he2 : zm_ciG M r (2 * i + 1) = r + (M - 1) - i := by unfold zm_ciG zm_ca zm_cb; rcases hM with rfl | rfl <;> (repeat' split) <;> omega
                      have hst := zm_done_s (k := i) hokM hrr (by omega) hI2; rw [he1, he2] at hst
                      have hPc := hP.sub (ws' := [(h0, .inr (0, [.int (nI M), .ref h1, .ref h2, .ref h3, .ref h4, .ref h5, .ref h6])), (h1, .inl (E 0, 15, .inl hmw)), (h2, .inl (E 0, 15, .inl aww)), (h3, .inl (E 0, 30, .inl rvw)), (h4, .inl (E 0, 30, .inl sdw)), (h5, .inl (E 0, 30, .inl gmw)), (h6, .inl (E 0, 36, .inl ca))]) [0, 1, 2, 3, 4, 5, 6] rfl
                      have hDc := hD.sub (ws' := [(h0, .inr (0, [.int (nI M), .ref h1, .ref h2, .ref h3, .ref h4, .ref h5, .ref h6])), (h1, .inl (E 0, 15, .inl hmw)), (h2, .inl (E 0, 15, .inl aww)), (h3, .inl (E 0, 30, .inl rvw)), (h4, .inl (E 0, 30, .inl sdw)), (h5, .inl (E 0, 30, .inl gmw)), (h6, .inl (E 0, 36, .inl ca))]) [0, 1, 2, 3, 4, 5, 6] (by decide +kernel) rfl
                      have hAc := zw_AA (wc := [(h0, .inr (0, [.int (nI M), .ref h1, .ref h2, .ref h3, .ref h4, .ref h5, .ref h6])), (h1, .inl (E 0, 15, .inl hmw)), (h2, .inl (E 0, 15, .inl aww)), (h3, .inl (E 0, 30, .inl rvw)), (h4, .inl (E 0, 30, .inl sdw)), (h5, .inl (E 0, 30, .inl gmw)), (h6, .inl (E 0, 36, .inl ca))]) hD [0, 1, 2, 3, 4, 5, 6] rfl
                      refine zw_cv hAc hS (va_runV (As := [.int (nI r), .int (nI i), .int (nI ((r + i) - (M - 1))), .int (nI (r + (M - 1) - i))]) (rest := []) ⟨hx, hb, hml, hown, hts⟩ (c_X1_put l D E h0 h1 h2 h3 h4 h5 h6 M hmw aww rvw sdw gmw ca r i ((r + i) - (M - 1)) (r + (M - 1) - i) (hM) (by omega) (by omega) (by omega) (by omega) (by omega)) (cwV 4 hts gX1_layCircle_X1_put rfl rfl rfl (by decide +kernel) ⟨Nat.le_of_ble_eq_true rfl, Nat.le_of_ble_eq_true rfl⟩) (zw_V hK hPc hDc (ci := 0) (q0 := 0) rfl rfl) rfl rfl hl.1 rfl (lv_room (Nat.le_of_ble_eq_true rfl)) dX1_layCircle_130 ⟨Nat.zero_le _, Nat.zero_le _⟩) (fun u_11 H locs hw_10 hP1 hD1 hk1 hS => ?_)
                      obtain ⟨hP, hD⟩ := zw_join (wr := []) (w1 := [(h0, .inr (0, [.int (nI M), .ref h1, .ref h2, .ref h3, .ref h4, .ref h5, .ref h6])), (h1, .inl (E 0, 15, .inl (upd hmw (r * 3 + i) (nI ((r + i) - (M - 1)))))), (h2, .inl (E 0, 15, .inl (upd aww (r * 3 + i) (nI (r + (M - 1) - i))))), (h3, .inl (E 0, 30, .inl (upd (upd rvw (r * 6 + ((r + i) - (M - 1))) (nI (r + (M - 1) - i))) (r * 6 + (r + (M - 1) - i)) (nI ((r + i) - (M - 1)))))), (h4, .inl (E 0, 30, .inl (upd (upd sdw (r * 6 + ((r + i) - (M - 1))) (nI 1)) (r * 6 + (r + (M - 1) - i)) (nI 0)))), (h5, .inl (E 0, 30, .inl (upd (upd gmw (r * 6 + ((r + i) - (M - 1))) (nI i)) (r * 6 + (r + (M - 1) - i)) (nI i)))), (h6, .inl (E 0, 36, .inl ca))]) (ws' := [(h0, .inr (0, [.int (nI M), .ref h1, .ref h2, .ref h3, .ref h4, .ref h5, .ref h6])), (h1, .inl (E 0, 15, .inl (upd hmw (r * 3 + i) (nI ((r + i) - (M - 1)))))), (h2, .inl (E 0, 15, .inl (upd aww (r * 3 + i) (nI (r + (M - 1) - i))))), (h3, .inl (E 0, 30, .inl (upd (upd rvw (r * 6 + ((r + i) - (M - 1))) (nI (r + (M - 1) - i))) (r * 6 + (r + (M - 1) - i)) (nI ((r + i) - (M - 1)))))), (h4, .inl (E 0, 30, .inl (upd (upd sdw (r * 6 + ((r + i) - (M - 1))) (nI 1)) (r * 6 + (r + (M - 1) - i)) (nI 0)))), (h5, .inl (E 0, 30, .inl (upd (upd gmw (r * 6 + ((r + i) - (M - 1))) (nI i)) (r * 6 + (r + (M - 1) - i)) (nI i)))), (h6, .inl (E 0, 36, .inl ca))]) hP hD [0, 1, 2, 3, 4, 5, 6] [] [0, 1, 2, 3, 4, 5, 6] rfl rfl (by decide +kernel) (by decide +kernel) hAc hk1 hP1 hD1 (by decide +kernel) rfl
                      clear hP1 hD1 hk1 hPc hDc hAc
                      refine lv_goto (tgt := 147) hx hb dX1_layCircle_133 (by decide) ?_
                      refine lv_iinc (v := nI (i + 1)) (lv' := [(4, .int (nI (i + 1))), (6, .int (nI (r + (M - 1) - i))), (5, .int (nI ((r + i) - (M - 1)))), (0, .ref h0), (2, .int (nI (M - 1))), (3, .int (nI r))]) hx hb dX1_layCircle_147 hl (k := 5) rfl (nI_add _ _) (by decide) rfl (fun ls hl => ?_)
                      refine lv_goto (tgt := 58) hx hb dX1_layCircle_150 (by decide) ?_
                      have hl : lv_has ls 7 [(0, .ref h0), (2, .int (nI (M - 1))), (3, .int (nI r)), (4, .int (nI (i + 1)))] := lv_sub hl [3, 4, 5, 0] rfl
                      exact ih58 (i + 1) (upd hmw (r * 3 + i) (nI ((r + i) - (M - 1)))) (upd aww (r * 3 + i) (nI (r + (M - 1) - i))) (upd (upd rvw (r * 6 + ((r + i) - (M - 1))) (nI (r + (M - 1) - i))) (r * 6 + (r + (M - 1) - i)) (nI ((r + i) - (M - 1)))) (upd (upd sdw (r * 6 + ((r + i) - (M - 1))) (nI 1)) (r * 6 + (r + (M - 1) - i)) (nI 0)) (upd (upd gmw (r * 6 + ((r + i) - (M - 1))) (nI i)) (r * 6 + (r + (M - 1) - i)) (nI i)) H locs ls (by omega) (hst) (by omega) (by omega) hP hD hS hl
                  · skip
                    exact absurd (pk_sneg (by omega) hlt) cn_4
                · skip
                  refine zr_ti (y := nI (r - i)) (pk_sub hge) ?_
                  refine lv_if_lt (tgt := 106) hx hb dX1_layCircle_96 (by decide) (fun cn_12 => ?_) (fun cn_12 => ?_)
                  · skip
                    have cn_12 : r - i < 0 := (nI_ltI (a := r - i) (b := 0) (by omega) (by omega)).mp cn_12
                    refine lv_iload_n hx hb dX1_layCircle_106 rfl (lv_at hl 3 rfl) ?_
                    refine lv_iload hx hb dX1_layCircle_107 (lv_at hl 4 rfl) ?_
                    refine lv_isub hx hb dX1_layCircle_109 ?_
                    refine lv_iload_n hx hb dX1_layCircle_110 rfl (lv_at hl 2 rfl) ?_
                    refine lv_iadd hx hb dX1_layCircle_111 ?_
                    refine zr_ti (y := nI (r + (M - 1) - i)) (zn_wrap (by omega)) ?_
                    refine lv_istore (lv' := [(6, .int (nI (r + (M - 1) - i))), (5, .int (nI ((r + i) - (M - 1)))), (0, .ref h0), (2, .int (nI (M - 1))), (3, .int (nI r)), (4, .int (nI i))]) hx hb dX1_layCircle_112 hl (by decide) rfl (fun ls hl => ?_)
                    refine lv_iload hx hb dX1_layCircle_114 (lv_at hl 5 rfl) ?_
                    refine lv_iconst (v := nI 2) hx hb dX1_layCircle_116 (by rfl) ?_
                    refine lv_irem hx hb dX1_layCircle_117 (by decide) ?_
                    refine zr_ti (y := nI (i % 2)) (pk_rem (by omega) (by omega) (by omega)) ?_
                    refine lv_iconst (v := nI 1) hx hb dX1_layCircle_118 (by rfl) ?_
                    refine lv_icmp_ne (tgt := 136) hx hb dX1_layCircle_119 (by decide) (fun cn_13 => ?_) (fun cn_13 => ?_)
                    · skip
                      have cn_13 : ¬ (i % 2 = 1) := fun hz => cn_13 ((nI_eq (a := i % 2) (b := 1) (by omega) (by omega)).mpr hz)
                      have hb3 := cn_13
                      refine lv_aload_n hx hb dX1_layCircle_136 rfl (lv_at hl 2 rfl) ?_
                      refine lv_iload_n hx hb dX1_layCircle_137 rfl (lv_at hl 4 rfl) ?_
                      refine lv_iload hx hb dX1_layCircle_138 (lv_at hl 5 rfl) ?_
                      refine lv_iload hx hb dX1_layCircle_140 (lv_at hl 0 rfl) ?_
                      refine lv_iload hx hb dX1_layCircle_142 (lv_at hl 1 rfl) ?_
                      have he1 : zm_ciG M r (2 * i) = r + (M - 1) - i := by unfold zm_ciG zm_ca zm_cb; rcases hM with rfl | rfl <;> (repeat' split) <;> omega
                      have he2 : zm_ciG M r (2 * i + 1) = (r + i) - (M - 1) := by unfold zm_ciG zm_ca zm_cb; rcases hM with rfl | rfl <;> (repeat' split) <;> omega
                      have hst := zm_done_s (k := i) hokM hrr (by omega) hI2; rw [he1, he2] at hst
                      have hPc := hP.sub (ws' := [(h0, .inr (0, [.int (nI M), .ref h1, .ref h2, .ref h3, .ref h4, .ref h5, .ref h6])), (h1, .inl (E 0, 15, .inl hmw)), (h2, .inl (E 0, 15, .inl aww)), (h3, .inl (E 0, 30, .inl rvw)), (h4, .inl (E 0, 30, .inl sdw)), (h5, .inl (E 0, 30, .inl gmw)), (h6, .inl (E 0, 36, .inl ca))]) [0, 1, 2, 3, 4, 5, 6] rfl
                      have hDc := hD.sub (ws' := [(h0, .inr (0, [.int (nI M), .ref h1, .ref h2, .ref h3, .ref h4, .ref h5, .ref h6])), (h1, .inl (E 0, 15, .inl hmw)), (h2, .inl (E 0, 15, .inl aww)), (h3, .inl (E 0, 30, .inl rvw)), (h4, .inl (E 0, 30, .inl sdw)), (h5, .inl (E 0, 30, .inl gmw)), (h6, .inl (E 0, 36, .inl ca))]) [0, 1, 2, 3, 4, 5, 6] (by decide +kernel) rfl
                      have hAc := zw_AA (wc := [(h0, .inr (0, [.int (nI M), .ref h1, .ref h2, .ref h3, .ref h4, .ref h5, .ref h6])), (h1, .inl (E 0, 15, .inl hmw)), (h2, .inl (E 0, 15, .inl aww)), (h3, .inl (E 0, 30, .inl rvw)), (h4, .inl (E 0, 30, .inl sdw)), (h5, .inl (E 0, 30, .inl gmw)), (h6, .inl (E 0, 36, .inl ca))]) hD [0, 1, 2, 3, 4, 5, 6] rfl
                      refine zw_cv hAc hS (va_runV (As := [.int (nI r), .int (nI i), .int (nI (r + (M - 1) - i)), .int (nI ((r + i) - (M - 1)))]) (rest := []) ⟨hx, hb, hml, hown, hts⟩ (c_X1_put l D E h0 h1 h2 h3 h4 h5 h6 M hmw aww rvw sdw gmw ca r i (r + (M - 1) - i) ((r + i) - (M - 1)) (hM) (by omega) (by omega) (by omega) (by omega) (by omega)) (cwV 4 hts gX1_layCircle_X1_put rfl rfl rfl (by decide +kernel) ⟨Nat.le_of_ble_eq_true rfl, Nat.le_of_ble_eq_true rfl⟩) (zw_V hK hPc hDc (ci := 0) (q0 := 0) rfl rfl) rfl rfl hl.1 rfl (lv_room (Nat.le_of_ble_eq_true rfl)) dX1_layCircle_144 ⟨Nat.zero_le _, Nat.zero_le _⟩) (fun u_16 H locs hw_15 hP1 hD1 hk1 hS => ?_)
                      obtain ⟨hP, hD⟩ := zw_join (wr := []) (w1 := [(h0, .inr (0, [.int (nI M), .ref h1, .ref h2, .ref h3, .ref h4, .ref h5, .ref h6])), (h1, .inl (E 0, 15, .inl (upd hmw (r * 3 + i) (nI (r + (M - 1) - i))))), (h2, .inl (E 0, 15, .inl (upd aww (r * 3 + i) (nI ((r + i) - (M - 1)))))), (h3, .inl (E 0, 30, .inl (upd (upd rvw (r * 6 + (r + (M - 1) - i)) (nI ((r + i) - (M - 1)))) (r * 6 + ((r + i) - (M - 1))) (nI (r + (M - 1) - i))))), (h4, .inl (E 0, 30, .inl (upd (upd sdw (r * 6 + (r + (M - 1) - i)) (nI 1)) (r * 6 + ((r + i) - (M - 1))) (nI 0)))), (h5, .inl (E 0, 30, .inl (upd (upd gmw (r * 6 + (r + (M - 1) - i)) (nI i)) (r * 6 + ((r + i) - (M - 1))) (nI i)))), (h6, .inl (E 0, 36, .inl ca))]) (ws' := [(h0, .inr (0, [.int (nI M), .ref h1, .ref h2, .ref h3, .ref h4, .ref h5, .ref h6])), (h1, .inl (E 0, 15, .inl (upd hmw (r * 3 + i) (nI (r + (M - 1) - i))))), (h2, .inl (E 0, 15, .inl (upd aww (r * 3 + i) (nI ((r + i) - (M - 1)))))), (h3, .inl (E 0, 30, .inl (upd (upd rvw (r * 6 + (r + (M - 1) - i)) (nI ((r + i) - (M - 1)))) (r * 6 + ((r + i) - (M - 1))) (nI (r + (M - 1) - i))))), (h4, .inl (E 0, 30, .inl (upd (upd sdw (r * 6 + (r + (M - 1) - i)) (nI 1)) (r * 6 + ((r + i) - (M - 1))) (nI 0)))), (h5, .inl (E 0, 30, .inl (upd (upd gmw (r * 6 + (r + (M - 1) - i)) (nI i)) (r * 6 + ((r + i) - (M - 1))) (nI i)))), (h6, .inl (E 0, 36, .inl ca))]) hP hD [0, 1, 2, 3, 4, 5, 6] [] [0, 1, 2, 3, 4, 5, 6] rfl rfl (by decide +kernel) (by decide +kernel) hAc hk1 hP1 hD1 (by decide +kernel) rfl
                      clear hP1 hD1 hk1 hPc hDc hAc
                      refine lv_iinc (v := nI (i + 1)) (lv' := [(4, .int (nI (i + 1))), (6, .int (nI (r + (M - 1) - i))), (5, .int (nI ((r + i) - (M - 1)))), (0, .ref h0), (2, .int (nI (M - 1))), (3, .int (nI r))]) hx hb dX1_layCircle_147 hl (k := 5) rfl (nI_add _ _) (by decide) rfl (fun ls hl => ?_)
                      refine lv_goto (tgt := 58) hx hb dX1_layCircle_150 (by decide) ?_
                      have hl : lv_has ls 7 [(0, .ref h0), (2, .int (nI (M - 1))), (3, .int (nI r)), (4, .int (nI (i + 1)))] := lv_sub hl [3, 4, 5, 0] rfl
                      exact ih58 (i + 1) (upd hmw (r * 3 + i) (nI (r + (M - 1) - i))) (upd aww (r * 3 + i) (nI ((r + i) - (M - 1)))) (upd (upd rvw (r * 6 + (r + (M - 1) - i)) (nI ((r + i) - (M - 1)))) (r * 6 + ((r + i) - (M - 1))) (nI (r + (M - 1) - i))) (upd (upd sdw (r * 6 + (r + (M - 1) - i)) (nI 1)) (r * 6 + ((r + i) - (M - 1))) (nI 0)) (upd (upd gmw (r * 6 + (r + (M - 1) - i)) (nI i)) (r * 6 + ((r + i) - (M - 1))) (nI i)) H locs ls (by omega) (hst) (by omega) (by omega) hP hD hS hl
                    · skip
                      have cn_13 : i % 2 = 1 := (nI_eq (a := i % 2) (b := 1) (by omega) (by omega)).mp cn_13
                      have hb3 := cn_13
                      refine lv_aload_n hx hb dX1_layCircle_122 rfl (lv_at hl 2 rfl) ?_
                      refine lv_iload_n hx hb dX1_layCircle_123 rfl (lv_at hl 4 rfl) ?_
                      refine lv_iload hx hb dX1_layCircle_124 (lv_at hl 5 rfl) ?_
                      refine lv_iload hx hb dX1_layCircle_126 (lv_at hl 1 rfl) ?_
                      refine lv_iload hx hb dX1_layCircle_128 (lv_at hl 0 rfl) ?_
                      have he1 : zm_ciG M r (2 * i) = (r + i) - (M - 1) := by unfold zm_ciG zm_ca zm_cb; rcases hM with rfl | rfl <;> (repeat' split) <;> omega
                      have he2 : zm_ciG M r (2 * i + 1) = r + (M - 1) - i := by unfold zm_ciG zm_ca zm_cb; rcases hM with rfl | rfl <;> (repeat' split) <;> omega
                      have hst := zm_done_s (k := i) hokM hrr (by omega) hI2; rw [he1, he2] at hst
                      have hPc := hP.sub (ws' := [(h0, .inr (0, [.int (nI M), .ref h1, .ref h2, .ref h3, .ref h4, .ref h5, .ref h6])), (h1, .inl (E 0, 15, .inl hmw)), (h2, .inl (E 0, 15, .inl aww)), (h3, .inl (E 0, 30, .inl rvw)), (h4, .inl (E 0, 30, .inl sdw)), (h5, .inl (E 0, 30, .inl gmw)), (h6, .inl (E 0, 36, .inl ca))]) [0, 1, 2, 3, 4, 5, 6] rfl
                      have hDc := hD.sub (ws' := [(h0, .inr (0, [.int (nI M), .ref h1, .ref h2, .ref h3, .ref h4, .ref h5, .ref h6])), (h1, .inl (E 0, 15, .inl hmw)), (h2, .inl (E 0, 15, .inl aww)), (h3, .inl (E 0, 30, .inl rvw)), (h4, .inl (E 0, 30, .inl sdw)), (h5, .inl (E 0, 30, .inl gmw)), (h6, .inl (E 0, 36, .inl ca))]) [0, 1, 2, 3, 4, 5, 6] (by decide +kernel) rfl
                      have hAc := zw_AA (wc := [(h0, .inr (0, [.int (nI M), .ref h1, .ref h2, .ref h3, .ref h4, .ref h5, .ref h6])), (h1, .inl (E 0, 15, .inl hmw)), (h2, .inl (E 0, 15, .inl aww)), (h3, .inl (E 0, 30, .inl rvw)), (h4, .inl (E 0, 30, .inl sdw)), (h5, .inl (E 0, 30, .inl gmw)), (h6, .inl (E 0, 36, .inl ca))]) hD [0, 1, 2, 3, 4, 5, 6] rfl
                      refine zw_cv hAc hS (va_runV (As := [.int (nI r), .int (nI i), .int (nI ((r + i) - (M - 1))), .int (nI (r + (M - 1) - i))]) (rest := []) ⟨hx, hb, hml, hown, hts⟩ (c_X1_put l D E h0 h1 h2 h3 h4 h5 h6 M hmw aww rvw sdw gmw ca r i ((r + i) - (M - 1)) (r + (M - 1) - i) (hM) (by omega) (by omega) (by omega) (by omega) (by omega)) (cwV 4 hts gX1_layCircle_X1_put rfl rfl rfl (by decide +kernel) ⟨Nat.le_of_ble_eq_true rfl, Nat.le_of_ble_eq_true rfl⟩) (zw_V hK hPc hDc (ci := 0) (q0 := 0) rfl rfl) rfl rfl hl.1 rfl (lv_room (Nat.le_of_ble_eq_true rfl)) dX1_layCircle_130 ⟨Nat.zero_le _, Nat.zero_le _⟩) (fun u_19 H locs hw_18 hP1 hD1 hk1 hS => ?_)
                      obtain ⟨hP, hD⟩ := zw_join (wr := []) (w1 := [(h0, .inr (0, [.int (nI M), .ref h1, .ref h2, .ref h3, .ref h4, .ref h5, .ref h6])), (h1, .inl (E 0, 15, .inl (upd hmw (r * 3 + i) (nI ((r + i) - (M - 1)))))), (h2, .inl (E 0, 15, .inl (upd aww (r * 3 + i) (nI (r + (M - 1) - i))))), (h3, .inl (E 0, 30, .inl (upd (upd rvw (r * 6 + ((r + i) - (M - 1))) (nI (r + (M - 1) - i))) (r * 6 + (r + (M - 1) - i)) (nI ((r + i) - (M - 1)))))), (h4, .inl (E 0, 30, .inl (upd (upd sdw (r * 6 + ((r + i) - (M - 1))) (nI 1)) (r * 6 + (r + (M - 1) - i)) (nI 0)))), (h5, .inl (E 0, 30, .inl (upd (upd gmw (r * 6 + ((r + i) - (M - 1))) (nI i)) (r * 6 + (r + (M - 1) - i)) (nI i)))), (h6, .inl (E 0, 36, .inl ca))]) (ws' := [(h0, .inr (0, [.int (nI M), .ref h1, .ref h2, .ref h3, .ref h4, .ref h5, .ref h6])), (h1, .inl (E 0, 15, .inl (upd hmw (r * 3 + i) (nI ((r + i) - (M - 1)))))), (h2, .inl (E 0, 15, .inl (upd aww (r * 3 + i) (nI (r + (M - 1) - i))))), (h3, .inl (E 0, 30, .inl (upd (upd rvw (r * 6 + ((r + i) - (M - 1))) (nI (r + (M - 1) - i))) (r * 6 + (r + (M - 1) - i)) (nI ((r + i) - (M - 1)))))), (h4, .inl (E 0, 30, .inl (upd (upd sdw (r * 6 + ((r + i) - (M - 1))) (nI 1)) (r * 6 + (r + (M - 1) - i)) (nI 0)))), (h5, .inl (E 0, 30, .inl (upd (upd gmw (r * 6 + ((r + i) - (M - 1))) (nI i)) (r * 6 + (r + (M - 1) - i)) (nI i)))), (h6, .inl (E 0, 36, .inl ca))]) hP hD [0, 1, 2, 3, 4, 5, 6] [] [0, 1, 2, 3, 4, 5, 6] rfl rfl (by decide +kernel) (by decide +kernel) hAc hk1 hP1 hD1 (by decide +kernel) rfl
                      clear hP1 hD1 hk1 hPc hDc hAc
                      refine lv_goto (tgt := 147) hx hb dX1_layCircle_133 (by decide) ?_
                      refine lv_iinc (v := nI (i + 1)) (lv' := [(4, .int (nI (i + 1))), (6, .int (nI (r + (M - 1) - i))), (5, .int (nI ((r + i) - (M - 1)))), (0, .ref h0), (2, .int (nI (M - 1))), (3, .int (nI r))]) hx hb dX1_layCircle_147 hl (k := 5) rfl (nI_add _ _) (by decide) rfl (fun ls hl => ?_)
                      refine lv_goto (tgt := 58) hx hb dX1_layCircle_150 (by decide) ?_
                      have hl : lv_has ls 7 [(0, .ref h0), (2, .int (nI (M - 1))), (3, .int (nI r)), (4, .int (nI (i + 1)))] := lv_sub hl [3, 4, 5, 0] rfl
                      exact ih58 (i + 1) (upd hmw (r * 3 + i) (nI ((r + i) - (M - 1)))) (upd aww (r * 3 + i) (nI (r + (M - 1) - i))) (upd (upd rvw (r * 6 + ((r + i) - (M - 1))) (nI (r + (M - 1) - i))) (r * 6 + (r + (M - 1) - i)) (nI ((r + i) - (M - 1)))) (upd (upd sdw (r * 6 + ((r + i) - (M - 1))) (nI 1)) (r * 6 + (r + (M - 1) - i)) (nI 0)) (upd (upd gmw (r * 6 + ((r + i) - (M - 1))) (nI i)) (r * 6 + (r + (M - 1) - i)) (nI i)) H locs ls (by omega) (hst) (by omega) (by omega) hP hD hS hl
                  · skip
                    have cn_12 : ¬ (r - i < 0) := fun hz => cn_12 ((nI_ltI (a := r - i) (b := 0) (by omega) (by omega)).mpr hz)
                    refine lv_iload_n hx hb dX1_layCircle_99 rfl (lv_at hl 3 rfl) ?_
                    refine lv_iload hx hb dX1_layCircle_100 (lv_at hl 4 rfl) ?_
                    refine lv_isub hx hb dX1_layCircle_102 ?_
                    refine zr_ti (y := nI (r - i)) (pk_sub (by omega)) ?_
                    refine lv_goto (tgt := 112) hx hb dX1_layCircle_103 (by decide) ?_
                    refine lv_istore (lv' := [(6, .int (nI (r - i))), (5, .int (nI ((r + i) - (M - 1)))), (0, .ref h0), (2, .int (nI (M - 1))), (3, .int (nI r)), (4, .int (nI i))]) hx hb dX1_layCircle_112 hl (by decide) rfl (fun ls hl => ?_)
                    refine lv_iload hx hb dX1_layCircle_114 (lv_at hl 5 rfl) ?_
                    refine lv_iconst (v := nI 2) hx hb dX1_layCircle_116 (by rfl) ?_
                    refine lv_irem hx hb dX1_layCircle_117 (by decide) ?_
                    refine zr_ti (y := nI (i % 2)) (pk_rem (by omega) (by omega) (by omega)) ?_
                    refine lv_iconst (v := nI 1) hx hb dX1_layCircle_118 (by rfl) ?_
                    refine lv_icmp_ne (tgt := 136) hx hb dX1_layCircle_119 (by decide) (fun cn_20 => ?_) (fun cn_20 => ?_)
                    · skip
                      have cn_20 : ¬ (i % 2 = 1) := fun hz => cn_20 ((nI_eq (a := i % 2) (b := 1) (by omega) (by omega)).mpr hz)
                      have hb3 := cn_20
                      refine lv_aload_n hx hb dX1_layCircle_136 rfl (lv_at hl 2 rfl) ?_
                      refine lv_iload_n hx hb dX1_layCircle_137 rfl (lv_at hl 4 rfl) ?_
                      refine lv_iload hx hb dX1_layCircle_138 (lv_at hl 5 rfl) ?_
                      refine lv_iload hx hb dX1_layCircle_140 (lv_at hl 0 rfl) ?_
                      refine lv_iload hx hb dX1_layCircle_142 (lv_at hl 1 rfl) ?_
                      have he1 : zm_ciG M r (2 * i) = r - i := by unfold zm_ciG zm_ca zm_cb; rcases hM with rfl | rfl <;> (repeat' split) <;> omega
                      have he2 : zm_ciG M r (2 * i + 1) = (r + i) - (M - 1) := by unfold zm_ciG zm_ca zm_cb; rcases hM with rfl | rfl <;> (repeat' split) <;> omega
                      have hst := zm_done_s (k := i) hokM hrr (by omega) hI2; rw [he1, he2] at hst
                      have hPc := hP.sub (ws' := [(h0, .inr (0, [.int (nI M), .ref h1, .ref h2, .ref h3, .ref h4, .ref h5, .ref h6])), (h1, .inl (E 0, 15, .inl hmw)), (h2, .inl (E 0, 15, .inl aww)), (h3, .inl (E 0, 30, .inl rvw)), (h4, .inl (E 0, 30, .inl sdw)), (h5, .inl (E 0, 30, .inl gmw)), (h6, .inl (E 0, 36, .inl ca))]) [0, 1, 2, 3, 4, 5, 6] rfl
                      have hDc := hD.sub (ws' := [(h0, .inr (0, [.int (nI M), .ref h1, .ref h2, .ref h3, .ref h4, .ref h5, .ref h6])), (h1, .inl (E 0, 15, .inl hmw)), (h2, .inl (E 0, 15, .inl aww)), (h3, .inl (E 0, 30, .inl rvw)), (h4, .inl (E 0, 30, .inl sdw)), (h5, .inl (E 0, 30, .inl gmw)), (h6, .inl (E 0, 36, .inl ca))]) [0, 1, 2, 3, 4, 5, 6] (by decide +kernel) rfl
                      have hAc := zw_AA (wc := [(h0, .inr (0, [.int (nI M), .ref h1, .ref h2, .ref h3, .ref h4, .ref h5, .ref h6])), (h1, .inl (E 0, 15, .inl hmw)), (h2, .inl (E 0, 15, .inl aww)), (h3, .inl (E 0, 30, .inl rvw)), (h4, .inl (E 0, 30, .inl sdw)), (h5, .inl (E 0, 30, .inl gmw)), (h6, .inl (E 0, 36, .inl ca))]) hD [0, 1, 2, 3, 4, 5, 6] rfl
                      refine zw_cv hAc hS (va_runV (As := [.int (nI r), .int (nI i), .int (nI (r - i)), .int (nI ((r + i) - (M - 1)))]) (rest := []) ⟨hx, hb, hml, hown, hts⟩ (c_X1_put l D E h0 h1 h2 h3 h4 h5 h6 M hmw aww rvw sdw gmw ca r i (r - i) ((r + i) - (M - 1)) (hM) (by omega) (by omega) (by omega) (by omega) (by omega)) (cwV 4 hts gX1_layCircle_X1_put rfl rfl rfl (by decide +kernel) ⟨Nat.le_of_ble_eq_true rfl, Nat.le_of_ble_eq_true rfl⟩) (zw_V hK hPc hDc (ci := 0) (q0 := 0) rfl rfl) rfl rfl hl.1 rfl (lv_room (Nat.le_of_ble_eq_true rfl)) dX1_layCircle_144 ⟨Nat.zero_le _, Nat.zero_le _⟩) (fun u_23 H locs hw_22 hP1 hD1 hk1 hS => ?_)
                      obtain ⟨hP, hD⟩ := zw_join (wr := []) (w1 := [(h0, .inr (0, [.int (nI M), .ref h1, .ref h2, .ref h3, .ref h4, .ref h5, .ref h6])), (h1, .inl (E 0, 15, .inl (upd hmw (r * 3 + i) (nI (r - i))))), (h2, .inl (E 0, 15, .inl (upd aww (r * 3 + i) (nI ((r + i) - (M - 1)))))), (h3, .inl (E 0, 30, .inl (upd (upd rvw (r * 6 + (r - i)) (nI ((r + i) - (M - 1)))) (r * 6 + ((r + i) - (M - 1))) (nI (r - i))))), (h4, .inl (E 0, 30, .inl (upd (upd sdw (r * 6 + (r - i)) (nI 1)) (r * 6 + ((r + i) - (M - 1))) (nI 0)))), (h5, .inl (E 0, 30, .inl (upd (upd gmw (r * 6 + (r - i)) (nI i)) (r * 6 + ((r + i) - (M - 1))) (nI i)))), (h6, .inl (E 0, 36, .inl ca))]) (ws' := [(h0, .inr (0, [.int (nI M), .ref h1, .ref h2, .ref h3, .ref h4, .ref h5, .ref h6])), (h1, .inl (E 0, 15, .inl (upd hmw (r * 3 + i) (nI (r - i))))), (h2, .inl (E 0, 15, .inl (upd aww (r * 3 + i) (nI ((r + i) - (M - 1)))))), (h3, .inl (E 0, 30, .inl (upd (upd rvw (r * 6 + (r - i)) (nI ((r + i) - (M - 1)))) (r * 6 + ((r + i) - (M - 1))) (nI (r - i))))), (h4, .inl (E 0, 30, .inl (upd (upd sdw (r * 6 + (r - i)) (nI 1)) (r * 6 + ((r + i) - (M - 1))) (nI 0)))), (h5, .inl (E 0, 30, .inl (upd (upd gmw (r * 6 + (r - i)) (nI i)) (r * 6 + ((r + i) - (M - 1))) (nI i)))), (h6, .inl (E 0, 36, .inl ca))]) hP hD [0, 1, 2, 3, 4, 5, 6] [] [0, 1, 2, 3, 4, 5, 6] rfl rfl (by decide +kernel) (by decide +kernel) hAc hk1 hP1 hD1 (by decide +kernel) rfl
                      clear hP1 hD1 hk1 hPc hDc hAc
                      refine lv_iinc (v := nI (i + 1)) (lv' := [(4, .int (nI (i + 1))), (6, .int (nI (r - i))), (5, .int (nI ((r + i) - (M - 1)))), (0, .ref h0), (2, .int (nI (M - 1))), (3, .int (nI r))]) hx hb dX1_layCircle_147 hl (k := 5) rfl (nI_add _ _) (by decide) rfl (fun ls hl => ?_)
                      refine lv_goto (tgt := 58) hx hb dX1_layCircle_150 (by decide) ?_
                      have hl : lv_has ls 7 [(0, .ref h0), (2, .int (nI (M - 1))), (3, .int (nI r)), (4, .int (nI (i + 1)))] := lv_sub hl [3, 4, 5, 0] rfl
                      exact ih58 (i + 1) (upd hmw (r * 3 + i) (nI (r - i))) (upd aww (r * 3 + i) (nI ((r + i) - (M - 1)))) (upd (upd rvw (r * 6 + (r - i)) (nI ((r + i) - (M - 1)))) (r * 6 + ((r + i) - (M - 1))) (nI (r - i))) (upd (upd sdw (r * 6 + (r - i)) (nI 1)) (r * 6 + ((r + i) - (M - 1))) (nI 0)) (upd (upd gmw (r * 6 + (r - i)) (nI i)) (r * 6 + ((r + i) - (M - 1))) (nI i)) H locs ls (by omega) (hst) (by omega) (by omega) hP hD hS hl
                    · skip
                      have cn_20 : i % 2 = 1 := (nI_eq (a := i % 2) (b := 1) (by omega) (by omega)).mp cn_20
                      have hb3 := cn_20
                      refine lv_aload_n hx hb dX1_layCircle_122 rfl (lv_at hl 2 rfl) ?_
                      refine lv_iload_n hx hb dX1_layCircle_123 rfl (lv_at hl 4 rfl) ?_
                      refine lv_iload hx hb dX1_layCircle_124 (lv_at hl 5 rfl) ?_
                      refine lv_iload hx hb dX1_layCircle_126 (lv_at hl 1 rfl) ?_
                      refine lv_iload hx hb dX1_layCircle_128 (lv_at hl 0 rfl) ?_
                      have he1 : zm_ciG M r (2 * i) = (r + i) - (M - 1) := by unfold zm_ciG zm_ca zm_cb; rcases hM with rfl | rfl <;> (repeat' split) <;> omega
                      have he2 : zm_ciG M r (2 * i + 1) = r - i := by unfold zm_ciG zm_ca zm_cb; rcases hM with rfl | rfl <;> (repeat' split) <;> omega
                      have hst := zm_done_s (k := i) hokM hrr (by omega) hI2; rw [he1, he2] at hst
                      have hPc := hP.sub (ws' := [(h0, .inr (0, [.int (nI M), .ref h1, .ref h2, .ref h3, .ref h4, .ref h5, .ref h6])), (h1, .inl (E 0, 15, .inl hmw)), (h2, .inl (E 0, 15, .inl aww)), (h3, .inl (E 0, 30, .inl rvw)), (h4, .inl (E 0, 30, .inl sdw)), (h5, .inl (E 0, 30, .inl gmw)), (h6, .inl (E 0, 36, .inl ca))]) [0, 1, 2, 3, 4, 5, 6] rfl
                      have hDc := hD.sub (ws' := [(h0, .inr (0, [.int (nI M), .ref h1, .ref h2, .ref h3, .ref h4, .ref h5, .ref h6])), (h1, .inl (E 0, 15, .inl hmw)), (h2, .inl (E 0, 15, .inl aww)), (h3, .inl (E 0, 30, .inl rvw)), (h4, .inl (E 0, 30, .inl sdw)), (h5, .inl (E 0, 30, .inl gmw)), (h6, .inl (E 0, 36, .inl ca))]) [0, 1, 2, 3, 4, 5, 6] (by decide +kernel) rfl
                      have hAc := zw_AA (wc := [(h0, .inr (0, [.int (nI M), .ref h1, .ref h2, .ref h3, .ref h4, .ref h5, .ref h6])), (h1, .inl (E 0, 15, .inl hmw)), (h2, .inl (E 0, 15, .inl aww)), (h3, .inl (E 0, 30, .inl rvw)), (h4, .inl (E 0, 30, .inl sdw)), (h5, .inl (E 0, 30, .inl gmw)), (h6, .inl (E 0, 36, .inl ca))]) hD [0, 1, 2, 3, 4, 5, 6] rfl
                      refine zw_cv hAc hS (va_runV (As := [.int (nI r), .int (nI i), .int (nI ((r + i) - (M - 1))), .int (nI (r - i))]) (rest := []) ⟨hx, hb, hml, hown, hts⟩ (c_X1_put l D E h0 h1 h2 h3 h4 h5 h6 M hmw aww rvw sdw gmw ca r i ((r + i) - (M - 1)) (r - i) (hM) (by omega) (by omega) (by omega) (by omega) (by omega)) (cwV 4 hts gX1_layCircle_X1_put rfl rfl rfl (by decide +kernel) ⟨Nat.le_of_ble_eq_true rfl, Nat.le_of_ble_eq_true rfl⟩) (zw_V hK hPc hDc (ci := 0) (q0 := 0) rfl rfl) rfl rfl hl.1 rfl (lv_room (Nat.le_of_ble_eq_true rfl)) dX1_layCircle_130 ⟨Nat.zero_le _, Nat.zero_le _⟩) (fun u_26 H locs hw_25 hP1 hD1 hk1 hS => ?_)
                      obtain ⟨hP, hD⟩ := zw_join (wr := []) (w1 := [(h0, .inr (0, [.int (nI M), .ref h1, .ref h2, .ref h3, .ref h4, .ref h5, .ref h6])), (h1, .inl (E 0, 15, .inl (upd hmw (r * 3 + i) (nI ((r + i) - (M - 1)))))), (h2, .inl (E 0, 15, .inl (upd aww (r * 3 + i) (nI (r - i))))), (h3, .inl (E 0, 30, .inl (upd (upd rvw (r * 6 + ((r + i) - (M - 1))) (nI (r - i))) (r * 6 + (r - i)) (nI ((r + i) - (M - 1)))))), (h4, .inl (E 0, 30, .inl (upd (upd sdw (r * 6 + ((r + i) - (M - 1))) (nI 1)) (r * 6 + (r - i)) (nI 0)))), (h5, .inl (E 0, 30, .inl (upd (upd gmw (r * 6 + ((r + i) - (M - 1))) (nI i)) (r * 6 + (r - i)) (nI i)))), (h6, .inl (E 0, 36, .inl ca))]) (ws' := [(h0, .inr (0, [.int (nI M), .ref h1, .ref h2, .ref h3, .ref h4, .ref h5, .ref h6])), (h1, .inl (E 0, 15, .inl (upd hmw (r * 3 + i) (nI ((r + i) - (M - 1)))))), (h2, .inl (E 0, 15, .inl (upd aww (r * 3 + i) (nI (r - i))))), (h3, .inl (E 0, 30, .inl (upd (upd rvw (r * 6 + ((r + i) - (M - 1))) (nI (r - i))) (r * 6 + (r - i)) (nI ((r + i) - (M - 1)))))), (h4, .inl (E 0, 30, .inl (upd (upd sdw (r * 6 + ((r + i) - (M - 1))) (nI 1)) (r * 6 + (r - i)) (nI 0)))), (h5, .inl (E 0, 30, .inl (upd (upd gmw (r * 6 + ((r + i) - (M - 1))) (nI i)) (r * 6 + (r - i)) (nI i)))), (h6, .inl (E 0, 36, .inl ca))]) hP hD [0, 1, 2, 3, 4, 5, 6] [] [0, 1, 2, 3, 4, 5, 6] rfl rfl (by decide +kernel) (by decide +kernel) hAc hk1 hP1 hD1 (by decide +kernel) rfl
                      clear hP1 hD1 hk1 hPc hDc hAc
                      refine lv_goto (tgt := 147) hx hb dX1_layCircle_133 (by decide) ?_
                      refine lv_iinc (v := nI (i + 1)) (lv' := [(4, .int (nI (i + 1))), (6, .int (nI (r - i))), (5, .int (nI ((r + i) - (M - 1)))), (0, .ref h0), (2, .int (nI (M - 1))), (3, .int (nI r))]) hx hb dX1_layCircle_147 hl (k := 5) rfl (nI_add _ _) (by decide) rfl (fun ls hl => ?_)
                      refine lv_goto (tgt := 58) hx hb dX1_layCircle_150 (by decide) ?_
                      have hl : lv_has ls 7 [(0, .ref h0), (2, .int (nI (M - 1))), (3, .int (nI r)), (4, .int (nI (i + 1)))] := lv_sub hl [3, 4, 5, 0] rfl
                      exact ih58 (i + 1) (upd hmw (r * 3 + i) (nI ((r + i) - (M - 1)))) (upd aww (r * 3 + i) (nI (r - i))) (upd (upd rvw (r * 6 + ((r + i) - (M - 1))) (nI (r - i))) (r * 6 + (r - i)) (nI ((r + i) - (M - 1)))) (upd (upd sdw (r * 6 + ((r + i) - (M - 1))) (nI 1)) (r * 6 + (r - i)) (nI 0)) (upd (upd gmw (r * 6 + ((r + i) - (M - 1))) (nI i)) (r * 6 + (r - i)) (nI i)) H locs ls (by omega) (hst) (by omega) (by omega) hP hD hS hl
              · skip
                have cn_3 : ¬ (M - 1 ≤ r + i) := fun hz => cn_3 ((nI_leI (a := M - 1) (b := r + i) (by omega) (by omega)).mpr hz)
                have hb1 := cn_3
                refine lv_iload_n hx hb dX1_layCircle_77 rfl (lv_at hl 2 rfl) ?_
                refine lv_iload hx hb dX1_layCircle_78 (lv_at hl 3 rfl) ?_
                refine lv_iadd hx hb dX1_layCircle_80 ?_
                refine zr_ti (y := nI (r + i)) (nI_add _ _) ?_
                refine lv_goto (tgt := 90) hx hb dX1_layCircle_81 (by decide) ?_
                refine lv_istore (lv' := [(5, .int (nI (r + i))), (0, .ref h0), (2, .int (nI (M - 1))), (3, .int (nI r)), (4, .int (nI i))]) hx hb dX1_layCircle_90 hl (by decide) rfl (fun ls hl => ?_)
                refine lv_iload_n hx hb dX1_layCircle_92 rfl (lv_at hl 3 rfl) ?_
                refine lv_iload hx hb dX1_layCircle_93 (lv_at hl 4 rfl) ?_
                refine lv_isub hx hb dX1_layCircle_95 ?_
                rcases Nat.lt_or_ge (r) (i) with hlt | hge
                · skip
                  refine lv_if_lt (tgt := 106) hx hb dX1_layCircle_96 (by decide) (fun cn_27 => ?_) (fun cn_27 => ?_)
                  · skip
                    refine lv_iload_n hx hb dX1_layCircle_106 rfl (lv_at hl 3 rfl) ?_
                    refine lv_iload hx hb dX1_layCircle_107 (lv_at hl 4 rfl) ?_
                    refine lv_isub hx hb dX1_layCircle_109 ?_
                    refine lv_iload_n hx hb dX1_layCircle_110 rfl (lv_at hl 2 rfl) ?_
                    refine lv_iadd hx hb dX1_layCircle_111 ?_
                    refine zr_ti (y := nI (r + (M - 1) - i)) (zn_wrap (by omega)) ?_
                    refine lv_istore (lv' := [(6, .int (nI (r + (M - 1) - i))), (5, .int (nI (r + i))), (0, .ref h0), (2, .int (nI (M - 1))), (3, .int (nI r)), (4, .int (nI i))]) hx hb dX1_layCircle_112 hl (by decide) rfl (fun ls hl => ?_)
                    refine lv_iload hx hb dX1_layCircle_114 (lv_at hl 5 rfl) ?_
                    refine lv_iconst (v := nI 2) hx hb dX1_layCircle_116 (by rfl) ?_
                    refine lv_irem hx hb dX1_layCircle_117 (by decide) ?_
                    refine zr_ti (y := nI (i % 2)) (pk_rem (by omega) (by omega) (by omega)) ?_
                    refine lv_iconst (v := nI 1) hx hb dX1_layCircle_118 (by rfl) ?_
                    refine lv_icmp_ne (tgt := 136) hx hb dX1_layCircle_119 (by decide) (fun cn_28 => ?_) (fun cn_28 => ?_)
                    · skip
                      have cn_28 : ¬ (i % 2 = 1) := fun hz => cn_28 ((nI_eq (a := i % 2) (b := 1) (by omega) (by omega)).mpr hz)
                      have hb3 := cn_28
                      refine lv_aload_n hx hb dX1_layCircle_136 rfl (lv_at hl 2 rfl) ?_
                      refine lv_iload_n hx hb dX1_layCircle_137 rfl (lv_at hl 4 rfl) ?_
                      refine lv_iload hx hb dX1_layCircle_138 (lv_at hl 5 rfl) ?_
                      refine lv_iload hx hb dX1_layCircle_140 (lv_at hl 0 rfl) ?_
                      refine lv_iload hx hb dX1_layCircle_142 (lv_at hl 1 rfl) ?_
                      have he1 : zm_ciG M r (2 * i) = r + (M - 1) - i := by unfold zm_ciG zm_ca zm_cb; rcases hM with rfl | rfl <;> (repeat' split) <;> omega
                      have he2 : zm_ciG M r (2 * i + 1) = r + i := by unfold zm_ciG zm_ca zm_cb; rcases hM with rfl | rfl <;> (repeat' split) <;> omega
                      have hst := zm_done_s (k := i) hokM hrr (by omega) hI2; rw [he1, he2] at hst
                      have hPc := hP.sub (ws' := [(h0, .inr (0, [.int (nI M), .ref h1, .ref h2, .ref h3, .ref h4, .ref h5, .ref h6])), (h1, .inl (E 0, 15, .inl hmw)), (h2, .inl (E 0, 15, .inl aww)), (h3, .inl (E 0, 30, .inl rvw)), (h4, .inl (E 0, 30, .inl sdw)), (h5, .inl (E 0, 30, .inl gmw)), (h6, .inl (E 0, 36, .inl ca))]) [0, 1, 2, 3, 4, 5, 6] rfl
                      have hDc := hD.sub (ws' := [(h0, .inr (0, [.int (nI M), .ref h1, .ref h2, .ref h3, .ref h4, .ref h5, .ref h6])), (h1, .inl (E 0, 15, .inl hmw)), (h2, .inl (E 0, 15, .inl aww)), (h3, .inl (E 0, 30, .inl rvw)), (h4, .inl (E 0, 30, .inl sdw)), (h5, .inl (E 0, 30, .inl gmw)), (h6, .inl (E 0, 36, .inl ca))]) [0, 1, 2, 3, 4, 5, 6] (by decide +kernel) rfl
                      have hAc := zw_AA (wc := [(h0, .inr (0, [.int (nI M), .ref h1, .ref h2, .ref h3, .ref h4, .ref h5, .ref h6])), (h1, .inl (E 0, 15, .inl hmw)), (h2, .inl (E 0, 15, .inl aww)), (h3, .inl (E 0, 30, .inl rvw)), (h4, .inl (E 0, 30, .inl sdw)), (h5, .inl (E 0, 30, .inl gmw)), (h6, .inl (E 0, 36, .inl ca))]) hD [0, 1, 2, 3, 4, 5, 6] rfl
                      refine zw_cv hAc hS (va_runV (As := [.int (nI r), .int (nI i), .int (nI (r + (M - 1) - i)), .int (nI (r + i))]) (rest := []) ⟨hx, hb, hml, hown, hts⟩ (c_X1_put l D E h0 h1 h2 h3 h4 h5 h6 M hmw aww rvw sdw gmw ca r i (r + (M - 1) - i) (r + i) (hM) (by omega) (by omega) (by omega) (by omega) (by omega)) (cwV 4 hts gX1_layCircle_X1_put rfl rfl rfl (by decide +kernel) ⟨Nat.le_of_ble_eq_true rfl, Nat.le_of_ble_eq_true rfl⟩) (zw_V hK hPc hDc (ci := 0) (q0 := 0) rfl rfl) rfl rfl hl.1 rfl (lv_room (Nat.le_of_ble_eq_true rfl)) dX1_layCircle_144 ⟨Nat.zero_le _, Nat.zero_le _⟩) (fun u_31 H locs hw_30 hP1 hD1 hk1 hS => ?_)
                      obtain ⟨hP, hD⟩ := zw_join (wr := []) (w1 := [(h0, .inr (0, [.int (nI M), .ref h1, .ref h2, .ref h3, .ref h4, .ref h5, .ref h6])), (h1, .inl (E 0, 15, .inl (upd hmw (r * 3 + i) (nI (r + (M - 1) - i))))), (h2, .inl (E 0, 15, .inl (upd aww (r * 3 + i) (nI (r + i))))), (h3, .inl (E 0, 30, .inl (upd (upd rvw (r * 6 + (r + (M - 1) - i)) (nI (r + i))) (r * 6 + (r + i)) (nI (r + (M - 1) - i))))), (h4, .inl (E 0, 30, .inl (upd (upd sdw (r * 6 + (r + (M - 1) - i)) (nI 1)) (r * 6 + (r + i)) (nI 0)))), (h5, .inl (E 0, 30, .inl (upd (upd gmw (r * 6 + (r + (M - 1) - i)) (nI i)) (r * 6 + (r + i)) (nI i)))), (h6, .inl (E 0, 36, .inl ca))]) (ws' := [(h0, .inr (0, [.int (nI M), .ref h1, .ref h2, .ref h3, .ref h4, .ref h5, .ref h6])), (h1, .inl (E 0, 15, .inl (upd hmw (r * 3 + i) (nI (r + (M - 1) - i))))), (h2, .inl (E 0, 15, .inl (upd aww (r * 3 + i) (nI (r + i))))), (h3, .inl (E 0, 30, .inl (upd (upd rvw (r * 6 + (r + (M - 1) - i)) (nI (r + i))) (r * 6 + (r + i)) (nI (r + (M - 1) - i))))), (h4, .inl (E 0, 30, .inl (upd (upd sdw (r * 6 + (r + (M - 1) - i)) (nI 1)) (r * 6 + (r + i)) (nI 0)))), (h5, .inl (E 0, 30, .inl (upd (upd gmw (r * 6 + (r + (M - 1) - i)) (nI i)) (r * 6 + (r + i)) (nI i)))), (h6, .inl (E 0, 36, .inl ca))]) hP hD [0, 1, 2, 3, 4, 5, 6] [] [0, 1, 2, 3, 4, 5, 6] rfl rfl (by decide +kernel) (by decide +kernel) hAc hk1 hP1 hD1 (by decide +kernel) rfl
                      clear hP1 hD1 hk1 hPc hDc hAc
                      refine lv_iinc (v := nI (i + 1)) (lv' := [(4, .int (nI (i + 1))), (6, .int (nI (r + (M - 1) - i))), (5, .int (nI (r + i))), (0, .ref h0), (2, .int (nI (M - 1))), (3, .int (nI r))]) hx hb dX1_layCircle_147 hl (k := 5) rfl (nI_add _ _) (by decide) rfl (fun ls hl => ?_)
                      refine lv_goto (tgt := 58) hx hb dX1_layCircle_150 (by decide) ?_
                      have hl : lv_has ls 7 [(0, .ref h0), (2, .int (nI (M - 1))), (3, .int (nI r)), (4, .int (nI (i + 1)))] := lv_sub hl [3, 4, 5, 0] rfl
                      exact ih58 (i + 1) (upd hmw (r * 3 + i) (nI (r + (M - 1) - i))) (upd aww (r * 3 + i) (nI (r + i))) (upd (upd rvw (r * 6 + (r + (M - 1) - i)) (nI (r + i))) (r * 6 + (r + i)) (nI (r + (M - 1) - i))) (upd (upd sdw (r * 6 + (r + (M - 1) - i)) (nI 1)) (r * 6 + (r + i)) (nI 0)) (upd (upd gmw (r * 6 + (r + (M - 1) - i)) (nI i)) (r * 6 + (r + i)) (nI i)) H locs ls (by omega) (hst) (by omega) (by omega) hP hD hS hl
                    · skip
                      have cn_28 : i % 2 = 1 := (nI_eq (a := i % 2) (b := 1) (by omega) (by omega)).mp cn_28
                      have hb3 := cn_28
                      refine lv_aload_n hx hb dX1_layCircle_122 rfl (lv_at hl 2 rfl) ?_
                      refine lv_iload_n hx hb dX1_layCircle_123 rfl (lv_at hl 4 rfl) ?_
                      refine lv_iload hx hb dX1_layCircle_124 (lv_at hl 5 rfl) ?_
                      refine lv_iload hx hb dX1_layCircle_126 (lv_at hl 1 rfl) ?_
                      refine lv_iload hx hb dX1_layCircle_128 (lv_at hl 0 rfl) ?_
                      have he1 : zm_ciG M r (2 * i) = r + i := by unfold zm_ciG zm_ca zm_cb; rcases hM with rfl | rfl <;> (repeat' split) <;> omega
                      have he2 : zm_ciG M r (2 * i + 1) = r + (M - 1) - i := by unfold zm_ciG zm_ca zm_cb; rcases hM with rfl | rfl <;> (repeat' split) <;> omega
                      have hst := zm_done_s (k := i) hokM hrr (by omega) hI2; rw [he1, he2] at hst
                      have hPc := hP.sub (ws' := [(h0, .inr (0, [.int (nI M), .ref h1, .ref h2, .ref h3, .ref h4, .ref h5, .ref h6])), (h1, .inl (E 0, 15, .inl hmw)), (h2, .inl (E 0, 15, .inl aww)), (h3, .inl (E 0, 30, .inl rvw)), (h4, .inl (E 0, 30, .inl sdw)), (h5, .inl (E 0, 30, .inl gmw)), (h6, .inl (E 0, 36, .inl ca))]) [0, 1, 2, 3, 4, 5, 6] rfl
                      have hDc := hD.sub (ws' := [(h0, .inr (0, [.int (nI M), .ref h1, .ref h2, .ref h3, .ref h4, .ref h5, .ref h6])), (h1, .inl (E 0, 15, .inl hmw)), (h2, .inl (E 0, 15, .inl aww)), (h3, .inl (E 0, 30, .inl rvw)), (h4, .inl (E 0, 30, .inl sdw)), (h5, .inl (E 0, 30, .inl gmw)), (h6, .inl (E 0, 36, .inl ca))]) [0, 1, 2, 3, 4, 5, 6] (by decide +kernel) rfl
                      have hAc := zw_AA (wc := [(h0, .inr (0, [.int (nI M), .ref h1, .ref h2, .ref h3, .ref h4, .ref h5, .ref h6])), (h1, .inl (E 0, 15, .inl hmw)), (h2, .inl (E 0, 15, .inl aww)), (h3, .inl (E 0, 30, .inl rvw)), (h4, .inl (E 0, 30, .inl sdw)), (h5, .inl (E 0, 30, .inl gmw)), (h6, .inl (E 0, 36, .inl ca))]) hD [0, 1, 2, 3, 4, 5, 6] rfl
                      refine zw_cv hAc hS (va_runV (As := [.int (nI r), .int (nI i), .int (nI (r + i)), .int (nI (r + (M - 1) - i))]) (rest := []) ⟨hx, hb, hml, hown, hts⟩ (c_X1_put l D E h0 h1 h2 h3 h4 h5 h6 M hmw aww rvw sdw gmw ca r i (r + i) (r + (M - 1) - i) (hM) (by omega) (by omega) (by omega) (by omega) (by omega)) (cwV 4 hts gX1_layCircle_X1_put rfl rfl rfl (by decide +kernel) ⟨Nat.le_of_ble_eq_true rfl, Nat.le_of_ble_eq_true rfl⟩) (zw_V hK hPc hDc (ci := 0) (q0 := 0) rfl rfl) rfl rfl hl.1 rfl (lv_room (Nat.le_of_ble_eq_true rfl)) dX1_layCircle_130 ⟨Nat.zero_le _, Nat.zero_le _⟩) (fun u_34 H locs hw_33 hP1 hD1 hk1 hS => ?_)
                      obtain ⟨hP, hD⟩ := zw_join (wr := []) (w1 := [(h0, .inr (0, [.int (nI M), .ref h1, .ref h2, .ref h3, .ref h4, .ref h5, .ref h6])), (h1, .inl (E 0, 15, .inl (upd hmw (r * 3 + i) (nI (r + i))))), (h2, .inl (E 0, 15, .inl (upd aww (r * 3 + i) (nI (r + (M - 1) - i))))), (h3, .inl (E 0, 30, .inl (upd (upd rvw (r * 6 + (r + i)) (nI (r + (M - 1) - i))) (r * 6 + (r + (M - 1) - i)) (nI (r + i))))), (h4, .inl (E 0, 30, .inl (upd (upd sdw (r * 6 + (r + i)) (nI 1)) (r * 6 + (r + (M - 1) - i)) (nI 0)))), (h5, .inl (E 0, 30, .inl (upd (upd gmw (r * 6 + (r + i)) (nI i)) (r * 6 + (r + (M - 1) - i)) (nI i)))), (h6, .inl (E 0, 36, .inl ca))]) (ws' := [(h0, .inr (0, [.int (nI M), .ref h1, .ref h2, .ref h3, .ref h4, .ref h5, .ref h6])), (h1, .inl (E 0, 15, .inl (upd hmw (r * 3 + i) (nI (r + i))))), (h2, .inl (E 0, 15, .inl (upd aww (r * 3 + i) (nI (r + (M - 1) - i))))), (h3, .inl (E 0, 30, .inl (upd (upd rvw (r * 6 + (r + i)) (nI (r + (M - 1) - i))) (r * 6 + (r + (M - 1) - i)) (nI (r + i))))), (h4, .inl (E 0, 30, .inl (upd (upd sdw (r * 6 + (r + i)) (nI 1)) (r * 6 + (r + (M - 1) - i)) (nI 0)))), (h5, .inl (E 0, 30, .inl (upd (upd gmw (r * 6 + (r + i)) (nI i)) (r * 6 + (r + (M - 1) - i)) (nI i)))), (h6, .inl (E 0, 36, .inl ca))]) hP hD [0, 1, 2, 3, 4, 5, 6] [] [0, 1, 2, 3, 4, 5, 6] rfl rfl (by decide +kernel) (by decide +kernel) hAc hk1 hP1 hD1 (by decide +kernel) rfl
                      clear hP1 hD1 hk1 hPc hDc hAc
                      refine lv_goto (tgt := 147) hx hb dX1_layCircle_133 (by decide) ?_
                      refine lv_iinc (v := nI (i + 1)) (lv' := [(4, .int (nI (i + 1))), (6, .int (nI (r + (M - 1) - i))), (5, .int (nI (r + i))), (0, .ref h0), (2, .int (nI (M - 1))), (3, .int (nI r))]) hx hb dX1_layCircle_147 hl (k := 5) rfl (nI_add _ _) (by decide) rfl (fun ls hl => ?_)
                      refine lv_goto (tgt := 58) hx hb dX1_layCircle_150 (by decide) ?_
                      have hl : lv_has ls 7 [(0, .ref h0), (2, .int (nI (M - 1))), (3, .int (nI r)), (4, .int (nI (i + 1)))] := lv_sub hl [3, 4, 5, 0] rfl
                      exact ih58 (i + 1) (upd hmw (r * 3 + i) (nI (r + i))) (upd aww (r * 3 + i) (nI (r + (M - 1) - i))) (upd (upd rvw (r * 6 + (r + i)) (nI (r + (M - 1) - i))) (r * 6 + (r + (M - 1) - i)) (nI (r + i))) (upd (upd sdw (r * 6 + (r + i)) (nI 1)) (r * 6 + (r + (M - 1) - i)) (nI 0)) (upd (upd gmw (r * 6 + (r + i)) (nI i)) (r * 6 + (r + (M - 1) - i)) (nI i)) H locs ls (by omega) (hst) (by omega) (by omega) hP hD hS hl
                  · skip
                    exact absurd (pk_sneg (by omega) hlt) cn_27
                · skip
                  refine zr_ti (y := nI (r - i)) (pk_sub hge) ?_
                  refine lv_if_lt (tgt := 106) hx hb dX1_layCircle_96 (by decide) (fun cn_35 => ?_) (fun cn_35 => ?_)
                  · skip
                    have cn_35 : r - i < 0 := (nI_ltI (a := r - i) (b := 0) (by omega) (by omega)).mp cn_35
                    refine lv_iload_n hx hb dX1_layCircle_106 rfl (lv_at hl 3 rfl) ?_
                    refine lv_iload hx hb dX1_layCircle_107 (lv_at hl 4 rfl) ?_
                    refine lv_isub hx hb dX1_layCircle_109 ?_
                    refine lv_iload_n hx hb dX1_layCircle_110 rfl (lv_at hl 2 rfl) ?_
                    refine lv_iadd hx hb dX1_layCircle_111 ?_
                    refine zr_ti (y := nI (r + (M - 1) - i)) (zn_wrap (by omega)) ?_
                    refine lv_istore (lv' := [(6, .int (nI (r + (M - 1) - i))), (5, .int (nI (r + i))), (0, .ref h0), (2, .int (nI (M - 1))), (3, .int (nI r)), (4, .int (nI i))]) hx hb dX1_layCircle_112 hl (by decide) rfl (fun ls hl => ?_)
                    refine lv_iload hx hb dX1_layCircle_114 (lv_at hl 5 rfl) ?_
                    refine lv_iconst (v := nI 2) hx hb dX1_layCircle_116 (by rfl) ?_
                    refine lv_irem hx hb dX1_layCircle_117 (by decide) ?_
                    refine zr_ti (y := nI (i % 2)) (pk_rem (by omega) (by omega) (by omega)) ?_
                    refine lv_iconst (v := nI 1) hx hb dX1_layCircle_118 (by rfl) ?_
                    refine lv_icmp_ne (tgt := 136) hx hb dX1_layCircle_119 (by decide) (fun cn_36 => ?_) (fun cn_36 => ?_)
                    · skip
                      have cn_36 : ¬ (i % 2 = 1) := fun hz => cn_36 ((nI_eq (a := i % 2) (b := 1) (by omega) (by omega)).mpr hz)
                      have hb3 := cn_36
                      refine lv_aload_n hx hb dX1_layCircle_136 rfl (lv_at hl 2 rfl) ?_
                      refine lv_iload_n hx hb dX1_layCircle_137 rfl (lv_at hl 4 rfl) ?_
                      refine lv_iload hx hb dX1_layCircle_138 (lv_at hl 5 rfl) ?_
                      refine lv_iload hx hb dX1_layCircle_140 (lv_at hl 0 rfl) ?_
                      refine lv_iload hx hb dX1_layCircle_142 (lv_at hl 1 rfl) ?_
                      have he1 : zm_ciG M r (2 * i) = r + (M - 1) - i := by unfold zm_ciG zm_ca zm_cb; rcases hM with rfl | rfl <;> (repeat' split) <;> omega
                      have he2 : zm_ciG M r (2 * i + 1) = r + i := by unfold zm_ciG zm_ca zm_cb; rcases hM with rfl | rfl <;> (repeat' split) <;> omega
                      have hst := zm_done_s (k := i) hokM hrr (by omega) hI2; rw [he1, he2] at hst
                      have hPc := hP.sub (ws' := [(h0, .inr (0, [.int (nI M), .ref h1, .ref h2, .ref h3, .ref h4, .ref h5, .ref h6])), (h1, .inl (E 0, 15, .inl hmw)), (h2, .inl (E 0, 15, .inl aww)), (h3, .inl (E 0, 30, .inl rvw)), (h4, .inl (E 0, 30, .inl sdw)), (h5, .inl (E 0, 30, .inl gmw)), (h6, .inl (E 0, 36, .inl ca))]) [0, 1, 2, 3, 4, 5, 6] rfl
                      have hDc := hD.sub (ws' := [(h0, .inr (0, [.int (nI M), .ref h1, .ref h2, .ref h3, .ref h4, .ref h5, .ref h6])), (h1, .inl (E 0, 15, .inl hmw)), (h2, .inl (E 0, 15, .inl aww)), (h3, .inl (E 0, 30, .inl rvw)), (h4, .inl (E 0, 30, .inl sdw)), (h5, .inl (E 0, 30, .inl gmw)), (h6, .inl (E 0, 36, .inl ca))]) [0, 1, 2, 3, 4, 5, 6] (by decide +kernel) rfl
                      have hAc := zw_AA (wc := [(h0, .inr (0, [.int (nI M), .ref h1, .ref h2, .ref h3, .ref h4, .ref h5, .ref h6])), (h1, .inl (E 0, 15, .inl hmw)), (h2, .inl (E 0, 15, .inl aww)), (h3, .inl (E 0, 30, .inl rvw)), (h4, .inl (E 0, 30, .inl sdw)), (h5, .inl (E 0, 30, .inl gmw)), (h6, .inl (E 0, 36, .inl ca))]) hD [0, 1, 2, 3, 4, 5, 6] rfl
                      refine zw_cv hAc hS (va_runV (As := [.int (nI r), .int (nI i), .int (nI (r + (M - 1) - i)), .int (nI (r + i))]) (rest := []) ⟨hx, hb, hml, hown, hts⟩ (c_X1_put l D E h0 h1 h2 h3 h4 h5 h6 M hmw aww rvw sdw gmw ca r i (r + (M - 1) - i) (r + i) (hM) (by omega) (by omega) (by omega) (by omega) (by omega)) (cwV 4 hts gX1_layCircle_X1_put rfl rfl rfl (by decide +kernel) ⟨Nat.le_of_ble_eq_true rfl, Nat.le_of_ble_eq_true rfl⟩) (zw_V hK hPc hDc (ci := 0) (q0 := 0) rfl rfl) rfl rfl hl.1 rfl (lv_room (Nat.le_of_ble_eq_true rfl)) dX1_layCircle_144 ⟨Nat.zero_le _, Nat.zero_le _⟩) (fun u_39 H locs hw_38 hP1 hD1 hk1 hS => ?_)
                      obtain ⟨hP, hD⟩ := zw_join (wr := []) (w1 := [(h0, .inr (0, [.int (nI M), .ref h1, .ref h2, .ref h3, .ref h4, .ref h5, .ref h6])), (h1, .inl (E 0, 15, .inl (upd hmw (r * 3 + i) (nI (r + (M - 1) - i))))), (h2, .inl (E 0, 15, .inl (upd aww (r * 3 + i) (nI (r + i))))), (h3, .inl (E 0, 30, .inl (upd (upd rvw (r * 6 + (r + (M - 1) - i)) (nI (r + i))) (r * 6 + (r + i)) (nI (r + (M - 1) - i))))), (h4, .inl (E 0, 30, .inl (upd (upd sdw (r * 6 + (r + (M - 1) - i)) (nI 1)) (r * 6 + (r + i)) (nI 0)))), (h5, .inl (E 0, 30, .inl (upd (upd gmw (r * 6 + (r + (M - 1) - i)) (nI i)) (r * 6 + (r + i)) (nI i)))), (h6, .inl (E 0, 36, .inl ca))]) (ws' := [(h0, .inr (0, [.int (nI M), .ref h1, .ref h2, .ref h3, .ref h4, .ref h5, .ref h6])), (h1, .inl (E 0, 15, .inl (upd hmw (r * 3 + i) (nI (r + (M - 1) - i))))), (h2, .inl (E 0, 15, .inl (upd aww (r * 3 + i) (nI (r + i))))), (h3, .inl (E 0, 30, .inl (upd (upd rvw (r * 6 + (r + (M - 1) - i)) (nI (r + i))) (r * 6 + (r + i)) (nI (r + (M - 1) - i))))), (h4, .inl (E 0, 30, .inl (upd (upd sdw (r * 6 + (r + (M - 1) - i)) (nI 1)) (r * 6 + (r + i)) (nI 0)))), (h5, .inl (E 0, 30, .inl (upd (upd gmw (r * 6 + (r + (M - 1) - i)) (nI i)) (r * 6 + (r + i)) (nI i)))), (h6, .inl (E 0, 36, .inl ca))]) hP hD [0, 1, 2, 3, 4, 5, 6] [] [0, 1, 2, 3, 4, 5, 6] rfl rfl (by decide +kernel) (by decide +kernel) hAc hk1 hP1 hD1 (by decide +kernel) rfl
                      clear hP1 hD1 hk1 hPc hDc hAc
                      refine lv_iinc (v := nI (i + 1)) (lv' := [(4, .int (nI (i + 1))), (6, .int (nI (r + (M - 1) - i))), (5, .int (nI (r + i))), (0, .ref h0), (2, .int (nI (M - 1))), (3, .int (nI r))]) hx hb dX1_layCircle_147 hl (k := 5) rfl (nI_add _ _) (by decide) rfl (fun ls hl => ?_)
                      refine lv_goto (tgt := 58) hx hb dX1_layCircle_150 (by decide) ?_
                      have hl : lv_has ls 7 [(0, .ref h0), (2, .int (nI (M - 1))), (3, .int (nI r)), (4, .int (nI (i + 1)))] := lv_sub hl [3, 4, 5, 0] rfl
                      exact ih58 (i + 1) (upd hmw (r * 3 + i) (nI (r + (M - 1) - i))) (upd aww (r * 3 + i) (nI (r + i))) (upd (upd rvw (r * 6 + (r + (M - 1) - i)) (nI (r + i))) (r * 6 + (r + i)) (nI (r + (M - 1) - i))) (upd (upd sdw (r * 6 + (r + (M - 1) - i)) (nI 1)) (r * 6 + (r + i)) (nI 0)) (upd (upd gmw (r * 6 + (r + (M - 1) - i)) (nI i)) (r * 6 + (r + i)) (nI i)) H locs ls (by omega) (hst) (by omega) (by omega) hP hD hS hl
                    · skip
                      have cn_36 : i % 2 = 1 := (nI_eq (a := i % 2) (b := 1) (by omega) (by omega)).mp cn_36
                      have hb3 := cn_36
                      refine lv_aload_n hx hb dX1_layCircle_122 rfl (lv_at hl 2 rfl) ?_
                      refine lv_iload_n hx hb dX1_layCircle_123 rfl (lv_at hl 4 rfl) ?_
                      refine lv_iload hx hb dX1_layCircle_124 (lv_at hl 5 rfl) ?_
                      refine lv_iload hx hb dX1_layCircle_126 (lv_at hl 1 rfl) ?_
                      refine lv_iload hx hb dX1_layCircle_128 (lv_at hl 0 rfl) ?_
                      have he1 : zm_ciG M r (2 * i) = r + i := by unfold zm_ciG zm_ca zm_cb; rcases hM with rfl | rfl <;> (repeat' split) <;> omega
                      have he2 : zm_ciG M r (2 * i + 1) = r + (M - 1) - i := by unfold zm_ciG zm_ca zm_cb; rcases hM with rfl | rfl <;> (repeat' split) <;> omega
                      have hst := zm_done_s (k := i) hokM hrr (by omega) hI2; rw [he1, he2] at hst
                      have hPc := hP.sub (ws' := [(h0, .inr (0, [.int (nI M), .ref h1, .ref h2, .ref h3, .ref h4, .ref h5, .ref h6])), (h1, .inl (E 0, 15, .inl hmw)), (h2, .inl (E 0, 15, .inl aww)), (h3, .inl (E 0, 30, .inl rvw)), (h4, .inl (E 0, 30, .inl sdw)), (h5, .inl (E 0, 30, .inl gmw)), (h6, .inl (E 0, 36, .inl ca))]) [0, 1, 2, 3, 4, 5, 6] rfl
                      have hDc := hD.sub (ws' := [(h0, .inr (0, [.int (nI M), .ref h1, .ref h2, .ref h3, .ref h4, .ref h5, .ref h6])), (h1, .inl (E 0, 15, .inl hmw)), (h2, .inl (E 0, 15, .inl aww)), (h3, .inl (E 0, 30, .inl rvw)), (h4, .inl (E 0, 30, .inl sdw)), (h5, .inl (E 0, 30, .inl gmw)), (h6, .inl (E 0, 36, .inl ca))]) [0, 1, 2, 3, 4, 5, 6] (by decide +kernel) rfl
                      have hAc := zw_AA (wc := [(h0, .inr (0, [.int (nI M), .ref h1, .ref h2, .ref h3, .ref h4, .ref h5, .ref h6])), (h1, .inl (E 0, 15, .inl hmw)), (h2, .inl (E 0, 15, .inl aww)), (h3, .inl (E 0, 30, .inl rvw)), (h4, .inl (E 0, 30, .inl sdw)), (h5, .inl (E 0, 30, .inl gmw)), (h6, .inl (E 0, 36, .inl ca))]) hD [0, 1, 2, 3, 4, 5, 6] rfl
                      refine zw_cv hAc hS (va_runV (As := [.int (nI r), .int (nI i), .int (nI (r + i)), .int (nI (r + (M - 1) - i))]) (rest := []) ⟨hx, hb, hml, hown, hts⟩ (c_X1_put l D E h0 h1 h2 h3 h4 h5 h6 M hmw aww rvw sdw gmw ca r i (r + i) (r + (M - 1) - i) (hM) (by omega) (by omega) (by omega) (by omega) (by omega)) (cwV 4 hts gX1_layCircle_X1_put rfl rfl rfl (by decide +kernel) ⟨Nat.le_of_ble_eq_true rfl, Nat.le_of_ble_eq_true rfl⟩) (zw_V hK hPc hDc (ci := 0) (q0 := 0) rfl rfl) rfl rfl hl.1 rfl (lv_room (Nat.le_of_ble_eq_true rfl)) dX1_layCircle_130 ⟨Nat.zero_le _, Nat.zero_le _⟩) (fun u_42 H locs hw_41 hP1 hD1 hk1 hS => ?_)
                      obtain ⟨hP, hD⟩ := zw_join (wr := []) (w1 := [(h0, .inr (0, [.int (nI M), .ref h1, .ref h2, .ref h3, .ref h4, .ref h5, .ref h6])), (h1, .inl (E 0, 15, .inl (upd hmw (r * 3 + i) (nI (r + i))))), (h2, .inl (E 0, 15, .inl (upd aww (r * 3 + i) (nI (r + (M - 1) - i))))), (h3, .inl (E 0, 30, .inl (upd (upd rvw (r * 6 + (r + i)) (nI (r + (M - 1) - i))) (r * 6 + (r + (M - 1) - i)) (nI (r + i))))), (h4, .inl (E 0, 30, .inl (upd (upd sdw (r * 6 + (r + i)) (nI 1)) (r * 6 + (r + (M - 1) - i)) (nI 0)))), (h5, .inl (E 0, 30, .inl (upd (upd gmw (r * 6 + (r + i)) (nI i)) (r * 6 + (r + (M - 1) - i)) (nI i)))), (h6, .inl (E 0, 36, .inl ca))]) (ws' := [(h0, .inr (0, [.int (nI M), .ref h1, .ref h2, .ref h3, .ref h4, .ref h5, .ref h6])), (h1, .inl (E 0, 15, .inl (upd hmw (r * 3 + i) (nI (r + i))))), (h2, .inl (E 0, 15, .inl (upd aww (r * 3 + i) (nI (r + (M - 1) - i))))), (h3, .inl (E 0, 30, .inl (upd (upd rvw (r * 6 + (r + i)) (nI (r + (M - 1) - i))) (r * 6 + (r + (M - 1) - i)) (nI (r + i))))), (h4, .inl (E 0, 30, .inl (upd (upd sdw (r * 6 + (r + i)) (nI 1)) (r * 6 + (r + (M - 1) - i)) (nI 0)))), (h5, .inl (E 0, 30, .inl (upd (upd gmw (r * 6 + (r + i)) (nI i)) (r * 6 + (r + (M - 1) - i)) (nI i)))), (h6, .inl (E 0, 36, .inl ca))]) hP hD [0, 1, 2, 3, 4, 5, 6] [] [0, 1, 2, 3, 4, 5, 6] rfl rfl (by decide +kernel) (by decide +kernel) hAc hk1 hP1 hD1 (by decide +kernel) rfl
                      clear hP1 hD1 hk1 hPc hDc hAc
                      refine lv_goto (tgt := 147) hx hb dX1_layCircle_133 (by decide) ?_
                      refine lv_iinc (v := nI (i + 1)) (lv' := [(4, .int (nI (i + 1))), (6, .int (nI (r + (M - 1) - i))), (5, .int (nI (r + i))), (0, .ref h0), (2, .int (nI (M - 1))), (3, .int (nI r))]) hx hb dX1_layCircle_147 hl (k := 5) rfl (nI_add _ _) (by decide) rfl (fun ls hl => ?_)
                      refine lv_goto (tgt := 58) hx hb dX1_layCircle_150 (by decide) ?_
                      have hl : lv_has ls 7 [(0, .ref h0), (2, .int (nI (M - 1))), (3, .int (nI r)), (4, .int (nI (i + 1)))] := lv_sub hl [3, 4, 5, 0] rfl
                      exact ih58 (i + 1) (upd hmw (r * 3 + i) (nI (r + i))) (upd aww (r * 3 + i) (nI (r + (M - 1) - i))) (upd (upd rvw (r * 6 + (r + i)) (nI (r + (M - 1) - i))) (r * 6 + (r + (M - 1) - i)) (nI (r + i))) (upd (upd sdw (r * 6 + (r + i)) (nI 1)) (r * 6 + (r + (M - 1) - i)) (nI 0)) (upd (upd gmw (r * 6 + (r + i)) (nI i)) (r * 6 + (r + (M - 1) - i)) (nI i)) H locs ls (by omega) (hst) (by omega) (by omega) hP hD hS hl
                  · skip
                    have cn_35 : ¬ (r - i < 0) := fun hz => cn_35 ((nI_ltI (a := r - i) (b := 0) (by omega) (by omega)).mpr hz)
                    refine lv_iload_n hx hb dX1_layCircle_99 rfl (lv_at hl 3 rfl) ?_
                    refine lv_iload hx hb dX1_layCircle_100 (lv_at hl 4 rfl) ?_
                    refine lv_isub hx hb dX1_layCircle_102 ?_
                    refine zr_ti (y := nI (r - i)) (pk_sub (by omega)) ?_
                    refine lv_goto (tgt := 112) hx hb dX1_layCircle_103 (by decide) ?_
                    refine lv_istore (lv' := [(6, .int (nI (r - i))), (5, .int (nI (r + i))), (0, .ref h0), (2, .int (nI (M - 1))), (3, .int (nI r)), (4, .int (nI i))]) hx hb dX1_layCircle_112 hl (by decide) rfl (fun ls hl => ?_)
                    refine lv_iload hx hb dX1_layCircle_114 (lv_at hl 5 rfl) ?_
                    refine lv_iconst (v := nI 2) hx hb dX1_layCircle_116 (by rfl) ?_
                    refine lv_irem hx hb dX1_layCircle_117 (by decide) ?_
                    refine zr_ti (y := nI (i % 2)) (pk_rem (by omega) (by omega) (by omega)) ?_
                    refine lv_iconst (v := nI 1) hx hb dX1_layCircle_118 (by rfl) ?_
                    refine lv_icmp_ne (tgt := 136) hx hb dX1_layCircle_119 (by decide) (fun cn_43 => ?_) (fun cn_43 => ?_)
                    · skip
                      have cn_43 : ¬ (i % 2 = 1) := fun hz => cn_43 ((nI_eq (a := i % 2) (b := 1) (by omega) (by omega)).mpr hz)
                      have hb3 := cn_43
                      refine lv_aload_n hx hb dX1_layCircle_136 rfl (lv_at hl 2 rfl) ?_
                      refine lv_iload_n hx hb dX1_layCircle_137 rfl (lv_at hl 4 rfl) ?_
                      refine lv_iload hx hb dX1_layCircle_138 (lv_at hl 5 rfl) ?_
                      refine lv_iload hx hb dX1_layCircle_140 (lv_at hl 0 rfl) ?_
                      refine lv_iload hx hb dX1_layCircle_142 (lv_at hl 1 rfl) ?_
                      have he1 : zm_ciG M r (2 * i) = r - i := by unfold zm_ciG zm_ca zm_cb; rcases hM with rfl | rfl <;> (repeat' split) <;> omega
                      have he2 : zm_ciG M r (2 * i + 1) = r + i := by unfold zm_ciG zm_ca zm_cb; rcases hM with rfl | rfl <;> (repeat' split) <;> omega
                      have hst := zm_done_s (k := i) hokM hrr (by omega) hI2; rw [he1, he2] at hst
                      have hPc := hP.sub (ws' := [(h0, .inr (0, [.int (nI M), .ref h1, .ref h2, .ref h3, .ref h4, .ref h5, .ref h6])), (h1, .inl (E 0, 15, .inl hmw)), (h2, .inl (E 0, 15, .inl aww)), (h3, .inl (E 0, 30, .inl rvw)), (h4, .inl (E 0, 30, .inl sdw)), (h5, .inl (E 0, 30, .inl gmw)), (h6, .inl (E 0, 36, .inl ca))]) [0, 1, 2, 3, 4, 5, 6] rfl
                      have hDc := hD.sub (ws' := [(h0, .inr (0, [.int (nI M), .ref h1, .ref h2, .ref h3, .ref h4, .ref h5, .ref h6])), (h1, .inl (E 0, 15, .inl hmw)), (h2, .inl (E 0, 15, .inl aww)), (h3, .inl (E 0, 30, .inl rvw)), (h4, .inl (E 0, 30, .inl sdw)), (h5, .inl (E 0, 30, .inl gmw)), (h6, .inl (E 0, 36, .inl ca))]) [0, 1, 2, 3, 4, 5, 6] (by decide +kernel) rfl
                      have hAc := zw_AA (wc := [(h0, .inr (0, [.int (nI M), .ref h1, .ref h2, .ref h3, .ref h4, .ref h5, .ref h6])), (h1, .inl (E 0, 15, .inl hmw)), (h2, .inl (E 0, 15, .inl aww)), (h3, .inl (E 0, 30, .inl rvw)), (h4, .inl (E 0, 30, .inl sdw)), (h5, .inl (E 0, 30, .inl gmw)), (h6, .inl (E 0, 36, .inl ca))]) hD [0, 1, 2, 3, 4, 5, 6] rfl
                      refine zw_cv hAc hS (va_runV (As := [.int (nI r), .int (nI i), .int (nI (r - i)), .int (nI (r + i))]) (rest := []) ⟨hx, hb, hml, hown, hts⟩ (c_X1_put l D E h0 h1 h2 h3 h4 h5 h6 M hmw aww rvw sdw gmw ca r i (r - i) (r + i) (hM) (by omega) (by omega) (by omega) (by omega) (by omega)) (cwV 4 hts gX1_layCircle_X1_put rfl rfl rfl (by decide +kernel) ⟨Nat.le_of_ble_eq_true rfl, Nat.le_of_ble_eq_true rfl⟩) (zw_V hK hPc hDc (ci := 0) (q0 := 0) rfl rfl) rfl rfl hl.1 rfl (lv_room (Nat.le_of_ble_eq_true rfl)) dX1_layCircle_144 ⟨Nat.zero_le _, Nat.zero_le _⟩) (fun u_46 H locs hw_45 hP1 hD1 hk1 hS => ?_)
                      obtain ⟨hP, hD⟩ := zw_join (wr := []) (w1 := [(h0, .inr (0, [.int (nI M), .ref h1, .ref h2, .ref h3, .ref h4, .ref h5, .ref h6])), (h1, .inl (E 0, 15, .inl (upd hmw (r * 3 + i) (nI (r - i))))), (h2, .inl (E 0, 15, .inl (upd aww (r * 3 + i) (nI (r + i))))), (h3, .inl (E 0, 30, .inl (upd (upd rvw (r * 6 + (r - i)) (nI (r + i))) (r * 6 + (r + i)) (nI (r - i))))), (h4, .inl (E 0, 30, .inl (upd (upd sdw (r * 6 + (r - i)) (nI 1)) (r * 6 + (r + i)) (nI 0)))), (h5, .inl (E 0, 30, .inl (upd (upd gmw (r * 6 + (r - i)) (nI i)) (r * 6 + (r + i)) (nI i)))), (h6, .inl (E 0, 36, .inl ca))]) (ws' := [(h0, .inr (0, [.int (nI M), .ref h1, .ref h2, .ref h3, .ref h4, .ref h5, .ref h6])), (h1, .inl (E 0, 15, .inl (upd hmw (r * 3 + i) (nI (r - i))))), (h2, .inl (E 0, 15, .inl (upd aww (r * 3 + i) (nI (r + i))))), (h3, .inl (E 0, 30, .inl (upd (upd rvw (r * 6 + (r - i)) (nI (r + i))) (r * 6 + (r + i)) (nI (r - i))))), (h4, .inl (E 0, 30, .inl (upd (upd sdw (r * 6 + (r - i)) (nI 1)) (r * 6 + (r + i)) (nI 0)))), (h5, .inl (E 0, 30, .inl (upd (upd gmw (r * 6 + (r - i)) (nI i)) (r * 6 + (r + i)) (nI i)))), (h6, .inl (E 0, 36, .inl ca))]) hP hD [0, 1, 2, 3, 4, 5, 6] [] [0, 1, 2, 3, 4, 5, 6] rfl rfl (by decide +kernel) (by decide +kernel) hAc hk1 hP1 hD1 (by decide +kernel) rfl
                      clear hP1 hD1 hk1 hPc hDc hAc
                      refine lv_iinc (v := nI (i + 1)) (lv' := [(4, .int (nI (i + 1))), (6, .int (nI (r - i))), (5, .int (nI (r + i))), (0, .ref h0), (2, .int (nI (M - 1))), (3, .int (nI r))]) hx hb dX1_layCircle_147 hl (k := 5) rfl (nI_add _ _) (by decide) rfl (fun ls hl => ?_)
                      refine lv_goto (tgt := 58) hx hb dX1_layCircle_150 (by decide) ?_
                      have hl : lv_has ls 7 [(0, .ref h0), (2, .int (nI (M - 1))), (3, .int (nI r)), (4, .int (nI (i + 1)))] := lv_sub hl [3, 4, 5, 0] rfl
                      exact ih58 (i + 1) (upd hmw (r * 3 + i) (nI (r - i))) (upd aww (r * 3 + i) (nI (r + i))) (upd (upd rvw (r * 6 + (r - i)) (nI (r + i))) (r * 6 + (r + i)) (nI (r - i))) (upd (upd sdw (r * 6 + (r - i)) (nI 1)) (r * 6 + (r + i)) (nI 0)) (upd (upd gmw (r * 6 + (r - i)) (nI i)) (r * 6 + (r + i)) (nI i)) H locs ls (by omega) (hst) (by omega) (by omega) hP hD hS hl
                    · skip
                      have cn_43 : i % 2 = 1 := (nI_eq (a := i % 2) (b := 1) (by omega) (by omega)).mp cn_43
                      have hb3 := cn_43
                      refine lv_aload_n hx hb dX1_layCircle_122 rfl (lv_at hl 2 rfl) ?_
                      refine lv_iload_n hx hb dX1_layCircle_123 rfl (lv_at hl 4 rfl) ?_
                      refine lv_iload hx hb dX1_layCircle_124 (lv_at hl 5 rfl) ?_
                      refine lv_iload hx hb dX1_layCircle_126 (lv_at hl 1 rfl) ?_
                      refine lv_iload hx hb dX1_layCircle_128 (lv_at hl 0 rfl) ?_
                      have he1 : zm_ciG M r (2 * i) = r + i := by unfold zm_ciG zm_ca zm_cb; rcases hM with rfl | rfl <;> (repeat' split) <;> omega
                      have he2 : zm_ciG M r (2 * i + 1) = r - i := by unfold zm_ciG zm_ca zm_cb; rcases hM with rfl | rfl <;> (repeat' split) <;> omega
                      have hst := zm_done_s (k := i) hokM hrr (by omega) hI2; rw [he1, he2] at hst
                      have hPc := hP.sub (ws' := [(h0, .inr (0, [.int (nI M), .ref h1, .ref h2, .ref h3, .ref h4, .ref h5, .ref h6])), (h1, .inl (E 0, 15, .inl hmw)), (h2, .inl (E 0, 15, .inl aww)), (h3, .inl (E 0, 30, .inl rvw)), (h4, .inl (E 0, 30, .inl sdw)), (h5, .inl (E 0, 30, .inl gmw)), (h6, .inl (E 0, 36, .inl ca))]) [0, 1, 2, 3, 4, 5, 6] rfl
                      have hDc := hD.sub (ws' := [(h0, .inr (0, [.int (nI M), .ref h1, .ref h2, .ref h3, .ref h4, .ref h5, .ref h6])), (h1, .inl (E 0, 15, .inl hmw)), (h2, .inl (E 0, 15, .inl aww)), (h3, .inl (E 0, 30, .inl rvw)), (h4, .inl (E 0, 30, .inl sdw)), (h5, .inl (E 0, 30, .inl gmw)), (h6, .inl (E 0, 36, .inl ca))]) [0, 1, 2, 3, 4, 5, 6] (by decide +kernel) rfl
                      have hAc := zw_AA (wc := [(h0, .inr (0, [.int (nI M), .ref h1, .ref h2, .ref h3, .ref h4, .ref h5, .ref h6])), (h1, .inl (E 0, 15, .inl hmw)), (h2, .inl (E 0, 15, .inl aww)), (h3, .inl (E 0, 30, .inl rvw)), (h4, .inl (E 0, 30, .inl sdw)), (h5, .inl (E 0, 30, .inl gmw)), (h6, .inl (E 0, 36, .inl ca))]) hD [0, 1, 2, 3, 4, 5, 6] rfl
                      refine zw_cv hAc hS (va_runV (As := [.int (nI r), .int (nI i), .int (nI (r + i)), .int (nI (r - i))]) (rest := []) ⟨hx, hb, hml, hown, hts⟩ (c_X1_put l D E h0 h1 h2 h3 h4 h5 h6 M hmw aww rvw sdw gmw ca r i (r + i) (r - i) (hM) (by omega) (by omega) (by omega) (by omega) (by omega)) (cwV 4 hts gX1_layCircle_X1_put rfl rfl rfl (by decide +kernel) ⟨Nat.le_of_ble_eq_true rfl, Nat.le_of_ble_eq_true rfl⟩) (zw_V hK hPc hDc (ci := 0) (q0 := 0) rfl rfl) rfl rfl hl.1 rfl (lv_room (Nat.le_of_ble_eq_true rfl)) dX1_layCircle_130 ⟨Nat.zero_le _, Nat.zero_le _⟩) (fun u_49 H locs hw_48 hP1 hD1 hk1 hS => ?_)
                      obtain ⟨hP, hD⟩ := zw_join (wr := []) (w1 := [(h0, .inr (0, [.int (nI M), .ref h1, .ref h2, .ref h3, .ref h4, .ref h5, .ref h6])), (h1, .inl (E 0, 15, .inl (upd hmw (r * 3 + i) (nI (r + i))))), (h2, .inl (E 0, 15, .inl (upd aww (r * 3 + i) (nI (r - i))))), (h3, .inl (E 0, 30, .inl (upd (upd rvw (r * 6 + (r + i)) (nI (r - i))) (r * 6 + (r - i)) (nI (r + i))))), (h4, .inl (E 0, 30, .inl (upd (upd sdw (r * 6 + (r + i)) (nI 1)) (r * 6 + (r - i)) (nI 0)))), (h5, .inl (E 0, 30, .inl (upd (upd gmw (r * 6 + (r + i)) (nI i)) (r * 6 + (r - i)) (nI i)))), (h6, .inl (E 0, 36, .inl ca))]) (ws' := [(h0, .inr (0, [.int (nI M), .ref h1, .ref h2, .ref h3, .ref h4, .ref h5, .ref h6])), (h1, .inl (E 0, 15, .inl (upd hmw (r * 3 + i) (nI (r + i))))), (h2, .inl (E 0, 15, .inl (upd aww (r * 3 + i) (nI (r - i))))), (h3, .inl (E 0, 30, .inl (upd (upd rvw (r * 6 + (r + i)) (nI (r - i))) (r * 6 + (r - i)) (nI (r + i))))), (h4, .inl (E 0, 30, .inl (upd (upd sdw (r * 6 + (r + i)) (nI 1)) (r * 6 + (r - i)) (nI 0)))), (h5, .inl (E 0, 30, .inl (upd (upd gmw (r * 6 + (r + i)) (nI i)) (r * 6 + (r - i)) (nI i)))), (h6, .inl (E 0, 36, .inl ca))]) hP hD [0, 1, 2, 3, 4, 5, 6] [] [0, 1, 2, 3, 4, 5, 6] rfl rfl (by decide +kernel) (by decide +kernel) hAc hk1 hP1 hD1 (by decide +kernel) rfl
                      clear hP1 hD1 hk1 hPc hDc hAc
                      refine lv_goto (tgt := 147) hx hb dX1_layCircle_133 (by decide) ?_
                      refine lv_iinc (v := nI (i + 1)) (lv' := [(4, .int (nI (i + 1))), (6, .int (nI (r - i))), (5, .int (nI (r + i))), (0, .ref h0), (2, .int (nI (M - 1))), (3, .int (nI r))]) hx hb dX1_layCircle_147 hl (k := 5) rfl (nI_add _ _) (by decide) rfl (fun ls hl => ?_)
                      refine lv_goto (tgt := 58) hx hb dX1_layCircle_150 (by decide) ?_
                      have hl : lv_has ls 7 [(0, .ref h0), (2, .int (nI (M - 1))), (3, .int (nI r)), (4, .int (nI (i + 1)))] := lv_sub hl [3, 4, 5, 0] rfl
                      exact ih58 (i + 1) (upd hmw (r * 3 + i) (nI (r + i))) (upd aww (r * 3 + i) (nI (r - i))) (upd (upd rvw (r * 6 + (r + i)) (nI (r - i))) (r * 6 + (r - i)) (nI (r + i))) (upd (upd sdw (r * 6 + (r + i)) (nI 1)) (r * 6 + (r - i)) (nI 0)) (upd (upd gmw (r * 6 + (r + i)) (nI i)) (r * 6 + (r - i)) (nI i)) H locs ls (by omega) (hst) (by omega) (by omega) hP hD hS hl
        refine lv_iload_n hx hb dX1_layCircle_30 rfl (lv_at hl 2 rfl) ?_
        refine lv_iconst (v := nI 2) hx hb dX1_layCircle_31 (by rfl) ?_
        refine lv_irem hx hb dX1_layCircle_32 (by decide) ?_
        refine zr_ti (y := nI (r % 2)) (pk_rem (by omega) (by omega) (by omega)) ?_
        refine lv_if_ne (tgt := 47) hx hb dX1_layCircle_33 (by decide) (fun cn_50 => ?_) (fun cn_50 => ?_)
        · skip
          have cn_50 : ¬ (r % 2 = 0) := fun hz => cn_50 ((nI_eq (a := r % 2) (b := 0) (by omega) (by omega)).mpr hz)
          have hpar := cn_50
          refine lv_aload_n hx hb dX1_layCircle_47 rfl (lv_at hl 0 rfl) ?_
          refine lv_iload_n hx hb dX1_layCircle_48 rfl (lv_at hl 2 rfl) ?_
          refine lv_iconst (v := nI 0) hx hb dX1_layCircle_49 (by rfl) ?_
          refine lv_iload_n hx hb dX1_layCircle_50 rfl (lv_at hl 1 rfl) ?_
          refine lv_iload_n hx hb dX1_layCircle_51 rfl (lv_at hl 2 rfl) ?_
          have he1 : zm_ciG M r (2 * 0) = M - 1 := by unfold zm_ciG zm_ca zm_cb; rcases hM with rfl | rfl <;> (repeat' split) <;> omega
          have he2 : zm_ciG M r (2 * 0 + 1) = r := by unfold zm_ciG zm_ca zm_cb; rcases hM with rfl | rfl <;> (repeat' split) <;> omega
          have hst := zm_done_s (k := 0) hokM hrr (by omega) hI; rw [he1, he2] at hst
          have hPc := hP.sub (ws' := [(h0, .inr (0, [.int (nI M), .ref h1, .ref h2, .ref h3, .ref h4, .ref h5, .ref h6])), (h1, .inl (E 0, 15, .inl hmv)), (h2, .inl (E 0, 15, .inl awv)), (h3, .inl (E 0, 30, .inl rvv)), (h4, .inl (E 0, 30, .inl sdv)), (h5, .inl (E 0, 30, .inl gmv)), (h6, .inl (E 0, 36, .inl ca))]) [0, 1, 2, 3, 4, 5, 6] rfl
          have hDc := hD.sub (ws' := [(h0, .inr (0, [.int (nI M), .ref h1, .ref h2, .ref h3, .ref h4, .ref h5, .ref h6])), (h1, .inl (E 0, 15, .inl hmv)), (h2, .inl (E 0, 15, .inl awv)), (h3, .inl (E 0, 30, .inl rvv)), (h4, .inl (E 0, 30, .inl sdv)), (h5, .inl (E 0, 30, .inl gmv)), (h6, .inl (E 0, 36, .inl ca))]) [0, 1, 2, 3, 4, 5, 6] (by decide +kernel) rfl
          have hAc := zw_AA (wc := [(h0, .inr (0, [.int (nI M), .ref h1, .ref h2, .ref h3, .ref h4, .ref h5, .ref h6])), (h1, .inl (E 0, 15, .inl hmv)), (h2, .inl (E 0, 15, .inl awv)), (h3, .inl (E 0, 30, .inl rvv)), (h4, .inl (E 0, 30, .inl sdv)), (h5, .inl (E 0, 30, .inl gmv)), (h6, .inl (E 0, 36, .inl ca))]) hD [0, 1, 2, 3, 4, 5, 6] rfl
          refine zw_cv hAc hS (va_runV (As := [.int (nI r), .int (nI 0), .int (nI (M - 1)), .int (nI r)]) (rest := []) ⟨hx, hb, hml, hown, hts⟩ (c_X1_put l D E h0 h1 h2 h3 h4 h5 h6 M hmv awv rvv sdv gmv ca r 0 (M - 1) r (hM) (by omega) (by omega) (by omega) (by omega) (by omega)) (cwV 4 hts gX1_layCircle_X1_put rfl rfl rfl (by decide +kernel) ⟨Nat.le_of_ble_eq_true rfl, Nat.le_of_ble_eq_true rfl⟩) (zw_V hK hPc hDc (ci := 0) (q0 := 0) rfl rfl) rfl rfl hl.1 rfl (lv_room (Nat.le_of_ble_eq_true rfl)) dX1_layCircle_52 ⟨Nat.zero_le _, Nat.zero_le _⟩) (fun u_53 H locs hw_52 hP1 hD1 hk1 hS => ?_)
          obtain ⟨hP, hD⟩ := zw_join (wr := []) (w1 := [(h0, .inr (0, [.int (nI M), .ref h1, .ref h2, .ref h3, .ref h4, .ref h5, .ref h6])), (h1, .inl (E 0, 15, .inl (upd hmv (r * 3 + 0) (nI (M - 1))))), (h2, .inl (E 0, 15, .inl (upd awv (r * 3 + 0) (nI r)))), (h3, .inl (E 0, 30, .inl (upd (upd rvv (r * 6 + (M - 1)) (nI r)) (r * 6 + r) (nI (M - 1))))), (h4, .inl (E 0, 30, .inl (upd (upd sdv (r * 6 + (M - 1)) (nI 1)) (r * 6 + r) (nI 0)))), (h5, .inl (E 0, 30, .inl (upd (upd gmv (r * 6 + (M - 1)) (nI 0)) (r * 6 + r) (nI 0)))), (h6, .inl (E 0, 36, .inl ca))]) (ws' := [(h0, .inr (0, [.int (nI M), .ref h1, .ref h2, .ref h3, .ref h4, .ref h5, .ref h6])), (h1, .inl (E 0, 15, .inl (upd hmv (r * 3 + 0) (nI (M - 1))))), (h2, .inl (E 0, 15, .inl (upd awv (r * 3 + 0) (nI r)))), (h3, .inl (E 0, 30, .inl (upd (upd rvv (r * 6 + (M - 1)) (nI r)) (r * 6 + r) (nI (M - 1))))), (h4, .inl (E 0, 30, .inl (upd (upd sdv (r * 6 + (M - 1)) (nI 1)) (r * 6 + r) (nI 0)))), (h5, .inl (E 0, 30, .inl (upd (upd gmv (r * 6 + (M - 1)) (nI 0)) (r * 6 + r) (nI 0)))), (h6, .inl (E 0, 36, .inl ca))]) hP hD [0, 1, 2, 3, 4, 5, 6] [] [0, 1, 2, 3, 4, 5, 6] rfl rfl (by decide +kernel) (by decide +kernel) hAc hk1 hP1 hD1 (by decide +kernel) rfl
          clear hP1 hD1 hk1 hPc hDc hAc
          have hl : lv_has ls 7 [(0, .ref h0), (2, .int (nI (M - 1))), (3, .int (nI r))] := lv_sub hl [0, 1, 2] rfl
          exact KJ55 (upd hmv (r * 3 + 0) (nI (M - 1))) (upd awv (r * 3 + 0) (nI r)) (upd (upd rvv (r * 6 + (M - 1)) (nI r)) (r * 6 + r) (nI (M - 1))) (upd (upd sdv (r * 6 + (M - 1)) (nI 1)) (r * 6 + r) (nI 0)) (upd (upd gmv (r * 6 + (M - 1)) (nI 0)) (r * 6 + r) (nI 0)) H locs ls (hst) hP hD hS hl
        · skip
          have cn_50 : r % 2 = 0 := (nI_eq (a := r % 2) (b := 0) (by omega) (by omega)).mp cn_50
          have hpar := cn_50
          refine lv_aload_n hx hb dX1_layCircle_36 rfl (lv_at hl 0 rfl) ?_
          refine lv_iload_n hx hb dX1_layCircle_37 rfl (lv_at hl 2 rfl) ?_
          refine lv_iconst (v := nI 0) hx hb dX1_layCircle_38 (by rfl) ?_
          refine lv_iload_n hx hb dX1_layCircle_39 rfl (lv_at hl 2 rfl) ?_
          refine lv_iload_n hx hb dX1_layCircle_40 rfl (lv_at hl 1 rfl) ?_
          have he1 : zm_ciG M r (2 * 0) = r := by unfold zm_ciG zm_ca zm_cb; rcases hM with rfl | rfl <;> (repeat' split) <;> omega
          have he2 : zm_ciG M r (2 * 0 + 1) = M - 1 := by unfold zm_ciG zm_ca zm_cb; rcases hM with rfl | rfl <;> (repeat' split) <;> omega
          have hst := zm_done_s (k := 0) hokM hrr (by omega) hI; rw [he1, he2] at hst
          have hPc := hP.sub (ws' := [(h0, .inr (0, [.int (nI M), .ref h1, .ref h2, .ref h3, .ref h4, .ref h5, .ref h6])), (h1, .inl (E 0, 15, .inl hmv)), (h2, .inl (E 0, 15, .inl awv)), (h3, .inl (E 0, 30, .inl rvv)), (h4, .inl (E 0, 30, .inl sdv)), (h5, .inl (E 0, 30, .inl gmv)), (h6, .inl (E 0, 36, .inl ca))]) [0, 1, 2, 3, 4, 5, 6] rfl
          have hDc := hD.sub (ws' := [(h0, .inr (0, [.int (nI M), .ref h1, .ref h2, .ref h3, .ref h4, .ref h5, .ref h6])), (h1, .inl (E 0, 15, .inl hmv)), (h2, .inl (E 0, 15, .inl awv)), (h3, .inl (E 0, 30, .inl rvv)), (h4, .inl (E 0, 30, .inl sdv)), (h5, .inl (E 0, 30, .inl gmv)), (h6, .inl (E 0, 36, .inl ca))]) [0, 1, 2, 3, 4, 5, 6] (by decide +kernel) rfl
          have hAc := zw_AA (wc := [(h0, .inr (0, [.int (nI M), .ref h1, .ref h2, .ref h3, .ref h4, .ref h5, .ref h6])), (h1, .inl (E 0, 15, .inl hmv)), (h2, .inl (E 0, 15, .inl awv)), (h3, .inl (E 0, 30, .inl rvv)), (h4, .inl (E 0, 30, .inl sdv)), (h5, .inl (E 0, 30, .inl gmv)), (h6, .inl (E 0, 36, .inl ca))]) hD [0, 1, 2, 3, 4, 5, 6] rfl
          refine zw_cv hAc hS (va_runV (As := [.int (nI r), .int (nI 0), .int (nI r), .int (nI (M - 1))]) (rest := []) ⟨hx, hb, hml, hown, hts⟩ (c_X1_put l D E h0 h1 h2 h3 h4 h5 h6 M hmv awv rvv sdv gmv ca r 0 r (M - 1) (hM) (by omega) (by omega) (by omega) (by omega) (by omega)) (cwV 4 hts gX1_layCircle_X1_put rfl rfl rfl (by decide +kernel) ⟨Nat.le_of_ble_eq_true rfl, Nat.le_of_ble_eq_true rfl⟩) (zw_V hK hPc hDc (ci := 0) (q0 := 0) rfl rfl) rfl rfl hl.1 rfl (lv_room (Nat.le_of_ble_eq_true rfl)) dX1_layCircle_41 ⟨Nat.zero_le _, Nat.zero_le _⟩) (fun u_56 H locs hw_55 hP1 hD1 hk1 hS => ?_)
          obtain ⟨hP, hD⟩ := zw_join (wr := []) (w1 := [(h0, .inr (0, [.int (nI M), .ref h1, .ref h2, .ref h3, .ref h4, .ref h5, .ref h6])), (h1, .inl (E 0, 15, .inl (upd hmv (r * 3 + 0) (nI r)))), (h2, .inl (E 0, 15, .inl (upd awv (r * 3 + 0) (nI (M - 1))))), (h3, .inl (E 0, 30, .inl (upd (upd rvv (r * 6 + r) (nI (M - 1))) (r * 6 + (M - 1)) (nI r)))), (h4, .inl (E 0, 30, .inl (upd (upd sdv (r * 6 + r) (nI 1)) (r * 6 + (M - 1)) (nI 0)))), (h5, .inl (E 0, 30, .inl (upd (upd gmv (r * 6 + r) (nI 0)) (r * 6 + (M - 1)) (nI 0)))), (h6, .inl (E 0, 36, .inl ca))]) (ws' := [(h0, .inr (0, [.int (nI M), .ref h1, .ref h2, .ref h3, .ref h4, .ref h5, .ref h6])), (h1, .inl (E 0, 15, .inl (upd hmv (r * 3 + 0) (nI r)))), (h2, .inl (E 0, 15, .inl (upd awv (r * 3 + 0) (nI (M - 1))))), (h3, .inl (E 0, 30, .inl (upd (upd rvv (r * 6 + r) (nI (M - 1))) (r * 6 + (M - 1)) (nI r)))), (h4, .inl (E 0, 30, .inl (upd (upd sdv (r * 6 + r) (nI 1)) (r * 6 + (M - 1)) (nI 0)))), (h5, .inl (E 0, 30, .inl (upd (upd gmv (r * 6 + r) (nI 0)) (r * 6 + (M - 1)) (nI 0)))), (h6, .inl (E 0, 36, .inl ca))]) hP hD [0, 1, 2, 3, 4, 5, 6] [] [0, 1, 2, 3, 4, 5, 6] rfl rfl (by decide +kernel) (by decide +kernel) hAc hk1 hP1 hD1 (by decide +kernel) rfl
          clear hP1 hD1 hk1 hPc hDc hAc
          refine lv_goto (tgt := 55) hx hb dX1_layCircle_44 (by decide) ?_
          have hl : lv_has ls 7 [(0, .ref h0), (2, .int (nI (M - 1))), (3, .int (nI r))] := lv_sub hl [0, 1, 2] rfl
          exact KJ55 (upd hmv (r * 3 + 0) (nI r)) (upd awv (r * 3 + 0) (nI (M - 1))) (upd (upd rvv (r * 6 + r) (nI (M - 1))) (r * 6 + (M - 1)) (nI r)) (upd (upd sdv (r * 6 + r) (nI 1)) (r * 6 + (M - 1)) (nI 0)) (upd (upd gmv (r * 6 + r) (nI 0)) (r * 6 + (M - 1)) (nI 0)) H locs ls (hst) hP hD hS hl
  refine lv_aload_n hx hb dX1_layCircle_0 rfl (lv_at hl 0 rfl) ?_
  refine lv_iload_n hx hb dX1_layCircle_1 rfl (lv_at hl 1 rfl) ?_
  refine lv_bipush (v := nI 6) hx hb dX1_layCircle_2 (by rfl) ?_
  refine lv_icmp_ne (tgt := 12) hx hb dX1_layCircle_4 (by decide) (fun cn_57 => ?_) (fun cn_57 => ?_)
  · skip
    have cn_57 : ¬ (M = 6) := fun hz => cn_57 ((nI_eq (a := M) (b := 6) (by omega) (by omega)).mpr hz)
    have hm9 : M = 4 := by omega
    refine lv_iconst (v := nI 4) hx hb dX1_layCircle_12 (by rfl) ?_
    refine zr_ti (y := nI M) (by rw [hm9]) ?_
    have hl : lv_has ls 7 [(0, .ref h0), (1, .int (nI M))] := lv_sub hl [0, 1] rfl
    exact KJ13  _ _ ls  hP hD hS hl
  · skip
    have cn_57 : M = 6 := (nI_eq (a := M) (b := 6) (by omega) (by omega)).mp cn_57
    have hm9 : M = 6 := cn_57
    refine lv_bipush (v := nI 6) hx hb dX1_layCircle_7 (by rfl) ?_
    refine lv_goto (tgt := 13) hx hb dX1_layCircle_9 (by decide) ?_
    refine zr_ti (y := nI M) (by rw [hm9]) ?_
    have hl : lv_has ls 7 [(0, .ref h0), (1, .int (nI M))] := lv_sub hl [0, 1] rfl
    exact KJ13  _ _ ls  hP hD hS hl

