set_option maxHeartbeats 4000000 in
set_option maxRecDepth 100000 in
theorem c_X5_signHere (l : Launch) (D : va_G) (E : Nat → ClassId) (xx : Nat) (x1 : Nat) (x2 : Nat) (x3 : Nat) (tx : Nat) (pl : Nat) (sg : Nat → Int32) (T : Nat → Nat) (htx : zx_T tx T sg) (hpl5 : pl ≤ tx) : Met l yX5_signHere wsX5_signHere ({ frames := 0, cells := 0, slots := 0, locals := 0 }) (zr_P D E [.ref xx] [(xx, .inr (4, [.ref x1, .ref x2, .ref x3, .int (nI tx), .int (nI pl)])), (x1, .inl (E 2, 100, .inl sg))]) (zr_Qi (fun zv => zv = zx_sg T tx pl)) 0 0 (fun _ => False) := by
  refine Met.ofW (cc := cX5_signHere) (maxL := 1) (ret := (some .int)) (by decide) rfl ?_
  intro p e s m args below meth c s₁ Bz hml hv
  obtain ⟨rfl, hP, hK⟩ := hv
  have hx := Bz.exec
  have hb := Bz.bytes
  have hr := Bz.returns
  have hts := atoms_spec (ws := wsX5_signHere) Bz.pre
  have hown : s.vm.findClass RX5 = some m.cls := findClass_of_methodNamed Bz.named
  have hlocks := Bz.notSynchronized
  have hP : va_P D vwCl [(xx, .inr (4, [.ref x1, .ref x2, .ref x3, .int (nI tx), .int (nI pl)])), (x1, .inl (E 2, 100, .inl sg))] s.heap := hP
  have hS : va_S (fun _ : Nat => False) s.heap s.heap [] := va_S.rf
  have hl := lv_entry ([.ref xx]) (n := 1) (Nat.le_of_ble_eq_true rfl)
  rw [lg_entry_eq]
  generalize (lg_sl ([.ref xx]) ++ List.replicate (1 - (lg_sl ([.ref xx])).length) Slot.unset).toArray = ls at hl ⊢
  have hl : lv_has ls 1 [(0, .ref xx)] := hl
  refine zr_nQ (fun Q hQ => ?_)
  obtain ⟨htx1, htx2⟩ := htx
  refine lv_aload_n hx hb dX5_signHere_0 rfl (lv_at hl 0 rfl) ?_
  refine va_get (D := D) (ci := 4) (v := .int (nI pl)) (C := RX5) (T := TX5) (N := 5) hx hb hts (by decide +kernel) hown hK.1 hP 0 rfl rfl 4 (by decide) (hts (.fieldLink RX5 28 "HomeRounds$Text" "place" "I") (by decide +kernel)) (fun _ h9 => h9) rfl dX5_signHere_1 ?_
  refine lv_if_lt (tgt := 42) hx hb dX5_signHere_4 (by decide) (fun cn_1 => ?_) (fun cn_1 => ?_)
  · skip
    have cn_1 : pl < 0 := (nI_ltI (a := pl) (b := 0) (by omega) (by omega)).mp cn_1
    exfalso; omega
  · skip
    have cn_1 : ¬ (pl < 0) := fun hz => cn_1 ((nI_ltI (a := pl) (b := 0) (by omega) (by omega)).mpr hz)
    refine lv_aload_n hx hb dX5_signHere_7 rfl (lv_at hl 0 rfl) ?_
    refine va_get (D := D) (ci := 4) (v := .int (nI pl)) (C := RX5) (T := TX5) (N := 5) hx hb hts (by decide +kernel) hown hK.1 hP 0 rfl rfl 4 (by decide) (hts (.fieldLink RX5 28 "HomeRounds$Text" "place" "I") (by decide +kernel)) (fun _ h9 => h9) rfl dX5_signHere_8 ?_
    refine lv_aload_n hx hb dX5_signHere_11 rfl (lv_at hl 0 rfl) ?_
    refine va_get (D := D) (ci := 4) (v := .int (nI tx)) (C := RX5) (T := TX5) (N := 5) hx hb hts (by decide +kernel) hown hK.1 hP 0 rfl rfl 3 (by decide) (hts (.fieldLink RX5 32 "HomeRounds$Text" "length" "I") (by decide +kernel)) (fun _ h9 => h9) rfl dX5_signHere_12 ?_
    refine lv_icmp_ge (tgt := 42) hx hb dX5_signHere_15 (by decide) (fun cn_2 => ?_) (fun cn_2 => ?_)
    · skip
      have cn_2 : tx ≤ pl := (nI_leI (a := tx) (b := pl) (by omega) (by omega)).mp cn_2
      refine lv_iconst (v := (-1)) hx hb dX5_signHere_42 (by rfl) ?_
      subst hQ
      exact W.iret (v := (-1)) hx hb hr (fun tz htz hWz => ⟨⟨(-1), (), rfl, by first | exact (zx_sg_f (by omega)).symm | exact (zx_sg_t (by omega)).symm, trivial⟩, hS.F htz⟩) hS.2.2 dX5_signHere_43
    · skip
      have cn_2 : ¬ (tx ≤ pl) := fun hz => cn_2 ((nI_leI (a := tx) (b := pl) (by omega) (by omega)).mpr hz)
      obtain ⟨ht1, ht2⟩ := htx2 pl (by omega)
      refine lv_aload_n hx hb dX5_signHere_18 rfl (lv_at hl 0 rfl) ?_
      refine va_get (D := D) (ci := 4) (v := .int (nI pl)) (C := RX5) (T := TX5) (N := 5) hx hb hts (by decide +kernel) hown hK.1 hP 0 rfl rfl 4 (by decide) (hts (.fieldLink RX5 28 "HomeRounds$Text" "place" "I") (by decide +kernel)) (fun _ h9 => h9) rfl dX5_signHere_19 ?_
      refine lv_aload_n hx hb dX5_signHere_22 rfl (lv_at hl 0 rfl) ?_
      refine va_get (D := D) (ci := 4) (v := .ref x1) (C := RX5) (T := TX5) (N := 5) hx hb hts (by decide +kernel) hown hK.1 hP 0 rfl rfl 0 (by decide) (hts (.fieldLink RX5 9 "HomeRounds$Text" "signs" "[B") (by decide +kernel)) (fun _ h9 => h9) rfl dX5_signHere_23 ?_
      refine va_alen hx hb hK.1 hP 1 2 rfl rfl (v := nI 100) rfl dX5_signHere_26 ?_
      refine lv_icmp_ge (tgt := 42) hx hb dX5_signHere_27 (by decide) (fun cn_3 => ?_) (fun cn_3 => ?_)
      · skip
        have cn_3 : 100 ≤ pl := (nI_leI (a := 100) (b := pl) (by omega) (by omega)).mp cn_3
        exfalso; omega
      · skip
        have cn_3 : ¬ (100 ≤ pl) := fun hz => cn_3 ((nI_leI (a := 100) (b := pl) (by omega) (by omega)).mpr hz)
        refine lv_aload_n hx hb dX5_signHere_30 rfl (lv_at hl 0 rfl) ?_
        refine va_get (D := D) (ci := 4) (v := .ref x1) (C := RX5) (T := TX5) (N := 5) hx hb hts (by decide +kernel) hown hK.1 hP 0 rfl rfl 0 (by decide) (hts (.fieldLink RX5 9 "HomeRounds$Text" "signs" "[B") (by decide +kernel)) (fun _ h9 => h9) rfl dX5_signHere_31 ?_
        refine lv_aload_n hx hb dX5_signHere_34 rfl (lv_at hl 0 rfl) ?_
        refine va_get (D := D) (ci := 4) (v := .int (nI pl)) (C := RX5) (T := TX5) (N := 5) hx hb hts (by decide +kernel) hown hK.1 hP 0 rfl rfl 4 (by decide) (hts (.fieldLink RX5 28 "HomeRounds$Text" "place" "I") (by decide +kernel)) (fun _ h9 => h9) rfl dX5_signHere_35 ?_
        refine va_bald hx hb hK.1 hP 1 2 rfl rfl (vp_in_nI (by omega) (by omega)) dX5_signHere_38 ?_
        refine zr_ti (y := nI (T pl)) ((congrArg sg (nI_clamp (by omega))).trans (ht2)) ?_
        refine lv_goto (tgt := 43) hx hb dX5_signHere_39 (by decide) ?_
        subst hQ
        exact W.iret (v := nI (T pl)) hx hb hr (fun tz htz hWz => ⟨⟨nI (T pl), (), rfl, by first | exact (zx_sg_f (by omega)).symm | exact (zx_sg_t (by omega)).symm, trivial⟩, hS.F htz⟩) hS.2.2 dX5_signHere_43

set_option maxHeartbeats 4000000 in
set_option maxRecDepth 100000 in
theorem c_X5_isDigitHere (l : Launch) (D : va_G) (E : Nat → ClassId) (xx : Nat) (x1 : Nat) (x2 : Nat) (x3 : Nat) (tx : Nat) (pl : Nat) (sg : Nat → Int32) (T : Nat → Nat) (htx : zx_T tx T sg) (hpl5 : pl ≤ tx) : Met l yX5_isDigitHere wsX5_isDigitHere ({ frames := 1, cells := 0, slots := 0, locals := 20 }) (zr_P D E [.ref xx] [(xx, .inr (4, [.ref x1, .ref x2, .ref x3, .int (nI tx), .int (nI pl)])), (x1, .inl (E 2, 100, .inl sg))]) (zr_Qi (fun zv => (zv = 1 ∧ (zx_dig T tx pl = true)) ∨ (zv = 0 ∧ (zx_dig T tx pl = false)))) 0 0 (fun _ => False) := by
  refine Met.ofW (cc := cX5_isDigitHere) (maxL := 2) (ret := (some .boolean)) (by decide) rfl ?_
  intro p e s m args below meth c s₁ Bz hml hv
  obtain ⟨rfl, hP, hK⟩ := hv
  have hx := Bz.exec
  have hb := Bz.bytes
  have hr := Bz.returns
  have hts := atoms_spec (ws := wsX5_isDigitHere) Bz.pre
  have hown : s.vm.findClass RX5 = some m.cls := findClass_of_methodNamed Bz.named
  have hlocks := Bz.notSynchronized
  have hP : va_P D vwCl [(xx, .inr (4, [.ref x1, .ref x2, .ref x3, .int (nI tx), .int (nI pl)])), (x1, .inl (E 2, 100, .inl sg))] s.heap := hP
  have hS : va_S (fun _ : Nat => False) s.heap s.heap [] := va_S.rf
  have hl := lv_entry ([.ref xx]) (n := 2) (Nat.le_of_ble_eq_true rfl)
  rw [lg_entry_eq]
  generalize (lg_sl ([.ref xx]) ++ List.replicate (2 - (lg_sl ([.ref xx])).length) Slot.unset).toArray = ls at hl ⊢
  have hl : lv_has ls 2 [(0, .ref xx)] := hl
  refine zr_nQ (fun Q hQ => ?_)
  have htx2 := htx.2
  refine lv_aload_n hx hb dX5_isDigitHere_0 rfl (lv_at hl 0 rfl) ?_
  refine zr_ci hP hS (va_runV (As := []) (rest := []) ⟨hx, hb, hml, hown, hts⟩ (c_X5_signHere l D E xx x1 x2 x3 tx pl sg T (htx) (by omega)) (cwV 0 hts gX5_isDigitHere_X5_signHere rfl rfl rfl (by decide +kernel) ⟨Nat.le_of_ble_eq_true rfl, Nat.le_of_ble_eq_true rfl⟩) (zr_V hK (hP.sub (ws' := [(xx, .inr (4, [.ref x1, .ref x2, .ref x3, .int (nI tx), .int (nI pl)])), (x1, .inl (E 2, 100, .inl sg))]) [0, 1] rfl) (ci := 4) (q0 := 0) rfl rfl) rfl rfl hl.1 rfl (lv_room (Nat.le_of_ble_eq_true rfl)) dX5_isDigitHere_1 ⟨Nat.zero_le _, Nat.zero_le _⟩) (fun r_1 H locs hw_2 hP hS => ?_)
  subst hw_2
  rcases Nat.lt_or_ge pl tx with hpt | hpt
  · skip
    refine zr_ti (y := nI (T pl)) (zx_sg_t hpt) ?_
    obtain ⟨ht1, -⟩ := htx2 _ hpt
    refine lv_istore_n (lv' := [(1, .int (nI (T pl))), (0, .ref xx)]) hx hb dX5_isDigitHere_4 rfl hl (by decide) rfl (fun ls hl => ?_)
    refine lv_iload_n hx hb dX5_isDigitHere_5 rfl (lv_at hl 0 rfl) ?_
    refine lv_bipush (v := nI 48) hx hb dX5_isDigitHere_6 (by rfl) ?_
    refine lv_icmp_lt (tgt := 21) hx hb dX5_isDigitHere_8 (by decide) (fun cn_3 => ?_) (fun cn_3 => ?_)
    · skip
      have cn_3 : T pl < 48 := (nI_ltI (a := T pl) (b := 48) (by omega) (by omega)).mp cn_3
      refine lv_iconst (v := nI 0) hx hb dX5_isDigitHere_21 (by rfl) ?_
      subst hQ
      exact W.zret (v := nI 0) hx hb hr (by decide) (fun tz htz hWz => ⟨⟨nI 0, (), rfl, by unfold zx_dig; first | exact Or.inl ⟨rfl, zx_in_t hpt (by omega) (by omega)⟩ | exact Or.inr ⟨rfl, zx_in_f (by omega)⟩, trivial⟩, hS.F htz⟩) hS.2.2 dX5_isDigitHere_22
    · skip
      have cn_3 : ¬ (T pl < 48) := fun hz => cn_3 ((nI_ltI (a := T pl) (b := 48) (by omega) (by omega)).mpr hz)
      refine lv_iload_n hx hb dX5_isDigitHere_11 rfl (lv_at hl 0 rfl) ?_
      refine lv_bipush (v := nI 57) hx hb dX5_isDigitHere_12 (by rfl) ?_
      refine lv_icmp_gt (tgt := 21) hx hb dX5_isDigitHere_14 (by decide) (fun cn_4 => ?_) (fun cn_4 => ?_)
      · skip
        have cn_4 : 57 < T pl := (nI_ltI (a := 57) (b := T pl) (by omega) (by omega)).mp cn_4
        refine lv_iconst (v := nI 0) hx hb dX5_isDigitHere_21 (by rfl) ?_
        subst hQ
        exact W.zret (v := nI 0) hx hb hr (by decide) (fun tz htz hWz => ⟨⟨nI 0, (), rfl, by unfold zx_dig; first | exact Or.inl ⟨rfl, zx_in_t hpt (by omega) (by omega)⟩ | exact Or.inr ⟨rfl, zx_in_f (by omega)⟩, trivial⟩, hS.F htz⟩) hS.2.2 dX5_isDigitHere_22
      · skip
        have cn_4 : ¬ (57 < T pl) := fun hz => cn_4 ((nI_ltI (a := 57) (b := T pl) (by omega) (by omega)).mpr hz)
        refine lv_iconst (v := nI 1) hx hb dX5_isDigitHere_17 (by rfl) ?_
        refine lv_goto (tgt := 22) hx hb dX5_isDigitHere_18 (by decide) ?_
        subst hQ
        exact W.zret (v := nI 1) hx hb hr (by decide) (fun tz htz hWz => ⟨⟨nI 1, (), rfl, by unfold zx_dig; first | exact Or.inl ⟨rfl, zx_in_t hpt (by omega) (by omega)⟩ | exact Or.inr ⟨rfl, zx_in_f (by omega)⟩, trivial⟩, hS.F htz⟩) hS.2.2 dX5_isDigitHere_22
  · skip
    refine zr_ti (y := -1) (zx_sg_f hpt) ?_
    refine lv_istore_n (lv' := [(1, .int (-1)), (0, .ref xx)]) hx hb dX5_isDigitHere_4 rfl hl (by decide) rfl (fun ls hl => ?_)
    refine lv_iload_n hx hb dX5_isDigitHere_5 rfl (lv_at hl 0 rfl) ?_
    refine lv_bipush (v := nI 48) hx hb dX5_isDigitHere_6 (by rfl) ?_
    refine lv_icmp_lt (tgt := 21) hx hb dX5_isDigitHere_8 (by decide) (fun cn_5 => ?_) (fun cn_5 => ?_)
    · skip
      refine lv_iconst (v := nI 0) hx hb dX5_isDigitHere_21 (by rfl) ?_
      subst hQ
      exact W.zret (v := nI 0) hx hb hr (by decide) (fun tz htz hWz => ⟨⟨nI 0, (), rfl, by unfold zx_dig; first | exact Or.inl ⟨rfl, zx_in_t hpt (by omega) (by omega)⟩ | exact Or.inr ⟨rfl, zx_in_f (by omega)⟩, trivial⟩, hS.F htz⟩) hS.2.2 dX5_isDigitHere_22
    · skip
      exact absurd cn_5 (by decide)

set_option maxHeartbeats 4000000 in
set_option maxRecDepth 100000 in
theorem c_X5_takeNumber (l : Launch) (D : va_G) (E : Nat → ClassId) (xx : Nat) (x1 : Nat) (x2 : Nat) (x3 : Nat) (tx : Nat) (pl : Nat) (sg : Nat → Int32) (T : Nat → Nat) (z : Nat) (htx : zx_T tx T sg) (hz2 : z < 2) (hdg : zx_dig T tx pl = true) : Met l yX5_takeNumber wsX5_takeNumber ({ frames := 2, cells := 0, slots := 0, locals := 41 }) (zw_P D E [.ref xx, .int (nI z)] [(xx, .inr (4, [.ref x1, .ref x2, .ref x3, .int (nI tx), .int (nI pl)])), (x1, .inl (E 2, 100, .inl sg))]) (zw_Qi D [(xx, .inr (4, [.ref x1, .ref x2, .ref x3, .int (nI tx), .int (nI pl)])), (x1, .inl (E 2, 100, .inl sg))] (fun zv (u : (Nat)) => zv = nI (zx_nv T tx z pl) ∧ u = zx_np T tx z pl ∧ u ≤ tx) (fun (u : (Nat)) => [(xx, .inr (4, [.ref x1, .ref x2, .ref x3, .int (nI tx), .int (nI u)])), (x1, .inl (E 2, 100, .inl sg))])) 0 0 (zw_A [(xx, .inr (4, [.ref x1, .ref x2, .ref x3, .int (nI tx), .int (nI pl)])), (x1, .inl (E 2, 100, .inl sg))]) := by
  refine Met.ofW (cc := cX5_takeNumber) (maxL := 3) (ret := (some .int)) (by decide) rfl ?_
  intro p e s m args below meth c s₁ Bz hml hv
  obtain ⟨rfl, hP, hK, hD0⟩ := hv
  have hx := Bz.exec
  have hb := Bz.bytes
  have hr := Bz.returns
  have hts := atoms_spec (ws := wsX5_takeNumber) Bz.pre
  have hown : s.vm.findClass RX5 = some m.cls := findClass_of_methodNamed Bz.named
  have hlocks := Bz.notSynchronized
  have hP : va_P D vwCl [(xx, .inr (4, [.ref x1, .ref x2, .ref x3, .int (nI tx), .int (nI pl)])), (x1, .inl (E 2, 100, .inl sg))] s.heap := hP
  obtain ⟨A, hAe⟩ : ∃ A : Nat → Prop, A = zw_A [(xx, .inr (4, [.ref x1, .ref x2, .ref x3, .int (nI tx), .int (nI pl)])), (x1, .inl (E 2, 100, .inl sg))] := ⟨_, rfl⟩
  have hD : va_D A [(xx, .inr (4, [.ref x1, .ref x2, .ref x3, .int (nI tx), .int (nI pl)])), (x1, .inl (E 2, 100, .inl sg))] := hAe ▸ zw_own hD0
  have hS : va_S A s.heap s.heap [] := va_S.rf
  have hl := lv_entry ([.ref xx, .int (nI z)]) (n := 3) (Nat.le_of_ble_eq_true rfl)
  rw [lg_entry_eq]
  generalize (lg_sl ([.ref xx, .int (nI z)]) ++ List.replicate (3 - (lg_sl ([.ref xx, .int (nI z)])).length) Slot.unset).toArray = ls at hl ⊢
  have hl : lv_has ls 3 [(0, .ref xx), (1, .int (nI z))] := hl
  refine zr_nQ (fun Q hQ => ?_)
  have htx2 := htx.2
  have htx1 := htx.1
  obtain ⟨hd1, hd2, hd3⟩ := zx_in_x hdg
  obtain ⟨ht1, -⟩ := htx2 pl hd1
  refine lv_aload_n hx hb dX5_takeNumber_0 rfl (lv_at hl 0 rfl) ?_
  refine zr_ci hP hS (va_runV (As := []) (rest := []) ⟨hx, hb, hml, hown, hts⟩ (c_X5_signHere l D E xx x1 x2 x3 tx pl sg T (htx) (by omega)) (cwV 0 hts gX5_takeNumber_X5_signHere rfl rfl rfl (by decide +kernel) ⟨Nat.le_of_ble_eq_true rfl, Nat.le_of_ble_eq_true rfl⟩) (zr_V hK (hP.sub (ws' := [(xx, .inr (4, [.ref x1, .ref x2, .ref x3, .int (nI tx), .int (nI pl)])), (x1, .inl (E 2, 100, .inl sg))]) [0, 1] rfl) (ci := 4) (q0 := 0) rfl rfl) rfl rfl hl.1 rfl (lv_room (Nat.le_of_ble_eq_true rfl)) dX5_takeNumber_1 ⟨Nat.zero_le _, Nat.zero_le _⟩) (fun r_1 H locs hw_2 hP hS => ?_)
  subst hw_2
  refine zr_ti (y := nI (T pl)) (zx_sg_t hd1) ?_
  refine lv_bipush (v := nI 48) hx hb dX5_takeNumber_4 (by rfl) ?_
  refine lv_isub hx hb dX5_takeNumber_6 ?_
  refine zr_ti (y := nI ((T pl) - 48)) (pk_sub (by omega)) ?_
  refine lv_istore_n (lv' := [(2, .int (nI ((T pl) - 48))), (0, .ref xx), (1, .int (nI z))]) hx hb dX5_takeNumber_7 rfl hl (by decide) rfl (fun ls hl => ?_)
  refine lv_aload_n hx hb dX5_takeNumber_8 rfl (lv_at hl 1 rfl) ?_
  refine lv_dup hx hb dX5_takeNumber_9 rfl ?_
  refine va_get (D := D) (ci := 4) (v := .int (nI pl)) (C := RX5) (T := TX5) (N := 5) hx hb hts (by decide +kernel) hown hK.1 hP 0 rfl rfl 4 (by decide) (hts (.fieldLink RX5 28 "HomeRounds$Text" "place" "I") (by decide +kernel)) (fun _ h9 => h9) rfl dX5_takeNumber_10 ?_
  refine lv_iconst (v := nI 1) hx hb dX5_takeNumber_13 (by rfl) ?_
  refine lv_iadd hx hb dX5_takeNumber_14 ?_
  refine zr_ti (y := nI (pl + 1)) (nI_add _ _) ?_
  refine va_put (D := D) (ci := 4) (v := .int (nI (pl + 1))) (ty := .int) (C := RX5) (T := TX5) (N := 5) hx hb hts (by decide +kernel) tyX5 tyX5_ok nmX5 hown hK.1 hP hD hS 0 rfl rfl 4 (by decide) (hts (.fieldLink RX5 28 "HomeRounds$Text" "place" "I") (by decide +kernel)) (fun _ h9 => h9) rfl (by decide +kernel) rfl rfl (Nat.le_of_ble_eq_true rfl) dX5_takeNumber_15 (fun H locs hP hD hS => ?_)
  have hP : va_P D vwCl [(xx, .inr (4, [.ref x1, .ref x2, .ref x3, .int (nI tx), .int (nI (pl + 1))])), (x1, .inl (E 2, 100, .inl sg))] H := hP
  have hD : va_D A [(xx, .inr (4, [.ref x1, .ref x2, .ref x3, .int (nI tx), .int (nI (pl + 1))])), (x1, .inl (E 2, 100, .inl sg))] := hD
  refine lv_iload_n hx hb dX5_takeNumber_18 rfl (lv_at hl 2 rfl) ?_
  refine lv_if_eq (tgt := 52) hx hb dX5_takeNumber_19 (by decide) (fun cn_3 => ?_) (fun cn_3 => ?_)
  · skip
    have cn_3 : z = 0 := (nI_eq (a := z) (b := 0) (by omega) (by omega)).mp cn_3
    have e1 : decide (z = 1) = false := decide_eq_false (by omega)
    refine lv_iload_n hx hb dX5_takeNumber_52 rfl (lv_at hl 0 rfl) ?_
    subst hQ; subst hAe
    exact W.iret (v := nI ((T pl) - 48)) hx hb hr (fun tz htz hWz => ⟨⟨nI ((T pl) - 48), pl + 1, rfl, ⟨by unfold zx_nv zx_two; simp only [decide_true, cond_true, cond_false, Bool.and_true, Bool.and_false, Bool.true_and, Bool.false_and, Bool.or_true, Bool.or_false, Bool.true_or, Bool.false_or, Bool.not_true, Bool.not_false, e1], by unfold zx_np zx_two; simp only [decide_true, cond_true, cond_false, Bool.and_true, Bool.and_false, Bool.true_and, Bool.false_and, Bool.or_true, Bool.or_false, Bool.true_or, Bool.false_or, Bool.not_true, Bool.not_false, e1]; try rfl, by first | omega | (have := zx_in_x e2; omega)⟩, by rw [htz]; exact hP, hD⟩, hS.F htz⟩) hS.2.2 dX5_takeNumber_53
  · skip
    have cn_3 : ¬ (z = 0) := fun hz => cn_3 ((nI_eq (a := z) (b := 0) (by omega) (by omega)).mpr hz)
    have e1 : decide (z = 1) = true := decide_eq_true (by omega)
    refine lv_aload_n hx hb dX5_takeNumber_22 rfl (lv_at hl 1 rfl) ?_
    refine zr_ci hP hS (va_runV (As := []) (rest := []) ⟨hx, hb, hml, hown, hts⟩ (c_X5_isDigitHere l D E xx x1 x2 x3 tx (pl + 1) sg T (htx) (by omega)) (cwV 0 hts gX5_takeNumber_X5_isDigitHere rfl rfl rfl (by decide +kernel) ⟨Nat.le_of_ble_eq_true rfl, Nat.le_of_ble_eq_true rfl⟩) (zr_V hK (hP.sub (ws' := [(xx, .inr (4, [.ref x1, .ref x2, .ref x3, .int (nI tx), .int (nI (pl + 1))])), (x1, .inl (E 2, 100, .inl sg))]) [0, 1] rfl) (ci := 4) (q0 := 0) rfl rfl) rfl rfl hl.1 rfl (lv_room (Nat.le_of_ble_eq_true rfl)) dX5_takeNumber_23 ⟨Nat.zero_le _, Nat.zero_le _⟩) (fun r_4 H locs hw_5 hP hS => ?_)
    rcases hw_5 with ⟨rfl, hw_5⟩ | ⟨rfl, hw_5⟩
    · skip
      have e2 := hw_5
      refine zr_ti (y := nI 1) rfl ?_
      refine lv_if_eq (tgt := 52) hx hb dX5_takeNumber_26 (by decide) (fun cn_6 => ?_) (fun cn_6 => ?_)
      · skip
        exact absurd cn_6 (by decide)
      · skip
        refine lv_bipush (v := nI 10) hx hb dX5_takeNumber_29 (by rfl) ?_
        refine lv_iload_n hx hb dX5_takeNumber_31 rfl (lv_at hl 0 rfl) ?_
        refine lv_imul hx hb dX5_takeNumber_32 ?_
        refine zr_ti (y := nI (10 * ((T pl) - 48))) (pk_mul _ _) ?_
        refine lv_aload_n hx hb dX5_takeNumber_33 rfl (lv_at hl 1 rfl) ?_
        refine zr_ci hP hS (va_runV (As := []) (rest := [.int (nI (10 * ((T pl) - 48)))]) ⟨hx, hb, hml, hown, hts⟩ (c_X5_signHere l D E xx x1 x2 x3 tx (pl + 1) sg T (htx) (by have := zx_in_x e2; omega)) (cwV 0 hts gX5_takeNumber_X5_signHere rfl rfl rfl (by decide +kernel) ⟨Nat.le_of_ble_eq_true rfl, Nat.le_of_ble_eq_true rfl⟩) (zr_V hK (hP.sub (ws' := [(xx, .inr (4, [.ref x1, .ref x2, .ref x3, .int (nI tx), .int (nI (pl + 1))])), (x1, .inl (E 2, 100, .inl sg))]) [0, 1] rfl) (ci := 4) (q0 := 0) rfl rfl) rfl rfl hl.1 rfl (lv_room (Nat.le_of_ble_eq_true rfl)) dX5_takeNumber_34 ⟨Nat.zero_le _, Nat.zero_le _⟩) (fun r_7 H locs hw_8 hP hS => ?_)
        subst hw_8
        obtain ⟨hd4, hd5, hd6⟩ := zx_in_x e2
        refine zr_ti (y := nI (T (pl + 1))) (zx_sg_t hd4) ?_
        refine lv_iadd hx hb dX5_takeNumber_37 ?_
        refine zr_ti (y := nI ((10 * ((T pl) - 48)) + (T (pl + 1)))) (nI_add _ _) ?_
        refine lv_bipush (v := nI 48) hx hb dX5_takeNumber_38 (by rfl) ?_
        refine lv_isub hx hb dX5_takeNumber_40 ?_
        refine zr_ti (y := nI (10 * (T pl - 48) + (T (pl + 1) - 48))) ((pk_sub (by omega)).trans (congrArg nI (by omega))) ?_
        refine lv_istore_n (lv' := [(2, .int (nI (10 * (T pl - 48) + (T (pl + 1) - 48)))), (0, .ref xx), (1, .int (nI z))]) hx hb dX5_takeNumber_41 rfl hl (by decide) rfl (fun ls hl => ?_)
        refine lv_aload_n hx hb dX5_takeNumber_42 rfl (lv_at hl 1 rfl) ?_
        refine lv_dup hx hb dX5_takeNumber_43 rfl ?_
        refine va_get (D := D) (ci := 4) (v := .int (nI (pl + 1))) (C := RX5) (T := TX5) (N := 5) hx hb hts (by decide +kernel) hown hK.1 hP 0 rfl rfl 4 (by decide) (hts (.fieldLink RX5 28 "HomeRounds$Text" "place" "I") (by decide +kernel)) (fun _ h9 => h9) rfl dX5_takeNumber_44 ?_
        refine lv_iconst (v := nI 1) hx hb dX5_takeNumber_47 (by rfl) ?_
        refine lv_iadd hx hb dX5_takeNumber_48 ?_
        refine zr_ti (y := nI (pl + 1 + 1)) (nI_add _ _) ?_
        refine va_put (D := D) (ci := 4) (v := .int (nI (pl + 1 + 1))) (ty := .int) (C := RX5) (T := TX5) (N := 5) hx hb hts (by decide +kernel) tyX5 tyX5_ok nmX5 hown hK.1 hP hD hS 0 rfl rfl 4 (by decide) (hts (.fieldLink RX5 28 "HomeRounds$Text" "place" "I") (by decide +kernel)) (fun _ h9 => h9) rfl (by decide +kernel) rfl rfl (Nat.le_of_ble_eq_true rfl) dX5_takeNumber_49 (fun H locs hP hD hS => ?_)
        have hP : va_P D vwCl [(xx, .inr (4, [.ref x1, .ref x2, .ref x3, .int (nI tx), .int (nI (pl + 1 + 1))])), (x1, .inl (E 2, 100, .inl sg))] H := hP
        have hD : va_D A [(xx, .inr (4, [.ref x1, .ref x2, .ref x3, .int (nI tx), .int (nI (pl + 1 + 1))])), (x1, .inl (E 2, 100, .inl sg))] := hD
        refine lv_iload_n hx hb dX5_takeNumber_52 rfl (lv_at hl 0 rfl) ?_
        subst hQ; subst hAe
        exact W.iret (v := nI (10 * (T pl - 48) + (T (pl + 1) - 48))) hx hb hr (fun tz htz hWz => ⟨⟨nI (10 * (T pl - 48) + (T (pl + 1) - 48)), pl + 1 + 1, rfl, ⟨by unfold zx_nv zx_two; simp only [decide_true, cond_true, cond_false, Bool.and_true, Bool.and_false, Bool.true_and, Bool.false_and, Bool.or_true, Bool.or_false, Bool.true_or, Bool.false_or, Bool.not_true, Bool.not_false, e1, e2], by unfold zx_np zx_two; simp only [decide_true, cond_true, cond_false, Bool.and_true, Bool.and_false, Bool.true_and, Bool.false_and, Bool.or_true, Bool.or_false, Bool.true_or, Bool.false_or, Bool.not_true, Bool.not_false, e1, e2]; try rfl, by first | omega | (have := zx_in_x e2; omega)⟩, by rw [htz]; exact hP, hD⟩, hS.F htz⟩) hS.2.2 dX5_takeNumber_53
    · skip
      have e2 := hw_5
      refine zr_ti (y := nI 0) rfl ?_
      refine lv_if_eq (tgt := 52) hx hb dX5_takeNumber_26 (by decide) (fun cn_9 => ?_) (fun cn_9 => ?_)
      · skip
        refine lv_iload_n hx hb dX5_takeNumber_52 rfl (lv_at hl 0 rfl) ?_
        subst hQ; subst hAe
        exact W.iret (v := nI ((T pl) - 48)) hx hb hr (fun tz htz hWz => ⟨⟨nI ((T pl) - 48), pl + 1, rfl, ⟨by unfold zx_nv zx_two; simp only [decide_true, cond_true, cond_false, Bool.and_true, Bool.and_false, Bool.true_and, Bool.false_and, Bool.or_true, Bool.or_false, Bool.true_or, Bool.false_or, Bool.not_true, Bool.not_false, e1, e2], by unfold zx_np zx_two; simp only [decide_true, cond_true, cond_false, Bool.and_true, Bool.and_false, Bool.true_and, Bool.false_and, Bool.or_true, Bool.or_false, Bool.true_or, Bool.false_or, Bool.not_true, Bool.not_false, e1, e2]; try rfl, by first | omega | (have := zx_in_x e2; omega)⟩, by rw [htz]; exact hP, hD⟩, hS.F htz⟩) hS.2.2 dX5_takeNumber_53
      · skip
        exact absurd cn_9 (by decide)

set_option maxHeartbeats 4000000 in
set_option maxRecDepth 100000 in
theorem c_X5_stands (l : Launch) (D : va_G) (E : Nat → ClassId) (adK adV ad : Nat → Nat) (wa sa : Nat) (xx : Nat) (x1 : Nat) (x2 : Nat) (x3 : Nat) (tx : Nat) (pl : Nat) (sg : Nat → Int32) (T : Nat → Nat) (i : Nat) (s9 : Nat) (e9 : Nat) (htx : zx_T tx T sg) (hi : i < zc_n) (hse : s9 ≤ e9) (het : e9 ≤ tx) : Met l yX5_stands wsX5_stands ({ frames := 5, cells := 0, slots := 0, locals := 106 }) (zrE_P D E adK adV ad wa sa [.ref xx, .ref (adK i), .int (nI s9), .int (nI e9)] [(xx, .inr (4, [.ref x1, .ref x2, .ref x3, .int (nI tx), .int (nI pl)])), (x1, .inl (E 2, 100, .inl sg))]) (zr_Qi (fun zv => (zv = 1 ∧ (zx_st i T s9 e9 = true)) ∨ (zv = 0 ∧ (zx_st i T s9 e9 = false)))) 0 0 (fun _ => False) := by
  refine Met.ofW (cc := cX5_stands) (maxL := 5) (ret := (some .boolean)) (by decide) rfl ?_
  intro p e s m args below meth c s₁ Bz hml hv
  obtain ⟨rfl, hP, hK, hE, hR⟩ := hv
  have hx := Bz.exec
  have hb := Bz.bytes
  have hr := Bz.returns
  have hts := atoms_spec (ws := wsX5_stands) Bz.pre
  have hown : s.vm.findClass RX5 = some m.cls := findClass_of_methodNamed Bz.named
  have hlocks := Bz.notSynchronized
  have hP : va_P D vwCl [(xx, .inr (4, [.ref x1, .ref x2, .ref x3, .int (nI tx), .int (nI pl)])), (x1, .inl (E 2, 100, .inl sg))] s.heap := hP
  have hS : va_S (fun _ : Nat => False) s.heap s.heap [] := va_S.rf
  have hl := lv_entry ([.ref xx, .ref (adK i), .int (nI s9), .int (nI e9)]) (n := 5) (Nat.le_of_ble_eq_true rfl)
  rw [lg_entry_eq]
  generalize (lg_sl ([.ref xx, .ref (adK i), .int (nI s9), .int (nI e9)]) ++ List.replicate (5 - (lg_sl ([.ref xx, .ref (adK i), .int (nI s9), .int (nI e9)])).length) Slot.unset).toArray = ls at hl ⊢
  have hl : lv_has ls 5 [(0, .ref xx), (1, .ref (adK i)), (2, .int (nI s9)), (3, .int (nI e9))] := hl
  refine zr_nQ (fun Q hQ => ?_)
  have htx2 := htx.2
  have htx1 := htx.1
  have hln := zc_lnS i hi
  refine lv_iload_n hx hb dX5_stands_0 rfl (lv_at hl 2 rfl) ?_
  refine lv_if_lt (tgt := 23) hx hb dX5_stands_1 (by decide) (fun cn_1 => ?_) (fun cn_1 => ?_)
  · skip
    have cn_1 : s9 < 0 := (nI_ltI (a := s9) (b := 0) (by omega) (by omega)).mp cn_1
    exfalso; omega
  · skip
    have cn_1 : ¬ (s9 < 0) := fun hz => cn_1 ((nI_ltI (a := s9) (b := 0) (by omega) (by omega)).mpr hz)
    refine lv_iload_n hx hb dX5_stands_4 rfl (lv_at hl 3 rfl) ?_
    refine lv_aload_n hx hb dX5_stands_5 rfl (lv_at hl 0 rfl) ?_
    refine va_get (D := D) (ci := 4) (v := .ref x1) (C := RX5) (T := TX5) (N := 5) hx hb hts (by decide +kernel) hown hK.1 hP 0 rfl rfl 0 (by decide) (hts (.fieldLink RX5 9 "HomeRounds$Text" "signs" "[B") (by decide +kernel)) (fun _ h9 => h9) rfl dX5_stands_6 ?_
    refine va_alen hx hb hK.1 hP 1 2 rfl rfl (v := nI 100) rfl dX5_stands_9 ?_
    refine lv_icmp_gt (tgt := 23) hx hb dX5_stands_10 (by decide) (fun cn_2 => ?_) (fun cn_2 => ?_)
    · skip
      have cn_2 : 100 < e9 := (nI_ltI (a := 100) (b := e9) (by omega) (by omega)).mp cn_2
      exfalso; omega
    · skip
      have cn_2 : ¬ (100 < e9) := fun hz => cn_2 ((nI_ltI (a := 100) (b := e9) (by omega) (by omega)).mpr hz)
      refine lv_aload_n hx hb dX5_stands_13 rfl (lv_at hl 1 rfl) ?_
      refine zr_ci hP hS (va_runV (As := []) (rest := []) ⟨hx, hb, hml, hown, hts⟩ (c_J0_length_8abf5 l D E adK adV ad wa sa i (hi)) (cwV 0 hts gX5_stands_J0_length_8abf5 rfl rfl rfl (by decide +kernel) ⟨Nat.le_of_ble_eq_true rfl, Nat.le_of_ble_eq_true rfl⟩) (zrE_VK (i := i) (hi) hE hR hS hK (hP.sub (ws' := []) [] rfl)) rfl rfl hl.1 rfl (lv_room (Nat.le_of_ble_eq_true rfl)) dX5_stands_14 ⟨Nat.zero_le _, Nat.zero_le _⟩) (fun r_3 H locs hw_4 hP hS => ?_)
      subst hw_4
      refine lv_iload_n hx hb dX5_stands_17 rfl (lv_at hl 3 rfl) ?_
      refine lv_iload_n hx hb dX5_stands_18 rfl (lv_at hl 2 rfl) ?_
      refine lv_isub hx hb dX5_stands_19 ?_
      refine zr_ti (y := nI (e9 - s9)) (pk_sub (by omega)) ?_
      refine lv_icmp_eq (tgt := 25) hx hb dX5_stands_20 (by decide) (fun cn_5 => ?_) (fun cn_5 => ?_)
      · skip
        have cn_5 : zc_len.getD i 0 = e9 - s9 := (nI_eq (a := zc_len.getD i 0) (b := e9 - s9) (by omega) (by omega)).mp cn_5
        have heq : zc_len.getD i 0 = e9 - s9 := cn_5
        refine lv_iconst (v := nI 0) hx hb dX5_stands_25 (by rfl) ?_
        refine lv_istore (lv' := [(4, .int (nI 0)), (0, .ref xx), (1, .ref (adK i)), (2, .int (nI s9)), (3, .int (nI e9))]) hx hb dX5_stands_26 hl (by decide) rfl (fun ls hl => ?_)
        suffices KL28 : ∀ (kz : Nat) (j : Nat) (H : Heap) (locs : List Loc) (ls : Array Slot), (zc_len.getD i 0 - j) < kz → (zx_eq i T s9 j = true) → (j ≤ zc_len.getD i 0) → va_P D vwCl [(xx, .inr (4, [.ref x1, .ref x2, .ref x3, .int (nI tx), .int (nI pl)])), (x1, .inl (E 2, 100, .inl sg))] H → va_S (fun _ : Nat => False) s.heap H locs → lv_has ls 5 [(0, .ref xx), (1, .ref (adK i)), (2, .int (nI s9)), (3, .int (nI e9)), (4, .int (nI j))] → W p l e (headSpec wsX5_stands ({ frames := 5, cells := 0, slots := 0, locals := 106 })).room s m ([.ref xx, .ref (adK i), .int (nI s9), .int (nI e9)] : List Value).toArray below meth c H locs 0 0 Q (F0 m 28 ls []) from
          KL28 _ 0 _ _ ls (Nat.lt_succ_self _) (rfl) (Nat.zero_le _) hP hS (lv_sub hl [1, 2, 3, 4, 0] rfl)
        clear hP hS hl
        intro kz
        induction kz with
        | zero => intro j H locs ls hkz; exact absurd hkz (Nat.not_lt_zero _)
        | succ kz ih28 =>
          intro j H locs ls hkz hI hj hP hS hl
          refine lv_iload hx hb dX5_stands_28 (lv_at hl 4 rfl) ?_
          refine lv_aload_n hx hb dX5_stands_30 rfl (lv_at hl 1 rfl) ?_
          refine zr_ci hP hS (va_runV (As := []) (rest := [.int (nI j)]) ⟨hx, hb, hml, hown, hts⟩ (c_J0_length_8abf5 l D E adK adV ad wa sa i (hi)) (cwV 0 hts gX5_stands_J0_length_8abf5 rfl rfl rfl (by decide +kernel) ⟨Nat.le_of_ble_eq_true rfl, Nat.le_of_ble_eq_true rfl⟩) (zrE_VK (i := i) (hi) hE hR hS hK (hP.sub (ws' := []) [] rfl)) rfl rfl hl.1 rfl (lv_room (Nat.le_of_ble_eq_true rfl)) dX5_stands_31 ⟨Nat.zero_le _, Nat.zero_le _⟩) (fun r_6 H locs hw_7 hP hS => ?_)
          subst hw_7
          refine lv_icmp_ge (tgt := 63) hx hb dX5_stands_34 (by decide) (fun cn_8 => ?_) (fun cn_8 => ?_)
          · skip
            have cn_8 : zc_len.getD i 0 ≤ j := (nI_leI (a := zc_len.getD i 0) (b := j) (by omega) (by omega)).mp cn_8
            have hje : j = zc_len.getD i 0 := by omega
            refine lv_iconst (v := nI 1) hx hb dX5_stands_63 (by rfl) ?_
            subst hQ
            exact W.zret (v := nI 1) hx hb hr (by decide) (fun tz htz hWz => ⟨⟨nI 1, (), rfl, Or.inl ⟨rfl, by unfold zx_st; rw [decide_eq_true heq, ← hje, hI]; rfl⟩, trivial⟩, hS.F htz⟩) hS.2.2 dX5_stands_64
          · skip
            have cn_8 : ¬ (zc_len.getD i 0 ≤ j) := fun hz => cn_8 ((nI_leI (a := zc_len.getD i 0) (b := j) (by omega) (by omega)).mpr hz)
            have hjl : j < zc_len.getD i 0 := by omega
            obtain ⟨ht1, ht2⟩ := htx2 (s9 + j) (by omega)
            obtain ⟨-, hc2⟩ := zc_chE i hi j hjl
            refine lv_aload_n hx hb dX5_stands_37 rfl (lv_at hl 1 rfl) ?_
            refine lv_iload hx hb dX5_stands_38 (lv_at hl 4 rfl) ?_
            refine zr_ci hP hS (va_runV (As := [.int (nI j)]) (rest := []) ⟨hx, hb, hml, hown, hts⟩ (c_J0_charAt_5068e l D E adK adV ad wa sa i j (hi) (hjl)) (cwV 1 hts gX5_stands_J0_charAt_5068e rfl rfl rfl (by decide +kernel) ⟨Nat.le_of_ble_eq_true rfl, Nat.le_of_ble_eq_true rfl⟩) (zrE_VK (i := i) (hi) hE hR hS hK (hP.sub (ws' := []) [] rfl)) rfl rfl hl.1 rfl (lv_room (Nat.le_of_ble_eq_true rfl)) dX5_stands_40 ⟨Nat.zero_le _, Nat.zero_le _⟩) (fun r_9 H locs hw_10 hP hS => ?_)
            subst hw_10
            refine lv_aload_n hx hb dX5_stands_43 rfl (lv_at hl 0 rfl) ?_
            refine va_get (D := D) (ci := 4) (v := .ref x1) (C := RX5) (T := TX5) (N := 5) hx hb hts (by decide +kernel) hown hK.1 hP 0 rfl rfl 0 (by decide) (hts (.fieldLink RX5 9 "HomeRounds$Text" "signs" "[B") (by decide +kernel)) (fun _ h9 => h9) rfl dX5_stands_44 ?_
            refine lv_iload_n hx hb dX5_stands_47 rfl (lv_at hl 2 rfl) ?_
            refine lv_iload hx hb dX5_stands_48 (lv_at hl 4 rfl) ?_
            refine lv_iadd hx hb dX5_stands_50 ?_
            refine zr_ti (y := nI (s9 + j)) (nI_add _ _) ?_
            refine va_bald hx hb hK.1 hP 1 2 rfl rfl (vp_in_nI (by omega) (by omega)) dX5_stands_51 ?_
            refine zr_ti (y := nI (T (s9 + j))) ((congrArg sg (nI_clamp (by omega))).trans (ht2)) ?_
            refine lv_icmp_eq (tgt := 57) hx hb dX5_stands_52 (by decide) (fun cn_11 => ?_) (fun cn_11 => ?_)
            · skip
              have cn_11 : zc_ch i j = T (s9 + j) := (nI_eq (a := zc_ch i j) (b := T (s9 + j)) (by omega) (by omega)).mp cn_11
              have hbr := cn_11
              refine lv_iinc (v := nI (j + 1)) (lv' := [(4, .int (nI (j + 1))), (0, .ref xx), (1, .ref (adK i)), (2, .int (nI s9)), (3, .int (nI e9))]) hx hb dX5_stands_57 hl (k := 4) rfl (nI_add _ _) (by decide) rfl (fun ls hl => ?_)
              refine lv_goto (tgt := 28) hx hb dX5_stands_60 (by decide) ?_
              have hl : lv_has ls 5 [(0, .ref xx), (1, .ref (adK i)), (2, .int (nI s9)), (3, .int (nI e9)), (4, .int (nI (j + 1)))] := lv_sub hl [1, 2, 3, 4, 0] rfl
              exact ih28 (j + 1) H locs ls (by omega) (by rw [zx_eq, hI, decide_eq_true hbr]; rfl) (by omega) hP hS hl
            · skip
              have cn_11 : ¬ (zc_ch i j = T (s9 + j)) := fun hz => cn_11 ((nI_eq (a := zc_ch i j) (b := T (s9 + j)) (by omega) (by omega)).mpr hz)
              have hbr := cn_11
              refine lv_iconst (v := nI 0) hx hb dX5_stands_55 (by rfl) ?_
              subst hQ
              exact W.zret (v := nI 0) hx hb hr (by decide) (fun tz htz hWz => ⟨⟨nI 0, (), rfl, Or.inr ⟨rfl, by unfold zx_st; rw [zx_eq_f hbr _ hjl, Bool.and_false]⟩, trivial⟩, hS.F htz⟩) hS.2.2 dX5_stands_56
      · skip
        have cn_5 : ¬ (zc_len.getD i 0 = e9 - s9) := fun hz => cn_5 ((nI_eq (a := zc_len.getD i 0) (b := e9 - s9) (by omega) (by omega)).mpr hz)
        have hne : ¬ zc_len.getD i 0 = e9 - s9 := cn_5
        refine lv_iconst (v := nI 0) hx hb dX5_stands_23 (by rfl) ?_
        subst hQ
        exact W.zret (v := nI 0) hx hb hr (by decide) (fun tz htz hWz => ⟨⟨nI 0, (), rfl, Or.inr ⟨rfl, by unfold zx_st; rw [decide_eq_false hne]; rfl⟩, trivial⟩, hS.F htz⟩) hS.2.2 dX5_stands_24

set_option maxHeartbeats 4000000 in
set_option maxRecDepth 100000 in
theorem c_X5_takeWord (l : Launch) (D : va_G) (E : Nat → ClassId) (adK adV ad : Nat → Nat) (wa sa : Nat) (xx : Nat) (x1 : Nat) (x2 : Nat) (x3 : Nat) (tx : Nat) (pl : Nat) (sg : Nat → Int32) (T : Nat → Nat) (htx : zx_T tx T sg) (hpl5 : pl ≤ tx) : Met l yX5_takeWord wsX5_takeWord ({ frames := 6, cells := 0, slots := 0, locals := 130 }) (zwE_P D E adK adV ad wa sa [.ref xx] [(xx, .inr (4, [.ref x1, .ref x2, .ref x3, .int (nI tx), .int (nI pl)])), (x1, .inl (E 2, 100, .inl sg))]) (zw_Qi D [(xx, .inr (4, [.ref x1, .ref x2, .ref x3, .int (nI tx), .int (nI pl)])), (x1, .inl (E 2, 100, .inl sg))] (fun zv (u : (Nat)) => zv = zx_wz (zx_cw T tx pl) ∧ u = zx_we T tx 100 pl) (fun (u : (Nat)) => [(xx, .inr (4, [.ref x1, .ref x2, .ref x3, .int (nI tx), .int (nI u)])), (x1, .inl (E 2, 100, .inl sg))])) 0 0 (zw_A [(xx, .inr (4, [.ref x1, .ref x2, .ref x3, .int (nI tx), .int (nI pl)])), (x1, .inl (E 2, 100, .inl sg))]) := by
  refine Met.ofW (cc := cX5_takeWord) (maxL := 3) (ret := (some .int)) (by decide) rfl ?_
  intro p e s m args below meth c s₁ Bz hml hv
  obtain ⟨rfl, hP, hK, hD0, hE, hR⟩ := hv
  have hx := Bz.exec
  have hb := Bz.bytes
  have hr := Bz.returns
  have hts := atoms_spec (ws := wsX5_takeWord) Bz.pre
  have hown : s.vm.findClass RX5 = some m.cls := findClass_of_methodNamed Bz.named
  have hlocks := Bz.notSynchronized
  have hP : va_P D vwCl [(xx, .inr (4, [.ref x1, .ref x2, .ref x3, .int (nI tx), .int (nI pl)])), (x1, .inl (E 2, 100, .inl sg))] s.heap := hP
  obtain ⟨A, hAe⟩ : ∃ A : Nat → Prop, A = zw_A [(xx, .inr (4, [.ref x1, .ref x2, .ref x3, .int (nI tx), .int (nI pl)])), (x1, .inl (E 2, 100, .inl sg))] := ⟨_, rfl⟩
  have hD : va_D A [(xx, .inr (4, [.ref x1, .ref x2, .ref x3, .int (nI tx), .int (nI pl)])), (x1, .inl (E 2, 100, .inl sg))] := hAe ▸ zw_own hD0
  have hE : zc_E adK adV ad wa sa A s s.heap := by rw [hAe]; exact hE
  have hS : va_S A s.heap s.heap [] := va_S.rf
  have hl := lv_entry ([.ref xx]) (n := 3) (Nat.le_of_ble_eq_true rfl)
  rw [lg_entry_eq]
  generalize (lg_sl ([.ref xx]) ++ List.replicate (3 - (lg_sl ([.ref xx])).length) Slot.unset).toArray = ls at hl ⊢
  have hl : lv_has ls 3 [(0, .ref xx)] := hl
  refine zr_nQ (fun Q hQ => ?_)
  have htx2 := htx.2
  have htx1 := htx.1
  refine lv_aload_n hx hb dX5_takeWord_0 rfl (lv_at hl 0 rfl) ?_
  refine va_get (D := D) (ci := 4) (v := .int (nI pl)) (C := RX5) (T := TX5) (N := 5) hx hb hts (by decide +kernel) hown hK.1 hP 0 rfl rfl 4 (by decide) (hts (.fieldLink RX5 28 "HomeRounds$Text" "place" "I") (by decide +kernel)) (fun _ h9 => h9) rfl dX5_takeWord_1 ?_
  refine lv_istore_n (lv' := [(1, .int (nI pl)), (0, .ref xx)]) hx hb dX5_takeWord_4 rfl hl (by decide) rfl (fun ls hl => ?_)
  refine lv_iconst (v := nI 0) hx hb dX5_takeWord_5 (by rfl) ?_
  refine lv_istore_n (lv' := [(2, .int (nI 0)), (1, .int (nI pl)), (0, .ref xx)]) hx hb dX5_takeWord_6 rfl hl (by decide) rfl (fun ls hl => ?_)
  suffices KL7 : ∀ (kz : Nat) (i : Nat) (p8 : Nat) (H : Heap) (locs : List Loc) (ls : Array Slot), (100 - i) < kz → (zx_we T tx 100 pl = zx_we T tx (100 - i) p8) → (p8 = pl + i) → (p8 ≤ tx) → (i ≤ 100) → va_P D vwCl [(xx, .inr (4, [.ref x1, .ref x2, .ref x3, .int (nI tx), .int (nI p8)])), (x1, .inl (E 2, 100, .inl sg))] H → va_D A [(xx, .inr (4, [.ref x1, .ref x2, .ref x3, .int (nI tx), .int (nI p8)])), (x1, .inl (E 2, 100, .inl sg))] → va_S A s.heap H locs → lv_has ls 3 [(0, .ref xx), (1, .int (nI pl)), (2, .int (nI i))] → W p l e (headSpec wsX5_takeWord ({ frames := 6, cells := 0, slots := 0, locals := 130 })).room s m ([.ref xx] : List Value).toArray below meth c H locs 0 0 Q (F0 m 7 ls []) from
    KL7 _ 0 pl _ _ ls (Nat.lt_succ_self _) (rfl) (rfl) (by omega) (by omega) hP hD hS (lv_sub hl [2, 1, 0] rfl)
  clear hP hS hl hD
  intro kz
  induction kz with
  | zero => intro i p8 H locs ls hkz; exact absurd hkz (Nat.not_lt_zero _)
  | succ kz ih7 =>
    intro i p8 H locs ls hkz hI hp hpx hi9 hP hD hS hl
    refine lv_iload_n hx hb dX5_takeWord_7 rfl (lv_at hl 2 rfl) ?_
    refine lv_bipush (v := nI 100) hx hb dX5_takeWord_8 (by rfl) ?_
    refine lv_icmp_ge (tgt := 47) hx hb dX5_takeWord_10 (by decide) (fun cn_1 => ?_) (fun cn_1 => ?_)
    · skip
      have cn_1 : 100 ≤ i := (nI_leI (a := 100) (b := i) (by omega) (by omega)).mp cn_1
      have hpe : p8 = zx_we T tx 100 pl := by first | exact (hI.trans (zx_we_e (zx_in_f (by omega)))).symm | exact (hI.trans (by rw [show 100 - i = 0 from by omega]; rfl)).symm
      have hle1 := zx_we_ge (T := T) (L := tx) 100 pl
      have hle2 := zx_we_le (T := T) (L := tx) 100 pl hpl5
      rw [hpe] at hP hD
      refine lv_iconst (v := nI 0) hx hb dX5_takeWord_47 (by rfl) ?_
      refine lv_istore_n (lv' := [(2, .int (nI 0)), (0, .ref xx), (1, .int (nI pl))]) hx hb dX5_takeWord_48 rfl hl (by decide) rfl (fun ls hl => ?_)
      suffices KL49 : ∀ (kz : Nat) (i : Nat) (H : Heap) (locs : List Loc) (ls : Array Slot), (8 - i) < kz → (zx_cw T tx pl = zx_wf T pl (zx_we T tx 100 pl) (8 - i) i) → (i ≤ 8) → va_P D vwCl [(xx, .inr (4, [.ref x1, .ref x2, .ref x3, .int (nI tx), .int (nI (zx_we T tx 100 pl))])), (x1, .inl (E 2, 100, .inl sg))] H → va_D A [(xx, .inr (4, [.ref x1, .ref x2, .ref x3, .int (nI tx), .int (nI (zx_we T tx 100 pl))])), (x1, .inl (E 2, 100, .inl sg))] → va_S A s.heap H locs → lv_has ls 3 [(0, .ref xx), (1, .int (nI pl)), (2, .int (nI i))] → W p l e (headSpec wsX5_takeWord ({ frames := 6, cells := 0, slots := 0, locals := 130 })).room s m ([.ref xx] : List Value).toArray below meth c H locs 0 0 Q (F0 m 49 ls []) from
        KL49 _ 0 _ _ ls (Nat.lt_succ_self _) (rfl) (by omega) hP hD hS (lv_sub hl [1, 2, 0] rfl)
      clear hP hS hl hD
      intro kz
      induction kz with
      | zero => intro i H locs ls hkz; exact absurd hkz (Nat.not_lt_zero _)
      | succ kz ih49 =>
        intro i H locs ls hkz hJ hi8 hP hD hS hl
        refine lv_iload_n hx hb dX5_takeWord_49 rfl (lv_at hl 2 rfl) ?_
        refine va_getsN (v := .ref wa) hx hb hE.2.2.1 hS hown (va_tabs rfl rfl hK.2.2.2.2.2.2.2.2) (fun _ h9 => h9) dX5_takeWord_50 ?_
        refine va_tlen (v := nI 8) hx hb (hE.2.2.2.1) hS rfl dX5_takeWord_53 ?_
        refine lv_icmp_ge (tgt := 85) hx hb dX5_takeWord_54 (by decide) (fun cn_2 => ?_) (fun cn_2 => ?_)
        · skip
          have cn_2 : 8 ≤ i := (nI_leI (a := 8) (b := i) (by omega) (by omega)).mp cn_2
          have hie : i = 8 := by omega
          refine lv_iconst (v := (-1)) hx hb dX5_takeWord_85 (by rfl) ?_
          subst hQ; subst hAe
          exact W.iret (v := (-1)) hx hb hr (fun tz htz hWz => ⟨⟨(-1), zx_we T tx 100 pl, rfl, ⟨by rw [hJ, hie]; rfl, rfl⟩, by rw [htz]; exact hP, hD⟩, hS.F htz⟩) hS.2.2 dX5_takeWord_86
        · skip
          have cn_2 : ¬ (8 ≤ i) := fun hz => cn_2 ((nI_leI (a := 8) (b := i) (by omega) (by omega)).mpr hz)
          have hi : i < 8 := by omega
          refine lv_aload_n hx hb dX5_takeWord_57 rfl (lv_at hl 0 rfl) ?_
          refine va_getsN (v := .ref wa) hx hb hE.2.2.1 hS hown (va_tabs rfl rfl hK.2.2.2.2.2.2.2.2) (fun _ h9 => h9) dX5_takeWord_58 ?_
          refine lv_iload_n hx hb dX5_takeWord_61 rfl (lv_at hl 2 rfl) ?_
          refine vb_tq (v := .ref (ad i)) hx hb hE.2.2.2.1 hS (vp_in_nI (by omega) (by omega)) (by rw [nI_clamp (by omega)]) dX5_takeWord_62 ?_
          refine vk_getf (v := .ref (adK i)) hx hb ((hE.2.2.2.2.2.2.1 i (by omega)).2.1) hS hown (hts (.fieldLink RX5 86 "HomeRounds$Word" "letters" "Ljava/lang/String;") (by decide +kernel)) (fun _ h9 => h9) dX5_takeWord_63 ?_
          refine lv_iload_n hx hb dX5_takeWord_66 rfl (lv_at hl 1 rfl) ?_
          refine lv_aload_n hx hb dX5_takeWord_67 rfl (lv_at hl 0 rfl) ?_
          refine va_get (D := D) (ci := 4) (v := .int (nI (zx_we T tx 100 pl))) (C := RX5) (T := TX5) (N := 5) hx hb hts (by decide +kernel) hown hK.1 hP 0 rfl rfl 4 (by decide) (hts (.fieldLink RX5 28 "HomeRounds$Text" "place" "I") (by decide +kernel)) (fun _ h9 => h9) rfl dX5_takeWord_68 ?_
          refine zr_ci hP hS (va_runV (As := [.ref (adK i), .int (nI pl), .int (nI (zx_we T tx 100 pl))]) (rest := []) ⟨hx, hb, hml, hown, hts⟩ (c_X5_stands l D E adK adV ad wa sa xx x1 x2 x3 tx (zx_we T tx 100 pl) sg T i pl (zx_we T tx 100 pl) (htx) (by show i < 13; omega) (by omega) (by omega)) (cwV 3 hts gX5_takeWord_X5_stands rfl rfl rfl (by decide +kernel) ⟨Nat.le_of_ble_eq_true rfl, Nat.le_of_ble_eq_true rfl⟩) (zrE_V hE hR hS hK (hP.sub (ws' := [(xx, .inr (4, [.ref x1, .ref x2, .ref x3, .int (nI tx), .int (nI (zx_we T tx 100 pl))])), (x1, .inl (E 2, 100, .inl sg))]) [0, 1] rfl) (ci := 4) (q0 := 0) rfl rfl) rfl rfl hl.1 rfl (lv_room (Nat.le_of_ble_eq_true rfl)) dX5_takeWord_71 ⟨Nat.zero_le _, Nat.zero_le _⟩) (fun r_3 H locs hw_4 hP hS => ?_)
          rcases hw_4 with ⟨rfl, hw_4⟩ | ⟨rfl, hw_4⟩
          · skip
            have hA := hw_4
            refine zr_ti (y := nI 1) rfl ?_
            refine lv_if_eq (tgt := 79) hx hb dX5_takeWord_74 (by decide) (fun cn_5 => ?_) (fun cn_5 => ?_)
            · skip
              exact absurd cn_5 (by decide)
            · skip
              refine lv_iload_n hx hb dX5_takeWord_77 rfl (lv_at hl 2 rfl) ?_
              subst hQ; subst hAe
              exact W.iret (v := nI i) hx hb hr (fun tz htz hWz => ⟨⟨nI i, zx_we T tx 100 pl, rfl, ⟨by rw [hJ, zx_wf_s hi, hA]; exact (if_pos hi).symm, rfl⟩, by rw [htz]; exact hP, hD⟩, hS.F htz⟩) hS.2.2 dX5_takeWord_78
          · skip
            have hA := hw_4
            refine zr_ti (y := nI 0) rfl ?_
            refine lv_if_eq (tgt := 79) hx hb dX5_takeWord_74 (by decide) (fun cn_6 => ?_) (fun cn_6 => ?_)
            · skip
              refine lv_iinc (v := nI (i + 1)) (lv' := [(2, .int (nI (i + 1))), (0, .ref xx), (1, .int (nI pl))]) hx hb dX5_takeWord_79 hl (k := 2) rfl (nI_add _ _) (by decide) rfl (fun ls hl => ?_)
              refine lv_goto (tgt := 49) hx hb dX5_takeWord_82 (by decide) ?_
              have hl : lv_has ls 3 [(0, .ref xx), (1, .int (nI pl)), (2, .int (nI (i + 1)))] := lv_sub hl [1, 2, 0] rfl
              exact ih49 (i + 1) H locs ls (by omega) (by rw [hJ, zx_wf_s hi, hA]; rfl) (by omega) hP hD hS hl
            · skip
              exact absurd cn_6 (by decide)
    · skip
      have cn_1 : ¬ (100 ≤ i) := fun hz => cn_1 ((nI_leI (a := 100) (b := i) (by omega) (by omega)).mpr hz)
      refine lv_aload_n hx hb dX5_takeWord_13 rfl (lv_at hl 0 rfl) ?_
      refine zr_ci hP hS (va_runV (As := []) (rest := []) ⟨hx, hb, hml, hown, hts⟩ (c_X5_signHere l D E xx x1 x2 x3 tx p8 sg T (htx) (by omega)) (cwV 0 hts gX5_takeWord_X5_signHere rfl rfl rfl (by decide +kernel) ⟨Nat.le_of_ble_eq_true rfl, Nat.le_of_ble_eq_true rfl⟩) (zr_V hK (hP.sub (ws' := [(xx, .inr (4, [.ref x1, .ref x2, .ref x3, .int (nI tx), .int (nI p8)])), (x1, .inl (E 2, 100, .inl sg))]) [0, 1] rfl) (ci := 4) (q0 := 0) rfl rfl) rfl rfl hl.1 rfl (lv_room (Nat.le_of_ble_eq_true rfl)) dX5_takeWord_14 ⟨Nat.zero_le _, Nat.zero_le _⟩) (fun r_7 H locs hw_8 hP hS => ?_)
      subst hw_8
      rcases Nat.lt_or_ge p8 tx with hpt | hpt
      · skip
        refine zr_ti (y := nI (T p8)) (zx_sg_t hpt) ?_
        obtain ⟨ht1, -⟩ := htx2 _ hpt
        refine lv_bipush (v := nI 97) hx hb dX5_takeWord_17 (by rfl) ?_
        refine lv_icmp_lt (tgt := 47) hx hb dX5_takeWord_19 (by decide) (fun cn_9 => ?_) (fun cn_9 => ?_)
        · skip
          have cn_9 : T p8 < 97 := (nI_ltI (a := T p8) (b := 97) (by omega) (by omega)).mp cn_9
          have hpe : p8 = zx_we T tx 100 pl := by first | exact (hI.trans (zx_we_e (zx_in_f (by omega)))).symm | exact (hI.trans (by rw [show 100 - i = 0 from by omega]; rfl)).symm
          have hle1 := zx_we_ge (T := T) (L := tx) 100 pl
          have hle2 := zx_we_le (T := T) (L := tx) 100 pl hpl5
          rw [hpe] at hP hD
          refine lv_iconst (v := nI 0) hx hb dX5_takeWord_47 (by rfl) ?_
          refine lv_istore_n (lv' := [(2, .int (nI 0)), (0, .ref xx), (1, .int (nI pl))]) hx hb dX5_takeWord_48 rfl hl (by decide) rfl (fun ls hl => ?_)
          suffices KL49 : ∀ (kz : Nat) (i : Nat) (H : Heap) (locs : List Loc) (ls : Array Slot), (8 - i) < kz → (zx_cw T tx pl = zx_wf T pl (zx_we T tx 100 pl) (8 - i) i) → (i ≤ 8) → va_P D vwCl [(xx, .inr (4, [.ref x1, .ref x2, .ref x3, .int (nI tx), .int (nI (zx_we T tx 100 pl))])), (x1, .inl (E 2, 100, .inl sg))] H → va_D A [(xx, .inr (4, [.ref x1, .ref x2, .ref x3, .int (nI tx), .int (nI (zx_we T tx 100 pl))])), (x1, .inl (E 2, 100, .inl sg))] → va_S A s.heap H locs → lv_has ls 3 [(0, .ref xx), (1, .int (nI pl)), (2, .int (nI i))] → W p l e (headSpec wsX5_takeWord ({ frames := 6, cells := 0, slots := 0, locals := 130 })).room s m ([.ref xx] : List Value).toArray below meth c H locs 0 0 Q (F0 m 49 ls []) from
            KL49 _ 0 _ _ ls (Nat.lt_succ_self _) (rfl) (by omega) hP hD hS (lv_sub hl [1, 2, 0] rfl)
          clear hP hS hl hD
          intro kz
          induction kz with
          | zero => intro i H locs ls hkz; exact absurd hkz (Nat.not_lt_zero _)
          | succ kz ih49 =>
            intro i H locs ls hkz hJ hi8 hP hD hS hl
            refine lv_iload_n hx hb dX5_takeWord_49 rfl (lv_at hl 2 rfl) ?_
            refine va_getsN (v := .ref wa) hx hb hE.2.2.1 hS hown (va_tabs rfl rfl hK.2.2.2.2.2.2.2.2) (fun _ h9 => h9) dX5_takeWord_50 ?_
            refine va_tlen (v := nI 8) hx hb (hE.2.2.2.1) hS rfl dX5_takeWord_53 ?_
            refine lv_icmp_ge (tgt := 85) hx hb dX5_takeWord_54 (by decide) (fun cn_10 => ?_) (fun cn_10 => ?_)
            · skip
              have cn_10 : 8 ≤ i := (nI_leI (a := 8) (b := i) (by omega) (by omega)).mp cn_10
              have hie : i = 8 := by omega
              refine lv_iconst (v := (-1)) hx hb dX5_takeWord_85 (by rfl) ?_
              subst hQ; subst hAe
              exact W.iret (v := (-1)) hx hb hr (fun tz htz hWz => ⟨⟨(-1), zx_we T tx 100 pl, rfl, ⟨by rw [hJ, hie]; rfl, rfl⟩, by rw [htz]; exact hP, hD⟩, hS.F htz⟩) hS.2.2 dX5_takeWord_86
            · skip
              have cn_10 : ¬ (8 ≤ i) := fun hz => cn_10 ((nI_leI (a := 8) (b := i) (by omega) (by omega)).mpr hz)
              have hi : i < 8 := by omega
              refine lv_aload_n hx hb dX5_takeWord_57 rfl (lv_at hl 0 rfl) ?_
              refine va_getsN (v := .ref wa) hx hb hE.2.2.1 hS hown (va_tabs rfl rfl hK.2.2.2.2.2.2.2.2) (fun _ h9 => h9) dX5_takeWord_58 ?_
              refine lv_iload_n hx hb dX5_takeWord_61 rfl (lv_at hl 2 rfl) ?_
              refine vb_tq (v := .ref (ad i)) hx hb hE.2.2.2.1 hS (vp_in_nI (by omega) (by omega)) (by rw [nI_clamp (by omega)]) dX5_takeWord_62 ?_
              refine vk_getf (v := .ref (adK i)) hx hb ((hE.2.2.2.2.2.2.1 i (by omega)).2.1) hS hown (hts (.fieldLink RX5 86 "HomeRounds$Word" "letters" "Ljava/lang/String;") (by decide +kernel)) (fun _ h9 => h9) dX5_takeWord_63 ?_
              refine lv_iload_n hx hb dX5_takeWord_66 rfl (lv_at hl 1 rfl) ?_
              refine lv_aload_n hx hb dX5_takeWord_67 rfl (lv_at hl 0 rfl) ?_
              refine va_get (D := D) (ci := 4) (v := .int (nI (zx_we T tx 100 pl))) (C := RX5) (T := TX5) (N := 5) hx hb hts (by decide +kernel) hown hK.1 hP 0 rfl rfl 4 (by decide) (hts (.fieldLink RX5 28 "HomeRounds$Text" "place" "I") (by decide +kernel)) (fun _ h9 => h9) rfl dX5_takeWord_68 ?_
              refine zr_ci hP hS (va_runV (As := [.ref (adK i), .int (nI pl), .int (nI (zx_we T tx 100 pl))]) (rest := []) ⟨hx, hb, hml, hown, hts⟩ (c_X5_stands l D E adK adV ad wa sa xx x1 x2 x3 tx (zx_we T tx 100 pl) sg T i pl (zx_we T tx 100 pl) (htx) (by show i < 13; omega) (by omega) (by omega)) (cwV 3 hts gX5_takeWord_X5_stands rfl rfl rfl (by decide +kernel) ⟨Nat.le_of_ble_eq_true rfl, Nat.le_of_ble_eq_true rfl⟩) (zrE_V hE hR hS hK (hP.sub (ws' := [(xx, .inr (4, [.ref x1, .ref x2, .ref x3, .int (nI tx), .int (nI (zx_we T tx 100 pl))])), (x1, .inl (E 2, 100, .inl sg))]) [0, 1] rfl) (ci := 4) (q0 := 0) rfl rfl) rfl rfl hl.1 rfl (lv_room (Nat.le_of_ble_eq_true rfl)) dX5_takeWord_71 ⟨Nat.zero_le _, Nat.zero_le _⟩) (fun r_11 H locs hw_12 hP hS => ?_)
              rcases hw_12 with ⟨rfl, hw_12⟩ | ⟨rfl, hw_12⟩
              · skip
                have hA := hw_12
                refine zr_ti (y := nI 1) rfl ?_
                refine lv_if_eq (tgt := 79) hx hb dX5_takeWord_74 (by decide) (fun cn_13 => ?_) (fun cn_13 => ?_)
                · skip
                  exact absurd cn_13 (by decide)
                · skip
                  refine lv_iload_n hx hb dX5_takeWord_77 rfl (lv_at hl 2 rfl) ?_
                  subst hQ; subst hAe
                  exact W.iret (v := nI i) hx hb hr (fun tz htz hWz => ⟨⟨nI i, zx_we T tx 100 pl, rfl, ⟨by rw [hJ, zx_wf_s hi, hA]; exact (if_pos hi).symm, rfl⟩, by rw [htz]; exact hP, hD⟩, hS.F htz⟩) hS.2.2 dX5_takeWord_78
              · skip
                have hA := hw_12
                refine zr_ti (y := nI 0) rfl ?_
                refine lv_if_eq (tgt := 79) hx hb dX5_takeWord_74 (by decide) (fun cn_14 => ?_) (fun cn_14 => ?_)
                · skip
                  refine lv_iinc (v := nI (i + 1)) (lv' := [(2, .int (nI (i + 1))), (0, .ref xx), (1, .int (nI pl))]) hx hb dX5_takeWord_79 hl (k := 2) rfl (nI_add _ _) (by decide) rfl (fun ls hl => ?_)
                  refine lv_goto (tgt := 49) hx hb dX5_takeWord_82 (by decide) ?_
                  have hl : lv_has ls 3 [(0, .ref xx), (1, .int (nI pl)), (2, .int (nI (i + 1)))] := lv_sub hl [1, 2, 0] rfl
                  exact ih49 (i + 1) H locs ls (by omega) (by rw [hJ, zx_wf_s hi, hA]; rfl) (by omega) hP hD hS hl
                · skip
                  exact absurd cn_14 (by decide)
        · skip
          have cn_9 : ¬ (T p8 < 97) := fun hz => cn_9 ((nI_ltI (a := T p8) (b := 97) (by omega) (by omega)).mpr hz)
          refine lv_aload_n hx hb dX5_takeWord_22 rfl (lv_at hl 0 rfl) ?_
          refine zr_ci hP hS (va_runV (As := []) (rest := []) ⟨hx, hb, hml, hown, hts⟩ (c_X5_signHere l D E xx x1 x2 x3 tx p8 sg T (htx) (by omega)) (cwV 0 hts gX5_takeWord_X5_signHere rfl rfl rfl (by decide +kernel) ⟨Nat.le_of_ble_eq_true rfl, Nat.le_of_ble_eq_true rfl⟩) (zr_V hK (hP.sub (ws' := [(xx, .inr (4, [.ref x1, .ref x2, .ref x3, .int (nI tx), .int (nI p8)])), (x1, .inl (E 2, 100, .inl sg))]) [0, 1] rfl) (ci := 4) (q0 := 0) rfl rfl) rfl rfl hl.1 rfl (lv_room (Nat.le_of_ble_eq_true rfl)) dX5_takeWord_23 ⟨Nat.zero_le _, Nat.zero_le _⟩) (fun r_15 H locs hw_16 hP hS => ?_)
          subst hw_16
          refine zr_ti (y := nI (T p8)) (zx_sg_t hpt) ?_
          refine lv_bipush (v := nI 122) hx hb dX5_takeWord_26 (by rfl) ?_
          refine lv_icmp_gt (tgt := 47) hx hb dX5_takeWord_28 (by decide) (fun cn_17 => ?_) (fun cn_17 => ?_)
          · skip
            have cn_17 : 122 < T p8 := (nI_ltI (a := 122) (b := T p8) (by omega) (by omega)).mp cn_17
            have hpe : p8 = zx_we T tx 100 pl := by first | exact (hI.trans (zx_we_e (zx_in_f (by omega)))).symm | exact (hI.trans (by rw [show 100 - i = 0 from by omega]; rfl)).symm
            have hle1 := zx_we_ge (T := T) (L := tx) 100 pl
            have hle2 := zx_we_le (T := T) (L := tx) 100 pl hpl5
            rw [hpe] at hP hD
            refine lv_iconst (v := nI 0) hx hb dX5_takeWord_47 (by rfl) ?_
            refine lv_istore_n (lv' := [(2, .int (nI 0)), (0, .ref xx), (1, .int (nI pl))]) hx hb dX5_takeWord_48 rfl hl (by decide) rfl (fun ls hl => ?_)
            suffices KL49 : ∀ (kz : Nat) (i : Nat) (H : Heap) (locs : List Loc) (ls : Array Slot), (8 - i) < kz → (zx_cw T tx pl = zx_wf T pl (zx_we T tx 100 pl) (8 - i) i) → (i ≤ 8) → va_P D vwCl [(xx, .inr (4, [.ref x1, .ref x2, .ref x3, .int (nI tx), .int (nI (zx_we T tx 100 pl))])), (x1, .inl (E 2, 100, .inl sg))] H → va_D A [(xx, .inr (4, [.ref x1, .ref x2, .ref x3, .int (nI tx), .int (nI (zx_we T tx 100 pl))])), (x1, .inl (E 2, 100, .inl sg))] → va_S A s.heap H locs → lv_has ls 3 [(0, .ref xx), (1, .int (nI pl)), (2, .int (nI i))] → W p l e (headSpec wsX5_takeWord ({ frames := 6, cells := 0, slots := 0, locals := 130 })).room s m ([.ref xx] : List Value).toArray below meth c H locs 0 0 Q (F0 m 49 ls []) from
              KL49 _ 0 _ _ ls (Nat.lt_succ_self _) (rfl) (by omega) hP hD hS (lv_sub hl [1, 2, 0] rfl)
            clear hP hS hl hD
            intro kz
            induction kz with
            | zero => intro i H locs ls hkz; exact absurd hkz (Nat.not_lt_zero _)
            | succ kz ih49 =>
              intro i H locs ls hkz hJ hi8 hP hD hS hl
              refine lv_iload_n hx hb dX5_takeWord_49 rfl (lv_at hl 2 rfl) ?_
              refine va_getsN (v := .ref wa) hx hb hE.2.2.1 hS hown (va_tabs rfl rfl hK.2.2.2.2.2.2.2.2) (fun _ h9 => h9) dX5_takeWord_50 ?_
              refine va_tlen (v := nI 8) hx hb (hE.2.2.2.1) hS rfl dX5_takeWord_53 ?_
              refine lv_icmp_ge (tgt := 85) hx hb dX5_takeWord_54 (by decide) (fun cn_18 => ?_) (fun cn_18 => ?_)
              · skip
                have cn_18 : 8 ≤ i := (nI_leI (a := 8) (b := i) (by omega) (by omega)).mp cn_18
                have hie : i = 8 := by omega
                refine lv_iconst (v := (-1)) hx hb dX5_takeWord_85 (by rfl) ?_
                subst hQ; subst hAe
                exact W.iret (v := (-1)) hx hb hr (fun tz htz hWz => ⟨⟨(-1), zx_we T tx 100 pl, rfl, ⟨by rw [hJ, hie]; rfl, rfl⟩, by rw [htz]; exact hP, hD⟩, hS.F htz⟩) hS.2.2 dX5_takeWord_86
              · skip
                have cn_18 : ¬ (8 ≤ i) := fun hz => cn_18 ((nI_leI (a := 8) (b := i) (by omega) (by omega)).mpr hz)
                have hi : i < 8 := by omega
                refine lv_aload_n hx hb dX5_takeWord_57 rfl (lv_at hl 0 rfl) ?_
                refine va_getsN (v := .ref wa) hx hb hE.2.2.1 hS hown (va_tabs rfl rfl hK.2.2.2.2.2.2.2.2) (fun _ h9 => h9) dX5_takeWord_58 ?_
                refine lv_iload_n hx hb dX5_takeWord_61 rfl (lv_at hl 2 rfl) ?_
                refine vb_tq (v := .ref (ad i)) hx hb hE.2.2.2.1 hS (vp_in_nI (by omega) (by omega)) (by rw [nI_clamp (by omega)]) dX5_takeWord_62 ?_
                refine vk_getf (v := .ref (adK i)) hx hb ((hE.2.2.2.2.2.2.1 i (by omega)).2.1) hS hown (hts (.fieldLink RX5 86 "HomeRounds$Word" "letters" "Ljava/lang/String;") (by decide +kernel)) (fun _ h9 => h9) dX5_takeWord_63 ?_
                refine lv_iload_n hx hb dX5_takeWord_66 rfl (lv_at hl 1 rfl) ?_
                refine lv_aload_n hx hb dX5_takeWord_67 rfl (lv_at hl 0 rfl) ?_
                refine va_get (D := D) (ci := 4) (v := .int (nI (zx_we T tx 100 pl))) (C := RX5) (T := TX5) (N := 5) hx hb hts (by decide +kernel) hown hK.1 hP 0 rfl rfl 4 (by decide) (hts (.fieldLink RX5 28 "HomeRounds$Text" "place" "I") (by decide +kernel)) (fun _ h9 => h9) rfl dX5_takeWord_68 ?_
                refine zr_ci hP hS (va_runV (As := [.ref (adK i), .int (nI pl), .int (nI (zx_we T tx 100 pl))]) (rest := []) ⟨hx, hb, hml, hown, hts⟩ (c_X5_stands l D E adK adV ad wa sa xx x1 x2 x3 tx (zx_we T tx 100 pl) sg T i pl (zx_we T tx 100 pl) (htx) (by show i < 13; omega) (by omega) (by omega)) (cwV 3 hts gX5_takeWord_X5_stands rfl rfl rfl (by decide +kernel) ⟨Nat.le_of_ble_eq_true rfl, Nat.le_of_ble_eq_true rfl⟩) (zrE_V hE hR hS hK (hP.sub (ws' := [(xx, .inr (4, [.ref x1, .ref x2, .ref x3, .int (nI tx), .int (nI (zx_we T tx 100 pl))])), (x1, .inl (E 2, 100, .inl sg))]) [0, 1] rfl) (ci := 4) (q0 := 0) rfl rfl) rfl rfl hl.1 rfl (lv_room (Nat.le_of_ble_eq_true rfl)) dX5_takeWord_71 ⟨Nat.zero_le _, Nat.zero_le _⟩) (fun r_19 H locs hw_20 hP hS => ?_)
                rcases hw_20 with ⟨rfl, hw_20⟩ | ⟨rfl, hw_20⟩
                · skip
                  have hA := hw_20
                  refine zr_ti (y := nI 1) rfl ?_
                  refine lv_if_eq (tgt := 79) hx hb dX5_takeWord_74 (by decide) (fun cn_21 => ?_) (fun cn_21 => ?_)
                  · skip
                    exact absurd cn_21 (by decide)
                  · skip
                    refine lv_iload_n hx hb dX5_takeWord_77 rfl (lv_at hl 2 rfl) ?_
                    subst hQ; subst hAe
                    exact W.iret (v := nI i) hx hb hr (fun tz htz hWz => ⟨⟨nI i, zx_we T tx 100 pl, rfl, ⟨by rw [hJ, zx_wf_s hi, hA]; exact (if_pos hi).symm, rfl⟩, by rw [htz]; exact hP, hD⟩, hS.F htz⟩) hS.2.2 dX5_takeWord_78
                · skip
                  have hA := hw_20
                  refine zr_ti (y := nI 0) rfl ?_
                  refine lv_if_eq (tgt := 79) hx hb dX5_takeWord_74 (by decide) (fun cn_22 => ?_) (fun cn_22 => ?_)
                  · skip
                    refine lv_iinc (v := nI (i + 1)) (lv' := [(2, .int (nI (i + 1))), (0, .ref xx), (1, .int (nI pl))]) hx hb dX5_takeWord_79 hl (k := 2) rfl (nI_add _ _) (by decide) rfl (fun ls hl => ?_)
                    refine lv_goto (tgt := 49) hx hb dX5_takeWord_82 (by decide) ?_
                    have hl : lv_has ls 3 [(0, .ref xx), (1, .int (nI pl)), (2, .int (nI (i + 1)))] := lv_sub hl [1, 2, 0] rfl
                    exact ih49 (i + 1) H locs ls (by omega) (by rw [hJ, zx_wf_s hi, hA]; rfl) (by omega) hP hD hS hl
                  · skip
                    exact absurd cn_22 (by decide)
          · skip
            have cn_17 : ¬ (122 < T p8) := fun hz => cn_17 ((nI_ltI (a := 122) (b := T p8) (by omega) (by omega)).mpr hz)
            refine lv_aload_n hx hb dX5_takeWord_31 rfl (lv_at hl 0 rfl) ?_
            refine lv_dup hx hb dX5_takeWord_32 rfl ?_
            refine va_get (D := D) (ci := 4) (v := .int (nI p8)) (C := RX5) (T := TX5) (N := 5) hx hb hts (by decide +kernel) hown hK.1 hP 0 rfl rfl 4 (by decide) (hts (.fieldLink RX5 28 "HomeRounds$Text" "place" "I") (by decide +kernel)) (fun _ h9 => h9) rfl dX5_takeWord_33 ?_
            refine lv_iconst (v := nI 1) hx hb dX5_takeWord_36 (by rfl) ?_
            refine lv_iadd hx hb dX5_takeWord_37 ?_
            refine zr_ti (y := nI (p8 + 1)) (nI_add _ _) ?_
            refine va_put (D := D) (ci := 4) (v := .int (nI (p8 + 1))) (ty := .int) (C := RX5) (T := TX5) (N := 5) hx hb hts (by decide +kernel) tyX5 tyX5_ok nmX5 hown hK.1 hP hD hS 0 rfl rfl 4 (by decide) (hts (.fieldLink RX5 28 "HomeRounds$Text" "place" "I") (by decide +kernel)) (fun _ h9 => h9) rfl (by decide +kernel) rfl rfl (Nat.le_of_ble_eq_true rfl) dX5_takeWord_38 (fun H locs hP hD hS => ?_)
            have hP : va_P D vwCl [(xx, .inr (4, [.ref x1, .ref x2, .ref x3, .int (nI tx), .int (nI (p8 + 1))])), (x1, .inl (E 2, 100, .inl sg))] H := hP
            have hD : va_D A [(xx, .inr (4, [.ref x1, .ref x2, .ref x3, .int (nI tx), .int (nI (p8 + 1))])), (x1, .inl (E 2, 100, .inl sg))] := hD
            refine lv_iinc (v := nI (i + 1)) (lv' := [(2, .int (nI (i + 1))), (0, .ref xx), (1, .int (nI pl))]) hx hb dX5_takeWord_41 hl (k := 2) rfl (nI_add _ _) (by decide) rfl (fun ls hl => ?_)
            refine lv_goto (tgt := 7) hx hb dX5_takeWord_44 (by decide) ?_
            have hl : lv_has ls 3 [(0, .ref xx), (1, .int (nI pl)), (2, .int (nI (i + 1)))] := lv_sub hl [1, 2, 0] rfl
            exact ih7 (i + 1) (p8 + 1) H locs ls (by omega) (by rw [hI, zx_we_s (by omega) (zx_in_t hpt (by omega) (by omega))]) (by omega) (by omega) (by omega) hP hD hS hl
      · skip
        refine zr_ti (y := -1) (zx_sg_f hpt) ?_
        refine lv_bipush (v := nI 97) hx hb dX5_takeWord_17 (by rfl) ?_
        refine lv_icmp_lt (tgt := 47) hx hb dX5_takeWord_19 (by decide) (fun cn_23 => ?_) (fun cn_23 => ?_)
        · skip
          have hpe : p8 = zx_we T tx 100 pl := by first | exact (hI.trans (zx_we_e (zx_in_f (by omega)))).symm | exact (hI.trans (by rw [show 100 - i = 0 from by omega]; rfl)).symm
          have hle1 := zx_we_ge (T := T) (L := tx) 100 pl
          have hle2 := zx_we_le (T := T) (L := tx) 100 pl hpl5
          rw [hpe] at hP hD
          refine lv_iconst (v := nI 0) hx hb dX5_takeWord_47 (by rfl) ?_
          refine lv_istore_n (lv' := [(2, .int (nI 0)), (0, .ref xx), (1, .int (nI pl))]) hx hb dX5_takeWord_48 rfl hl (by decide) rfl (fun ls hl => ?_)
          suffices KL49 : ∀ (kz : Nat) (i : Nat) (H : Heap) (locs : List Loc) (ls : Array Slot), (8 - i) < kz → (zx_cw T tx pl = zx_wf T pl (zx_we T tx 100 pl) (8 - i) i) → (i ≤ 8) → va_P D vwCl [(xx, .inr (4, [.ref x1, .ref x2, .ref x3, .int (nI tx), .int (nI (zx_we T tx 100 pl))])), (x1, .inl (E 2, 100, .inl sg))] H → va_D A [(xx, .inr (4, [.ref x1, .ref x2, .ref x3, .int (nI tx), .int (nI (zx_we T tx 100 pl))])), (x1, .inl (E 2, 100, .inl sg))] → va_S A s.heap H locs → lv_has ls 3 [(0, .ref xx), (1, .int (nI pl)), (2, .int (nI i))] → W p l e (headSpec wsX5_takeWord ({ frames := 6, cells := 0, slots := 0, locals := 130 })).room s m ([.ref xx] : List Value).toArray below meth c H locs 0 0 Q (F0 m 49 ls []) from
            KL49 _ 0 _ _ ls (Nat.lt_succ_self _) (rfl) (by omega) hP hD hS (lv_sub hl [1, 2, 0] rfl)
          clear hP hS hl hD
          intro kz
          induction kz with
          | zero => intro i H locs ls hkz; exact absurd hkz (Nat.not_lt_zero _)
          | succ kz ih49 =>
            intro i H locs ls hkz hJ hi8 hP hD hS hl
            refine lv_iload_n hx hb dX5_takeWord_49 rfl (lv_at hl 2 rfl) ?_
            refine va_getsN (v := .ref wa) hx hb hE.2.2.1 hS hown (va_tabs rfl rfl hK.2.2.2.2.2.2.2.2) (fun _ h9 => h9) dX5_takeWord_50 ?_
            refine va_tlen (v := nI 8) hx hb (hE.2.2.2.1) hS rfl dX5_takeWord_53 ?_
            refine lv_icmp_ge (tgt := 85) hx hb dX5_takeWord_54 (by decide) (fun cn_24 => ?_) (fun cn_24 => ?_)
            · skip
              have cn_24 : 8 ≤ i := (nI_leI (a := 8) (b := i) (by omega) (by omega)).mp cn_24
              have hie : i = 8 := by omega
              refine lv_iconst (v := (-1)) hx hb dX5_takeWord_85 (by rfl) ?_
              subst hQ; subst hAe
              exact W.iret (v := (-1)) hx hb hr (fun tz htz hWz => ⟨⟨(-1), zx_we T tx 100 pl, rfl, ⟨by rw [hJ, hie]; rfl, rfl⟩, by rw [htz]; exact hP, hD⟩, hS.F htz⟩) hS.2.2 dX5_takeWord_86
            · skip
              have cn_24 : ¬ (8 ≤ i) := fun hz => cn_24 ((nI_leI (a := 8) (b := i) (by omega) (by omega)).mpr hz)
              have hi : i < 8 := by omega
              refine lv_aload_n hx hb dX5_takeWord_57 rfl (lv_at hl 0 rfl) ?_
              refine va_getsN (v := .ref wa) hx hb hE.2.2.1 hS hown (va_tabs rfl rfl hK.2.2.2.2.2.2.2.2) (fun _ h9 => h9) dX5_takeWord_58 ?_
              refine lv_iload_n hx hb dX5_takeWord_61 rfl (lv_at hl 2 rfl) ?_
              refine vb_tq (v := .ref (ad i)) hx hb hE.2.2.2.1 hS (vp_in_nI (by omega) (by omega)) (by rw [nI_clamp (by omega)]) dX5_takeWord_62 ?_
              refine vk_getf (v := .ref (adK i)) hx hb ((hE.2.2.2.2.2.2.1 i (by omega)).2.1) hS hown (hts (.fieldLink RX5 86 "HomeRounds$Word" "letters" "Ljava/lang/String;") (by decide +kernel)) (fun _ h9 => h9) dX5_takeWord_63 ?_
              refine lv_iload_n hx hb dX5_takeWord_66 rfl (lv_at hl 1 rfl) ?_
              refine lv_aload_n hx hb dX5_takeWord_67 rfl (lv_at hl 0 rfl) ?_
              refine va_get (D := D) (ci := 4) (v := .int (nI (zx_we T tx 100 pl))) (C := RX5) (T := TX5) (N := 5) hx hb hts (by decide +kernel) hown hK.1 hP 0 rfl rfl 4 (by decide) (hts (.fieldLink RX5 28 "HomeRounds$Text" "place" "I") (by decide +kernel)) (fun _ h9 => h9) rfl dX5_takeWord_68 ?_
              refine zr_ci hP hS (va_runV (As := [.ref (adK i), .int (nI pl), .int (nI (zx_we T tx 100 pl))]) (rest := []) ⟨hx, hb, hml, hown, hts⟩ (c_X5_stands l D E adK adV ad wa sa xx x1 x2 x3 tx (zx_we T tx 100 pl) sg T i pl (zx_we T tx 100 pl) (htx) (by show i < 13; omega) (by omega) (by omega)) (cwV 3 hts gX5_takeWord_X5_stands rfl rfl rfl (by decide +kernel) ⟨Nat.le_of_ble_eq_true rfl, Nat.le_of_ble_eq_true rfl⟩) (zrE_V hE hR hS hK (hP.sub (ws' := [(xx, .inr (4, [.ref x1, .ref x2, .ref x3, .int (nI tx), .int (nI (zx_we T tx 100 pl))])), (x1, .inl (E 2, 100, .inl sg))]) [0, 1] rfl) (ci := 4) (q0 := 0) rfl rfl) rfl rfl hl.1 rfl (lv_room (Nat.le_of_ble_eq_true rfl)) dX5_takeWord_71 ⟨Nat.zero_le _, Nat.zero_le _⟩) (fun r_25 H locs hw_26 hP hS => ?_)
              rcases hw_26 with ⟨rfl, hw_26⟩ | ⟨rfl, hw_26⟩
              · skip
                have hA := hw_26
                refine zr_ti (y := nI 1) rfl ?_
                refine lv_if_eq (tgt := 79) hx hb dX5_takeWord_74 (by decide) (fun cn_27 => ?_) (fun cn_27 => ?_)
                · skip
                  exact absurd cn_27 (by decide)
                · skip
                  refine lv_iload_n hx hb dX5_takeWord_77 rfl (lv_at hl 2 rfl) ?_
                  subst hQ; subst hAe
                  exact W.iret (v := nI i) hx hb hr (fun tz htz hWz => ⟨⟨nI i, zx_we T tx 100 pl, rfl, ⟨by rw [hJ, zx_wf_s hi, hA]; exact (if_pos hi).symm, rfl⟩, by rw [htz]; exact hP, hD⟩, hS.F htz⟩) hS.2.2 dX5_takeWord_78
              · skip
                have hA := hw_26
                refine zr_ti (y := nI 0) rfl ?_
                refine lv_if_eq (tgt := 79) hx hb dX5_takeWord_74 (by decide) (fun cn_28 => ?_) (fun cn_28 => ?_)
                · skip
                  refine lv_iinc (v := nI (i + 1)) (lv' := [(2, .int (nI (i + 1))), (0, .ref xx), (1, .int (nI pl))]) hx hb dX5_takeWord_79 hl (k := 2) rfl (nI_add _ _) (by decide) rfl (fun ls hl => ?_)
                  refine lv_goto (tgt := 49) hx hb dX5_takeWord_82 (by decide) ?_
                  have hl : lv_has ls 3 [(0, .ref xx), (1, .int (nI pl)), (2, .int (nI (i + 1)))] := lv_sub hl [1, 2, 0] rfl
                  exact ih49 (i + 1) H locs ls (by omega) (by rw [hJ, zx_wf_s hi, hA]; rfl) (by omega) hP hD hS hl
                · skip
                  exact absurd cn_28 (by decide)
        · skip
          exact absurd cn_23 (by decide)

