set_option maxHeartbeats 4000000 in
set_option maxRecDepth 100000 in
theorem c_X3_far (l : Launch) (D : va_G) (E : Nat → ClassId) (g0 : Nat) (g1 : Nat) (g2 : Nat) (g3 : Nat) (g4 : Nat) (g5 : Nat) (g6 : Nat) (g7 : Nat) (sk : Nat) (h0 : Nat) (h1 : Nat) (h2 : Nat) (h3 : Nat) (h4 : Nat) (h5 : Nat) (h6 : Nat) (N : Nat) (hm : Nat → Int32) (aw : Nat → Int32) (rv : Nat → Int32) (sd : Nat → Int32) (gm : Nat → Int32) (ca : Nat → Int32) (G : Nat → Nat → Nat) (P : Nat → Nat → Nat) (xs : Nat → Int32) (ys : Nat → Int32) (X : Nat → Nat) (Y : Nat → Nat) (i : Nat) (j : Nat) (hpl : zm_pl N G P hm aw rv sd gm) (hgr : zm_gr X Y xs ys) (hi : i < N) (hj : j < N) : Met l yX3_far wsX3_far ({ frames := 1, cells := 0, slots := 0, locals := 21 }) (zr_P D E [.ref g0, .int (nI i), .int (nI j)] [(g0, .inr (2, [.ref h0, .ref g1, .ref g2, .ref g3, .ref g4, .int (nI sk), .ref g5, .ref g6, .ref g7])), (h0, .inr (0, [.int (nI N), .ref h1, .ref h2, .ref h3, .ref h4, .ref h5, .ref h6])), (h1, .inl (E 0, 15, .inl hm)), (h2, .inl (E 0, 15, .inl aw)), (h3, .inl (E 0, 30, .inl rv)), (h4, .inl (E 0, 30, .inl sd)), (h5, .inl (E 0, 30, .inl gm)), (h6, .inl (E 0, 36, .inl ca)), (g1, .inl (E 0, 6, .inl xs)), (g2, .inl (E 0, 6, .inl ys))]) (zr_Qi (fun zv => zv = nI (zm_far X Y i j))) 0 0 (fun _ => False) := by
  refine Met.ofW (cc := cX3_far) (maxL := 3) (ret := (some .int)) (by decide) rfl ?_
  intro p e s m args below meth c s₁ Bz hml hv
  obtain ⟨rfl, hP, hK⟩ := hv
  have hx := Bz.exec
  have hb := Bz.bytes
  have hr := Bz.returns
  have hts := atoms_spec (ws := wsX3_far) Bz.pre
  have hown : s.vm.findClass RX3 = some m.cls := findClass_of_methodNamed Bz.named
  have hlocks := Bz.notSynchronized
  have hP : va_P D vwCl [(g0, .inr (2, [.ref h0, .ref g1, .ref g2, .ref g3, .ref g4, .int (nI sk), .ref g5, .ref g6, .ref g7])), (h0, .inr (0, [.int (nI N), .ref h1, .ref h2, .ref h3, .ref h4, .ref h5, .ref h6])), (h1, .inl (E 0, 15, .inl hm)), (h2, .inl (E 0, 15, .inl aw)), (h3, .inl (E 0, 30, .inl rv)), (h4, .inl (E 0, 30, .inl sd)), (h5, .inl (E 0, 30, .inl gm)), (h6, .inl (E 0, 36, .inl ca)), (g1, .inl (E 0, 6, .inl xs)), (g2, .inl (E 0, 6, .inl ys))] s.heap := hP
  have hS : va_S (fun _ : Nat => False) s.heap s.heap [] := va_S.rf
  have hl := lv_entry ([.ref g0, .int (nI i), .int (nI j)]) (n := 3) (Nat.le_of_ble_eq_true rfl)
  rw [lg_entry_eq]
  generalize (lg_sl ([.ref g0, .int (nI i), .int (nI j)]) ++ List.replicate (3 - (lg_sl ([.ref g0, .int (nI i), .int (nI j)])).length) Slot.unset).toArray = ls at hl ⊢
  have hl : lv_has ls 3 [(0, .ref g0), (1, .int (nI i)), (2, .int (nI j))] := hl
  refine zr_nQ (fun Q hQ => ?_)
  have hN := hpl.1.1
  obtain ⟨hx1, hx2, -, -⟩ := hgr i (by omega)
  obtain ⟨hx3, hx4, -, -⟩ := hgr j (by omega)
  refine lv_aload_n hx hb dX3_far_0 rfl (lv_at hl 0 rfl) ?_
  refine va_get (D := D) (ci := 2) (v := .ref h0) (C := RX3) (T := TX3) (N := 9) hx hb hts (by decide +kernel) hown hK.1 hP 0 rfl rfl 0 (by decide) (hts (.fieldLink RX3 12 "HomeRounds$Setting" "plan" "LHomeRounds$Plan;") (by decide +kernel)) (fun _ h9 => h9) rfl dX3_far_1 ?_
  refine lv_iload_n hx hb dX3_far_4 rfl (lv_at hl 1 rfl) ?_
  refine zr_ci hP hS (va_runV (As := [.int (nI i)]) (rest := []) ⟨hx, hb, hml, hown, hts⟩ (c_X1_hasTeam l D E h0 h1 h2 h3 h4 h5 h6 N hm aw rv sd gm ca (nI i) (hN)) (cwV 1 hts gX3_far_X1_hasTeam rfl rfl rfl (by decide +kernel) ⟨Nat.le_of_ble_eq_true rfl, Nat.le_of_ble_eq_true rfl⟩) (zr_V hK (hP.sub (ws' := [(h0, .inr (0, [.int (nI N), .ref h1, .ref h2, .ref h3, .ref h4, .ref h5, .ref h6])), (h1, .inl (E 0, 15, .inl hm)), (h2, .inl (E 0, 15, .inl aw)), (h3, .inl (E 0, 30, .inl rv)), (h4, .inl (E 0, 30, .inl sd)), (h5, .inl (E 0, 30, .inl gm)), (h6, .inl (E 0, 36, .inl ca))]) [1, 2, 3, 4, 5, 6, 7] rfl) (ci := 0) (q0 := 0) rfl rfl) rfl rfl hl.1 rfl (lv_room (Nat.le_of_ble_eq_true rfl)) dX3_far_5 ⟨Nat.zero_le _, Nat.zero_le _⟩) (fun r_1 H locs hw_2 hP hS => ?_)
  have hrz : r_1 = 1 := by rcases hw_2 with ⟨h9, -⟩ | ⟨-, h9⟩; exact h9; exact absurd rfl (h9 i hi)
  subst hrz; clear hw_2
  refine zr_ti (y := nI 1) rfl ?_
  refine lv_if_eq (tgt := 22) hx hb dX3_far_8 (by decide) (fun cn_3 => ?_) (fun cn_3 => ?_)
  · skip
    exact absurd cn_3 (by decide)
  · skip
    refine lv_aload_n hx hb dX3_far_11 rfl (lv_at hl 0 rfl) ?_
    refine va_get (D := D) (ci := 2) (v := .ref h0) (C := RX3) (T := TX3) (N := 9) hx hb hts (by decide +kernel) hown hK.1 hP 0 rfl rfl 0 (by decide) (hts (.fieldLink RX3 12 "HomeRounds$Setting" "plan" "LHomeRounds$Plan;") (by decide +kernel)) (fun _ h9 => h9) rfl dX3_far_12 ?_
    refine lv_iload_n hx hb dX3_far_15 rfl (lv_at hl 2 rfl) ?_
    refine zr_ci hP hS (va_runV (As := [.int (nI j)]) (rest := []) ⟨hx, hb, hml, hown, hts⟩ (c_X1_hasTeam l D E h0 h1 h2 h3 h4 h5 h6 N hm aw rv sd gm ca (nI j) (hN)) (cwV 1 hts gX3_far_X1_hasTeam rfl rfl rfl (by decide +kernel) ⟨Nat.le_of_ble_eq_true rfl, Nat.le_of_ble_eq_true rfl⟩) (zr_V hK (hP.sub (ws' := [(h0, .inr (0, [.int (nI N), .ref h1, .ref h2, .ref h3, .ref h4, .ref h5, .ref h6])), (h1, .inl (E 0, 15, .inl hm)), (h2, .inl (E 0, 15, .inl aw)), (h3, .inl (E 0, 30, .inl rv)), (h4, .inl (E 0, 30, .inl sd)), (h5, .inl (E 0, 30, .inl gm)), (h6, .inl (E 0, 36, .inl ca))]) [1, 2, 3, 4, 5, 6, 7] rfl) (ci := 0) (q0 := 0) rfl rfl) rfl rfl hl.1 rfl (lv_room (Nat.le_of_ble_eq_true rfl)) dX3_far_16 ⟨Nat.zero_le _, Nat.zero_le _⟩) (fun r_4 H locs hw_5 hP hS => ?_)
    have hrz : r_4 = 1 := by rcases hw_5 with ⟨h9, -⟩ | ⟨-, h9⟩; exact h9; exact absurd rfl (h9 j hj)
    subst hrz; clear hw_5
    refine zr_ti (y := nI 1) rfl ?_
    refine lv_if_ne (tgt := 24) hx hb dX3_far_19 (by decide) (fun cn_6 => ?_) (fun cn_6 => ?_)
    · skip
      refine lv_aload_n hx hb dX3_far_24 rfl (lv_at hl 0 rfl) ?_
      refine va_get (D := D) (ci := 2) (v := .ref g1) (C := RX3) (T := TX3) (N := 9) hx hb hts (by decide +kernel) hown hK.1 hP 0 rfl rfl 1 (by decide) (hts (.fieldLink RX3 18 "HomeRounds$Setting" "xs" "[I") (by decide +kernel)) (fun _ h9 => h9) rfl dX3_far_25 ?_
      refine lv_iload_n hx hb dX3_far_28 rfl (lv_at hl 1 rfl) ?_
      refine va_iald hx hb hK.1 hP 8 0 rfl rfl (vp_in_nI (by omega) (by omega)) dX3_far_29 ?_
      refine zr_ti (y := nI (X i)) ((congrArg xs (nI_clamp (by omega))).trans ((hgr i (by omega)).2.2.1)) ?_
      refine lv_aload_n hx hb dX3_far_30 rfl (lv_at hl 0 rfl) ?_
      refine va_get (D := D) (ci := 2) (v := .ref g1) (C := RX3) (T := TX3) (N := 9) hx hb hts (by decide +kernel) hown hK.1 hP 0 rfl rfl 1 (by decide) (hts (.fieldLink RX3 18 "HomeRounds$Setting" "xs" "[I") (by decide +kernel)) (fun _ h9 => h9) rfl dX3_far_31 ?_
      refine lv_iload_n hx hb dX3_far_34 rfl (lv_at hl 2 rfl) ?_
      refine va_iald hx hb hK.1 hP 8 0 rfl rfl (vp_in_nI (by omega) (by omega)) dX3_far_35 ?_
      refine zr_ti (y := nI (X j)) ((congrArg xs (nI_clamp (by omega))).trans ((hgr j (by omega)).2.2.1)) ?_
      refine lv_isub hx hb dX3_far_36 ?_
      refine va_mabs hx hb (hml.trans hl.1.symm) hown (hts (.methodLink RX3 125 Lib.Math.abs.name) (by decide +kernel)) (hts (.static Lib.Math.abs.name) (by decide +kernel)) (hts (.initialized "java/lang/Math") (by decide +kernel)) (hts (.code Lib.Math.abs.name Lib.Math.abs.code 1 (some .int)) (by decide +kernel)) (Nat.le_of_ble_eq_true rfl) (Nat.le_of_ble_eq_true rfl) (Nat.zero_le _) (Nat.zero_le _) dX3_far_37 ?_
      refine zr_ti (y := nI (zm_ad (X i) (X j))) (zn_abs (by omega) (by omega)) ?_
      refine lv_aload_n hx hb dX3_far_40 rfl (lv_at hl 0 rfl) ?_
      refine va_get (D := D) (ci := 2) (v := .ref g2) (C := RX3) (T := TX3) (N := 9) hx hb hts (by decide +kernel) hown hK.1 hP 0 rfl rfl 2 (by decide) (hts (.fieldLink RX3 22 "HomeRounds$Setting" "ys" "[I") (by decide +kernel)) (fun _ h9 => h9) rfl dX3_far_41 ?_
      refine lv_iload_n hx hb dX3_far_44 rfl (lv_at hl 1 rfl) ?_
      refine va_iald hx hb hK.1 hP 9 0 rfl rfl (vp_in_nI (by omega) (by omega)) dX3_far_45 ?_
      refine zr_ti (y := nI (Y i)) ((congrArg ys (nI_clamp (by omega))).trans ((hgr i (by omega)).2.2.2)) ?_
      refine lv_aload_n hx hb dX3_far_46 rfl (lv_at hl 0 rfl) ?_
      refine va_get (D := D) (ci := 2) (v := .ref g2) (C := RX3) (T := TX3) (N := 9) hx hb hts (by decide +kernel) hown hK.1 hP 0 rfl rfl 2 (by decide) (hts (.fieldLink RX3 22 "HomeRounds$Setting" "ys" "[I") (by decide +kernel)) (fun _ h9 => h9) rfl dX3_far_47 ?_
      refine lv_iload_n hx hb dX3_far_50 rfl (lv_at hl 2 rfl) ?_
      refine va_iald hx hb hK.1 hP 9 0 rfl rfl (vp_in_nI (by omega) (by omega)) dX3_far_51 ?_
      refine zr_ti (y := nI (Y j)) ((congrArg ys (nI_clamp (by omega))).trans ((hgr j (by omega)).2.2.2)) ?_
      refine lv_isub hx hb dX3_far_52 ?_
      refine va_mabs hx hb (hml.trans hl.1.symm) hown (hts (.methodLink RX3 125 Lib.Math.abs.name) (by decide +kernel)) (hts (.static Lib.Math.abs.name) (by decide +kernel)) (hts (.initialized "java/lang/Math") (by decide +kernel)) (hts (.code Lib.Math.abs.name Lib.Math.abs.code 1 (some .int)) (by decide +kernel)) (Nat.le_of_ble_eq_true rfl) (Nat.le_of_ble_eq_true rfl) (Nat.zero_le _) (Nat.zero_le _) dX3_far_53 ?_
      refine zr_ti (y := nI (zm_ad (Y i) (Y j))) (zn_abs (by omega) (by omega)) ?_
      refine lv_iadd hx hb dX3_far_56 ?_
      refine zr_ti (y := nI ((zm_ad (X i) (X j)) + (zm_ad (Y i) (Y j)))) (nI_add _ _) ?_
      subst hQ
      exact W.iret (v := nI ((zm_ad (X i) (X j)) + (zm_ad (Y i) (Y j)))) hx hb hr (fun tz htz hWz => ⟨⟨nI ((zm_ad (X i) (X j)) + (zm_ad (Y i) (Y j))), (), rfl, rfl, trivial⟩, hS.F htz⟩) hS.2.2 dX3_far_57
    · skip
      exact absurd cn_6 (by decide)

set_option maxHeartbeats 4000000 in
set_option maxRecDepth 100000 in
theorem c_X3_wayOf (l : Launch) (D : va_G) (E : Nat → ClassId) (g0 : Nat) (g1 : Nat) (g2 : Nat) (g3 : Nat) (g4 : Nat) (g5 : Nat) (g6 : Nat) (g7 : Nat) (sk : Nat) (h0 : Nat) (h1 : Nat) (h2 : Nat) (h3 : Nat) (h4 : Nat) (h5 : Nat) (h6 : Nat) (N : Nat) (hm : Nat → Int32) (aw : Nat → Int32) (rv : Nat → Int32) (sd : Nat → Int32) (gm : Nat → Int32) (ca : Nat → Int32) (G : Nat → Nat → Nat) (P : Nat → Nat → Nat) (xs : Nat → Int32) (ys : Nat → Int32) (X : Nat → Nat) (Y : Nat → Nat) (t : Nat) (r : Nat) (hpl : zm_pl N G P hm aw rv sd gm) (hgr : zm_gr X Y xs ys) (ht : t < N) (hr0 : r < N - 1) : Met l yX3_wayOf wsX3_wayOf ({ frames := 2, cells := 0, slots := 0, locals := 45 }) (zr_P D E [.ref g0, .int (nI t), .int (nI r)] [(g0, .inr (2, [.ref h0, .ref g1, .ref g2, .ref g3, .ref g4, .int (nI sk), .ref g5, .ref g6, .ref g7])), (h0, .inr (0, [.int (nI N), .ref h1, .ref h2, .ref h3, .ref h4, .ref h5, .ref h6])), (h1, .inl (E 0, 15, .inl hm)), (h2, .inl (E 0, 15, .inl aw)), (h3, .inl (E 0, 30, .inl rv)), (h4, .inl (E 0, 30, .inl sd)), (h5, .inl (E 0, 30, .inl gm)), (h6, .inl (E 0, 36, .inl ca)), (g1, .inl (E 0, 6, .inl xs)), (g2, .inl (E 0, 6, .inl ys))]) (zr_Qi (fun zv => zv = nI (zm_way G P X Y t r))) 0 0 (fun _ => False) := by
  refine Met.ofW (cc := cX3_wayOf) (maxL := 3) (ret := (some .int)) (by decide) rfl ?_
  intro p e s m args below meth c s₁ Bz hml hv
  obtain ⟨rfl, hP, hK⟩ := hv
  have hx := Bz.exec
  have hb := Bz.bytes
  have hr := Bz.returns
  have hts := atoms_spec (ws := wsX3_wayOf) Bz.pre
  have hown : s.vm.findClass RX3 = some m.cls := findClass_of_methodNamed Bz.named
  have hlocks := Bz.notSynchronized
  have hP : va_P D vwCl [(g0, .inr (2, [.ref h0, .ref g1, .ref g2, .ref g3, .ref g4, .int (nI sk), .ref g5, .ref g6, .ref g7])), (h0, .inr (0, [.int (nI N), .ref h1, .ref h2, .ref h3, .ref h4, .ref h5, .ref h6])), (h1, .inl (E 0, 15, .inl hm)), (h2, .inl (E 0, 15, .inl aw)), (h3, .inl (E 0, 30, .inl rv)), (h4, .inl (E 0, 30, .inl sd)), (h5, .inl (E 0, 30, .inl gm)), (h6, .inl (E 0, 36, .inl ca)), (g1, .inl (E 0, 6, .inl xs)), (g2, .inl (E 0, 6, .inl ys))] s.heap := hP
  have hS : va_S (fun _ : Nat => False) s.heap s.heap [] := va_S.rf
  have hl := lv_entry ([.ref g0, .int (nI t), .int (nI r)]) (n := 3) (Nat.le_of_ble_eq_true rfl)
  rw [lg_entry_eq]
  generalize (lg_sl ([.ref g0, .int (nI t), .int (nI r)]) ++ List.replicate (3 - (lg_sl ([.ref g0, .int (nI t), .int (nI r)])).length) Slot.unset).toArray = ls at hl ⊢
  have hl : lv_has ls 3 [(0, .ref g0), (1, .int (nI t)), (2, .int (nI r))] := hl
  refine zr_nQ (fun Q hQ => ?_)
  have hN := hpl.1.1
  have hok := hpl.1
  have hh1 := zm_host_lt hok ht r (by omega)
  have hh2 := zm_host_lt hok ht (r + 1) (by omega)
  have hh0 := zm_host_lt hok ht 0 (by omega)
  refine lv_aload_n hx hb dX3_wayOf_0 rfl (lv_at hl 0 rfl) ?_
  refine lv_aload_n hx hb dX3_wayOf_1 rfl (lv_at hl 0 rfl) ?_
  refine va_get (D := D) (ci := 2) (v := .ref h0) (C := RX3) (T := TX3) (N := 9) hx hb hts (by decide +kernel) hown hK.1 hP 0 rfl rfl 0 (by decide) (hts (.fieldLink RX3 12 "HomeRounds$Setting" "plan" "LHomeRounds$Plan;") (by decide +kernel)) (fun _ h9 => h9) rfl dX3_wayOf_2 ?_
  refine lv_iload_n hx hb dX3_wayOf_5 rfl (lv_at hl 1 rfl) ?_
  refine lv_iload_n hx hb dX3_wayOf_6 rfl (lv_at hl 2 rfl) ?_
  refine lv_iconst (v := nI 1) hx hb dX3_wayOf_7 (by rfl) ?_
  refine lv_isub hx hb dX3_wayOf_8 ?_
  rcases Nat.lt_or_ge (r) (1) with hlt | hge
  · skip
    refine zr_ci hP hS (va_runV (As := [.int (nI t), .int ((nI r) - (nI 1))]) (rest := [.ref g0]) ⟨hx, hb, hml, hown, hts⟩ (c_X1_hostOf_n l D E h0 h1 h2 h3 h4 h5 h6 N hm aw rv sd gm ca G P t ((nI r) - (nI 1)) (hpl) (by omega) (pk_sneg (by omega) (by omega))) (cwV 2 hts gX3_wayOf_X1_hostOf rfl rfl rfl (by decide +kernel) ⟨Nat.le_of_ble_eq_true rfl, Nat.le_of_ble_eq_true rfl⟩) (zr_V hK (hP.sub (ws' := [(h0, .inr (0, [.int (nI N), .ref h1, .ref h2, .ref h3, .ref h4, .ref h5, .ref h6])), (h1, .inl (E 0, 15, .inl hm)), (h2, .inl (E 0, 15, .inl aw)), (h3, .inl (E 0, 30, .inl rv)), (h4, .inl (E 0, 30, .inl sd)), (h5, .inl (E 0, 30, .inl gm)), (h6, .inl (E 0, 36, .inl ca))]) [1, 2, 3, 4, 5, 6, 7] rfl) (ci := 0) (q0 := 0) rfl rfl) rfl rfl hl.1 rfl (lv_room (Nat.le_of_ble_eq_true rfl)) dX3_wayOf_9 ⟨Nat.zero_le _, Nat.zero_le _⟩) (fun r_1 H locs hw_2 hP hS => ?_)
    subst hw_2
    refine lv_aload_n hx hb dX3_wayOf_12 rfl (lv_at hl 0 rfl) ?_
    refine va_get (D := D) (ci := 2) (v := .ref h0) (C := RX3) (T := TX3) (N := 9) hx hb hts (by decide +kernel) hown hK.1 hP 0 rfl rfl 0 (by decide) (hts (.fieldLink RX3 12 "HomeRounds$Setting" "plan" "LHomeRounds$Plan;") (by decide +kernel)) (fun _ h9 => h9) rfl dX3_wayOf_13 ?_
    refine lv_iload_n hx hb dX3_wayOf_16 rfl (lv_at hl 1 rfl) ?_
    refine lv_iload_n hx hb dX3_wayOf_17 rfl (lv_at hl 2 rfl) ?_
    refine zr_ci hP hS (va_runV (As := [.int (nI t), .int (nI r)]) (rest := [.int (nI (zm_host G P t 0)), .ref g0]) ⟨hx, hb, hml, hown, hts⟩ (c_X1_hostOf l D E h0 h1 h2 h3 h4 h5 h6 N hm aw rv sd gm ca G P t r (hpl) (by omega) (by omega)) (cwV 2 hts gX3_wayOf_X1_hostOf rfl rfl rfl (by decide +kernel) ⟨Nat.le_of_ble_eq_true rfl, Nat.le_of_ble_eq_true rfl⟩) (zr_V hK (hP.sub (ws' := [(h0, .inr (0, [.int (nI N), .ref h1, .ref h2, .ref h3, .ref h4, .ref h5, .ref h6])), (h1, .inl (E 0, 15, .inl hm)), (h2, .inl (E 0, 15, .inl aw)), (h3, .inl (E 0, 30, .inl rv)), (h4, .inl (E 0, 30, .inl sd)), (h5, .inl (E 0, 30, .inl gm)), (h6, .inl (E 0, 36, .inl ca))]) [1, 2, 3, 4, 5, 6, 7] rfl) (ci := 0) (q0 := 0) rfl rfl) rfl rfl hl.1 rfl (lv_room (Nat.le_of_ble_eq_true rfl)) dX3_wayOf_18 ⟨Nat.zero_le _, Nat.zero_le _⟩) (fun r_3 H locs hw_4 hP hS => ?_)
    subst hw_4
    refine zr_ci hP hS (va_runV (As := [.int (nI (zm_host G P t 0)), .int (nI (zm_host G P t (r + 1)))]) (rest := []) ⟨hx, hb, hml, hown, hts⟩ (c_X3_far l D E g0 g1 g2 g3 g4 g5 g6 g7 sk h0 h1 h2 h3 h4 h5 h6 N hm aw rv sd gm ca G P xs ys X Y (zm_host G P t 0) (zm_host G P t (r + 1)) (hpl) (hgr) (by omega) (by omega)) (cwV 2 hts gX3_wayOf_X3_far rfl rfl rfl (by decide +kernel) ⟨Nat.le_of_ble_eq_true rfl, Nat.le_of_ble_eq_true rfl⟩) (zr_V hK (hP.sub (ws' := [(g0, .inr (2, [.ref h0, .ref g1, .ref g2, .ref g3, .ref g4, .int (nI sk), .ref g5, .ref g6, .ref g7])), (h0, .inr (0, [.int (nI N), .ref h1, .ref h2, .ref h3, .ref h4, .ref h5, .ref h6])), (h1, .inl (E 0, 15, .inl hm)), (h2, .inl (E 0, 15, .inl aw)), (h3, .inl (E 0, 30, .inl rv)), (h4, .inl (E 0, 30, .inl sd)), (h5, .inl (E 0, 30, .inl gm)), (h6, .inl (E 0, 36, .inl ca)), (g1, .inl (E 0, 6, .inl xs)), (g2, .inl (E 0, 6, .inl ys))]) [0, 1, 2, 3, 4, 5, 6, 7, 8, 9] rfl) (ci := 2) (q0 := 0) rfl rfl) rfl rfl hl.1 rfl (lv_room (Nat.le_of_ble_eq_true rfl)) dX3_wayOf_21 ⟨Nat.zero_le _, Nat.zero_le _⟩) (fun r_5 H locs hw_6 hP hS => ?_)
    subst hw_6
    subst hQ
    exact W.iret (v := nI (zm_far X Y (zm_host G P t 0) (zm_host G P t (r + 1)))) hx hb hr (fun tz htz hWz => ⟨⟨nI (zm_far X Y (zm_host G P t 0) (zm_host G P t (r + 1))), (), rfl, by show nI _ = nI (zm_way G P X Y t r); first | (rw [show r = 0 from by omega]; rfl) | (unfold zm_way; rw [Nat.sub_add_cancel hge]), trivial⟩, hS.F htz⟩) hS.2.2 dX3_wayOf_24
  · skip
    refine zr_ti (y := nI (r - 1)) (pk_sub hge) ?_
    refine zr_ci hP hS (va_runV (As := [.int (nI t), .int (nI (r - 1))]) (rest := [.ref g0]) ⟨hx, hb, hml, hown, hts⟩ (c_X1_hostOf l D E h0 h1 h2 h3 h4 h5 h6 N hm aw rv sd gm ca G P t (r - 1) (hpl) (by omega) (by omega)) (cwV 2 hts gX3_wayOf_X1_hostOf rfl rfl rfl (by decide +kernel) ⟨Nat.le_of_ble_eq_true rfl, Nat.le_of_ble_eq_true rfl⟩) (zr_V hK (hP.sub (ws' := [(h0, .inr (0, [.int (nI N), .ref h1, .ref h2, .ref h3, .ref h4, .ref h5, .ref h6])), (h1, .inl (E 0, 15, .inl hm)), (h2, .inl (E 0, 15, .inl aw)), (h3, .inl (E 0, 30, .inl rv)), (h4, .inl (E 0, 30, .inl sd)), (h5, .inl (E 0, 30, .inl gm)), (h6, .inl (E 0, 36, .inl ca))]) [1, 2, 3, 4, 5, 6, 7] rfl) (ci := 0) (q0 := 0) rfl rfl) rfl rfl hl.1 rfl (lv_room (Nat.le_of_ble_eq_true rfl)) dX3_wayOf_9 ⟨Nat.zero_le _, Nat.zero_le _⟩) (fun r_7 H locs hw_8 hP hS => ?_)
    subst hw_8
    have hh3 := zm_host_lt hok ht (r - 1 + 1) (by omega)
    refine lv_aload_n hx hb dX3_wayOf_12 rfl (lv_at hl 0 rfl) ?_
    refine va_get (D := D) (ci := 2) (v := .ref h0) (C := RX3) (T := TX3) (N := 9) hx hb hts (by decide +kernel) hown hK.1 hP 0 rfl rfl 0 (by decide) (hts (.fieldLink RX3 12 "HomeRounds$Setting" "plan" "LHomeRounds$Plan;") (by decide +kernel)) (fun _ h9 => h9) rfl dX3_wayOf_13 ?_
    refine lv_iload_n hx hb dX3_wayOf_16 rfl (lv_at hl 1 rfl) ?_
    refine lv_iload_n hx hb dX3_wayOf_17 rfl (lv_at hl 2 rfl) ?_
    refine zr_ci hP hS (va_runV (As := [.int (nI t), .int (nI r)]) (rest := [.int (nI (zm_host G P t ((r - 1) + 1))), .ref g0]) ⟨hx, hb, hml, hown, hts⟩ (c_X1_hostOf l D E h0 h1 h2 h3 h4 h5 h6 N hm aw rv sd gm ca G P t r (hpl) (by omega) (by omega)) (cwV 2 hts gX3_wayOf_X1_hostOf rfl rfl rfl (by decide +kernel) ⟨Nat.le_of_ble_eq_true rfl, Nat.le_of_ble_eq_true rfl⟩) (zr_V hK (hP.sub (ws' := [(h0, .inr (0, [.int (nI N), .ref h1, .ref h2, .ref h3, .ref h4, .ref h5, .ref h6])), (h1, .inl (E 0, 15, .inl hm)), (h2, .inl (E 0, 15, .inl aw)), (h3, .inl (E 0, 30, .inl rv)), (h4, .inl (E 0, 30, .inl sd)), (h5, .inl (E 0, 30, .inl gm)), (h6, .inl (E 0, 36, .inl ca))]) [1, 2, 3, 4, 5, 6, 7] rfl) (ci := 0) (q0 := 0) rfl rfl) rfl rfl hl.1 rfl (lv_room (Nat.le_of_ble_eq_true rfl)) dX3_wayOf_18 ⟨Nat.zero_le _, Nat.zero_le _⟩) (fun r_9 H locs hw_10 hP hS => ?_)
    subst hw_10
    refine zr_ci hP hS (va_runV (As := [.int (nI (zm_host G P t ((r - 1) + 1))), .int (nI (zm_host G P t (r + 1)))]) (rest := []) ⟨hx, hb, hml, hown, hts⟩ (c_X3_far l D E g0 g1 g2 g3 g4 g5 g6 g7 sk h0 h1 h2 h3 h4 h5 h6 N hm aw rv sd gm ca G P xs ys X Y (zm_host G P t ((r - 1) + 1)) (zm_host G P t (r + 1)) (hpl) (hgr) (by omega) (by omega)) (cwV 2 hts gX3_wayOf_X3_far rfl rfl rfl (by decide +kernel) ⟨Nat.le_of_ble_eq_true rfl, Nat.le_of_ble_eq_true rfl⟩) (zr_V hK (hP.sub (ws' := [(g0, .inr (2, [.ref h0, .ref g1, .ref g2, .ref g3, .ref g4, .int (nI sk), .ref g5, .ref g6, .ref g7])), (h0, .inr (0, [.int (nI N), .ref h1, .ref h2, .ref h3, .ref h4, .ref h5, .ref h6])), (h1, .inl (E 0, 15, .inl hm)), (h2, .inl (E 0, 15, .inl aw)), (h3, .inl (E 0, 30, .inl rv)), (h4, .inl (E 0, 30, .inl sd)), (h5, .inl (E 0, 30, .inl gm)), (h6, .inl (E 0, 36, .inl ca)), (g1, .inl (E 0, 6, .inl xs)), (g2, .inl (E 0, 6, .inl ys))]) [0, 1, 2, 3, 4, 5, 6, 7, 8, 9] rfl) (ci := 2) (q0 := 0) rfl rfl) rfl rfl hl.1 rfl (lv_room (Nat.le_of_ble_eq_true rfl)) dX3_wayOf_21 ⟨Nat.zero_le _, Nat.zero_le _⟩) (fun r_11 H locs hw_12 hP hS => ?_)
    subst hw_12
    subst hQ
    exact W.iret (v := nI (zm_far X Y (zm_host G P t ((r - 1) + 1)) (zm_host G P t (r + 1)))) hx hb hr (fun tz htz hWz => ⟨⟨nI (zm_far X Y (zm_host G P t ((r - 1) + 1)) (zm_host G P t (r + 1))), (), rfl, by show nI _ = nI (zm_way G P X Y t r); first | (rw [show r = 0 from by omega]; rfl) | (unfold zm_way; rw [Nat.sub_add_cancel hge]), trivial⟩, hS.F htz⟩) hS.2.2 dX3_wayOf_24

set_option maxHeartbeats 4000000 in
set_option maxRecDepth 100000 in
theorem c_X3_milesOf (l : Launch) (D : va_G) (E : Nat → ClassId) (g0 : Nat) (g1 : Nat) (g2 : Nat) (g3 : Nat) (g4 : Nat) (g5 : Nat) (g6 : Nat) (g7 : Nat) (sk : Nat) (h0 : Nat) (h1 : Nat) (h2 : Nat) (h3 : Nat) (h4 : Nat) (h5 : Nat) (h6 : Nat) (N : Nat) (hm : Nat → Int32) (aw : Nat → Int32) (rv : Nat → Int32) (sd : Nat → Int32) (gm : Nat → Int32) (ca : Nat → Int32) (G : Nat → Nat → Nat) (P : Nat → Nat → Nat) (xs : Nat → Int32) (ys : Nat → Int32) (X : Nat → Nat) (Y : Nat → Nat) (t : Nat) (hpl : zm_pl N G P hm aw rv sd gm) (hgr : zm_gr X Y xs ys) (ht : t < N) : Met l yX3_milesOf wsX3_milesOf ({ frames := 2, cells := 0, slots := 0, locals := 45 }) (zr_P D E [.ref g0, .int (nI t)] [(g0, .inr (2, [.ref h0, .ref g1, .ref g2, .ref g3, .ref g4, .int (nI sk), .ref g5, .ref g6, .ref g7])), (h0, .inr (0, [.int (nI N), .ref h1, .ref h2, .ref h3, .ref h4, .ref h5, .ref h6])), (h1, .inl (E 0, 15, .inl hm)), (h2, .inl (E 0, 15, .inl aw)), (h3, .inl (E 0, 30, .inl rv)), (h4, .inl (E 0, 30, .inl sd)), (h5, .inl (E 0, 30, .inl gm)), (h6, .inl (E 0, 36, .inl ca)), (g1, .inl (E 0, 6, .inl xs)), (g2, .inl (E 0, 6, .inl ys))]) (zr_Qi (fun zv => zv = nI (zm_miles N G P X Y t))) 0 0 (fun _ => False) := by
  refine Met.ofW (cc := cX3_milesOf) (maxL := 6) (ret := (some .int)) (by decide) rfl ?_
  intro p e s m args below meth c s₁ Bz hml hv
  obtain ⟨rfl, hP, hK⟩ := hv
  have hx := Bz.exec
  have hb := Bz.bytes
  have hr := Bz.returns
  have hts := atoms_spec (ws := wsX3_milesOf) Bz.pre
  have hown : s.vm.findClass RX3 = some m.cls := findClass_of_methodNamed Bz.named
  have hlocks := Bz.notSynchronized
  have hP : va_P D vwCl [(g0, .inr (2, [.ref h0, .ref g1, .ref g2, .ref g3, .ref g4, .int (nI sk), .ref g5, .ref g6, .ref g7])), (h0, .inr (0, [.int (nI N), .ref h1, .ref h2, .ref h3, .ref h4, .ref h5, .ref h6])), (h1, .inl (E 0, 15, .inl hm)), (h2, .inl (E 0, 15, .inl aw)), (h3, .inl (E 0, 30, .inl rv)), (h4, .inl (E 0, 30, .inl sd)), (h5, .inl (E 0, 30, .inl gm)), (h6, .inl (E 0, 36, .inl ca)), (g1, .inl (E 0, 6, .inl xs)), (g2, .inl (E 0, 6, .inl ys))] s.heap := hP
  have hS : va_S (fun _ : Nat => False) s.heap s.heap [] := va_S.rf
  have hl := lv_entry ([.ref g0, .int (nI t)]) (n := 6) (Nat.le_of_ble_eq_true rfl)
  rw [lg_entry_eq]
  generalize (lg_sl ([.ref g0, .int (nI t)]) ++ List.replicate (6 - (lg_sl ([.ref g0, .int (nI t)])).length) Slot.unset).toArray = ls at hl ⊢
  have hl : lv_has ls 6 [(0, .ref g0), (1, .int (nI t))] := hl
  refine zr_nQ (fun Q hQ => ?_)
  have hN := hpl.1.1
  have hok := hpl.1
  refine lv_iconst (v := nI 0) hx hb dX3_milesOf_0 (by rfl) ?_
  refine lv_istore_n (lv' := [(2, .int (nI 0)), (0, .ref g0), (1, .int (nI t))]) hx hb dX3_milesOf_1 rfl hl (by decide) rfl (fun ls hl => ?_)
  refine lv_iload_n hx hb dX3_milesOf_2 rfl (lv_at hl 2 rfl) ?_
  refine lv_istore_n (lv' := [(3, .int (nI t)), (2, .int (nI 0)), (0, .ref g0), (1, .int (nI t))]) hx hb dX3_milesOf_3 rfl hl (by decide) rfl (fun ls hl => ?_)
  refine lv_iconst (v := nI 0) hx hb dX3_milesOf_4 (by rfl) ?_
  refine lv_istore (lv' := [(4, .int (nI 0)), (3, .int (nI t)), (2, .int (nI 0)), (0, .ref g0), (1, .int (nI t))]) hx hb dX3_milesOf_5 hl (by decide) rfl (fun ls hl => ?_)
  suffices KL7 : ∀ (kz : Nat) (i : Nat) (q : Nat) (H : Heap) (locs : List Loc) (ls : Array Slot), (N - i) < kz → (q = zm_sum (zm_way G P X Y t) i) → (i ≤ N - 1) → va_P D vwCl [(g0, .inr (2, [.ref h0, .ref g1, .ref g2, .ref g3, .ref g4, .int (nI sk), .ref g5, .ref g6, .ref g7])), (h0, .inr (0, [.int (nI N), .ref h1, .ref h2, .ref h3, .ref h4, .ref h5, .ref h6])), (h1, .inl (E 0, 15, .inl hm)), (h2, .inl (E 0, 15, .inl aw)), (h3, .inl (E 0, 30, .inl rv)), (h4, .inl (E 0, 30, .inl sd)), (h5, .inl (E 0, 30, .inl gm)), (h6, .inl (E 0, 36, .inl ca)), (g1, .inl (E 0, 6, .inl xs)), (g2, .inl (E 0, 6, .inl ys))] H → va_S (fun _ : Nat => False) s.heap H locs → lv_has ls 6 [(0, .ref g0), (1, .int (nI t)), (2, .int (nI q)), (3, .int (nI (zm_host G P t i))), (4, .int (nI i))] → W p l e (headSpec wsX3_milesOf ({ frames := 2, cells := 0, slots := 0, locals := 45 })).room s m ([.ref g0, .int (nI t)] : List Value).toArray below meth c H locs 0 0 Q (F0 m 7 ls []) from
    KL7 _ 0 0 _ _ ls (Nat.lt_succ_self _) (rfl) (by omega) hP hS (lv_sub hl [3, 4, 2, 1, 0] rfl)
  clear hP hS hl
  intro kz
  induction kz with
  | zero => intro i q H locs ls hkz; exact absurd hkz (Nat.not_lt_zero _)
  | succ kz ih7 =>
    intro i q H locs ls hkz hq hi hP hS hl
    have hh1 := zm_host_lt hok ht i (by omega)
    refine lv_iload hx hb dX3_milesOf_7 (lv_at hl 4 rfl) ?_
    refine lv_aload_n hx hb dX3_milesOf_9 rfl (lv_at hl 0 rfl) ?_
    refine va_get (D := D) (ci := 2) (v := .ref h0) (C := RX3) (T := TX3) (N := 9) hx hb hts (by decide +kernel) hown hK.1 hP 0 rfl rfl 0 (by decide) (hts (.fieldLink RX3 12 "HomeRounds$Setting" "plan" "LHomeRounds$Plan;") (by decide +kernel)) (fun _ h9 => h9) rfl dX3_milesOf_10 ?_
    refine va_get (D := D) (ci := 0) (v := .int (nI N)) (C := RX1) (T := TX1) (N := 7) hx hb hts (by decide +kernel) hown hK.1 hP 1 rfl rfl 0 (by decide) (hts (.fieldLink RX3 105 "HomeRounds$Plan" "n" "I") (by decide +kernel)) (fun _ h9 => h9) rfl dX3_milesOf_13 ?_
    refine lv_iconst (v := nI 1) hx hb dX3_milesOf_16 (by rfl) ?_
    refine lv_isub hx hb dX3_milesOf_17 ?_
    refine zr_ti (y := nI (N - 1)) (pk_sub (by omega)) ?_
    refine lv_icmp_ge (tgt := 52) hx hb dX3_milesOf_18 (by decide) (fun cn_1 => ?_) (fun cn_1 => ?_)
    · skip
      have cn_1 : N - 1 ≤ i := (nI_leI (a := N - 1) (b := i) (by omega) (by omega)).mp cn_1
      have hie : i = N - 1 := by omega
      refine lv_iload_n hx hb dX3_milesOf_52 rfl (lv_at hl 2 rfl) ?_
      refine lv_aload_n hx hb dX3_milesOf_53 rfl (lv_at hl 0 rfl) ?_
      refine lv_iload_n hx hb dX3_milesOf_54 rfl (lv_at hl 3 rfl) ?_
      refine lv_iload_n hx hb dX3_milesOf_55 rfl (lv_at hl 1 rfl) ?_
      refine zr_ci hP hS (va_runV (As := [.int (nI (zm_host G P t i)), .int (nI t)]) (rest := [.int (nI q)]) ⟨hx, hb, hml, hown, hts⟩ (c_X3_far l D E g0 g1 g2 g3 g4 g5 g6 g7 sk h0 h1 h2 h3 h4 h5 h6 N hm aw rv sd gm ca G P xs ys X Y (zm_host G P t i) t (hpl) (hgr) (by omega) (by omega)) (cwV 2 hts gX3_milesOf_X3_far rfl rfl rfl (by decide +kernel) ⟨Nat.le_of_ble_eq_true rfl, Nat.le_of_ble_eq_true rfl⟩) (zr_V hK (hP.sub (ws' := [(g0, .inr (2, [.ref h0, .ref g1, .ref g2, .ref g3, .ref g4, .int (nI sk), .ref g5, .ref g6, .ref g7])), (h0, .inr (0, [.int (nI N), .ref h1, .ref h2, .ref h3, .ref h4, .ref h5, .ref h6])), (h1, .inl (E 0, 15, .inl hm)), (h2, .inl (E 0, 15, .inl aw)), (h3, .inl (E 0, 30, .inl rv)), (h4, .inl (E 0, 30, .inl sd)), (h5, .inl (E 0, 30, .inl gm)), (h6, .inl (E 0, 36, .inl ca)), (g1, .inl (E 0, 6, .inl xs)), (g2, .inl (E 0, 6, .inl ys))]) [0, 1, 2, 3, 4, 5, 6, 7, 8, 9] rfl) (ci := 2) (q0 := 0) rfl rfl) rfl rfl hl.1 rfl (lv_room (Nat.le_of_ble_eq_true rfl)) dX3_milesOf_56 ⟨Nat.zero_le _, Nat.zero_le _⟩) (fun r_2 H locs hw_3 hP hS => ?_)
      subst hw_3
      refine lv_iadd hx hb dX3_milesOf_59 ?_
      refine zr_ti (y := nI (q + (zm_far X Y (zm_host G P t i) t))) (nI_add _ _) ?_
      subst hQ
      exact W.iret (v := nI (q + (zm_far X Y (zm_host G P t i) t))) hx hb hr (fun tz htz hWz => ⟨⟨nI (q + (zm_far X Y (zm_host G P t i) t)), (), rfl, by rw [hq, hie]; exact congrArg nI (Nat.add_comm _ _), trivial⟩, hS.F htz⟩) hS.2.2 dX3_milesOf_60
    · skip
      have cn_1 : ¬ (N - 1 ≤ i) := fun hz => cn_1 ((nI_leI (a := N - 1) (b := i) (by omega) (by omega)).mpr hz)
      have hh2 := zm_host_lt hok ht (i + 1) (by omega)
      refine lv_aload_n hx hb dX3_milesOf_21 rfl (lv_at hl 0 rfl) ?_
      refine va_get (D := D) (ci := 2) (v := .ref h0) (C := RX3) (T := TX3) (N := 9) hx hb hts (by decide +kernel) hown hK.1 hP 0 rfl rfl 0 (by decide) (hts (.fieldLink RX3 12 "HomeRounds$Setting" "plan" "LHomeRounds$Plan;") (by decide +kernel)) (fun _ h9 => h9) rfl dX3_milesOf_22 ?_
      refine lv_iload_n hx hb dX3_milesOf_25 rfl (lv_at hl 1 rfl) ?_
      refine lv_iload hx hb dX3_milesOf_26 (lv_at hl 4 rfl) ?_
      refine zr_ci hP hS (va_runV (As := [.int (nI t), .int (nI i)]) (rest := []) ⟨hx, hb, hml, hown, hts⟩ (c_X1_hostOf l D E h0 h1 h2 h3 h4 h5 h6 N hm aw rv sd gm ca G P t i (hpl) (by omega) (by omega)) (cwV 2 hts gX3_milesOf_X1_hostOf rfl rfl rfl (by decide +kernel) ⟨Nat.le_of_ble_eq_true rfl, Nat.le_of_ble_eq_true rfl⟩) (zr_V hK (hP.sub (ws' := [(h0, .inr (0, [.int (nI N), .ref h1, .ref h2, .ref h3, .ref h4, .ref h5, .ref h6])), (h1, .inl (E 0, 15, .inl hm)), (h2, .inl (E 0, 15, .inl aw)), (h3, .inl (E 0, 30, .inl rv)), (h4, .inl (E 0, 30, .inl sd)), (h5, .inl (E 0, 30, .inl gm)), (h6, .inl (E 0, 36, .inl ca))]) [1, 2, 3, 4, 5, 6, 7] rfl) (ci := 0) (q0 := 0) rfl rfl) rfl rfl hl.1 rfl (lv_room (Nat.le_of_ble_eq_true rfl)) dX3_milesOf_28 ⟨Nat.zero_le _, Nat.zero_le _⟩) (fun r_4 H locs hw_5 hP hS => ?_)
      subst hw_5
      refine lv_istore (lv' := [(5, .int (nI (zm_host G P t (i + 1)))), (0, .ref g0), (1, .int (nI t)), (2, .int (nI q)), (3, .int (nI (zm_host G P t i))), (4, .int (nI i))]) hx hb dX3_milesOf_31 hl (by decide) rfl (fun ls hl => ?_)
      refine lv_iload_n hx hb dX3_milesOf_33 rfl (lv_at hl 3 rfl) ?_
      refine lv_aload_n hx hb dX3_milesOf_34 rfl (lv_at hl 1 rfl) ?_
      refine lv_iload_n hx hb dX3_milesOf_35 rfl (lv_at hl 4 rfl) ?_
      refine lv_iload hx hb dX3_milesOf_36 (lv_at hl 0 rfl) ?_
      refine zr_ci hP hS (va_runV (As := [.int (nI (zm_host G P t i)), .int (nI (zm_host G P t (i + 1)))]) (rest := [.int (nI q)]) ⟨hx, hb, hml, hown, hts⟩ (c_X3_far l D E g0 g1 g2 g3 g4 g5 g6 g7 sk h0 h1 h2 h3 h4 h5 h6 N hm aw rv sd gm ca G P xs ys X Y (zm_host G P t i) (zm_host G P t (i + 1)) (hpl) (hgr) (by omega) (by omega)) (cwV 2 hts gX3_milesOf_X3_far rfl rfl rfl (by decide +kernel) ⟨Nat.le_of_ble_eq_true rfl, Nat.le_of_ble_eq_true rfl⟩) (zr_V hK (hP.sub (ws' := [(g0, .inr (2, [.ref h0, .ref g1, .ref g2, .ref g3, .ref g4, .int (nI sk), .ref g5, .ref g6, .ref g7])), (h0, .inr (0, [.int (nI N), .ref h1, .ref h2, .ref h3, .ref h4, .ref h5, .ref h6])), (h1, .inl (E 0, 15, .inl hm)), (h2, .inl (E 0, 15, .inl aw)), (h3, .inl (E 0, 30, .inl rv)), (h4, .inl (E 0, 30, .inl sd)), (h5, .inl (E 0, 30, .inl gm)), (h6, .inl (E 0, 36, .inl ca)), (g1, .inl (E 0, 6, .inl xs)), (g2, .inl (E 0, 6, .inl ys))]) [0, 1, 2, 3, 4, 5, 6, 7, 8, 9] rfl) (ci := 2) (q0 := 0) rfl rfl) rfl rfl hl.1 rfl (lv_room (Nat.le_of_ble_eq_true rfl)) dX3_milesOf_38 ⟨Nat.zero_le _, Nat.zero_le _⟩) (fun r_6 H locs hw_7 hP hS => ?_)
      subst hw_7
      refine lv_iadd hx hb dX3_milesOf_41 ?_
      refine zr_ti (y := nI (q + (zm_far X Y (zm_host G P t i) (zm_host G P t (i + 1))))) (nI_add _ _) ?_
      refine lv_istore_n (lv' := [(2, .int (nI (q + (zm_far X Y (zm_host G P t i) (zm_host G P t (i + 1)))))), (5, .int (nI (zm_host G P t (i + 1)))), (0, .ref g0), (1, .int (nI t)), (3, .int (nI (zm_host G P t i))), (4, .int (nI i))]) hx hb dX3_milesOf_42 rfl hl (by decide) rfl (fun ls hl => ?_)
      refine lv_iload hx hb dX3_milesOf_43 (lv_at hl 1 rfl) ?_
      refine lv_istore_n (lv' := [(3, .int (nI (zm_host G P t (i + 1)))), (2, .int (nI (q + (zm_far X Y (zm_host G P t i) (zm_host G P t (i + 1)))))), (5, .int (nI (zm_host G P t (i + 1)))), (0, .ref g0), (1, .int (nI t)), (4, .int (nI i))]) hx hb dX3_milesOf_45 rfl hl (by decide) rfl (fun ls hl => ?_)
      refine lv_iinc (v := nI (i + 1)) (lv' := [(4, .int (nI (i + 1))), (3, .int (nI (zm_host G P t (i + 1)))), (2, .int (nI (q + (zm_far X Y (zm_host G P t i) (zm_host G P t (i + 1)))))), (5, .int (nI (zm_host G P t (i + 1)))), (0, .ref g0), (1, .int (nI t))]) hx hb dX3_milesOf_46 hl (k := 5) rfl (nI_add _ _) (by decide) rfl (fun ls hl => ?_)
      refine lv_goto (tgt := 7) hx hb dX3_milesOf_49 (by decide) ?_
      have hl : lv_has ls 6 [(0, .ref g0), (1, .int (nI t)), (2, .int (nI (q + (zm_far X Y (zm_host G P t i) (zm_host G P t (i + 1)))))), (3, .int (nI (zm_host G P t (i + 1)))), (4, .int (nI (i + 1)))] := lv_sub hl [4, 5, 2, 1, 0] rfl
      exact ih7 (i + 1) (q + (zm_far X Y (zm_host G P t i) (zm_host G P t (i + 1)))) H locs ls (by omega) (by rw [hq]; rfl) (by omega) hP hS hl

set_option maxHeartbeats 4000000 in
set_option maxRecDepth 100000 in
theorem c_X3_allMiles (l : Launch) (D : va_G) (E : Nat → ClassId) (g0 : Nat) (g1 : Nat) (g2 : Nat) (g3 : Nat) (g4 : Nat) (g5 : Nat) (g6 : Nat) (g7 : Nat) (sk : Nat) (h0 : Nat) (h1 : Nat) (h2 : Nat) (h3 : Nat) (h4 : Nat) (h5 : Nat) (h6 : Nat) (N : Nat) (hm : Nat → Int32) (aw : Nat → Int32) (rv : Nat → Int32) (sd : Nat → Int32) (gm : Nat → Int32) (ca : Nat → Int32) (G : Nat → Nat → Nat) (P : Nat → Nat → Nat) (xs : Nat → Int32) (ys : Nat → Int32) (X : Nat → Nat) (Y : Nat → Nat) (hpl : zm_pl N G P hm aw rv sd gm) (hgr : zm_gr X Y xs ys) : Met l yX3_allMiles wsX3_allMiles ({ frames := 3, cells := 0, slots := 0, locals := 70 }) (zr_P D E [.ref g0] [(g0, .inr (2, [.ref h0, .ref g1, .ref g2, .ref g3, .ref g4, .int (nI sk), .ref g5, .ref g6, .ref g7])), (h0, .inr (0, [.int (nI N), .ref h1, .ref h2, .ref h3, .ref h4, .ref h5, .ref h6])), (h1, .inl (E 0, 15, .inl hm)), (h2, .inl (E 0, 15, .inl aw)), (h3, .inl (E 0, 30, .inl rv)), (h4, .inl (E 0, 30, .inl sd)), (h5, .inl (E 0, 30, .inl gm)), (h6, .inl (E 0, 36, .inl ca)), (g1, .inl (E 0, 6, .inl xs)), (g2, .inl (E 0, 6, .inl ys))]) (zr_Qi (fun zv => zv = nI (zm_amiles N G P X Y))) 0 0 (fun _ => False) := by
  refine Met.ofW (cc := cX3_allMiles) (maxL := 3) (ret := (some .int)) (by decide) rfl ?_
  intro p e s m args below meth c s₁ Bz hml hv
  obtain ⟨rfl, hP, hK⟩ := hv
  have hx := Bz.exec
  have hb := Bz.bytes
  have hr := Bz.returns
  have hts := atoms_spec (ws := wsX3_allMiles) Bz.pre
  have hown : s.vm.findClass RX3 = some m.cls := findClass_of_methodNamed Bz.named
  have hlocks := Bz.notSynchronized
  have hP : va_P D vwCl [(g0, .inr (2, [.ref h0, .ref g1, .ref g2, .ref g3, .ref g4, .int (nI sk), .ref g5, .ref g6, .ref g7])), (h0, .inr (0, [.int (nI N), .ref h1, .ref h2, .ref h3, .ref h4, .ref h5, .ref h6])), (h1, .inl (E 0, 15, .inl hm)), (h2, .inl (E 0, 15, .inl aw)), (h3, .inl (E 0, 30, .inl rv)), (h4, .inl (E 0, 30, .inl sd)), (h5, .inl (E 0, 30, .inl gm)), (h6, .inl (E 0, 36, .inl ca)), (g1, .inl (E 0, 6, .inl xs)), (g2, .inl (E 0, 6, .inl ys))] s.heap := hP
  have hS : va_S (fun _ : Nat => False) s.heap s.heap [] := va_S.rf
  have hl := lv_entry ([.ref g0]) (n := 3) (Nat.le_of_ble_eq_true rfl)
  rw [lg_entry_eq]
  generalize (lg_sl ([.ref g0]) ++ List.replicate (3 - (lg_sl ([.ref g0])).length) Slot.unset).toArray = ls at hl ⊢
  have hl : lv_has ls 3 [(0, .ref g0)] := hl
  refine zr_nQ (fun Q hQ => ?_)
  have hN := hpl.1.1
  have hok := hpl.1
  refine lv_iconst (v := nI 0) hx hb dX3_allMiles_0 (by rfl) ?_
  refine lv_istore_n (lv' := [(1, .int (nI 0)), (0, .ref g0)]) hx hb dX3_allMiles_1 rfl hl (by decide) rfl (fun ls hl => ?_)
  refine lv_iconst (v := nI 0) hx hb dX3_allMiles_2 (by rfl) ?_
  refine lv_istore_n (lv' := [(2, .int (nI 0)), (1, .int (nI 0)), (0, .ref g0)]) hx hb dX3_allMiles_3 rfl hl (by decide) rfl (fun ls hl => ?_)
  suffices KL4 : ∀ (kz : Nat) (i : Nat) (q : Nat) (H : Heap) (locs : List Loc) (ls : Array Slot), (N - i) < kz → (q = zm_sum (zm_miles N G P X Y) i) → (i ≤ N) → va_P D vwCl [(g0, .inr (2, [.ref h0, .ref g1, .ref g2, .ref g3, .ref g4, .int (nI sk), .ref g5, .ref g6, .ref g7])), (h0, .inr (0, [.int (nI N), .ref h1, .ref h2, .ref h3, .ref h4, .ref h5, .ref h6])), (h1, .inl (E 0, 15, .inl hm)), (h2, .inl (E 0, 15, .inl aw)), (h3, .inl (E 0, 30, .inl rv)), (h4, .inl (E 0, 30, .inl sd)), (h5, .inl (E 0, 30, .inl gm)), (h6, .inl (E 0, 36, .inl ca)), (g1, .inl (E 0, 6, .inl xs)), (g2, .inl (E 0, 6, .inl ys))] H → va_S (fun _ : Nat => False) s.heap H locs → lv_has ls 3 [(0, .ref g0), (1, .int (nI q)), (2, .int (nI i))] → W p l e (headSpec wsX3_allMiles ({ frames := 3, cells := 0, slots := 0, locals := 70 })).room s m ([.ref g0] : List Value).toArray below meth c H locs 0 0 Q (F0 m 4 ls []) from
    KL4 _ 0 0 _ _ ls (Nat.lt_succ_self _) (rfl) (by omega) hP hS (lv_sub hl [2, 1, 0] rfl)
  clear hP hS hl
  intro kz
  induction kz with
  | zero => intro i q H locs ls hkz; exact absurd hkz (Nat.not_lt_zero _)
  | succ kz ih4 =>
    intro i q H locs ls hkz hq hi hP hS hl
    refine lv_iload_n hx hb dX3_allMiles_4 rfl (lv_at hl 2 rfl) ?_
    refine lv_aload_n hx hb dX3_allMiles_5 rfl (lv_at hl 0 rfl) ?_
    refine va_get (D := D) (ci := 2) (v := .ref h0) (C := RX3) (T := TX3) (N := 9) hx hb hts (by decide +kernel) hown hK.1 hP 0 rfl rfl 0 (by decide) (hts (.fieldLink RX3 12 "HomeRounds$Setting" "plan" "LHomeRounds$Plan;") (by decide +kernel)) (fun _ h9 => h9) rfl dX3_allMiles_6 ?_
    refine va_get (D := D) (ci := 0) (v := .int (nI N)) (C := RX1) (T := TX1) (N := 7) hx hb hts (by decide +kernel) hown hK.1 hP 1 rfl rfl 0 (by decide) (hts (.fieldLink RX3 105 "HomeRounds$Plan" "n" "I") (by decide +kernel)) (fun _ h9 => h9) rfl dX3_allMiles_9 ?_
    refine lv_icmp_ge (tgt := 29) hx hb dX3_allMiles_12 (by decide) (fun cn_1 => ?_) (fun cn_1 => ?_)
    · skip
      have cn_1 : N ≤ i := (nI_leI (a := N) (b := i) (by omega) (by omega)).mp cn_1
      have hie : i = N := by omega
      refine lv_iload_n hx hb dX3_allMiles_29 rfl (lv_at hl 1 rfl) ?_
      subst hQ
      exact W.iret (v := nI q) hx hb hr (fun tz htz hWz => ⟨⟨nI q, (), rfl, by rw [hq, hie]; rfl, trivial⟩, hS.F htz⟩) hS.2.2 dX3_allMiles_30
    · skip
      have cn_1 : ¬ (N ≤ i) := fun hz => cn_1 ((nI_leI (a := N) (b := i) (by omega) (by omega)).mpr hz)
      refine lv_iload_n hx hb dX3_allMiles_15 rfl (lv_at hl 1 rfl) ?_
      refine lv_aload_n hx hb dX3_allMiles_16 rfl (lv_at hl 0 rfl) ?_
      refine lv_iload_n hx hb dX3_allMiles_17 rfl (lv_at hl 2 rfl) ?_
      refine zr_ci hP hS (va_runV (As := [.int (nI i)]) (rest := [.int (nI q)]) ⟨hx, hb, hml, hown, hts⟩ (c_X3_milesOf l D E g0 g1 g2 g3 g4 g5 g6 g7 sk h0 h1 h2 h3 h4 h5 h6 N hm aw rv sd gm ca G P xs ys X Y i (hpl) (hgr) (by omega)) (cwV 1 hts gX3_allMiles_X3_milesOf rfl rfl rfl (by decide +kernel) ⟨Nat.le_of_ble_eq_true rfl, Nat.le_of_ble_eq_true rfl⟩) (zr_V hK (hP.sub (ws' := [(g0, .inr (2, [.ref h0, .ref g1, .ref g2, .ref g3, .ref g4, .int (nI sk), .ref g5, .ref g6, .ref g7])), (h0, .inr (0, [.int (nI N), .ref h1, .ref h2, .ref h3, .ref h4, .ref h5, .ref h6])), (h1, .inl (E 0, 15, .inl hm)), (h2, .inl (E 0, 15, .inl aw)), (h3, .inl (E 0, 30, .inl rv)), (h4, .inl (E 0, 30, .inl sd)), (h5, .inl (E 0, 30, .inl gm)), (h6, .inl (E 0, 36, .inl ca)), (g1, .inl (E 0, 6, .inl xs)), (g2, .inl (E 0, 6, .inl ys))]) [0, 1, 2, 3, 4, 5, 6, 7, 8, 9] rfl) (ci := 2) (q0 := 0) rfl rfl) rfl rfl hl.1 rfl (lv_room (Nat.le_of_ble_eq_true rfl)) dX3_allMiles_18 ⟨Nat.zero_le _, Nat.zero_le _⟩) (fun r_2 H locs hw_3 hP hS => ?_)
      subst hw_3
      refine lv_iadd hx hb dX3_allMiles_21 ?_
      refine zr_ti (y := nI (q + (zm_miles N G P X Y i))) (nI_add _ _) ?_
      refine lv_istore_n (lv' := [(1, .int (nI (q + (zm_miles N G P X Y i)))), (0, .ref g0), (2, .int (nI i))]) hx hb dX3_allMiles_22 rfl hl (by decide) rfl (fun ls hl => ?_)
      refine lv_iinc (v := nI (i + 1)) (lv' := [(2, .int (nI (i + 1))), (1, .int (nI (q + (zm_miles N G P X Y i)))), (0, .ref g0)]) hx hb dX3_allMiles_23 hl (k := 2) rfl (nI_add _ _) (by decide) rfl (fun ls hl => ?_)
      refine lv_goto (tgt := 4) hx hb dX3_allMiles_26 (by decide) ?_
      have hl : lv_has ls 3 [(0, .ref g0), (1, .int (nI (q + (zm_miles N G P X Y i)))), (2, .int (nI (i + 1)))] := lv_sub hl [2, 1, 0] rfl
      exact ih4 (i + 1) (q + (zm_miles N G P X Y i)) H locs ls (by omega) (by rw [hq]; rfl) (by omega) hP hS hl

set_option maxHeartbeats 4000000 in
set_option maxRecDepth 100000 in
theorem c_X3_isBarred (l : Launch) (D : va_G) (E : Nat → ClassId) (g0 : Nat) (g1 : Nat) (g2 : Nat) (g3 : Nat) (g4 : Nat) (g5 : Nat) (g6 : Nat) (g7 : Nat) (sk : Nat) (h0 : Nat) (h1 : Nat) (h2 : Nat) (h3 : Nat) (h4 : Nat) (h5 : Nat) (h6 : Nat) (N : Nat) (hm : Nat → Int32) (aw : Nat → Int32) (rv : Nat → Int32) (sd : Nat → Int32) (gm : Nat → Int32) (ca : Nat → Int32) (G : Nat → Nat → Nat) (P : Nat → Nat → Nat) (bz : Nat → Int32) (B : Nat → Nat → Nat) (t : Nat) (r : Nat) (hpl : zm_pl N G P hm aw rv sd gm) (hbz : zm_bz B bz) (ht : t < N) (hr0 : r < N - 1) : Met l yX3_isBarred wsX3_isBarred ({ frames := 1, cells := 0, slots := 0, locals := 22 }) (zr_P D E [.ref g0, .int (nI t), .int (nI r)] [(g0, .inr (2, [.ref h0, .ref g1, .ref g2, .ref g3, .ref g4, .int (nI sk), .ref g5, .ref g6, .ref g7])), (h0, .inr (0, [.int (nI N), .ref h1, .ref h2, .ref h3, .ref h4, .ref h5, .ref h6])), (h1, .inl (E 0, 15, .inl hm)), (h2, .inl (E 0, 15, .inl aw)), (h3, .inl (E 0, 30, .inl rv)), (h4, .inl (E 0, 30, .inl sd)), (h5, .inl (E 0, 30, .inl gm)), (h6, .inl (E 0, 36, .inl ca)), (g3, .inl (E 1, 30, .inl bz))]) (zr_Qi (fun zv => zv = nI (B t r))) 0 0 (fun _ => False) := by
  refine Met.ofW (cc := cX3_isBarred) (maxL := 3) (ret := (some .boolean)) (by decide) rfl ?_
  intro p e s m args below meth c s₁ Bz hml hv
  obtain ⟨rfl, hP, hK⟩ := hv
  have hx := Bz.exec
  have hb := Bz.bytes
  have hr := Bz.returns
  have hts := atoms_spec (ws := wsX3_isBarred) Bz.pre
  have hown : s.vm.findClass RX3 = some m.cls := findClass_of_methodNamed Bz.named
  have hlocks := Bz.notSynchronized
  have hP : va_P D vwCl [(g0, .inr (2, [.ref h0, .ref g1, .ref g2, .ref g3, .ref g4, .int (nI sk), .ref g5, .ref g6, .ref g7])), (h0, .inr (0, [.int (nI N), .ref h1, .ref h2, .ref h3, .ref h4, .ref h5, .ref h6])), (h1, .inl (E 0, 15, .inl hm)), (h2, .inl (E 0, 15, .inl aw)), (h3, .inl (E 0, 30, .inl rv)), (h4, .inl (E 0, 30, .inl sd)), (h5, .inl (E 0, 30, .inl gm)), (h6, .inl (E 0, 36, .inl ca)), (g3, .inl (E 1, 30, .inl bz))] s.heap := hP
  have hS : va_S (fun _ : Nat => False) s.heap s.heap [] := va_S.rf
  have hl := lv_entry ([.ref g0, .int (nI t), .int (nI r)]) (n := 3) (Nat.le_of_ble_eq_true rfl)
  rw [lg_entry_eq]
  generalize (lg_sl ([.ref g0, .int (nI t), .int (nI r)]) ++ List.replicate (3 - (lg_sl ([.ref g0, .int (nI t), .int (nI r)])).length) Slot.unset).toArray = ls at hl ⊢
  have hl : lv_has ls 3 [(0, .ref g0), (1, .int (nI t)), (2, .int (nI r))] := hl
  refine zr_nQ (fun Q hQ => ?_)
  have hN := hpl.1.1
  have hok := hpl.1
  obtain ⟨hb1, hb2⟩ := hbz r t (by omega) (by omega)
  refine lv_aload_n hx hb dX3_isBarred_0 rfl (lv_at hl 0 rfl) ?_
  refine va_get (D := D) (ci := 2) (v := .ref h0) (C := RX3) (T := TX3) (N := 9) hx hb hts (by decide +kernel) hown hK.1 hP 0 rfl rfl 0 (by decide) (hts (.fieldLink RX3 12 "HomeRounds$Setting" "plan" "LHomeRounds$Plan;") (by decide +kernel)) (fun _ h9 => h9) rfl dX3_isBarred_1 ?_
  refine lv_iload_n hx hb dX3_isBarred_4 rfl (lv_at hl 1 rfl) ?_
  refine lv_iload_n hx hb dX3_isBarred_5 rfl (lv_at hl 2 rfl) ?_
  refine zr_ci hP hS (va_runV (As := [.int (nI t), .int (nI r)]) (rest := []) ⟨hx, hb, hml, hown, hts⟩ (c_X1_hasPlace l D E h0 h1 h2 h3 h4 h5 h6 N hm aw rv sd gm ca (nI t) (nI r) (hN)) (cwV 2 hts gX3_isBarred_X1_hasPlace rfl rfl rfl (by decide +kernel) ⟨Nat.le_of_ble_eq_true rfl, Nat.le_of_ble_eq_true rfl⟩) (zr_V hK (hP.sub (ws' := [(h0, .inr (0, [.int (nI N), .ref h1, .ref h2, .ref h3, .ref h4, .ref h5, .ref h6])), (h1, .inl (E 0, 15, .inl hm)), (h2, .inl (E 0, 15, .inl aw)), (h3, .inl (E 0, 30, .inl rv)), (h4, .inl (E 0, 30, .inl sd)), (h5, .inl (E 0, 30, .inl gm)), (h6, .inl (E 0, 36, .inl ca))]) [1, 2, 3, 4, 5, 6, 7] rfl) (ci := 0) (q0 := 0) rfl rfl) rfl rfl hl.1 rfl (lv_room (Nat.le_of_ble_eq_true rfl)) dX3_isBarred_6 ⟨Nat.zero_le _, Nat.zero_le _⟩) (fun r_1 H locs hw_2 hP hS => ?_)
  have hrz : r_1 = 1 := by rcases hw_2 with ⟨h9, -⟩ | ⟨-, h9⟩; exact h9; exact h9.elim (fun q => absurd rfl (q t ht)) (fun q => absurd rfl (q r hr0))
  subst hrz; clear hw_2
  refine zr_ti (y := nI 1) rfl ?_
  refine lv_if_eq (tgt := 29) hx hb dX3_isBarred_9 (by decide) (fun cn_3 => ?_) (fun cn_3 => ?_)
  · skip
    exact absurd cn_3 (by decide)
  · skip
    refine lv_aload_n hx hb dX3_isBarred_12 rfl (lv_at hl 0 rfl) ?_
    refine va_get (D := D) (ci := 2) (v := .ref g3) (C := RX3) (T := TX3) (N := 9) hx hb hts (by decide +kernel) hown hK.1 hP 0 rfl rfl 3 (by decide) (hts (.fieldLink RX3 25 "HomeRounds$Setting" "bars" "[Z") (by decide +kernel)) (fun _ h9 => h9) rfl dX3_isBarred_13 ?_
    refine lv_iload_n hx hb dX3_isBarred_16 rfl (lv_at hl 1 rfl) ?_
    refine lv_iload_n hx hb dX3_isBarred_17 rfl (lv_at hl 2 rfl) ?_
    refine zr_ci hP hS (va_runSN (As := [.int (nI t), .int (nI r)]) (rest := [.ref g3]) ⟨hx, hb, hml, hown, hts⟩ (c_X7_cellOf l D E t r (by omega) (by omega)) ⟨va_cnB 2 hts gX3_isBarred_X7_cellOf_n115 rfl rfl rfl hK.2.2.2.2.2.2.2.1 (hts (.initialized RX7) (by decide +kernel)) (by decide +kernel) ⟨Nat.le_of_ble_eq_true rfl, Nat.le_of_ble_eq_true rfl⟩, hts (.static yX7_cellOf) (by decide +kernel), trivial⟩ (zr_S hK (hP.sub (ws' := []) [] rfl)) rfl rfl hl.1 rfl (lv_room (Nat.le_of_ble_eq_true rfl)) dX3_isBarred_18 ⟨Nat.zero_le _, Nat.zero_le _⟩) (fun r_4 H locs hw_5 hP hS => ?_)
    subst hw_5
    refine va_zald hx hb hK.1 hP 8 1 rfl rfl (vp_in_nI (by omega) (by omega)) dX3_isBarred_21 ?_
    refine zr_ti (y := nI (B t r)) ((congrArg bz (nI_clamp (by omega))).trans (hb2)) ?_
    refine lv_if_eq (tgt := 29) hx hb dX3_isBarred_22 (by decide) (fun cn_6 => ?_) (fun cn_6 => ?_)
    · skip
      have cn_6 : B t r = 0 := (nI_eq (a := B t r) (b := 0) (by omega) (by omega)).mp cn_6
      have hbr := cn_6
      refine lv_iconst (v := nI 0) hx hb dX3_isBarred_29 (by rfl) ?_
      subst hQ
      exact W.zret (v := nI 0) hx hb hr (by decide) (fun tz htz hWz => ⟨⟨nI 0, (), rfl, by congr 1; omega, trivial⟩, hS.F htz⟩) hS.2.2 dX3_isBarred_30
    · skip
      have cn_6 : ¬ (B t r = 0) := fun hz => cn_6 ((nI_eq (a := B t r) (b := 0) (by omega) (by omega)).mpr hz)
      have hbr := cn_6
      refine lv_iconst (v := nI 1) hx hb dX3_isBarred_25 (by rfl) ?_
      refine lv_goto (tgt := 30) hx hb dX3_isBarred_26 (by decide) ?_
      subst hQ
      exact W.zret (v := nI 1) hx hb hr (by decide) (fun tz htz hWz => ⟨⟨nI 1, (), rfl, by congr 1; omega, trivial⟩, hS.F htz⟩) hS.2.2 dX3_isBarred_30

set_option maxHeartbeats 4000000 in
set_option maxRecDepth 100000 in
theorem c_X3_violations (l : Launch) (D : va_G) (E : Nat → ClassId) (g0 : Nat) (g1 : Nat) (g2 : Nat) (g3 : Nat) (g4 : Nat) (g5 : Nat) (g6 : Nat) (g7 : Nat) (sk : Nat) (h0 : Nat) (h1 : Nat) (h2 : Nat) (h3 : Nat) (h4 : Nat) (h5 : Nat) (h6 : Nat) (N : Nat) (hm : Nat → Int32) (aw : Nat → Int32) (rv : Nat → Int32) (sd : Nat → Int32) (gm : Nat → Int32) (ca : Nat → Int32) (G : Nat → Nat → Nat) (P : Nat → Nat → Nat) (bz : Nat → Int32) (B : Nat → Nat → Nat) (hpl : zm_pl N G P hm aw rv sd gm) (hbz : zm_bz B bz) : Met l yX3_violations wsX3_violations ({ frames := 2, cells := 0, slots := 0, locals := 44 }) (zr_P D E [.ref g0] [(g0, .inr (2, [.ref h0, .ref g1, .ref g2, .ref g3, .ref g4, .int (nI sk), .ref g5, .ref g6, .ref g7])), (h0, .inr (0, [.int (nI N), .ref h1, .ref h2, .ref h3, .ref h4, .ref h5, .ref h6])), (h1, .inl (E 0, 15, .inl hm)), (h2, .inl (E 0, 15, .inl aw)), (h3, .inl (E 0, 30, .inl rv)), (h4, .inl (E 0, 30, .inl sd)), (h5, .inl (E 0, 30, .inl gm)), (h6, .inl (E 0, 36, .inl ca)), (g3, .inl (E 1, 30, .inl bz))]) (zr_Qi (fun zv => zv = nI (zm_vio N G B))) 0 0 (fun _ => False) := by
  refine Met.ofW (cc := cX3_violations) (maxL := 4) (ret := (some .int)) (by decide) rfl ?_
  intro p e s m args below meth c s₁ Bz hml hv
  obtain ⟨rfl, hP, hK⟩ := hv
  have hx := Bz.exec
  have hb := Bz.bytes
  have hr := Bz.returns
  have hts := atoms_spec (ws := wsX3_violations) Bz.pre
  have hown : s.vm.findClass RX3 = some m.cls := findClass_of_methodNamed Bz.named
  have hlocks := Bz.notSynchronized
  have hP : va_P D vwCl [(g0, .inr (2, [.ref h0, .ref g1, .ref g2, .ref g3, .ref g4, .int (nI sk), .ref g5, .ref g6, .ref g7])), (h0, .inr (0, [.int (nI N), .ref h1, .ref h2, .ref h3, .ref h4, .ref h5, .ref h6])), (h1, .inl (E 0, 15, .inl hm)), (h2, .inl (E 0, 15, .inl aw)), (h3, .inl (E 0, 30, .inl rv)), (h4, .inl (E 0, 30, .inl sd)), (h5, .inl (E 0, 30, .inl gm)), (h6, .inl (E 0, 36, .inl ca)), (g3, .inl (E 1, 30, .inl bz))] s.heap := hP
  have hS : va_S (fun _ : Nat => False) s.heap s.heap [] := va_S.rf
  have hl := lv_entry ([.ref g0]) (n := 4) (Nat.le_of_ble_eq_true rfl)
  rw [lg_entry_eq]
  generalize (lg_sl ([.ref g0]) ++ List.replicate (4 - (lg_sl ([.ref g0])).length) Slot.unset).toArray = ls at hl ⊢
  have hl : lv_has ls 4 [(0, .ref g0)] := hl
  refine zr_nQ (fun Q hQ => ?_)
  have hN := hpl.1.1
  have hok := hpl.1
  refine lv_iconst (v := nI 0) hx hb dX3_violations_0 (by rfl) ?_
  refine lv_istore_n (lv' := [(1, .int (nI 0)), (0, .ref g0)]) hx hb dX3_violations_1 rfl hl (by decide) rfl (fun ls hl => ?_)
  refine lv_iconst (v := nI 0) hx hb dX3_violations_2 (by rfl) ?_
  refine lv_istore_n (lv' := [(2, .int (nI 0)), (1, .int (nI 0)), (0, .ref g0)]) hx hb dX3_violations_3 rfl hl (by decide) rfl (fun ls hl => ?_)
  suffices KL4 : ∀ (kz : Nat) (i : Nat) (q : Nat) (H : Heap) (locs : List Loc) (ls : Array Slot), (N - i) < kz → (q = zm_sum (zm_vr N G B) i) → (i ≤ N - 1) → va_P D vwCl [(g0, .inr (2, [.ref h0, .ref g1, .ref g2, .ref g3, .ref g4, .int (nI sk), .ref g5, .ref g6, .ref g7])), (h0, .inr (0, [.int (nI N), .ref h1, .ref h2, .ref h3, .ref h4, .ref h5, .ref h6])), (h1, .inl (E 0, 15, .inl hm)), (h2, .inl (E 0, 15, .inl aw)), (h3, .inl (E 0, 30, .inl rv)), (h4, .inl (E 0, 30, .inl sd)), (h5, .inl (E 0, 30, .inl gm)), (h6, .inl (E 0, 36, .inl ca)), (g3, .inl (E 1, 30, .inl bz))] H → va_S (fun _ : Nat => False) s.heap H locs → lv_has ls 4 [(0, .ref g0), (1, .int (nI q)), (2, .int (nI i))] → W p l e (headSpec wsX3_violations ({ frames := 2, cells := 0, slots := 0, locals := 44 })).room s m ([.ref g0] : List Value).toArray below meth c H locs 0 0 Q (F0 m 4 ls []) from
    KL4 _ 0 0 _ _ ls (Nat.lt_succ_self _) (rfl) (by omega) hP hS (lv_sub hl [2, 1, 0] rfl)
  clear hP hS hl
  intro kz
  induction kz with
  | zero => intro i q H locs ls hkz; exact absurd hkz (Nat.not_lt_zero _)
  | succ kz ih4 =>
    intro i q H locs ls hkz hq hi hP hS hl
    refine lv_iload_n hx hb dX3_violations_4 rfl (lv_at hl 2 rfl) ?_
    refine lv_aload_n hx hb dX3_violations_5 rfl (lv_at hl 0 rfl) ?_
    refine va_get (D := D) (ci := 2) (v := .ref h0) (C := RX3) (T := TX3) (N := 9) hx hb hts (by decide +kernel) hown hK.1 hP 0 rfl rfl 0 (by decide) (hts (.fieldLink RX3 12 "HomeRounds$Setting" "plan" "LHomeRounds$Plan;") (by decide +kernel)) (fun _ h9 => h9) rfl dX3_violations_6 ?_
    refine va_get (D := D) (ci := 0) (v := .int (nI N)) (C := RX1) (T := TX1) (N := 7) hx hb hts (by decide +kernel) hown hK.1 hP 1 rfl rfl 0 (by decide) (hts (.fieldLink RX3 105 "HomeRounds$Plan" "n" "I") (by decide +kernel)) (fun _ h9 => h9) rfl dX3_violations_9 ?_
    refine lv_iconst (v := nI 1) hx hb dX3_violations_12 (by rfl) ?_
    refine lv_isub hx hb dX3_violations_13 ?_
    refine zr_ti (y := nI (N - 1)) (pk_sub (by omega)) ?_
    refine lv_icmp_ge (tgt := 69) hx hb dX3_violations_14 (by decide) (fun cn_1 => ?_) (fun cn_1 => ?_)
    · skip
      have cn_1 : N - 1 ≤ i := (nI_leI (a := N - 1) (b := i) (by omega) (by omega)).mp cn_1
      have hie : i = N - 1 := by omega
      refine lv_iload_n hx hb dX3_violations_69 rfl (lv_at hl 1 rfl) ?_
      subst hQ
      exact W.iret (v := nI q) hx hb hr (fun tz htz hWz => ⟨⟨nI q, (), rfl, by rw [hq, hie]; rfl, trivial⟩, hS.F htz⟩) hS.2.2 dX3_violations_70
    · skip
      have cn_1 : ¬ (N - 1 ≤ i) := fun hz => cn_1 ((nI_leI (a := N - 1) (b := i) (by omega) (by omega)).mpr hz)
      have hir : i < N - 1 := by omega
      refine lv_iconst (v := nI 0) hx hb dX3_violations_17 (by rfl) ?_
      refine lv_istore_n (lv' := [(3, .int (nI 0)), (0, .ref g0), (1, .int (nI q)), (2, .int (nI i))]) hx hb dX3_violations_18 rfl hl (by decide) rfl (fun ls hl => ?_)
      suffices KL19 : ∀ (kz : Nat) (k : Nat) (z : Nat) (H : Heap) (locs : List Loc) (ls : Array Slot), (N - k) < kz → (z = zm_sum (zm_vr N G B) i + zm_sum (zm_vf G B i) k) → (k ≤ N / 2) → va_P D vwCl [(g0, .inr (2, [.ref h0, .ref g1, .ref g2, .ref g3, .ref g4, .int (nI sk), .ref g5, .ref g6, .ref g7])), (h0, .inr (0, [.int (nI N), .ref h1, .ref h2, .ref h3, .ref h4, .ref h5, .ref h6])), (h1, .inl (E 0, 15, .inl hm)), (h2, .inl (E 0, 15, .inl aw)), (h3, .inl (E 0, 30, .inl rv)), (h4, .inl (E 0, 30, .inl sd)), (h5, .inl (E 0, 30, .inl gm)), (h6, .inl (E 0, 36, .inl ca)), (g3, .inl (E 1, 30, .inl bz))] H → va_S (fun _ : Nat => False) s.heap H locs → lv_has ls 4 [(0, .ref g0), (1, .int (nI z)), (2, .int (nI i)), (3, .int (nI k))] → W p l e (headSpec wsX3_violations ({ frames := 2, cells := 0, slots := 0, locals := 44 })).room s m ([.ref g0] : List Value).toArray below meth c H locs 0 0 Q (F0 m 19 ls []) from
        KL19 _ 0 q _ _ ls (Nat.lt_succ_self _) (by rw [hq]; rfl) (by omega) hP hS (lv_sub hl [1, 2, 3, 0] rfl)
      clear hP hS hl
      intro kz
      induction kz with
      | zero => intro k z H locs ls hkz; exact absurd hkz (Nat.not_lt_zero _)
      | succ kz ih19 =>
        intro k z H locs ls hkz hq2 hk2 hP hS hl
        refine lv_iload_n hx hb dX3_violations_19 rfl (lv_at hl 3 rfl) ?_
        refine lv_aload_n hx hb dX3_violations_20 rfl (lv_at hl 0 rfl) ?_
        refine va_get (D := D) (ci := 2) (v := .ref h0) (C := RX3) (T := TX3) (N := 9) hx hb hts (by decide +kernel) hown hK.1 hP 0 rfl rfl 0 (by decide) (hts (.fieldLink RX3 12 "HomeRounds$Setting" "plan" "LHomeRounds$Plan;") (by decide +kernel)) (fun _ h9 => h9) rfl dX3_violations_21 ?_
        refine va_get (D := D) (ci := 0) (v := .int (nI N)) (C := RX1) (T := TX1) (N := 7) hx hb hts (by decide +kernel) hown hK.1 hP 1 rfl rfl 0 (by decide) (hts (.fieldLink RX3 105 "HomeRounds$Plan" "n" "I") (by decide +kernel)) (fun _ h9 => h9) rfl dX3_violations_24 ?_
        refine lv_iconst (v := nI 2) hx hb dX3_violations_27 (by rfl) ?_
        refine lv_idiv hx hb dX3_violations_28 (by decide) ?_
        refine zr_ti (y := nI (N / 2)) (pk_div (by omega) (by omega) (by omega)) ?_
        refine lv_icmp_ge (tgt := 63) hx hb dX3_violations_29 (by decide) (fun cn_2 => ?_) (fun cn_2 => ?_)
        · skip
          have cn_2 : N / 2 ≤ k := (nI_leI (a := N / 2) (b := k) (by omega) (by omega)).mp cn_2
          have hke : k = N / 2 := by omega
          refine lv_iinc (v := nI (i + 1)) (lv' := [(2, .int (nI (i + 1))), (0, .ref g0), (1, .int (nI z)), (3, .int (nI k))]) hx hb dX3_violations_63 hl (k := 2) rfl (nI_add _ _) (by decide) rfl (fun ls hl => ?_)
          refine lv_goto (tgt := 4) hx hb dX3_violations_66 (by decide) ?_
          have hl : lv_has ls 4 [(0, .ref g0), (1, .int (nI z)), (2, .int (nI (i + 1)))] := lv_sub hl [1, 2, 0] rfl
          exact ih4 (i + 1) z H locs ls (by omega) (by rw [hq2, hke]; rfl) (by omega) hP hS hl
        · skip
          have cn_2 : ¬ (N / 2 ≤ k) := fun hz => cn_2 ((nI_leI (a := N / 2) (b := k) (by omega) (by omega)).mpr hz)
          have hkk : k < N / 2 := by omega
          have hg1 := zm_G_lt hok hir (k := 2 * k) (by omega)
          obtain ⟨hb1, hb2⟩ := hbz i (G i (2 * k)) (by omega) (by omega)
          refine lv_iload_n hx hb dX3_violations_32 rfl (lv_at hl 1 rfl) ?_
          refine lv_aload_n hx hb dX3_violations_33 rfl (lv_at hl 0 rfl) ?_
          refine lv_aload_n hx hb dX3_violations_34 rfl (lv_at hl 0 rfl) ?_
          refine va_get (D := D) (ci := 2) (v := .ref h0) (C := RX3) (T := TX3) (N := 9) hx hb hts (by decide +kernel) hown hK.1 hP 0 rfl rfl 0 (by decide) (hts (.fieldLink RX3 12 "HomeRounds$Setting" "plan" "LHomeRounds$Plan;") (by decide +kernel)) (fun _ h9 => h9) rfl dX3_violations_35 ?_
          refine lv_iload_n hx hb dX3_violations_38 rfl (lv_at hl 2 rfl) ?_
          refine lv_iload_n hx hb dX3_violations_39 rfl (lv_at hl 3 rfl) ?_
          refine zr_ci hP hS (va_runV (As := [.int (nI i), .int (nI k)]) (rest := [.ref g0, .int (nI z)]) ⟨hx, hb, hml, hown, hts⟩ (c_X1_homeOf l D E h0 h1 h2 h3 h4 h5 h6 N hm aw rv sd gm ca i k (hN) (by omega) (by omega)) (cwV 2 hts gX3_violations_X1_homeOf rfl rfl rfl (by decide +kernel) ⟨Nat.le_of_ble_eq_true rfl, Nat.le_of_ble_eq_true rfl⟩) (zr_V hK (hP.sub (ws' := [(h0, .inr (0, [.int (nI N), .ref h1, .ref h2, .ref h3, .ref h4, .ref h5, .ref h6])), (h1, .inl (E 0, 15, .inl hm)), (h2, .inl (E 0, 15, .inl aw)), (h3, .inl (E 0, 30, .inl rv)), (h4, .inl (E 0, 30, .inl sd)), (h5, .inl (E 0, 30, .inl gm)), (h6, .inl (E 0, 36, .inl ca))]) [1, 2, 3, 4, 5, 6, 7] rfl) (ci := 0) (q0 := 0) rfl rfl) rfl rfl hl.1 rfl (lv_room (Nat.le_of_ble_eq_true rfl)) dX3_violations_40 ⟨Nat.zero_le _, Nat.zero_le _⟩) (fun r_3 H locs hw_4 hP hS => ?_)
          subst hw_4
          refine zr_ti (y := nI (G i (2 * k))) (hpl.2.1 i k hir hkk) ?_
          refine lv_iload_n hx hb dX3_violations_43 rfl (lv_at hl 2 rfl) ?_
          refine zr_ci hP hS (va_runV (As := [.int (nI (G i (2 * k))), .int (nI i)]) (rest := [.int (nI z)]) ⟨hx, hb, hml, hown, hts⟩ (c_X3_isBarred l D E g0 g1 g2 g3 g4 g5 g6 g7 sk h0 h1 h2 h3 h4 h5 h6 N hm aw rv sd gm ca G P bz B (G i (2 * k)) i (hpl) (hbz) (by omega) (by omega)) (cwV 2 hts gX3_violations_X3_isBarred rfl rfl rfl (by decide +kernel) ⟨Nat.le_of_ble_eq_true rfl, Nat.le_of_ble_eq_true rfl⟩) (zr_V hK (hP.sub (ws' := [(g0, .inr (2, [.ref h0, .ref g1, .ref g2, .ref g3, .ref g4, .int (nI sk), .ref g5, .ref g6, .ref g7])), (h0, .inr (0, [.int (nI N), .ref h1, .ref h2, .ref h3, .ref h4, .ref h5, .ref h6])), (h1, .inl (E 0, 15, .inl hm)), (h2, .inl (E 0, 15, .inl aw)), (h3, .inl (E 0, 30, .inl rv)), (h4, .inl (E 0, 30, .inl sd)), (h5, .inl (E 0, 30, .inl gm)), (h6, .inl (E 0, 36, .inl ca)), (g3, .inl (E 1, 30, .inl bz))]) [0, 1, 2, 3, 4, 5, 6, 7, 8] rfl) (ci := 2) (q0 := 0) rfl rfl) rfl rfl hl.1 rfl (lv_room (Nat.le_of_ble_eq_true rfl)) dX3_violations_44 ⟨Nat.zero_le _, Nat.zero_le _⟩) (fun r_5 H locs hw_6 hP hS => ?_)
          subst hw_6
          refine lv_if_eq (tgt := 54) hx hb dX3_violations_47 (by decide) (fun cn_7 => ?_) (fun cn_7 => ?_)
          · skip
            have cn_7 : B (G i (2 * k)) i = 0 := (nI_eq (a := B (G i (2 * k)) i) (b := 0) (by omega) (by omega)).mp cn_7
            have hbr := cn_7
            refine lv_iconst (v := nI 0) hx hb dX3_violations_54 (by rfl) ?_
            refine lv_iadd hx hb dX3_violations_55 ?_
            refine zr_ti (y := nI (z + 0)) (nI_add _ _) ?_
            refine lv_istore_n (lv' := [(1, .int (nI (z + 0))), (0, .ref g0), (2, .int (nI i)), (3, .int (nI k))]) hx hb dX3_violations_56 rfl hl (by decide) rfl (fun ls hl => ?_)
            refine lv_iinc (v := nI (k + 1)) (lv' := [(3, .int (nI (k + 1))), (1, .int (nI (z + 0))), (0, .ref g0), (2, .int (nI i))]) hx hb dX3_violations_57 hl (k := 3) rfl (nI_add _ _) (by decide) rfl (fun ls hl => ?_)
            refine lv_goto (tgt := 19) hx hb dX3_violations_60 (by decide) ?_
            have hl : lv_has ls 4 [(0, .ref g0), (1, .int (nI (z + 0))), (2, .int (nI i)), (3, .int (nI (k + 1)))] := lv_sub hl [2, 1, 3, 0] rfl
            exact ih19 (k + 1) (z + 0) H locs ls (by omega) (by rw [hq2, Nat.add_assoc]; first | rfl | (congr 1; show _ = _ + zm_vf G B i k; unfold zm_vf; omega)) (by omega) hP hS hl
          · skip
            have cn_7 : ¬ (B (G i (2 * k)) i = 0) := fun hz => cn_7 ((nI_eq (a := B (G i (2 * k)) i) (b := 0) (by omega) (by omega)).mpr hz)
            have hbr := cn_7
            refine lv_iconst (v := nI 1) hx hb dX3_violations_50 (by rfl) ?_
            refine lv_goto (tgt := 55) hx hb dX3_violations_51 (by decide) ?_
            refine lv_iadd hx hb dX3_violations_55 ?_
            refine zr_ti (y := nI (z + 1)) (nI_add _ _) ?_
            refine lv_istore_n (lv' := [(1, .int (nI (z + 1))), (0, .ref g0), (2, .int (nI i)), (3, .int (nI k))]) hx hb dX3_violations_56 rfl hl (by decide) rfl (fun ls hl => ?_)
            refine lv_iinc (v := nI (k + 1)) (lv' := [(3, .int (nI (k + 1))), (1, .int (nI (z + 1))), (0, .ref g0), (2, .int (nI i))]) hx hb dX3_violations_57 hl (k := 3) rfl (nI_add _ _) (by decide) rfl (fun ls hl => ?_)
            refine lv_goto (tgt := 19) hx hb dX3_violations_60 (by decide) ?_
            have hl : lv_has ls 4 [(0, .ref g0), (1, .int (nI (z + 1))), (2, .int (nI i)), (3, .int (nI (k + 1)))] := lv_sub hl [2, 1, 3, 0] rfl
            exact ih19 (k + 1) (z + 1) H locs ls (by omega) (by rw [hq2, Nat.add_assoc]; first | rfl | (congr 1; show _ = _ + zm_vf G B i k; unfold zm_vf; omega)) (by omega) hP hS hl

