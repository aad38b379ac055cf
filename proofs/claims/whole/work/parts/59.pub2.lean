set_option maxHeartbeats 4000000 in
set_option maxRecDepth 100000 in
theorem c_X7_game (l : Launch) (D : va_G) (E : Nat → ClassId) (x0 : Nat) (xk : Nat) (xt : Nat) (xx : Nat) (xp : Nat) (ik : Int32) (g0 : Nat) (g1 : Nat) (g2 : Nat) (g3 : Nat) (g4 : Nat) (g5 : Nat) (g6 : Nat) (g7 : Nat) (kd : Nat) (h0 : Nat) (h1 : Nat) (h2 : Nat) (h3 : Nat) (h4 : Nat) (h5 : Nat) (h6 : Nat) (N : Nat) (hm : Nat → Int32) (aw : Nat → Int32) (rv : Nat → Int32) (sd : Nat → Int32) (gm : Nat → Int32) (ca : Nat → Int32) (G : Nat → Nat → Nat) (P : Nat → Nat → Nat) (v : Int32) (w : Int32) (y : Int32) (hpl : zm_pl N G P hm aw rv sd gm) : Met l yX7_game wsX7_game ({ frames := 2, cells := 0, slots := 0, locals := 44 }) (zr_P D E [.ref x0, .int v, .int w, .int y] [(x0, .inr (5, [.ref g0, .ref xk, .ref xt, .ref xx, .ref xp, .int ik])), (g0, .inr (2, [.ref h0, .ref g1, .ref g2, .ref g3, .ref g4, .int (nI kd), .ref g5, .ref g6, .ref g7])), (h0, .inr (0, [.int (nI N), .ref h1, .ref h2, .ref h3, .ref h4, .ref h5, .ref h6])), (h1, .inl (E 0, 15, .inl hm)), (h2, .inl (E 0, 15, .inl aw)), (h3, .inl (E 0, 30, .inl rv)), (h4, .inl (E 0, 30, .inl sd)), (h5, .inl (E 0, 30, .inl gm)), (h6, .inl (E 0, 36, .inl ca))]) (zr_Qi (fun zv => zv = cond (zi (N - 1) v && zi (N / 2) w && zi 2 y) (nI (G (zq v) (2 * zq w + zq y))) (-1))) 0 0 (fun _ => False) := by
  refine Met.ofW (cc := cX7_game) (maxL := 4) (ret := (some .int)) (by decide) rfl ?_
  intro p e s m args below meth c s₁ Bz hml hv
  obtain ⟨rfl, hP, hK⟩ := hv
  have hx := Bz.exec
  have hb := Bz.bytes
  have hr := Bz.returns
  have hts := atoms_spec (ws := wsX7_game) Bz.pre
  have hown : s.vm.findClass RX7 = some m.cls := findClass_of_methodNamed Bz.named
  have hlocks := Bz.notSynchronized
  have hP : va_P D vwCl [(x0, .inr (5, [.ref g0, .ref xk, .ref xt, .ref xx, .ref xp, .int ik])), (g0, .inr (2, [.ref h0, .ref g1, .ref g2, .ref g3, .ref g4, .int (nI kd), .ref g5, .ref g6, .ref g7])), (h0, .inr (0, [.int (nI N), .ref h1, .ref h2, .ref h3, .ref h4, .ref h5, .ref h6])), (h1, .inl (E 0, 15, .inl hm)), (h2, .inl (E 0, 15, .inl aw)), (h3, .inl (E 0, 30, .inl rv)), (h4, .inl (E 0, 30, .inl sd)), (h5, .inl (E 0, 30, .inl gm)), (h6, .inl (E 0, 36, .inl ca))] s.heap := hP
  have hS : va_S (fun _ : Nat => False) s.heap s.heap [] := va_S.rf
  have hl := lv_entry ([.ref x0, .int v, .int w, .int y]) (n := 4) (Nat.le_of_ble_eq_true rfl)
  rw [lg_entry_eq]
  generalize (lg_sl ([.ref x0, .int v, .int w, .int y]) ++ List.replicate (4 - (lg_sl ([.ref x0, .int v, .int w, .int y])).length) Slot.unset).toArray = ls at hl ⊢
  have hl : lv_has ls 4 [(0, .ref x0), (1, .int v), (2, .int w), (3, .int y)] := hl
  refine zr_nQ (fun Q hQ => ?_)
  have hN := hpl.1.1
  refine lv_aload_n hx hb dX7_game_0 rfl (lv_at hl 0 rfl) ?_
  refine va_get (D := D) (ci := 5) (v := .ref g0) (C := RX7) (T := TX7) (N := 6) hx hb hts (by decide +kernel) hown hK.1 hP 0 rfl rfl 0 (by decide) (hts (.fieldLink RX7 12 "HomeRounds" "now" "LHomeRounds$Setting;") (by decide +kernel)) (fun _ h9 => h9) rfl dX7_game_1 ?_
  refine va_get (D := D) (ci := 2) (v := .ref h0) (C := RX3) (T := TX3) (N := 9) hx hb hts (by decide +kernel) hown hK.1 hP 1 rfl rfl 0 (by decide) (hts (.fieldLink RX7 38 "HomeRounds$Setting" "plan" "LHomeRounds$Plan;") (by decide +kernel)) (fun _ h9 => h9) rfl dX7_game_4 ?_
  refine lv_iload_n hx hb dX7_game_7 rfl (lv_at hl 1 rfl) ?_
  refine lv_iload_n hx hb dX7_game_8 rfl (lv_at hl 2 rfl) ?_
  refine zr_ci hP hS (va_runV (As := [.int v, .int w]) (rest := []) ⟨hx, hb, hml, hown, hts⟩ (c_X1_hasGame l D E h0 h1 h2 h3 h4 h5 h6 N hm aw rv sd gm ca v w (hN)) (cwV 2 hts gX7_game_X1_hasGame rfl rfl rfl (by decide +kernel) ⟨Nat.le_of_ble_eq_true rfl, Nat.le_of_ble_eq_true rfl⟩) (zr_V hK (hP.sub (ws' := [(h0, .inr (0, [.int (nI N), .ref h1, .ref h2, .ref h3, .ref h4, .ref h5, .ref h6])), (h1, .inl (E 0, 15, .inl hm)), (h2, .inl (E 0, 15, .inl aw)), (h3, .inl (E 0, 30, .inl rv)), (h4, .inl (E 0, 30, .inl sd)), (h5, .inl (E 0, 30, .inl gm)), (h6, .inl (E 0, 36, .inl ca))]) [2, 3, 4, 5, 6, 7, 8] rfl) (ci := 0) (q0 := 0) rfl rfl) rfl rfl hl.1 rfl (lv_room (Nat.le_of_ble_eq_true rfl)) dX7_game_9 ⟨Nat.zero_le _, Nat.zero_le _⟩) (fun r_1 H locs hw_2 hP hS => ?_)
  rcases hw_2 with ⟨rfl, hw_2⟩ | ⟨rfl, hw_2⟩
  · skip
    obtain ⟨⟨t, ht, v_e⟩, ⟨u, hu, w_e⟩⟩ := hw_2
    have e1 : zi (N - 1) v = true := v_e ▸ zi_t ht (by omega)
    have q1 : zq v = t := v_e ▸ zq_t (by omega)
    rw [v_e] at hl
    have e2 : zi (N / 2) w = true := w_e ▸ zi_t hu (by omega)
    have q2 : zq w = u := w_e ▸ zq_t (by omega)
    rw [w_e] at hl
    have e0 : (zi (N - 1) v && zi (N / 2) w) = true := by rw [e1, e2]; rfl
    refine zr_ti (y := nI 1) rfl ?_
    refine lv_if_eq (tgt := 24) hx hb dX7_game_12 (by decide) (fun cn_3 => ?_) (fun cn_3 => ?_)
    · skip
      exact absurd cn_3 (by decide)
    · skip
      refine lv_iload_n hx hb dX7_game_15 rfl (lv_at hl 3 rfl) ?_
      refine lv_if_lt (tgt := 24) hx hb dX7_game_16 (by decide) (fun cn_4 => ?_) (fun cn_4 => ?_)
      · skip
        have e3 : zi 2 y = false := zi_f (zn_lo (n := 2) cn_4 (by omega))
        refine lv_iconst (v := (-1)) hx hb dX7_game_24 (by rfl) ?_
        subst hQ
        exact W.iret (v := (-1)) hx hb hr (fun tz htz hWz => ⟨⟨(-1), (), rfl, by first | (simp only [cond_true, cond_false, Bool.and_true, Bool.and_false, Bool.true_and, Bool.false_and, e0]; done) | (simp only [cond_true, cond_false, Bool.and_true, Bool.and_false, Bool.true_and, Bool.false_and, e0, e3]; done), trivial⟩, hS.F htz⟩) hS.2.2 dX7_game_25
      · skip
        have gz3 := cn_4
        refine lv_iload_n hx hb dX7_game_19 rfl (lv_at hl 3 rfl) ?_
        refine lv_iconst (v := nI 1) hx hb dX7_game_20 (by rfl) ?_
        refine lv_icmp_le (tgt := 26) hx hb dX7_game_21 (by decide) (fun cn_5 => ?_) (fun cn_5 => ?_)
        · skip
          obtain ⟨z, hz, y_e⟩ := zn_in (n := 2) gz3 (fun q => absurd (zn_lt_of (n := 1) (by omega) q) (Int32.not_lt.mpr cn_5)) (by omega)
          have e3 : zi 2 y = true := y_e ▸ zi_t hz (by omega)
          have q3 : zq y = z := y_e ▸ zq_t (by omega)
          rw [y_e] at hl
          refine lv_iload_n hx hb dX7_game_26 rfl (lv_at hl 3 rfl) ?_
          refine lv_if_ne (tgt := 45) hx hb dX7_game_27 (by decide) (fun cn_6 => ?_) (fun cn_6 => ?_)
          · skip
            have cn_6 : ¬ (z = 0) := fun hz => cn_6 ((nI_eq (a := z) (b := 0) (by omega) (by omega)).mpr hz)
            have hz1 : z = 1 := by omega
            refine lv_aload_n hx hb dX7_game_45 rfl (lv_at hl 0 rfl) ?_
            refine va_get (D := D) (ci := 5) (v := .ref g0) (C := RX7) (T := TX7) (N := 6) hx hb hts (by decide +kernel) hown hK.1 hP 0 rfl rfl 0 (by decide) (hts (.fieldLink RX7 12 "HomeRounds" "now" "LHomeRounds$Setting;") (by decide +kernel)) (fun _ h9 => h9) rfl dX7_game_46 ?_
            refine va_get (D := D) (ci := 2) (v := .ref h0) (C := RX3) (T := TX3) (N := 9) hx hb hts (by decide +kernel) hown hK.1 hP 1 rfl rfl 0 (by decide) (hts (.fieldLink RX7 38 "HomeRounds$Setting" "plan" "LHomeRounds$Plan;") (by decide +kernel)) (fun _ h9 => h9) rfl dX7_game_49 ?_
            refine lv_iload_n hx hb dX7_game_52 rfl (lv_at hl 1 rfl) ?_
            refine lv_iload_n hx hb dX7_game_53 rfl (lv_at hl 2 rfl) ?_
            refine zr_ci hP hS (va_runV (As := [.int (nI t), .int (nI u)]) (rest := []) ⟨hx, hb, hml, hown, hts⟩ (c_X1_awayOf l D E h0 h1 h2 h3 h4 h5 h6 N hm aw rv sd gm ca t u (hN) (by omega) (by omega)) (cwV 2 hts gX7_game_X1_awayOf rfl rfl rfl (by decide +kernel) ⟨Nat.le_of_ble_eq_true rfl, Nat.le_of_ble_eq_true rfl⟩) (zr_V hK (hP.sub (ws' := [(h0, .inr (0, [.int (nI N), .ref h1, .ref h2, .ref h3, .ref h4, .ref h5, .ref h6])), (h1, .inl (E 0, 15, .inl hm)), (h2, .inl (E 0, 15, .inl aw)), (h3, .inl (E 0, 30, .inl rv)), (h4, .inl (E 0, 30, .inl sd)), (h5, .inl (E 0, 30, .inl gm)), (h6, .inl (E 0, 36, .inl ca))]) [2, 3, 4, 5, 6, 7, 8] rfl) (ci := 0) (q0 := 0) rfl rfl) rfl rfl hl.1 rfl (lv_room (Nat.le_of_ble_eq_true rfl)) dX7_game_54 ⟨Nat.zero_le _, Nat.zero_le _⟩) (fun r_7 H locs hw_8 hP hS => ?_)
            subst hw_8
            refine zr_ti (y := nI (G t (2 * u + 1))) (hpl.2.2.1 t u ht hu) ?_
            subst hQ
            exact W.iret (v := nI (G t (2 * u + 1))) hx hb hr (fun tz htz hWz => ⟨⟨nI (G t (2 * u + 1)), (), rfl, by first | (simp only [cond_true, cond_false, Bool.and_true, Bool.and_false, Bool.true_and, Bool.false_and, e0, e3, q1, q2, q3]; subst hz0; rfl; done) | (simp only [cond_true, cond_false, Bool.and_true, Bool.and_false, Bool.true_and, Bool.false_and, e0, e3, q1, q2, q3]; rw [hz1]; done), trivial⟩, hS.F htz⟩) hS.2.2 dX7_game_57
          · skip
            have cn_6 : z = 0 := (nI_eq (a := z) (b := 0) (by omega) (by omega)).mp cn_6
            have hz0 : z = 0 := by omega
            refine lv_aload_n hx hb dX7_game_30 rfl (lv_at hl 0 rfl) ?_
            refine va_get (D := D) (ci := 5) (v := .ref g0) (C := RX7) (T := TX7) (N := 6) hx hb hts (by decide +kernel) hown hK.1 hP 0 rfl rfl 0 (by decide) (hts (.fieldLink RX7 12 "HomeRounds" "now" "LHomeRounds$Setting;") (by decide +kernel)) (fun _ h9 => h9) rfl dX7_game_31 ?_
            refine va_get (D := D) (ci := 2) (v := .ref h0) (C := RX3) (T := TX3) (N := 9) hx hb hts (by decide +kernel) hown hK.1 hP 1 rfl rfl 0 (by decide) (hts (.fieldLink RX7 38 "HomeRounds$Setting" "plan" "LHomeRounds$Plan;") (by decide +kernel)) (fun _ h9 => h9) rfl dX7_game_34 ?_
            refine lv_iload_n hx hb dX7_game_37 rfl (lv_at hl 1 rfl) ?_
            refine lv_iload_n hx hb dX7_game_38 rfl (lv_at hl 2 rfl) ?_
            refine zr_ci hP hS (va_runV (As := [.int (nI t), .int (nI u)]) (rest := []) ⟨hx, hb, hml, hown, hts⟩ (c_X1_homeOf l D E h0 h1 h2 h3 h4 h5 h6 N hm aw rv sd gm ca t u (hN) (by omega) (by omega)) (cwV 2 hts gX7_game_X1_homeOf rfl rfl rfl (by decide +kernel) ⟨Nat.le_of_ble_eq_true rfl, Nat.le_of_ble_eq_true rfl⟩) (zr_V hK (hP.sub (ws' := [(h0, .inr (0, [.int (nI N), .ref h1, .ref h2, .ref h3, .ref h4, .ref h5, .ref h6])), (h1, .inl (E 0, 15, .inl hm)), (h2, .inl (E 0, 15, .inl aw)), (h3, .inl (E 0, 30, .inl rv)), (h4, .inl (E 0, 30, .inl sd)), (h5, .inl (E 0, 30, .inl gm)), (h6, .inl (E 0, 36, .inl ca))]) [2, 3, 4, 5, 6, 7, 8] rfl) (ci := 0) (q0 := 0) rfl rfl) rfl rfl hl.1 rfl (lv_room (Nat.le_of_ble_eq_true rfl)) dX7_game_39 ⟨Nat.zero_le _, Nat.zero_le _⟩) (fun r_9 H locs hw_10 hP hS => ?_)
            subst hw_10
            refine zr_ti (y := nI (G t (2 * u))) (hpl.2.1 t u ht hu) ?_
            refine lv_goto (tgt := 57) hx hb dX7_game_42 (by decide) ?_
            subst hQ
            exact W.iret (v := nI (G t (2 * u))) hx hb hr (fun tz htz hWz => ⟨⟨nI (G t (2 * u)), (), rfl, by first | (simp only [cond_true, cond_false, Bool.and_true, Bool.and_false, Bool.true_and, Bool.false_and, e0, e3, q1, q2, q3]; subst hz0; rfl; done) | (simp only [cond_true, cond_false, Bool.and_true, Bool.and_false, Bool.true_and, Bool.false_and, e0, e3, q1, q2, q3]; rw [hz1]; done), trivial⟩, hS.F htz⟩) hS.2.2 dX7_game_57
        · skip
          have e3 : zi 2 y = false := zi_f (zn_hi (n := 2) (zn_gt (n := 1) (by omega) (Int32.not_le.mp cn_5)) (by omega))
          refine lv_iconst (v := (-1)) hx hb dX7_game_24 (by rfl) ?_
          subst hQ
          exact W.iret (v := (-1)) hx hb hr (fun tz htz hWz => ⟨⟨(-1), (), rfl, by first | (simp only [cond_true, cond_false, Bool.and_true, Bool.and_false, Bool.true_and, Bool.false_and, e0]; done) | (simp only [cond_true, cond_false, Bool.and_true, Bool.and_false, Bool.true_and, Bool.false_and, e0, e3]; done), trivial⟩, hS.F htz⟩) hS.2.2 dX7_game_25
  · skip
    have e0 : (zi (N - 1) v && zi (N / 2) w) = false := zi_f2 hw_2
    refine zr_ti (y := nI 0) rfl ?_
    refine lv_if_eq (tgt := 24) hx hb dX7_game_12 (by decide) (fun cn_11 => ?_) (fun cn_11 => ?_)
    · skip
      refine lv_iconst (v := (-1)) hx hb dX7_game_24 (by rfl) ?_
      subst hQ
      exact W.iret (v := (-1)) hx hb hr (fun tz htz hWz => ⟨⟨(-1), (), rfl, by first | (simp only [cond_true, cond_false, Bool.and_true, Bool.and_false, Bool.true_and, Bool.false_and, e0]; done) | (simp only [cond_true, cond_false, Bool.and_true, Bool.and_false, Bool.true_and, Bool.false_and, e0, e3]; done), trivial⟩, hS.F htz⟩) hS.2.2 dX7_game_25
    · skip
      exact absurd cn_11 (by decide)

set_option maxHeartbeats 4000000 in
set_option maxRecDepth 100000 in
theorem c_X7_of (l : Launch) (D : va_G) (E : Nat → ClassId) (x0 : Nat) (xk : Nat) (xt : Nat) (xx : Nat) (xp : Nat) (ik : Int32) (g0 : Nat) (g1 : Nat) (g2 : Nat) (g3 : Nat) (g4 : Nat) (g5 : Nat) (g6 : Nat) (g7 : Nat) (kd : Nat) (h0 : Nat) (h1 : Nat) (h2 : Nat) (h3 : Nat) (h4 : Nat) (h5 : Nat) (h6 : Nat) (N : Nat) (hm : Nat → Int32) (aw : Nat → Int32) (rv : Nat → Int32) (sd : Nat → Int32) (gm : Nat → Int32) (ca : Nat → Int32) (G : Nat → Nat → Nat) (P : Nat → Nat → Nat) (bz : Nat → Int32) (B : Nat → Nat → Nat) (v : Int32) (w : Int32) (y : Int32) (hpl : zm_pl N G P hm aw rv sd gm) (hbz : zm_bz B bz) : Met l yX7_of wsX7_of ({ frames := 2, cells := 0, slots := 0, locals := 44 }) (zr_P D E [.ref x0, .int v, .int w, .int y] [(x0, .inr (5, [.ref g0, .ref xk, .ref xt, .ref xx, .ref xp, .int ik])), (g0, .inr (2, [.ref h0, .ref g1, .ref g2, .ref g3, .ref g4, .int (nI kd), .ref g5, .ref g6, .ref g7])), (h0, .inr (0, [.int (nI N), .ref h1, .ref h2, .ref h3, .ref h4, .ref h5, .ref h6])), (h1, .inl (E 0, 15, .inl hm)), (h2, .inl (E 0, 15, .inl aw)), (h3, .inl (E 0, 30, .inl rv)), (h4, .inl (E 0, 30, .inl sd)), (h5, .inl (E 0, 30, .inl gm)), (h6, .inl (E 0, 36, .inl ca)), (g3, .inl (E 1, 30, .inl bz))]) (zr_Qi (fun zv => zv = cond (zi N v && zi (N - 1) w) (zo_of G P B (zq v) (zq w) (zw 4 y)) (-1))) 0 0 (fun _ => False) := by
  refine Met.ofW (cc := cX7_of) (maxL := 4) (ret := (some .int)) (by decide) rfl ?_
  intro p e s m args below meth c s₁ Bz hml hv
  obtain ⟨rfl, hP, hK⟩ := hv
  have hx := Bz.exec
  have hb := Bz.bytes
  have hr := Bz.returns
  have hts := atoms_spec (ws := wsX7_of) Bz.pre
  have hown : s.vm.findClass RX7 = some m.cls := findClass_of_methodNamed Bz.named
  have hlocks := Bz.notSynchronized
  have hP : va_P D vwCl [(x0, .inr (5, [.ref g0, .ref xk, .ref xt, .ref xx, .ref xp, .int ik])), (g0, .inr (2, [.ref h0, .ref g1, .ref g2, .ref g3, .ref g4, .int (nI kd), .ref g5, .ref g6, .ref g7])), (h0, .inr (0, [.int (nI N), .ref h1, .ref h2, .ref h3, .ref h4, .ref h5, .ref h6])), (h1, .inl (E 0, 15, .inl hm)), (h2, .inl (E 0, 15, .inl aw)), (h3, .inl (E 0, 30, .inl rv)), (h4, .inl (E 0, 30, .inl sd)), (h5, .inl (E 0, 30, .inl gm)), (h6, .inl (E 0, 36, .inl ca)), (g3, .inl (E 1, 30, .inl bz))] s.heap := hP
  have hS : va_S (fun _ : Nat => False) s.heap s.heap [] := va_S.rf
  have hl := lv_entry ([.ref x0, .int v, .int w, .int y]) (n := 4) (Nat.le_of_ble_eq_true rfl)
  rw [lg_entry_eq]
  generalize (lg_sl ([.ref x0, .int v, .int w, .int y]) ++ List.replicate (4 - (lg_sl ([.ref x0, .int v, .int w, .int y])).length) Slot.unset).toArray = ls at hl ⊢
  have hl : lv_has ls 4 [(0, .ref x0), (1, .int v), (2, .int w), (3, .int y)] := hl
  refine zr_nQ (fun Q hQ => ?_)
  have hN := hpl.1.1
  refine lv_aload_n hx hb dX7_of_0 rfl (lv_at hl 0 rfl) ?_
  refine va_get (D := D) (ci := 5) (v := .ref g0) (C := RX7) (T := TX7) (N := 6) hx hb hts (by decide +kernel) hown hK.1 hP 0 rfl rfl 0 (by decide) (hts (.fieldLink RX7 12 "HomeRounds" "now" "LHomeRounds$Setting;") (by decide +kernel)) (fun _ h9 => h9) rfl dX7_of_1 ?_
  refine va_get (D := D) (ci := 2) (v := .ref h0) (C := RX3) (T := TX3) (N := 9) hx hb hts (by decide +kernel) hown hK.1 hP 1 rfl rfl 0 (by decide) (hts (.fieldLink RX7 38 "HomeRounds$Setting" "plan" "LHomeRounds$Plan;") (by decide +kernel)) (fun _ h9 => h9) rfl dX7_of_4 ?_
  refine lv_iload_n hx hb dX7_of_7 rfl (lv_at hl 1 rfl) ?_
  refine lv_iload_n hx hb dX7_of_8 rfl (lv_at hl 2 rfl) ?_
  refine zr_ci hP hS (va_runV (As := [.int v, .int w]) (rest := []) ⟨hx, hb, hml, hown, hts⟩ (c_X1_hasPlace l D E h0 h1 h2 h3 h4 h5 h6 N hm aw rv sd gm ca v w (hN)) (cwV 2 hts gX7_of_X1_hasPlace rfl rfl rfl (by decide +kernel) ⟨Nat.le_of_ble_eq_true rfl, Nat.le_of_ble_eq_true rfl⟩) (zr_V hK (hP.sub (ws' := [(h0, .inr (0, [.int (nI N), .ref h1, .ref h2, .ref h3, .ref h4, .ref h5, .ref h6])), (h1, .inl (E 0, 15, .inl hm)), (h2, .inl (E 0, 15, .inl aw)), (h3, .inl (E 0, 30, .inl rv)), (h4, .inl (E 0, 30, .inl sd)), (h5, .inl (E 0, 30, .inl gm)), (h6, .inl (E 0, 36, .inl ca))]) [2, 3, 4, 5, 6, 7, 8] rfl) (ci := 0) (q0 := 0) rfl rfl) rfl rfl hl.1 rfl (lv_room (Nat.le_of_ble_eq_true rfl)) dX7_of_9 ⟨Nat.zero_le _, Nat.zero_le _⟩) (fun r_1 H locs hw_2 hP hS => ?_)
  rcases hw_2 with ⟨rfl, hw_2⟩ | ⟨rfl, hw_2⟩
  · skip
    obtain ⟨⟨t, ht, v_e⟩, ⟨u, hu, w_e⟩⟩ := hw_2
    have e1 : zi N v = true := v_e ▸ zi_t ht (by omega)
    have q1 : zq v = t := v_e ▸ zq_t (by omega)
    rw [v_e] at hl
    have e2 : zi (N - 1) w = true := w_e ▸ zi_t hu (by omega)
    have q2 : zq w = u := w_e ▸ zq_t (by omega)
    rw [w_e] at hl
    have e0 : (zi N v && zi (N - 1) w) = true := by rw [e1, e2]; rfl
    refine zr_ti (y := nI 1) rfl ?_
    refine lv_if_ne (tgt := 17) hx hb dX7_of_12 (by decide) (fun cn_3 => ?_) (fun cn_3 => ?_)
    · skip
      refine lv_iload_n hx hb dX7_of_17 rfl (lv_at hl 3 rfl) ?_
      rcases zn_sw y 4 with hsw | hsw
      · obtain ⟨kz, hkz, hxz⟩ := hsw
        have hsw : kz = 0 ∨ kz = 1 ∨ kz = 2 ∨ kz = 3 := by omega
        rcases hsw with hsw | hsw | hsw | hsw
        · skip
          rw [hsw] at hxz; clear hsw hkz
          have hz : zw 4 y = 0 := by rw [hxz]; exact zw_t (by omega)
          refine zr_ti (y := nI 0) (hxz) ?_
          refine lv_tableIn (x := nI 0) (off := 30) (tgt := 48) hx hb dX7_of_18 (by decide +kernel) (by decide +kernel) (by decide +kernel) (by decide) ?_
          refine lv_aload_n hx hb dX7_of_48 rfl (lv_at hl 0 rfl) ?_
          refine va_get (D := D) (ci := 5) (v := .ref g0) (C := RX7) (T := TX7) (N := 6) hx hb hts (by decide +kernel) hown hK.1 hP 0 rfl rfl 0 (by decide) (hts (.fieldLink RX7 12 "HomeRounds" "now" "LHomeRounds$Setting;") (by decide +kernel)) (fun _ h9 => h9) rfl dX7_of_49 ?_
          refine va_get (D := D) (ci := 2) (v := .ref h0) (C := RX3) (T := TX3) (N := 9) hx hb hts (by decide +kernel) hown hK.1 hP 1 rfl rfl 0 (by decide) (hts (.fieldLink RX7 38 "HomeRounds$Setting" "plan" "LHomeRounds$Plan;") (by decide +kernel)) (fun _ h9 => h9) rfl dX7_of_52 ?_
          refine lv_iload_n hx hb dX7_of_55 rfl (lv_at hl 1 rfl) ?_
          refine lv_iload_n hx hb dX7_of_56 rfl (lv_at hl 2 rfl) ?_
          refine zr_ci hP hS (va_runV (As := [.int (nI t), .int (nI u)]) (rest := []) ⟨hx, hb, hml, hown, hts⟩ (c_X1_rivalOf l D E h0 h1 h2 h3 h4 h5 h6 N hm aw rv sd gm ca G P t u (hpl) (by omega) (by omega)) (cwV 2 hts gX7_of_X1_rivalOf rfl rfl rfl (by decide +kernel) ⟨Nat.le_of_ble_eq_true rfl, Nat.le_of_ble_eq_true rfl⟩) (zr_V hK (hP.sub (ws' := [(h0, .inr (0, [.int (nI N), .ref h1, .ref h2, .ref h3, .ref h4, .ref h5, .ref h6])), (h1, .inl (E 0, 15, .inl hm)), (h2, .inl (E 0, 15, .inl aw)), (h3, .inl (E 0, 30, .inl rv)), (h4, .inl (E 0, 30, .inl sd)), (h5, .inl (E 0, 30, .inl gm)), (h6, .inl (E 0, 36, .inl ca))]) [2, 3, 4, 5, 6, 7, 8] rfl) (ci := 0) (q0 := 0) rfl rfl) rfl rfl hl.1 rfl (lv_room (Nat.le_of_ble_eq_true rfl)) dX7_of_57 ⟨Nat.zero_le _, Nat.zero_le _⟩) (fun r_4 H locs hw_5 hP hS => ?_)
          subst hw_5
          subst hQ
          exact W.iret (v := nI (zm_rv G P t u)) hx hb hr (fun tz htz hWz => ⟨⟨nI (zm_rv G P t u), (), rfl, by simp only [cond_true, cond_false, Bool.and_true, Bool.and_false, Bool.true_and, Bool.false_and, e0, q1, q2, hz]; rfl, trivial⟩, hS.F htz⟩) hS.2.2 dX7_of_60
        · skip
          rw [hsw] at hxz; clear hsw hkz
          have hz : zw 4 y = 1 := by rw [hxz]; exact zw_t (by omega)
          refine zr_ti (y := nI 1) (hxz) ?_
          refine lv_tableIn (x := nI 1) (off := 43) (tgt := 61) hx hb dX7_of_18 (by decide +kernel) (by decide +kernel) (by decide +kernel) (by decide) ?_
          refine lv_aload_n hx hb dX7_of_61 rfl (lv_at hl 0 rfl) ?_
          refine va_get (D := D) (ci := 5) (v := .ref g0) (C := RX7) (T := TX7) (N := 6) hx hb hts (by decide +kernel) hown hK.1 hP 0 rfl rfl 0 (by decide) (hts (.fieldLink RX7 12 "HomeRounds" "now" "LHomeRounds$Setting;") (by decide +kernel)) (fun _ h9 => h9) rfl dX7_of_62 ?_
          refine va_get (D := D) (ci := 2) (v := .ref h0) (C := RX3) (T := TX3) (N := 9) hx hb hts (by decide +kernel) hown hK.1 hP 1 rfl rfl 0 (by decide) (hts (.fieldLink RX7 38 "HomeRounds$Setting" "plan" "LHomeRounds$Plan;") (by decide +kernel)) (fun _ h9 => h9) rfl dX7_of_65 ?_
          refine lv_iload_n hx hb dX7_of_68 rfl (lv_at hl 1 rfl) ?_
          refine lv_iload_n hx hb dX7_of_69 rfl (lv_at hl 2 rfl) ?_
          refine zr_ci hP hS (va_runV (As := [.int (nI t), .int (nI u)]) (rest := []) ⟨hx, hb, hml, hown, hts⟩ (c_X1_sideOf l D E h0 h1 h2 h3 h4 h5 h6 N hm aw rv sd gm ca G P t u (hpl) (by omega) (by omega)) (cwV 2 hts gX7_of_X1_sideOf rfl rfl rfl (by decide +kernel) ⟨Nat.le_of_ble_eq_true rfl, Nat.le_of_ble_eq_true rfl⟩) (zr_V hK (hP.sub (ws' := [(h0, .inr (0, [.int (nI N), .ref h1, .ref h2, .ref h3, .ref h4, .ref h5, .ref h6])), (h1, .inl (E 0, 15, .inl hm)), (h2, .inl (E 0, 15, .inl aw)), (h3, .inl (E 0, 30, .inl rv)), (h4, .inl (E 0, 30, .inl sd)), (h5, .inl (E 0, 30, .inl gm)), (h6, .inl (E 0, 36, .inl ca))]) [2, 3, 4, 5, 6, 7, 8] rfl) (ci := 0) (q0 := 0) rfl rfl) rfl rfl hl.1 rfl (lv_room (Nat.le_of_ble_eq_true rfl)) dX7_of_70 ⟨Nat.zero_le _, Nat.zero_le _⟩) (fun r_6 H locs hw_7 hP hS => ?_)
          subst hw_7
          subst hQ
          exact W.iret (v := nI (zm_sd P t u)) hx hb hr (fun tz htz hWz => ⟨⟨nI (zm_sd P t u), (), rfl, by simp only [cond_true, cond_false, Bool.and_true, Bool.and_false, Bool.true_and, Bool.false_and, e0, q1, q2, hz]; rfl, trivial⟩, hS.F htz⟩) hS.2.2 dX7_of_73
        · skip
          rw [hsw] at hxz; clear hsw hkz
          have hz : zw 4 y = 2 := by rw [hxz]; exact zw_t (by omega)
          refine zr_ti (y := nI 2) (hxz) ?_
          refine lv_tableIn (x := nI 2) (off := 56) (tgt := 74) hx hb dX7_of_18 (by decide +kernel) (by decide +kernel) (by decide +kernel) (by decide) ?_
          refine lv_aload_n hx hb dX7_of_74 rfl (lv_at hl 0 rfl) ?_
          refine va_get (D := D) (ci := 5) (v := .ref g0) (C := RX7) (T := TX7) (N := 6) hx hb hts (by decide +kernel) hown hK.1 hP 0 rfl rfl 0 (by decide) (hts (.fieldLink RX7 12 "HomeRounds" "now" "LHomeRounds$Setting;") (by decide +kernel)) (fun _ h9 => h9) rfl dX7_of_75 ?_
          refine va_get (D := D) (ci := 2) (v := .ref h0) (C := RX3) (T := TX3) (N := 9) hx hb hts (by decide +kernel) hown hK.1 hP 1 rfl rfl 0 (by decide) (hts (.fieldLink RX7 38 "HomeRounds$Setting" "plan" "LHomeRounds$Plan;") (by decide +kernel)) (fun _ h9 => h9) rfl dX7_of_78 ?_
          refine lv_iload_n hx hb dX7_of_81 rfl (lv_at hl 1 rfl) ?_
          refine lv_iload_n hx hb dX7_of_82 rfl (lv_at hl 2 rfl) ?_
          refine zr_ci hP hS (va_runV (As := [.int (nI t), .int (nI u)]) (rest := []) ⟨hx, hb, hml, hown, hts⟩ (c_X1_gameOf l D E h0 h1 h2 h3 h4 h5 h6 N hm aw rv sd gm ca G P t u (hpl) (by omega) (by omega)) (cwV 2 hts gX7_of_X1_gameOf rfl rfl rfl (by decide +kernel) ⟨Nat.le_of_ble_eq_true rfl, Nat.le_of_ble_eq_true rfl⟩) (zr_V hK (hP.sub (ws' := [(h0, .inr (0, [.int (nI N), .ref h1, .ref h2, .ref h3, .ref h4, .ref h5, .ref h6])), (h1, .inl (E 0, 15, .inl hm)), (h2, .inl (E 0, 15, .inl aw)), (h3, .inl (E 0, 30, .inl rv)), (h4, .inl (E 0, 30, .inl sd)), (h5, .inl (E 0, 30, .inl gm)), (h6, .inl (E 0, 36, .inl ca))]) [2, 3, 4, 5, 6, 7, 8] rfl) (ci := 0) (q0 := 0) rfl rfl) rfl rfl hl.1 rfl (lv_room (Nat.le_of_ble_eq_true rfl)) dX7_of_83 ⟨Nat.zero_le _, Nat.zero_le _⟩) (fun r_8 H locs hw_9 hP hS => ?_)
          subst hw_9
          subst hQ
          exact W.iret (v := nI (zm_gm P t u)) hx hb hr (fun tz htz hWz => ⟨⟨nI (zm_gm P t u), (), rfl, by simp only [cond_true, cond_false, Bool.and_true, Bool.and_false, Bool.true_and, Bool.false_and, e0, q1, q2, hz]; rfl, trivial⟩, hS.F htz⟩) hS.2.2 dX7_of_86
        · skip
          rw [hsw] at hxz; clear hsw hkz
          have hz : zw 4 y = 3 := by rw [hxz]; exact zw_t (by omega)
          refine zr_ti (y := nI 3) (hxz) ?_
          refine lv_tableIn (x := nI 3) (off := 69) (tgt := 87) hx hb dX7_of_18 (by decide +kernel) (by decide +kernel) (by decide +kernel) (by decide) ?_
          obtain ⟨hb1, -⟩ := hbz u t (by omega) (by omega)
          refine lv_aload_n hx hb dX7_of_87 rfl (lv_at hl 0 rfl) ?_
          refine va_get (D := D) (ci := 5) (v := .ref g0) (C := RX7) (T := TX7) (N := 6) hx hb hts (by decide +kernel) hown hK.1 hP 0 rfl rfl 0 (by decide) (hts (.fieldLink RX7 12 "HomeRounds" "now" "LHomeRounds$Setting;") (by decide +kernel)) (fun _ h9 => h9) rfl dX7_of_88 ?_
          refine lv_iload_n hx hb dX7_of_91 rfl (lv_at hl 1 rfl) ?_
          refine lv_iload_n hx hb dX7_of_92 rfl (lv_at hl 2 rfl) ?_
          refine zr_ci hP hS (va_runV (As := [.int (nI t), .int (nI u)]) (rest := []) ⟨hx, hb, hml, hown, hts⟩ (c_X3_isBarred l D E g0 g1 g2 g3 g4 g5 g6 g7 kd h0 h1 h2 h3 h4 h5 h6 N hm aw rv sd gm ca G P bz B t u (hpl) (hbz) (by omega) (by omega)) (cwV 2 hts gX7_of_X3_isBarred rfl rfl rfl (by decide +kernel) ⟨Nat.le_of_ble_eq_true rfl, Nat.le_of_ble_eq_true rfl⟩) (zr_V hK (hP.sub (ws' := [(g0, .inr (2, [.ref h0, .ref g1, .ref g2, .ref g3, .ref g4, .int (nI kd), .ref g5, .ref g6, .ref g7])), (h0, .inr (0, [.int (nI N), .ref h1, .ref h2, .ref h3, .ref h4, .ref h5, .ref h6])), (h1, .inl (E 0, 15, .inl hm)), (h2, .inl (E 0, 15, .inl aw)), (h3, .inl (E 0, 30, .inl rv)), (h4, .inl (E 0, 30, .inl sd)), (h5, .inl (E 0, 30, .inl gm)), (h6, .inl (E 0, 36, .inl ca)), (g3, .inl (E 1, 30, .inl bz))]) [1, 2, 3, 4, 5, 6, 7, 8, 9] rfl) (ci := 2) (q0 := 0) rfl rfl) rfl rfl hl.1 rfl (lv_room (Nat.le_of_ble_eq_true rfl)) dX7_of_93 ⟨Nat.zero_le _, Nat.zero_le _⟩) (fun r_10 H locs hw_11 hP hS => ?_)
          subst hw_11
          refine lv_if_eq (tgt := 103) hx hb dX7_of_96 (by decide) (fun cn_12 => ?_) (fun cn_12 => ?_)
          · skip
            have cn_12 : B t u = 0 := (nI_eq (a := B t u) (b := 0) (by omega) (by omega)).mp cn_12
            have hb9 : B t u = 0 := by omega
            refine lv_iconst (v := nI 0) hx hb dX7_of_103 (by rfl) ?_
            subst hQ
            exact W.iret (v := nI 0) hx hb hr (fun tz htz hWz => ⟨⟨nI 0, (), rfl, by simp only [cond_true, cond_false, Bool.and_true, Bool.and_false, Bool.true_and, Bool.false_and, e0, q1, q2, hz]; exact congrArg nI hb9.symm, trivial⟩, hS.F htz⟩) hS.2.2 dX7_of_104
          · skip
            have cn_12 : ¬ (B t u = 0) := fun hz => cn_12 ((nI_eq (a := B t u) (b := 0) (by omega) (by omega)).mpr hz)
            have hb9 : B t u = 1 := by omega
            refine lv_iconst (v := nI 1) hx hb dX7_of_99 (by rfl) ?_
            refine lv_goto (tgt := 104) hx hb dX7_of_100 (by decide) ?_
            subst hQ
            exact W.iret (v := nI 1) hx hb hr (fun tz htz hWz => ⟨⟨nI 1, (), rfl, by simp only [cond_true, cond_false, Bool.and_true, Bool.and_false, Bool.true_and, Bool.false_and, e0, q1, q2, hz]; exact congrArg nI hb9.symm, trivial⟩, hS.F htz⟩) hS.2.2 dX7_of_104
      · skip
        have hz : zw 4 y = 4 := zw_o (by omega) (by simpa using hsw)
        refine lv_tableOut (tgt := 105) hx hb dX7_of_18 (by simpa using hsw) (by decide) ?_
        refine lv_iconst (v := (-1)) hx hb dX7_of_105 (by rfl) ?_
        subst hQ
        exact W.iret (v := (-1)) hx hb hr (fun tz htz hWz => ⟨⟨(-1), (), rfl, by simp only [cond_true, cond_false, Bool.and_true, Bool.and_false, Bool.true_and, Bool.false_and, e0, q1, q2, hz]; rfl, trivial⟩, hS.F htz⟩) hS.2.2 dX7_of_106
    · skip
      exact absurd cn_3 (by decide)
  · skip
    have e0 : (zi N v && zi (N - 1) w) = false := zi_f2 hw_2
    refine zr_ti (y := nI 0) rfl ?_
    refine lv_if_ne (tgt := 17) hx hb dX7_of_12 (by decide) (fun cn_13 => ?_) (fun cn_13 => ?_)
    · skip
      exact absurd cn_13 (by decide)
    · skip
      refine lv_iconst (v := (-1)) hx hb dX7_of_15 (by rfl) ?_
      subst hQ
      exact W.iret (v := (-1)) hx hb hr (fun tz htz hWz => ⟨⟨(-1), (), rfl, by simp only [cond_true, cond_false, Bool.and_true, Bool.and_false, Bool.true_and, Bool.false_and, e0], trivial⟩, hS.F htz⟩) hS.2.2 dX7_of_16

set_option maxHeartbeats 4000000 in
set_option maxRecDepth 100000 in
theorem c_X7_season (l : Launch) (D : va_G) (E : Nat → ClassId) (x0 : Nat) (xk : Nat) (xt : Nat) (xx : Nat) (xp : Nat) (ik : Int32) (g0 : Nat) (g1 : Nat) (g2 : Nat) (g3 : Nat) (g4 : Nat) (g5 : Nat) (g6 : Nat) (g7 : Nat) (kd : Nat) (h0 : Nat) (h1 : Nat) (h2 : Nat) (h3 : Nat) (h4 : Nat) (h5 : Nat) (h6 : Nat) (N : Nat) (hm : Nat → Int32) (aw : Nat → Int32) (rv : Nat → Int32) (sd : Nat → Int32) (gm : Nat → Int32) (ca : Nat → Int32) (G : Nat → Nat → Nat) (P : Nat → Nat → Nat) (v : Int32) (w : Int32) (y : Int32) (hpl : zm_pl N G P hm aw rv sd gm) (hkd : kd < 3) : Met l yX7_season wsX7_season ({ frames := 3, cells := 0, slots := 0, locals := 68 }) (zr_P D E [.ref x0, .int v, .int w, .int y] [(x0, .inr (5, [.ref g0, .ref xk, .ref xt, .ref xx, .ref xp, .int ik])), (g0, .inr (2, [.ref h0, .ref g1, .ref g2, .ref g3, .ref g4, .int (nI kd), .ref g5, .ref g6, .ref g7])), (h0, .inr (0, [.int (nI N), .ref h1, .ref h2, .ref h3, .ref h4, .ref h5, .ref h6])), (h1, .inl (E 0, 15, .inl hm)), (h2, .inl (E 0, 15, .inl aw)), (h3, .inl (E 0, 30, .inl rv)), (h4, .inl (E 0, 30, .inl sd)), (h5, .inl (E 0, 30, .inl gm)), (h6, .inl (E 0, 36, .inl ca))]) (zr_Qi (fun zv => zv = cond (zi N v && zi (2 * (N - 1)) w) (zo_season N G P kd (zq v) (zq w) (zw 2 y)) (-1))) 0 0 (fun _ => False) := by
  refine Met.ofW (cc := cX7_season) (maxL := 5) (ret := (some .int)) (by decide) rfl ?_
  intro p e s m args below meth c s₁ Bz hml hv
  obtain ⟨rfl, hP, hK⟩ := hv
  have hx := Bz.exec
  have hb := Bz.bytes
  have hr := Bz.returns
  have hts := atoms_spec (ws := wsX7_season) Bz.pre
  have hown : s.vm.findClass RX7 = some m.cls := findClass_of_methodNamed Bz.named
  have hlocks := Bz.notSynchronized
  have hP : va_P D vwCl [(x0, .inr (5, [.ref g0, .ref xk, .ref xt, .ref xx, .ref xp, .int ik])), (g0, .inr (2, [.ref h0, .ref g1, .ref g2, .ref g3, .ref g4, .int (nI kd), .ref g5, .ref g6, .ref g7])), (h0, .inr (0, [.int (nI N), .ref h1, .ref h2, .ref h3, .ref h4, .ref h5, .ref h6])), (h1, .inl (E 0, 15, .inl hm)), (h2, .inl (E 0, 15, .inl aw)), (h3, .inl (E 0, 30, .inl rv)), (h4, .inl (E 0, 30, .inl sd)), (h5, .inl (E 0, 30, .inl gm)), (h6, .inl (E 0, 36, .inl ca))] s.heap := hP
  have hS : va_S (fun _ : Nat => False) s.heap s.heap [] := va_S.rf
  have hl := lv_entry ([.ref x0, .int v, .int w, .int y]) (n := 5) (Nat.le_of_ble_eq_true rfl)
  rw [lg_entry_eq]
  generalize (lg_sl ([.ref x0, .int v, .int w, .int y]) ++ List.replicate (5 - (lg_sl ([.ref x0, .int v, .int w, .int y])).length) Slot.unset).toArray = ls at hl ⊢
  have hl : lv_has ls 5 [(0, .ref x0), (1, .int v), (2, .int w), (3, .int y)] := hl
  refine zr_nQ (fun Q hQ => ?_)
  have hN := hpl.1.1
  refine lv_aload_n hx hb dX7_season_0 rfl (lv_at hl 0 rfl) ?_
  refine va_get (D := D) (ci := 5) (v := .ref g0) (C := RX7) (T := TX7) (N := 6) hx hb hts (by decide +kernel) hown hK.1 hP 0 rfl rfl 0 (by decide) (hts (.fieldLink RX7 12 "HomeRounds" "now" "LHomeRounds$Setting;") (by decide +kernel)) (fun _ h9 => h9) rfl dX7_season_1 ?_
  refine va_get (D := D) (ci := 2) (v := .ref h0) (C := RX3) (T := TX3) (N := 9) hx hb hts (by decide +kernel) hown hK.1 hP 1 rfl rfl 0 (by decide) (hts (.fieldLink RX7 38 "HomeRounds$Setting" "plan" "LHomeRounds$Plan;") (by decide +kernel)) (fun _ h9 => h9) rfl dX7_season_4 ?_
  refine lv_astore (lv' := [(4, .ref h0), (0, .ref x0), (1, .int v), (2, .int w), (3, .int y)]) hx hb dX7_season_7 hl (by decide) rfl (fun ls hl => ?_)
  refine lv_aload hx hb dX7_season_9 (lv_at hl 0 rfl) ?_
  refine lv_iload_n hx hb dX7_season_11 rfl (lv_at hl 2 rfl) ?_
  refine zr_ci hP hS (va_runV (As := [.int v]) (rest := []) ⟨hx, hb, hml, hown, hts⟩ (c_X1_hasTeam l D E h0 h1 h2 h3 h4 h5 h6 N hm aw rv sd gm ca v (hN)) (cwV 1 hts gX7_season_X1_hasTeam rfl rfl rfl (by decide +kernel) ⟨Nat.le_of_ble_eq_true rfl, Nat.le_of_ble_eq_true rfl⟩) (zr_V hK (hP.sub (ws' := [(h0, .inr (0, [.int (nI N), .ref h1, .ref h2, .ref h3, .ref h4, .ref h5, .ref h6])), (h1, .inl (E 0, 15, .inl hm)), (h2, .inl (E 0, 15, .inl aw)), (h3, .inl (E 0, 30, .inl rv)), (h4, .inl (E 0, 30, .inl sd)), (h5, .inl (E 0, 30, .inl gm)), (h6, .inl (E 0, 36, .inl ca))]) [2, 3, 4, 5, 6, 7, 8] rfl) (ci := 0) (q0 := 0) rfl rfl) rfl rfl hl.1 rfl (lv_room (Nat.le_of_ble_eq_true rfl)) dX7_season_12 ⟨Nat.zero_le _, Nat.zero_le _⟩) (fun r_1 H locs hw_2 hP hS => ?_)
  rcases hw_2 with ⟨rfl, hw_2⟩ | ⟨rfl, hw_2⟩
  · skip
    obtain ⟨t, ht, v_e⟩ := hw_2
    have e1 : zi N v = true := v_e ▸ zi_t ht (by omega)
    have q1 : zq v = t := v_e ▸ zq_t (by omega)
    rw [v_e] at hl
    refine zr_ti (y := nI 1) rfl ?_
    refine lv_if_eq (tgt := 27) hx hb dX7_season_15 (by decide) (fun cn_3 => ?_) (fun cn_3 => ?_)
    · skip
      exact absurd cn_3 (by decide)
    · skip
      refine lv_aload hx hb dX7_season_18 (lv_at hl 0 rfl) ?_
      refine lv_iload_n hx hb dX7_season_20 rfl (lv_at hl 3 rfl) ?_
      refine zr_ci hP hS (va_runV (As := [.int w]) (rest := []) ⟨hx, hb, hml, hown, hts⟩ (c_X1_hasSeasonRound l D E h0 h1 h2 h3 h4 h5 h6 N hm aw rv sd gm ca w (hN)) (cwV 1 hts gX7_season_X1_hasSeasonRound rfl rfl rfl (by decide +kernel) ⟨Nat.le_of_ble_eq_true rfl, Nat.le_of_ble_eq_true rfl⟩) (zr_V hK (hP.sub (ws' := [(h0, .inr (0, [.int (nI N), .ref h1, .ref h2, .ref h3, .ref h4, .ref h5, .ref h6])), (h1, .inl (E 0, 15, .inl hm)), (h2, .inl (E 0, 15, .inl aw)), (h3, .inl (E 0, 30, .inl rv)), (h4, .inl (E 0, 30, .inl sd)), (h5, .inl (E 0, 30, .inl gm)), (h6, .inl (E 0, 36, .inl ca))]) [2, 3, 4, 5, 6, 7, 8] rfl) (ci := 0) (q0 := 0) rfl rfl) rfl rfl hl.1 rfl (lv_room (Nat.le_of_ble_eq_true rfl)) dX7_season_21 ⟨Nat.zero_le _, Nat.zero_le _⟩) (fun r_4 H locs hw_5 hP hS => ?_)
      rcases hw_5 with ⟨rfl, hw_5⟩ | ⟨rfl, hw_5⟩
      · skip
        obtain ⟨u, hu, w_e⟩ := hw_5
        have e2 : zi (2 * (N - 1)) w = true := w_e ▸ zi_t hu (by omega)
        have q2 : zq w = u := w_e ▸ zq_t (by omega)
        rw [w_e] at hl
        refine zr_ti (y := nI 1) rfl ?_
        refine lv_if_ne (tgt := 29) hx hb dX7_season_24 (by decide) (fun cn_6 => ?_) (fun cn_6 => ?_)
        · skip
          refine lv_iload_n hx hb dX7_season_29 rfl (lv_at hl 4 rfl) ?_
          rcases zn_sw y 2 with hsw | hsw
          · obtain ⟨kz, hkz, hxz⟩ := hsw
            have hsw : kz = 0 ∨ kz = 1 := by omega
            rcases hsw with hsw | hsw
            · skip
              rw [hsw] at hxz; clear hsw hkz
              have hz : zw 2 y = 0 := by rw [hxz]; exact zw_t (by omega)
              refine zr_ti (y := nI 0) hxz ?_
              refine lv_lookup (x := nI 0) (off := 26) (tgt := 56) hx hb dX7_season_30 (by decide +kernel) (by decide +kernel) (by decide) ?_
              have hh := zm_half_lt (kd := kd) hN hu
              refine lv_aload hx hb dX7_season_56 (lv_at hl 0 rfl) ?_
              refine lv_iload_n hx hb dX7_season_58 rfl (lv_at hl 2 rfl) ?_
              refine lv_aload hx hb dX7_season_59 (lv_at hl 0 rfl) ?_
              refine lv_iload_n hx hb dX7_season_61 rfl (lv_at hl 3 rfl) ?_
              refine lv_aload_n hx hb dX7_season_62 rfl (lv_at hl 1 rfl) ?_
              refine va_get (D := D) (ci := 5) (v := .ref g0) (C := RX7) (T := TX7) (N := 6) hx hb hts (by decide +kernel) hown hK.1 hP 0 rfl rfl 0 (by decide) (hts (.fieldLink RX7 12 "HomeRounds" "now" "LHomeRounds$Setting;") (by decide +kernel)) (fun _ h9 => h9) rfl dX7_season_63 ?_
              refine va_get (D := D) (ci := 2) (v := .int (nI kd)) (C := RX3) (T := TX3) (N := 9) hx hb hts (by decide +kernel) hown hK.1 hP 1 rfl rfl 5 (by decide) (hts (.fieldLink RX7 102 "HomeRounds$Setting" "seasonKind" "I") (by decide +kernel)) (fun _ h9 => h9) rfl dX7_season_66 ?_
              refine zr_ci hP hS (va_runV (As := [.int (nI u), .int (nI kd)]) (rest := [.int (nI t), .ref h0]) ⟨hx, hb, hml, hown, hts⟩ (c_X1_halfRound l D E h0 h1 h2 h3 h4 h5 h6 N hm aw rv sd gm ca G P u kd (hpl) (by omega) (by omega)) (cwV 2 hts gX7_season_X1_halfRound rfl rfl rfl (by decide +kernel) ⟨Nat.le_of_ble_eq_true rfl, Nat.le_of_ble_eq_true rfl⟩) (zr_V hK (hP.sub (ws' := [(h0, .inr (0, [.int (nI N), .ref h1, .ref h2, .ref h3, .ref h4, .ref h5, .ref h6])), (h1, .inl (E 0, 15, .inl hm)), (h2, .inl (E 0, 15, .inl aw)), (h3, .inl (E 0, 30, .inl rv)), (h4, .inl (E 0, 30, .inl sd)), (h5, .inl (E 0, 30, .inl gm)), (h6, .inl (E 0, 36, .inl ca))]) [2, 3, 4, 5, 6, 7, 8] rfl) (ci := 0) (q0 := 0) rfl rfl) rfl rfl hl.1 rfl (lv_room (Nat.le_of_ble_eq_true rfl)) dX7_season_69 ⟨Nat.zero_le _, Nat.zero_le _⟩) (fun r_7 H locs hw_8 hP hS => ?_)
              subst hw_8
              refine zr_ci hP hS (va_runV (As := [.int (nI t), .int (nI (zm_half N kd u))]) (rest := []) ⟨hx, hb, hml, hown, hts⟩ (c_X1_rivalOf l D E h0 h1 h2 h3 h4 h5 h6 N hm aw rv sd gm ca G P t (zm_half N kd u) (hpl) (by omega) (by omega)) (cwV 2 hts gX7_season_X1_rivalOf rfl rfl rfl (by decide +kernel) ⟨Nat.le_of_ble_eq_true rfl, Nat.le_of_ble_eq_true rfl⟩) (zr_V hK (hP.sub (ws' := [(h0, .inr (0, [.int (nI N), .ref h1, .ref h2, .ref h3, .ref h4, .ref h5, .ref h6])), (h1, .inl (E 0, 15, .inl hm)), (h2, .inl (E 0, 15, .inl aw)), (h3, .inl (E 0, 30, .inl rv)), (h4, .inl (E 0, 30, .inl sd)), (h5, .inl (E 0, 30, .inl gm)), (h6, .inl (E 0, 36, .inl ca))]) [2, 3, 4, 5, 6, 7, 8] rfl) (ci := 0) (q0 := 0) rfl rfl) rfl rfl hl.1 rfl (lv_room (Nat.le_of_ble_eq_true rfl)) dX7_season_72 ⟨Nat.zero_le _, Nat.zero_le _⟩) (fun r_9 H locs hw_10 hP hS => ?_)
              subst hw_10
              subst hQ
              exact W.iret (v := nI (zm_rv G P t (zm_half N kd u))) hx hb hr (fun tz htz hWz => ⟨⟨nI (zm_rv G P t (zm_half N kd u)), (), rfl, by simp only [cond_true, cond_false, Bool.and_true, Bool.and_false, Bool.true_and, Bool.false_and, e1, e2, q1, q2, hz]; rfl, trivial⟩, hS.F htz⟩) hS.2.2 dX7_season_75
            · skip
              rw [hsw] at hxz; clear hsw hkz
              have hz : zw 2 y = 1 := by rw [hxz]; exact zw_t (by omega)
              refine zr_ti (y := nI 1) hxz ?_
              refine lv_lookup (x := nI 1) (off := 46) (tgt := 76) hx hb dX7_season_30 (by decide +kernel) (by decide +kernel) (by decide) ?_
              refine lv_aload hx hb dX7_season_76 (lv_at hl 0 rfl) ?_
              refine lv_iload_n hx hb dX7_season_78 rfl (lv_at hl 2 rfl) ?_
              refine lv_iload_n hx hb dX7_season_79 rfl (lv_at hl 3 rfl) ?_
              refine lv_aload_n hx hb dX7_season_80 rfl (lv_at hl 1 rfl) ?_
              refine va_get (D := D) (ci := 5) (v := .ref g0) (C := RX7) (T := TX7) (N := 6) hx hb hts (by decide +kernel) hown hK.1 hP 0 rfl rfl 0 (by decide) (hts (.fieldLink RX7 12 "HomeRounds" "now" "LHomeRounds$Setting;") (by decide +kernel)) (fun _ h9 => h9) rfl dX7_season_81 ?_
              refine va_get (D := D) (ci := 2) (v := .int (nI kd)) (C := RX3) (T := TX3) (N := 9) hx hb hts (by decide +kernel) hown hK.1 hP 1 rfl rfl 5 (by decide) (hts (.fieldLink RX7 102 "HomeRounds$Setting" "seasonKind" "I") (by decide +kernel)) (fun _ h9 => h9) rfl dX7_season_84 ?_
              refine zr_ci hP hS (va_runV (As := [.int (nI t), .int (nI u), .int (nI kd)]) (rest := []) ⟨hx, hb, hml, hown, hts⟩ (c_X1_seasonSide l D E h0 h1 h2 h3 h4 h5 h6 N hm aw rv sd gm ca G P t u kd (hpl) (by omega) (by omega) (by omega)) (cwV 3 hts gX7_season_X1_seasonSide rfl rfl rfl (by decide +kernel) ⟨Nat.le_of_ble_eq_true rfl, Nat.le_of_ble_eq_true rfl⟩) (zr_V hK (hP.sub (ws' := [(h0, .inr (0, [.int (nI N), .ref h1, .ref h2, .ref h3, .ref h4, .ref h5, .ref h6])), (h1, .inl (E 0, 15, .inl hm)), (h2, .inl (E 0, 15, .inl aw)), (h3, .inl (E 0, 30, .inl rv)), (h4, .inl (E 0, 30, .inl sd)), (h5, .inl (E 0, 30, .inl gm)), (h6, .inl (E 0, 36, .inl ca))]) [2, 3, 4, 5, 6, 7, 8] rfl) (ci := 0) (q0 := 0) rfl rfl) rfl rfl hl.1 rfl (lv_room (Nat.le_of_ble_eq_true rfl)) dX7_season_87 ⟨Nat.zero_le _, Nat.zero_le _⟩) (fun r_11 H locs hw_12 hP hS => ?_)
              subst hw_12
              subst hQ
              exact W.iret (v := nI (zm_ss N P kd t u)) hx hb hr (fun tz htz hWz => ⟨⟨nI (zm_ss N P kd t u), (), rfl, by simp only [cond_true, cond_false, Bool.and_true, Bool.and_false, Bool.true_and, Bool.false_and, e1, e2, q1, q2, hz]; rfl, trivial⟩, hS.F htz⟩) hS.2.2 dX7_season_90
          · skip
            have hz : zw 2 y = 2 := zw_o (by omega) (by simpa using hsw)
            refine lv_lookup (off := 61) (tgt := 91) hx hb dX7_season_30 (by decide +kernel) (zn_lk2 (by simpa using hsw)) (by decide) ?_
            refine lv_iconst (v := (-1)) hx hb dX7_season_91 (by rfl) ?_
            subst hQ
            exact W.iret (v := (-1)) hx hb hr (fun tz htz hWz => ⟨⟨(-1), (), rfl, by simp only [cond_true, cond_false, Bool.and_true, Bool.and_false, Bool.true_and, Bool.false_and, e1, e2, q1, q2, hz]; rfl, trivial⟩, hS.F htz⟩) hS.2.2 dX7_season_92
        · skip
          exact absurd cn_6 (by decide)
      · skip
        have e2 : zi (2 * (N - 1)) w = false := zi_f hw_5
        refine zr_ti (y := nI 0) rfl ?_
        refine lv_if_ne (tgt := 29) hx hb dX7_season_24 (by decide) (fun cn_13 => ?_) (fun cn_13 => ?_)
        · skip
          exact absurd cn_13 (by decide)
        · skip
          refine lv_iconst (v := (-1)) hx hb dX7_season_27 (by rfl) ?_
          subst hQ
          exact W.iret (v := (-1)) hx hb hr (fun tz htz hWz => ⟨⟨(-1), (), rfl, by first | (simp only [cond_true, cond_false, Bool.and_true, Bool.and_false, Bool.true_and, Bool.false_and, e1]; done) | (simp only [cond_true, cond_false, Bool.and_true, Bool.and_false, Bool.true_and, Bool.false_and, e1, e2]; done), trivial⟩, hS.F htz⟩) hS.2.2 dX7_season_28
  · skip
    have e1 : zi N v = false := zi_f hw_2
    refine zr_ti (y := nI 0) rfl ?_
    refine lv_if_eq (tgt := 27) hx hb dX7_season_15 (by decide) (fun cn_14 => ?_) (fun cn_14 => ?_)
    · skip
      refine lv_iconst (v := (-1)) hx hb dX7_season_27 (by rfl) ?_
      subst hQ
      exact W.iret (v := (-1)) hx hb hr (fun tz htz hWz => ⟨⟨(-1), (), rfl, by first | (simp only [cond_true, cond_false, Bool.and_true, Bool.and_false, Bool.true_and, Bool.false_and, e1]; done) | (simp only [cond_true, cond_false, Bool.and_true, Bool.and_false, Bool.true_and, Bool.false_and, e1, e2]; done), trivial⟩, hS.F htz⟩) hS.2.2 dX7_season_28
    · skip
      exact absurd cn_14 (by decide)

set_option maxHeartbeats 4000000 in
set_option maxRecDepth 100000 in
theorem c_X7_when (l : Launch) (D : va_G) (E : Nat → ClassId) (x0 : Nat) (xk : Nat) (xt : Nat) (xx : Nat) (xp : Nat) (ik : Int32) (g0 : Nat) (g1 : Nat) (g2 : Nat) (g3 : Nat) (g4 : Nat) (g5 : Nat) (g6 : Nat) (g7 : Nat) (kd : Nat) (h0 : Nat) (h1 : Nat) (h2 : Nat) (h3 : Nat) (h4 : Nat) (h5 : Nat) (h6 : Nat) (N : Nat) (hm : Nat → Int32) (aw : Nat → Int32) (rv : Nat → Int32) (sd : Nat → Int32) (gm : Nat → Int32) (ca : Nat → Int32) (G : Nat → Nat → Nat) (P : Nat → Nat → Nat) (v : Int32) (w : Int32) (hpl : zm_pl N G P hm aw rv sd gm) : Met l yX7_when wsX7_when ({ frames := 3, cells := 0, slots := 0, locals := 67 }) (zr_P D E [.ref x0, .int v, .int w] [(x0, .inr (5, [.ref g0, .ref xk, .ref xt, .ref xx, .ref xp, .int ik])), (g0, .inr (2, [.ref h0, .ref g1, .ref g2, .ref g3, .ref g4, .int (nI kd), .ref g5, .ref g6, .ref g7])), (h0, .inr (0, [.int (nI N), .ref h1, .ref h2, .ref h3, .ref h4, .ref h5, .ref h6])), (h1, .inl (E 0, 15, .inl hm)), (h2, .inl (E 0, 15, .inl aw)), (h3, .inl (E 0, 30, .inl rv)), (h4, .inl (E 0, 30, .inl sd)), (h5, .inl (E 0, 30, .inl gm)), (h6, .inl (E 0, 36, .inl ca))]) (zr_Qi (fun zv => zv = cond (zi N v && zi N w && !decide (zq v = zq w)) (zm_meet N G P (zq v) (zq w)) (-1))) 0 0 (fun _ => False) := by
  refine Met.ofW (cc := cX7_when) (maxL := 3) (ret := (some .int)) (by decide) rfl ?_
  intro p e s m args below meth c s₁ Bz hml hv
  obtain ⟨rfl, hP, hK⟩ := hv
  have hx := Bz.exec
  have hb := Bz.bytes
  have hr := Bz.returns
  have hts := atoms_spec (ws := wsX7_when) Bz.pre
  have hown : s.vm.findClass RX7 = some m.cls := findClass_of_methodNamed Bz.named
  have hlocks := Bz.notSynchronized
  have hP : va_P D vwCl [(x0, .inr (5, [.ref g0, .ref xk, .ref xt, .ref xx, .ref xp, .int ik])), (g0, .inr (2, [.ref h0, .ref g1, .ref g2, .ref g3, .ref g4, .int (nI kd), .ref g5, .ref g6, .ref g7])), (h0, .inr (0, [.int (nI N), .ref h1, .ref h2, .ref h3, .ref h4, .ref h5, .ref h6])), (h1, .inl (E 0, 15, .inl hm)), (h2, .inl (E 0, 15, .inl aw)), (h3, .inl (E 0, 30, .inl rv)), (h4, .inl (E 0, 30, .inl sd)), (h5, .inl (E 0, 30, .inl gm)), (h6, .inl (E 0, 36, .inl ca))] s.heap := hP
  have hS : va_S (fun _ : Nat => False) s.heap s.heap [] := va_S.rf
  have hl := lv_entry ([.ref x0, .int v, .int w]) (n := 3) (Nat.le_of_ble_eq_true rfl)
  rw [lg_entry_eq]
  generalize (lg_sl ([.ref x0, .int v, .int w]) ++ List.replicate (3 - (lg_sl ([.ref x0, .int v, .int w])).length) Slot.unset).toArray = ls at hl ⊢
  have hl : lv_has ls 3 [(0, .ref x0), (1, .int v), (2, .int w)] := hl
  refine zr_nQ (fun Q hQ => ?_)
  have hN := hpl.1.1
  refine lv_aload_n hx hb dX7_when_0 rfl (lv_at hl 0 rfl) ?_
  refine va_get (D := D) (ci := 5) (v := .ref g0) (C := RX7) (T := TX7) (N := 6) hx hb hts (by decide +kernel) hown hK.1 hP 0 rfl rfl 0 (by decide) (hts (.fieldLink RX7 12 "HomeRounds" "now" "LHomeRounds$Setting;") (by decide +kernel)) (fun _ h9 => h9) rfl dX7_when_1 ?_
  refine va_get (D := D) (ci := 2) (v := .ref h0) (C := RX3) (T := TX3) (N := 9) hx hb hts (by decide +kernel) hown hK.1 hP 1 rfl rfl 0 (by decide) (hts (.fieldLink RX7 38 "HomeRounds$Setting" "plan" "LHomeRounds$Plan;") (by decide +kernel)) (fun _ h9 => h9) rfl dX7_when_4 ?_
  refine lv_iload_n hx hb dX7_when_7 rfl (lv_at hl 1 rfl) ?_
  refine lv_iload_n hx hb dX7_when_8 rfl (lv_at hl 2 rfl) ?_
  refine zr_ci hP hS (va_runV (As := [.int v, .int w]) (rest := []) ⟨hx, hb, hml, hown, hts⟩ (c_X1_hasPair l D E h0 h1 h2 h3 h4 h5 h6 N hm aw rv sd gm ca v w (hN)) (cwV 2 hts gX7_when_X1_hasPair rfl rfl rfl (by decide +kernel) ⟨Nat.le_of_ble_eq_true rfl, Nat.le_of_ble_eq_true rfl⟩) (zr_V hK (hP.sub (ws' := [(h0, .inr (0, [.int (nI N), .ref h1, .ref h2, .ref h3, .ref h4, .ref h5, .ref h6])), (h1, .inl (E 0, 15, .inl hm)), (h2, .inl (E 0, 15, .inl aw)), (h3, .inl (E 0, 30, .inl rv)), (h4, .inl (E 0, 30, .inl sd)), (h5, .inl (E 0, 30, .inl gm)), (h6, .inl (E 0, 36, .inl ca))]) [2, 3, 4, 5, 6, 7, 8] rfl) (ci := 0) (q0 := 0) rfl rfl) rfl rfl hl.1 rfl (lv_room (Nat.le_of_ble_eq_true rfl)) dX7_when_9 ⟨Nat.zero_le _, Nat.zero_le _⟩) (fun r_1 H locs hw_2 hP hS => ?_)
  rcases hw_2 with ⟨rfl, hw_2⟩ | ⟨rfl, hw_2⟩
  · skip
    obtain ⟨⟨t, ht, v_e⟩, ⟨u, hu, w_e⟩, hne⟩ := hw_2
    have e1 : zi N v = true := v_e ▸ zi_t ht (by omega)
    have q1 : zq v = t := v_e ▸ zq_t (by omega)
    rw [v_e] at hl
    have e2 : zi N w = true := w_e ▸ zi_t hu (by omega)
    have q2 : zq w = u := w_e ▸ zq_t (by omega)
    rw [w_e] at hl
    have htu : t ≠ u := fun q => hne (by rw [v_e, w_e, q])
    have e0 : (zi N v && zi N w && !decide (zq v = zq w)) = true := by rw [e1, e2, q1, q2, decide_eq_false htu]; rfl
    have e9 : decide (t = u) = false := decide_eq_false htu
    refine zr_ti (y := nI 1) rfl ?_
    refine lv_if_ne (tgt := 17) hx hb dX7_when_12 (by decide) (fun cn_3 => ?_) (fun cn_3 => ?_)
    · skip
      refine lv_aload_n hx hb dX7_when_17 rfl (lv_at hl 0 rfl) ?_
      refine va_get (D := D) (ci := 5) (v := .ref g0) (C := RX7) (T := TX7) (N := 6) hx hb hts (by decide +kernel) hown hK.1 hP 0 rfl rfl 0 (by decide) (hts (.fieldLink RX7 12 "HomeRounds" "now" "LHomeRounds$Setting;") (by decide +kernel)) (fun _ h9 => h9) rfl dX7_when_18 ?_
      refine va_get (D := D) (ci := 2) (v := .ref h0) (C := RX3) (T := TX3) (N := 9) hx hb hts (by decide +kernel) hown hK.1 hP 1 rfl rfl 0 (by decide) (hts (.fieldLink RX7 38 "HomeRounds$Setting" "plan" "LHomeRounds$Plan;") (by decide +kernel)) (fun _ h9 => h9) rfl dX7_when_21 ?_
      refine lv_iload_n hx hb dX7_when_24 rfl (lv_at hl 1 rfl) ?_
      refine lv_iload_n hx hb dX7_when_25 rfl (lv_at hl 2 rfl) ?_
      refine zr_ci hP hS (va_runV (As := [.int (nI t), .int (nI u)]) (rest := []) ⟨hx, hb, hml, hown, hts⟩ (c_X1_meetingOf l D E h0 h1 h2 h3 h4 h5 h6 N hm aw rv sd gm ca G P t u (hpl) (by omega) (by omega)) (cwV 2 hts gX7_when_X1_meetingOf rfl rfl rfl (by decide +kernel) ⟨Nat.le_of_ble_eq_true rfl, Nat.le_of_ble_eq_true rfl⟩) (zr_V hK (hP.sub (ws' := [(h0, .inr (0, [.int (nI N), .ref h1, .ref h2, .ref h3, .ref h4, .ref h5, .ref h6])), (h1, .inl (E 0, 15, .inl hm)), (h2, .inl (E 0, 15, .inl aw)), (h3, .inl (E 0, 30, .inl rv)), (h4, .inl (E 0, 30, .inl sd)), (h5, .inl (E 0, 30, .inl gm)), (h6, .inl (E 0, 36, .inl ca))]) [2, 3, 4, 5, 6, 7, 8] rfl) (ci := 0) (q0 := 0) rfl rfl) rfl rfl hl.1 rfl (lv_room (Nat.le_of_ble_eq_true rfl)) dX7_when_26 ⟨Nat.zero_le _, Nat.zero_le _⟩) (fun r_4 H locs hw_5 hP hS => ?_)
      subst hw_5
      subst hQ
      exact W.iret (v := zm_meet N G P t u) hx hb hr (fun tz htz hWz => ⟨⟨zm_meet N G P t u, (), rfl, by simp only [cond_true, cond_false, Bool.and_true, Bool.and_false, Bool.true_and, Bool.false_and, e1, e2, q1, q2, e9, Bool.not_false], trivial⟩, hS.F htz⟩) hS.2.2 dX7_when_29
    · skip
      exact absurd cn_3 (by decide)
  · skip
    have e0 := zi_p hw_2
    refine zr_ti (y := nI 0) rfl ?_
    refine lv_if_ne (tgt := 17) hx hb dX7_when_12 (by decide) (fun cn_6 => ?_) (fun cn_6 => ?_)
    · skip
      exact absurd cn_6 (by decide)
    · skip
      refine lv_iconst (v := (-1)) hx hb dX7_when_15 (by rfl) ?_
      subst hQ
      exact W.iret (v := (-1)) hx hb hr (fun tz htz hWz => ⟨⟨(-1), (), rfl, by simp only [cond_true, cond_false, Bool.and_true, Bool.and_false, Bool.true_and, Bool.false_and, e0], trivial⟩, hS.F htz⟩) hS.2.2 dX7_when_16

set_option maxHeartbeats 4000000 in
set_option maxRecDepth 100000 in
theorem c_X7_carried (l : Launch) (D : va_G) (E : Nat → ClassId) (x0 : Nat) (xk : Nat) (xt : Nat) (xx : Nat) (xp : Nat) (ik : Int32) (g0 : Nat) (g1 : Nat) (g2 : Nat) (g3 : Nat) (g4 : Nat) (g5 : Nat) (g6 : Nat) (g7 : Nat) (kd : Nat) (h0 : Nat) (h1 : Nat) (h2 : Nat) (h3 : Nat) (h4 : Nat) (h5 : Nat) (h6 : Nat) (N : Nat) (hm : Nat → Int32) (aw : Nat → Int32) (rv : Nat → Int32) (sd : Nat → Int32) (gm : Nat → Int32) (ca : Nat → Int32) (G : Nat → Nat → Nat) (P : Nat → Nat → Nat) (v : Int32) (w : Int32) (hpl : zm_pl N G P hm aw rv sd gm) : Met l yX7_carried wsX7_carried ({ frames := 4, cells := 0, slots := 0, locals := 89 }) (zw_P D E [.ref x0, .int v, .int w] [(x0, .inr (5, [.ref g0, .ref xk, .ref xt, .ref xx, .ref xp, .int ik])), (g0, .inr (2, [.ref h0, .ref g1, .ref g2, .ref g3, .ref g4, .int (nI kd), .ref g5, .ref g6, .ref g7])), (h0, .inr (0, [.int (nI N), .ref h1, .ref h2, .ref h3, .ref h4, .ref h5, .ref h6])), (h1, .inl (E 0, 15, .inl hm)), (h2, .inl (E 0, 15, .inl aw)), (h3, .inl (E 0, 30, .inl rv)), (h4, .inl (E 0, 30, .inl sd)), (h5, .inl (E 0, 30, .inl gm)), (h6, .inl (E 0, 36, .inl ca))]) (zw_Qi D [(x0, .inr (5, [.ref g0, .ref xk, .ref xt, .ref xx, .ref xp, .int ik])), (g0, .inr (2, [.ref h0, .ref g1, .ref g2, .ref g3, .ref g4, .int (nI kd), .ref g5, .ref g6, .ref g7])), (h0, .inr (0, [.int (nI N), .ref h1, .ref h2, .ref h3, .ref h4, .ref h5, .ref h6])), (h1, .inl (E 0, 15, .inl hm)), (h2, .inl (E 0, 15, .inl aw)), (h3, .inl (E 0, 30, .inl rv)), (h4, .inl (E 0, 30, .inl sd)), (h5, .inl (E 0, 30, .inl gm)), (h6, .inl (E 0, 36, .inl ca))] (fun zv (u : (Nat → Int32)) => zv = cond (zi N v && zi N w && !decide (zq v = zq w)) (nI (zm_kb N G P (zq v) (zq w))) (-1)) (fun (u : (Nat → Int32)) => [(x0, .inr (5, [.ref g0, .ref xk, .ref xt, .ref xx, .ref xp, .int ik])), (g0, .inr (2, [.ref h0, .ref g1, .ref g2, .ref g3, .ref g4, .int (nI kd), .ref g5, .ref g6, .ref g7])), (h0, .inr (0, [.int (nI N), .ref h1, .ref h2, .ref h3, .ref h4, .ref h5, .ref h6])), (h1, .inl (E 0, 15, .inl hm)), (h2, .inl (E 0, 15, .inl aw)), (h3, .inl (E 0, 30, .inl rv)), (h4, .inl (E 0, 30, .inl sd)), (h5, .inl (E 0, 30, .inl gm)), (h6, .inl (E 0, 36, .inl u))])) 0 0 (zw_A [(x0, .inr (5, [.ref g0, .ref xk, .ref xt, .ref xx, .ref xp, .int ik])), (g0, .inr (2, [.ref h0, .ref g1, .ref g2, .ref g3, .ref g4, .int (nI kd), .ref g5, .ref g6, .ref g7])), (h0, .inr (0, [.int (nI N), .ref h1, .ref h2, .ref h3, .ref h4, .ref h5, .ref h6])), (h1, .inl (E 0, 15, .inl hm)), (h2, .inl (E 0, 15, .inl aw)), (h3, .inl (E 0, 30, .inl rv)), (h4, .inl (E 0, 30, .inl sd)), (h5, .inl (E 0, 30, .inl gm)), (h6, .inl (E 0, 36, .inl ca))]) := by
  refine Met.ofW (cc := cX7_carried) (maxL := 3) (ret := (some .int)) (by decide) rfl ?_
  intro p e s m args below meth c s₁ Bz hml hv
  obtain ⟨rfl, hP, hK, hD0⟩ := hv
  have hx := Bz.exec
  have hb := Bz.bytes
  have hr := Bz.returns
  have hts := atoms_spec (ws := wsX7_carried) Bz.pre
  have hown : s.vm.findClass RX7 = some m.cls := findClass_of_methodNamed Bz.named
  have hlocks := Bz.notSynchronized
  have hP : va_P D vwCl [(x0, .inr (5, [.ref g0, .ref xk, .ref xt, .ref xx, .ref xp, .int ik])), (g0, .inr (2, [.ref h0, .ref g1, .ref g2, .ref g3, .ref g4, .int (nI kd), .ref g5, .ref g6, .ref g7])), (h0, .inr (0, [.int (nI N), .ref h1, .ref h2, .ref h3, .ref h4, .ref h5, .ref h6])), (h1, .inl (E 0, 15, .inl hm)), (h2, .inl (E 0, 15, .inl aw)), (h3, .inl (E 0, 30, .inl rv)), (h4, .inl (E 0, 30, .inl sd)), (h5, .inl (E 0, 30, .inl gm)), (h6, .inl (E 0, 36, .inl ca))] s.heap := hP
  obtain ⟨A, hAe⟩ : ∃ A : Nat → Prop, A = zw_A [(x0, .inr (5, [.ref g0, .ref xk, .ref xt, .ref xx, .ref xp, .int ik])), (g0, .inr (2, [.ref h0, .ref g1, .ref g2, .ref g3, .ref g4, .int (nI kd), .ref g5, .ref g6, .ref g7])), (h0, .inr (0, [.int (nI N), .ref h1, .ref h2, .ref h3, .ref h4, .ref h5, .ref h6])), (h1, .inl (E 0, 15, .inl hm)), (h2, .inl (E 0, 15, .inl aw)), (h3, .inl (E 0, 30, .inl rv)), (h4, .inl (E 0, 30, .inl sd)), (h5, .inl (E 0, 30, .inl gm)), (h6, .inl (E 0, 36, .inl ca))] := ⟨_, rfl⟩
  have hD : va_D A [(x0, .inr (5, [.ref g0, .ref xk, .ref xt, .ref xx, .ref xp, .int ik])), (g0, .inr (2, [.ref h0, .ref g1, .ref g2, .ref g3, .ref g4, .int (nI kd), .ref g5, .ref g6, .ref g7])), (h0, .inr (0, [.int (nI N), .ref h1, .ref h2, .ref h3, .ref h4, .ref h5, .ref h6])), (h1, .inl (E 0, 15, .inl hm)), (h2, .inl (E 0, 15, .inl aw)), (h3, .inl (E 0, 30, .inl rv)), (h4, .inl (E 0, 30, .inl sd)), (h5, .inl (E 0, 30, .inl gm)), (h6, .inl (E 0, 36, .inl ca))] := hAe ▸ zw_own hD0
  have hS : va_S A s.heap s.heap [] := va_S.rf
  have hl := lv_entry ([.ref x0, .int v, .int w]) (n := 3) (Nat.le_of_ble_eq_true rfl)
  rw [lg_entry_eq]
  generalize (lg_sl ([.ref x0, .int v, .int w]) ++ List.replicate (3 - (lg_sl ([.ref x0, .int v, .int w])).length) Slot.unset).toArray = ls at hl ⊢
  have hl : lv_has ls 3 [(0, .ref x0), (1, .int v), (2, .int w)] := hl
  refine zr_nQ (fun Q hQ => ?_)
  have hN := hpl.1.1
  refine lv_aload_n hx hb dX7_carried_0 rfl (lv_at hl 0 rfl) ?_
  refine va_get (D := D) (ci := 5) (v := .ref g0) (C := RX7) (T := TX7) (N := 6) hx hb hts (by decide +kernel) hown hK.1 hP 0 rfl rfl 0 (by decide) (hts (.fieldLink RX7 12 "HomeRounds" "now" "LHomeRounds$Setting;") (by decide +kernel)) (fun _ h9 => h9) rfl dX7_carried_1 ?_
  refine va_get (D := D) (ci := 2) (v := .ref h0) (C := RX3) (T := TX3) (N := 9) hx hb hts (by decide +kernel) hown hK.1 hP 1 rfl rfl 0 (by decide) (hts (.fieldLink RX7 38 "HomeRounds$Setting" "plan" "LHomeRounds$Plan;") (by decide +kernel)) (fun _ h9 => h9) rfl dX7_carried_4 ?_
  refine lv_iload_n hx hb dX7_carried_7 rfl (lv_at hl 1 rfl) ?_
  refine lv_iload_n hx hb dX7_carried_8 rfl (lv_at hl 2 rfl) ?_
  refine zr_ci hP hS (va_runV (As := [.int v, .int w]) (rest := []) ⟨hx, hb, hml, hown, hts⟩ (c_X1_hasPair l D E h0 h1 h2 h3 h4 h5 h6 N hm aw rv sd gm ca v w (hN)) (cwV 2 hts gX7_carried_X1_hasPair rfl rfl rfl (by decide +kernel) ⟨Nat.le_of_ble_eq_true rfl, Nat.le_of_ble_eq_true rfl⟩) (zr_V hK (hP.sub (ws' := [(h0, .inr (0, [.int (nI N), .ref h1, .ref h2, .ref h3, .ref h4, .ref h5, .ref h6])), (h1, .inl (E 0, 15, .inl hm)), (h2, .inl (E 0, 15, .inl aw)), (h3, .inl (E 0, 30, .inl rv)), (h4, .inl (E 0, 30, .inl sd)), (h5, .inl (E 0, 30, .inl gm)), (h6, .inl (E 0, 36, .inl ca))]) [2, 3, 4, 5, 6, 7, 8] rfl) (ci := 0) (q0 := 0) rfl rfl) rfl rfl hl.1 rfl (lv_room (Nat.le_of_ble_eq_true rfl)) dX7_carried_9 ⟨Nat.zero_le _, Nat.zero_le _⟩) (fun r_1 H locs hw_2 hP hS => ?_)
  rcases hw_2 with ⟨rfl, hw_2⟩ | ⟨rfl, hw_2⟩
  · skip
    obtain ⟨⟨t, ht, v_e⟩, ⟨u, hu, w_e⟩, hne⟩ := hw_2
    have e1 : zi N v = true := v_e ▸ zi_t ht (by omega)
    have q1 : zq v = t := v_e ▸ zq_t (by omega)
    rw [v_e] at hl
    have e2 : zi N w = true := w_e ▸ zi_t hu (by omega)
    have q2 : zq w = u := w_e ▸ zq_t (by omega)
    rw [w_e] at hl
    have htu : t ≠ u := fun q => hne (by rw [v_e, w_e, q])
    have e0 : (zi N v && zi N w && !decide (zq v = zq w)) = true := by rw [e1, e2, q1, q2, decide_eq_false htu]; rfl
    have e9 : decide (t = u) = false := decide_eq_false htu
    refine zr_ti (y := nI 1) rfl ?_
    refine lv_if_ne (tgt := 17) hx hb dX7_carried_12 (by decide) (fun cn_3 => ?_) (fun cn_3 => ?_)
    · skip
      refine lv_aload_n hx hb dX7_carried_17 rfl (lv_at hl 0 rfl) ?_
      refine va_get (D := D) (ci := 5) (v := .ref g0) (C := RX7) (T := TX7) (N := 6) hx hb hts (by decide +kernel) hown hK.1 hP 0 rfl rfl 0 (by decide) (hts (.fieldLink RX7 12 "HomeRounds" "now" "LHomeRounds$Setting;") (by decide +kernel)) (fun _ h9 => h9) rfl dX7_carried_18 ?_
      refine va_get (D := D) (ci := 2) (v := .ref h0) (C := RX3) (T := TX3) (N := 9) hx hb hts (by decide +kernel) hown hK.1 hP 1 rfl rfl 0 (by decide) (hts (.fieldLink RX7 38 "HomeRounds$Setting" "plan" "LHomeRounds$Plan;") (by decide +kernel)) (fun _ h9 => h9) rfl dX7_carried_21 ?_
      refine lv_iload_n hx hb dX7_carried_24 rfl (lv_at hl 1 rfl) ?_
      refine lv_iload_n hx hb dX7_carried_25 rfl (lv_at hl 2 rfl) ?_
      have hPc := hP.sub (ws' := [(h0, .inr (0, [.int (nI N), .ref h1, .ref h2, .ref h3, .ref h4, .ref h5, .ref h6])), (h1, .inl (E 0, 15, .inl hm)), (h2, .inl (E 0, 15, .inl aw)), (h3, .inl (E 0, 30, .inl rv)), (h4, .inl (E 0, 30, .inl sd)), (h5, .inl (E 0, 30, .inl gm)), (h6, .inl (E 0, 36, .inl ca))]) [2, 3, 4, 5, 6, 7, 8] rfl
      have hDc := hD.sub (ws' := [(h0, .inr (0, [.int (nI N), .ref h1, .ref h2, .ref h3, .ref h4, .ref h5, .ref h6])), (h1, .inl (E 0, 15, .inl hm)), (h2, .inl (E 0, 15, .inl aw)), (h3, .inl (E 0, 30, .inl rv)), (h4, .inl (E 0, 30, .inl sd)), (h5, .inl (E 0, 30, .inl gm)), (h6, .inl (E 0, 36, .inl ca))]) [2, 3, 4, 5, 6, 7, 8] (by decide +kernel) rfl
      have hAc := zw_AA (wc := [(h0, .inr (0, [.int (nI N), .ref h1, .ref h2, .ref h3, .ref h4, .ref h5, .ref h6])), (h1, .inl (E 0, 15, .inl hm)), (h2, .inl (E 0, 15, .inl aw)), (h3, .inl (E 0, 30, .inl rv)), (h4, .inl (E 0, 30, .inl sd)), (h5, .inl (E 0, 30, .inl gm)), (h6, .inl (E 0, 36, .inl ca))]) hD [2, 3, 4, 5, 6, 7, 8] rfl
      refine zw_ci hAc hS (va_runV (As := [.int (nI t), .int (nI u)]) (rest := []) ⟨hx, hb, hml, hown, hts⟩ (c_X1_carriedOf l D E h0 h1 h2 h3 h4 h5 h6 N hm aw rv sd gm ca G P t u (hpl) (by omega) (by omega) (by omega)) (cwV 2 hts gX7_carried_X1_carriedOf rfl rfl rfl (by decide +kernel) ⟨Nat.le_of_ble_eq_true rfl, Nat.le_of_ble_eq_true rfl⟩) (zw_V hK hPc hDc (ci := 0) (q0 := 0) rfl rfl) rfl rfl hl.1 rfl (lv_room (Nat.le_of_ble_eq_true rfl)) dX7_carried_26 ⟨Nat.zero_le _, Nat.zero_le _⟩) (fun r_4 u_6 H locs hw_5 hP1 hD1 hk1 hS => ?_)
      obtain ⟨ca_7, rfl⟩ : ∃ z, z = u_6 := ⟨_, rfl⟩
      try dsimp only at hw_5 hP1 hD1
      obtain ⟨hP, hD⟩ := zw_join (wr := [(x0, .inr (5, [.ref g0, .ref xk, .ref xt, .ref xx, .ref xp, .int ik])), (g0, .inr (2, [.ref h0, .ref g1, .ref g2, .ref g3, .ref g4, .int (nI kd), .ref g5, .ref g6, .ref g7]))]) (w1 := [(h0, .inr (0, [.int (nI N), .ref h1, .ref h2, .ref h3, .ref h4, .ref h5, .ref h6])), (h1, .inl (E 0, 15, .inl hm)), (h2, .inl (E 0, 15, .inl aw)), (h3, .inl (E 0, 30, .inl rv)), (h4, .inl (E 0, 30, .inl sd)), (h5, .inl (E 0, 30, .inl gm)), (h6, .inl (E 0, 36, .inl ca_7))]) (ws' := [(x0, .inr (5, [.ref g0, .ref xk, .ref xt, .ref xx, .ref xp, .int ik])), (g0, .inr (2, [.ref h0, .ref g1, .ref g2, .ref g3, .ref g4, .int (nI kd), .ref g5, .ref g6, .ref g7])), (h0, .inr (0, [.int (nI N), .ref h1, .ref h2, .ref h3, .ref h4, .ref h5, .ref h6])), (h1, .inl (E 0, 15, .inl hm)), (h2, .inl (E 0, 15, .inl aw)), (h3, .inl (E 0, 30, .inl rv)), (h4, .inl (E 0, 30, .inl sd)), (h5, .inl (E 0, 30, .inl gm)), (h6, .inl (E 0, 36, .inl ca_7))]) hP hD [2, 3, 4, 5, 6, 7, 8] [0, 1] [0, 1, 2, 3, 4, 5, 6, 7, 8] rfl rfl (by decide +kernel) (by decide +kernel) hAc hk1 hP1 hD1 (by decide +kernel) rfl
      clear hP1 hD1 hk1 hPc hDc hAc
      obtain ⟨rfl, hw_5⟩ := hw_5
      subst hQ; subst hAe
      exact W.iret (v := nI (zm_kb N G P t u)) hx hb hr (fun tz htz hWz => ⟨⟨nI (zm_kb N G P t u), ca_7, rfl, by simp only [cond_true, cond_false, Bool.and_true, Bool.and_false, Bool.true_and, Bool.false_and, e1, e2, q1, q2, e9, Bool.not_false], by rw [htz]; exact hP, hD⟩, hS.F htz⟩) hS.2.2 dX7_carried_29
    · skip
      exact absurd cn_3 (by decide)
  · skip
    have e0 := zi_p hw_2
    refine zr_ti (y := nI 0) rfl ?_
    refine lv_if_ne (tgt := 17) hx hb dX7_carried_12 (by decide) (fun cn_8 => ?_) (fun cn_8 => ?_)
    · skip
      exact absurd cn_8 (by decide)
    · skip
      refine lv_iconst (v := (-1)) hx hb dX7_carried_15 (by rfl) ?_
      subst hQ; subst hAe
      exact W.iret (v := (-1)) hx hb hr (fun tz htz hWz => ⟨⟨(-1), ca, rfl, by simp only [cond_true, cond_false, Bool.and_true, Bool.and_false, Bool.true_and, Bool.false_and, e0], by rw [htz]; exact hP, hD⟩, hS.F htz⟩) hS.2.2 dX7_carried_16

set_option maxHeartbeats 4000000 in
set_option maxRecDepth 100000 in
theorem c_X7_about (l : Launch) (D : va_G) (E : Nat → ClassId) (x0 : Nat) (xk : Nat) (xt : Nat) (xx : Nat) (xp : Nat) (ik : Int32) (g0 : Nat) (g1 : Nat) (g2 : Nat) (g3 : Nat) (g4 : Nat) (g5 : Nat) (g6 : Nat) (g7 : Nat) (kd : Nat) (h0 : Nat) (h1 : Nat) (h2 : Nat) (h3 : Nat) (h4 : Nat) (h5 : Nat) (h6 : Nat) (N : Nat) (hm : Nat → Int32) (aw : Nat → Int32) (rv : Nat → Int32) (sd : Nat → Int32) (gm : Nat → Int32) (ca : Nat → Int32) (G : Nat → Nat → Nat) (P : Nat → Nat → Nat) (xs : Nat → Int32) (ys : Nat → Int32) (X : Nat → Nat) (Y : Nat → Nat) (v : Int32) (w : Int32) (hpl : zm_pl N G P hm aw rv sd gm) (hgr : zm_gr X Y xs ys) (hkd : kd < 3) : Met l yX7_about wsX7_about ({ frames := 4, cells := 0, slots := 0, locals := 92 }) (zr_P D E [.ref x0, .int v, .int w] [(x0, .inr (5, [.ref g0, .ref xk, .ref xt, .ref xx, .ref xp, .int ik])), (g0, .inr (2, [.ref h0, .ref g1, .ref g2, .ref g3, .ref g4, .int (nI kd), .ref g5, .ref g6, .ref g7])), (h0, .inr (0, [.int (nI N), .ref h1, .ref h2, .ref h3, .ref h4, .ref h5, .ref h6])), (h1, .inl (E 0, 15, .inl hm)), (h2, .inl (E 0, 15, .inl aw)), (h3, .inl (E 0, 30, .inl rv)), (h4, .inl (E 0, 30, .inl sd)), (h5, .inl (E 0, 30, .inl gm)), (h6, .inl (E 0, 36, .inl ca)), (g1, .inl (E 0, 6, .inl xs)), (g2, .inl (E 0, 6, .inl ys))]) (zr_Qi (fun zv => zv = cond (zi N v) (zo_about N G P X Y kd (zq v) (zw 7 w)) (-1))) 0 0 (fun _ => False) := by
  refine Met.ofW (cc := cX7_about) (maxL := 3) (ret := (some .int)) (by decide) rfl ?_
  intro p e s m args below meth c s₁ Bz hml hv
  obtain ⟨rfl, hP, hK⟩ := hv
  have hx := Bz.exec
  have hb := Bz.bytes
  have hr := Bz.returns
  have hts := atoms_spec (ws := wsX7_about) Bz.pre
  have hown : s.vm.findClass RX7 = some m.cls := findClass_of_methodNamed Bz.named
  have hlocks := Bz.notSynchronized
  have hP : va_P D vwCl [(x0, .inr (5, [.ref g0, .ref xk, .ref xt, .ref xx, .ref xp, .int ik])), (g0, .inr (2, [.ref h0, .ref g1, .ref g2, .ref g3, .ref g4, .int (nI kd), .ref g5, .ref g6, .ref g7])), (h0, .inr (0, [.int (nI N), .ref h1, .ref h2, .ref h3, .ref h4, .ref h5, .ref h6])), (h1, .inl (E 0, 15, .inl hm)), (h2, .inl (E 0, 15, .inl aw)), (h3, .inl (E 0, 30, .inl rv)), (h4, .inl (E 0, 30, .inl sd)), (h5, .inl (E 0, 30, .inl gm)), (h6, .inl (E 0, 36, .inl ca)), (g1, .inl (E 0, 6, .inl xs)), (g2, .inl (E 0, 6, .inl ys))] s.heap := hP
  have hS : va_S (fun _ : Nat => False) s.heap s.heap [] := va_S.rf
  have hl := lv_entry ([.ref x0, .int v, .int w]) (n := 3) (Nat.le_of_ble_eq_true rfl)
  rw [lg_entry_eq]
  generalize (lg_sl ([.ref x0, .int v, .int w]) ++ List.replicate (3 - (lg_sl ([.ref x0, .int v, .int w])).length) Slot.unset).toArray = ls at hl ⊢
  have hl : lv_has ls 3 [(0, .ref x0), (1, .int v), (2, .int w)] := hl
  refine zr_nQ (fun Q hQ => ?_)
  have hN := hpl.1.1
  refine lv_aload_n hx hb dX7_about_0 rfl (lv_at hl 0 rfl) ?_
  refine va_get (D := D) (ci := 5) (v := .ref g0) (C := RX7) (T := TX7) (N := 6) hx hb hts (by decide +kernel) hown hK.1 hP 0 rfl rfl 0 (by decide) (hts (.fieldLink RX7 12 "HomeRounds" "now" "LHomeRounds$Setting;") (by decide +kernel)) (fun _ h9 => h9) rfl dX7_about_1 ?_
  refine va_get (D := D) (ci := 2) (v := .ref h0) (C := RX3) (T := TX3) (N := 9) hx hb hts (by decide +kernel) hown hK.1 hP 1 rfl rfl 0 (by decide) (hts (.fieldLink RX7 38 "HomeRounds$Setting" "plan" "LHomeRounds$Plan;") (by decide +kernel)) (fun _ h9 => h9) rfl dX7_about_4 ?_
  refine lv_iload_n hx hb dX7_about_7 rfl (lv_at hl 1 rfl) ?_
  refine zr_ci hP hS (va_runV (As := [.int v]) (rest := []) ⟨hx, hb, hml, hown, hts⟩ (c_X1_hasTeam l D E h0 h1 h2 h3 h4 h5 h6 N hm aw rv sd gm ca v (hN)) (cwV 1 hts gX7_about_X1_hasTeam rfl rfl rfl (by decide +kernel) ⟨Nat.le_of_ble_eq_true rfl, Nat.le_of_ble_eq_true rfl⟩) (zr_V hK (hP.sub (ws' := [(h0, .inr (0, [.int (nI N), .ref h1, .ref h2, .ref h3, .ref h4, .ref h5, .ref h6])), (h1, .inl (E 0, 15, .inl hm)), (h2, .inl (E 0, 15, .inl aw)), (h3, .inl (E 0, 30, .inl rv)), (h4, .inl (E 0, 30, .inl sd)), (h5, .inl (E 0, 30, .inl gm)), (h6, .inl (E 0, 36, .inl ca))]) [2, 3, 4, 5, 6, 7, 8] rfl) (ci := 0) (q0 := 0) rfl rfl) rfl rfl hl.1 rfl (lv_room (Nat.le_of_ble_eq_true rfl)) dX7_about_8 ⟨Nat.zero_le _, Nat.zero_le _⟩) (fun r_1 H locs hw_2 hP hS => ?_)
  rcases hw_2 with ⟨rfl, hw_2⟩ | ⟨rfl, hw_2⟩
  · skip
    obtain ⟨t, ht, v_e⟩ := hw_2
    have e1 : zi N v = true := v_e ▸ zi_t ht (by omega)
    have q1 : zq v = t := v_e ▸ zq_t (by omega)
    rw [v_e] at hl
    refine zr_ti (y := nI 1) rfl ?_
    refine lv_if_ne (tgt := 16) hx hb dX7_about_11 (by decide) (fun cn_3 => ?_) (fun cn_3 => ?_)
    · skip
      refine lv_iload_n hx hb dX7_about_16 rfl (lv_at hl 2 rfl) ?_
      rcases zn_sw w 7 with hsw | hsw
      · obtain ⟨kz, hkz, hxz⟩ := hsw
        have hsw : kz = 0 ∨ kz = 1 ∨ kz = 2 ∨ kz = 3 ∨ kz = 4 ∨ kz = 5 ∨ kz = 6 := by omega
        rcases hsw with hsw | hsw | hsw | hsw | hsw | hsw | hsw
        · skip
          rw [hsw] at hxz; clear hsw hkz
          have hz : zw 7 w = 0 := by rw [hxz]; exact zw_t (by omega)
          refine zr_ti (y := nI 0) (hxz) ?_
          refine lv_tableIn (x := nI 0) (off := 43) (tgt := 60) hx hb dX7_about_17 (by decide +kernel) (by decide +kernel) (by decide +kernel) (by decide) ?_
          refine lv_aload_n hx hb dX7_about_60 rfl (lv_at hl 0 rfl) ?_
          refine va_get (D := D) (ci := 5) (v := .ref g0) (C := RX7) (T := TX7) (N := 6) hx hb hts (by decide +kernel) hown hK.1 hP 0 rfl rfl 0 (by decide) (hts (.fieldLink RX7 12 "HomeRounds" "now" "LHomeRounds$Setting;") (by decide +kernel)) (fun _ h9 => h9) rfl dX7_about_61 ?_
          refine va_get (D := D) (ci := 2) (v := .ref h0) (C := RX3) (T := TX3) (N := 9) hx hb hts (by decide +kernel) hown hK.1 hP 1 rfl rfl 0 (by decide) (hts (.fieldLink RX7 38 "HomeRounds$Setting" "plan" "LHomeRounds$Plan;") (by decide +kernel)) (fun _ h9 => h9) rfl dX7_about_64 ?_
          refine lv_iload_n hx hb dX7_about_67 rfl (lv_at hl 1 rfl) ?_
          refine zr_ci hP hS (va_runV (As := [.int (nI t)]) (rest := []) ⟨hx, hb, hml, hown, hts⟩ (c_X1_patternOf l D E h0 h1 h2 h3 h4 h5 h6 N hm aw rv sd gm ca G P t (hpl) (by omega)) (cwV 1 hts gX7_about_X1_patternOf rfl rfl rfl (by decide +kernel) ⟨Nat.le_of_ble_eq_true rfl, Nat.le_of_ble_eq_true rfl⟩) (zr_V hK (hP.sub (ws' := [(h0, .inr (0, [.int (nI N), .ref h1, .ref h2, .ref h3, .ref h4, .ref h5, .ref h6])), (h1, .inl (E 0, 15, .inl hm)), (h2, .inl (E 0, 15, .inl aw)), (h3, .inl (E 0, 30, .inl rv)), (h4, .inl (E 0, 30, .inl sd)), (h5, .inl (E 0, 30, .inl gm)), (h6, .inl (E 0, 36, .inl ca))]) [2, 3, 4, 5, 6, 7, 8] rfl) (ci := 0) (q0 := 0) rfl rfl) rfl rfl hl.1 rfl (lv_room (Nat.le_of_ble_eq_true rfl)) dX7_about_68 ⟨Nat.zero_le _, Nat.zero_le _⟩) (fun r_4 H locs hw_5 hP hS => ?_)
          subst hw_5
          subst hQ
          exact W.iret (v := zm_pat P t (N - 1)) hx hb hr (fun tz htz hWz => ⟨⟨zm_pat P t (N - 1), (), rfl, by simp only [cond_true, cond_false, Bool.and_true, Bool.and_false, Bool.true_and, Bool.false_and, e1, q1, hz]; rfl, trivial⟩, hS.F htz⟩) hS.2.2 dX7_about_71
        · skip
          rw [hsw] at hxz; clear hsw hkz
          have hz : zw 7 w = 1 := by rw [hxz]; exact zw_t (by omega)
          refine zr_ti (y := nI 1) (hxz) ?_
          refine lv_tableIn (x := nI 1) (off := 55) (tgt := 72) hx hb dX7_about_17 (by decide +kernel) (by decide +kernel) (by decide +kernel) (by decide) ?_
          refine lv_aload_n hx hb dX7_about_72 rfl (lv_at hl 0 rfl) ?_
          refine va_get (D := D) (ci := 5) (v := .ref g0) (C := RX7) (T := TX7) (N := 6) hx hb hts (by decide +kernel) hown hK.1 hP 0 rfl rfl 0 (by decide) (hts (.fieldLink RX7 12 "HomeRounds" "now" "LHomeRounds$Setting;") (by decide +kernel)) (fun _ h9 => h9) rfl dX7_about_73 ?_
          refine va_get (D := D) (ci := 2) (v := .ref h0) (C := RX3) (T := TX3) (N := 9) hx hb hts (by decide +kernel) hown hK.1 hP 1 rfl rfl 0 (by decide) (hts (.fieldLink RX7 38 "HomeRounds$Setting" "plan" "LHomeRounds$Plan;") (by decide +kernel)) (fun _ h9 => h9) rfl dX7_about_76 ?_
          refine lv_iload_n hx hb dX7_about_79 rfl (lv_at hl 1 rfl) ?_
          refine zr_ci hP hS (va_runV (As := [.int (nI t)]) (rest := []) ⟨hx, hb, hml, hown, hts⟩ (c_X1_breaksOf l D E h0 h1 h2 h3 h4 h5 h6 N hm aw rv sd gm ca G P t (hpl) (by omega)) (cwV 1 hts gX7_about_X1_breaksOf rfl rfl rfl (by decide +kernel) ⟨Nat.le_of_ble_eq_true rfl, Nat.le_of_ble_eq_true rfl⟩) (zr_V hK (hP.sub (ws' := [(h0, .inr (0, [.int (nI N), .ref h1, .ref h2, .ref h3, .ref h4, .ref h5, .ref h6])), (h1, .inl (E 0, 15, .inl hm)), (h2, .inl (E 0, 15, .inl aw)), (h3, .inl (E 0, 30, .inl rv)), (h4, .inl (E 0, 30, .inl sd)), (h5, .inl (E 0, 30, .inl gm)), (h6, .inl (E 0, 36, .inl ca))]) [2, 3, 4, 5, 6, 7, 8] rfl) (ci := 0) (q0 := 0) rfl rfl) rfl rfl hl.1 rfl (lv_room (Nat.le_of_ble_eq_true rfl)) dX7_about_80 ⟨Nat.zero_le _, Nat.zero_le _⟩) (fun r_6 H locs hw_7 hP hS => ?_)
          subst hw_7
          subst hQ
          exact W.iret (v := nI (zm_br N P t)) hx hb hr (fun tz htz hWz => ⟨⟨nI (zm_br N P t), (), rfl, by simp only [cond_true, cond_false, Bool.and_true, Bool.and_false, Bool.true_and, Bool.false_and, e1, q1, hz]; rfl, trivial⟩, hS.F htz⟩) hS.2.2 dX7_about_83
        · skip
          rw [hsw] at hxz; clear hsw hkz
          have hz : zw 7 w = 2 := by rw [hxz]; exact zw_t (by omega)
          refine zr_ti (y := nI 2) (hxz) ?_
          refine lv_tableIn (x := nI 2) (off := 67) (tgt := 84) hx hb dX7_about_17 (by decide +kernel) (by decide +kernel) (by decide +kernel) (by decide) ?_
          refine lv_aload_n hx hb dX7_about_84 rfl (lv_at hl 0 rfl) ?_
          refine va_get (D := D) (ci := 5) (v := .ref g0) (C := RX7) (T := TX7) (N := 6) hx hb hts (by decide +kernel) hown hK.1 hP 0 rfl rfl 0 (by decide) (hts (.fieldLink RX7 12 "HomeRounds" "now" "LHomeRounds$Setting;") (by decide +kernel)) (fun _ h9 => h9) rfl dX7_about_85 ?_
          refine va_get (D := D) (ci := 2) (v := .ref h0) (C := RX3) (T := TX3) (N := 9) hx hb hts (by decide +kernel) hown hK.1 hP 1 rfl rfl 0 (by decide) (hts (.fieldLink RX7 38 "HomeRounds$Setting" "plan" "LHomeRounds$Plan;") (by decide +kernel)) (fun _ h9 => h9) rfl dX7_about_88 ?_
          refine lv_iload_n hx hb dX7_about_91 rfl (lv_at hl 1 rfl) ?_
          refine zr_ci hP hS (va_runV (As := [.int (nI t)]) (rest := []) ⟨hx, hb, hml, hown, hts⟩ (c_X1_otherOf l D E h0 h1 h2 h3 h4 h5 h6 N hm aw rv sd gm ca G P t (hpl) (by omega)) (cwV 1 hts gX7_about_X1_otherOf rfl rfl rfl (by decide +kernel) ⟨Nat.le_of_ble_eq_true rfl, Nat.le_of_ble_eq_true rfl⟩) (zr_V hK (hP.sub (ws' := [(h0, .inr (0, [.int (nI N), .ref h1, .ref h2, .ref h3, .ref h4, .ref h5, .ref h6])), (h1, .inl (E 0, 15, .inl hm)), (h2, .inl (E 0, 15, .inl aw)), (h3, .inl (E 0, 30, .inl rv)), (h4, .inl (E 0, 30, .inl sd)), (h5, .inl (E 0, 30, .inl gm)), (h6, .inl (E 0, 36, .inl ca))]) [2, 3, 4, 5, 6, 7, 8] rfl) (ci := 0) (q0 := 0) rfl rfl) rfl rfl hl.1 rfl (lv_room (Nat.le_of_ble_eq_true rfl)) dX7_about_92 ⟨Nat.zero_le _, Nat.zero_le _⟩) (fun r_8 H locs hw_9 hP hS => ?_)
          subst hw_9
          subst hQ
          exact W.iret (v := zm_oth N P t) hx hb hr (fun tz htz hWz => ⟨⟨zm_oth N P t, (), rfl, by simp only [cond_true, cond_false, Bool.and_true, Bool.and_false, Bool.true_and, Bool.false_and, e1, q1, hz]; rfl, trivial⟩, hS.F htz⟩) hS.2.2 dX7_about_95
        · skip
          rw [hsw] at hxz; clear hsw hkz
          have hz : zw 7 w = 3 := by rw [hxz]; exact zw_t (by omega)
          refine zr_ti (y := nI 3) (hxz) ?_
          refine lv_tableIn (x := nI 3) (off := 79) (tgt := 96) hx hb dX7_about_17 (by decide +kernel) (by decide +kernel) (by decide +kernel) (by decide) ?_
          refine lv_aload_n hx hb dX7_about_96 rfl (lv_at hl 0 rfl) ?_
          refine va_get (D := D) (ci := 5) (v := .ref g0) (C := RX7) (T := TX7) (N := 6) hx hb hts (by decide +kernel) hown hK.1 hP 0 rfl rfl 0 (by decide) (hts (.fieldLink RX7 12 "HomeRounds" "now" "LHomeRounds$Setting;") (by decide +kernel)) (fun _ h9 => h9) rfl dX7_about_97 ?_
          refine lv_iload_n hx hb dX7_about_100 rfl (lv_at hl 1 rfl) ?_
          refine zr_ci hP hS (va_runV (As := [.int (nI t)]) (rest := []) ⟨hx, hb, hml, hown, hts⟩ (c_X3_milesOf l D E g0 g1 g2 g3 g4 g5 g6 g7 kd h0 h1 h2 h3 h4 h5 h6 N hm aw rv sd gm ca G P xs ys X Y t (hpl) (hgr) (by omega)) (cwV 1 hts gX7_about_X3_milesOf rfl rfl rfl (by decide +kernel) ⟨Nat.le_of_ble_eq_true rfl, Nat.le_of_ble_eq_true rfl⟩) (zr_V hK (hP.sub (ws' := [(g0, .inr (2, [.ref h0, .ref g1, .ref g2, .ref g3, .ref g4, .int (nI kd), .ref g5, .ref g6, .ref g7])), (h0, .inr (0, [.int (nI N), .ref h1, .ref h2, .ref h3, .ref h4, .ref h5, .ref h6])), (h1, .inl (E 0, 15, .inl hm)), (h2, .inl (E 0, 15, .inl aw)), (h3, .inl (E 0, 30, .inl rv)), (h4, .inl (E 0, 30, .inl sd)), (h5, .inl (E 0, 30, .inl gm)), (h6, .inl (E 0, 36, .inl ca)), (g1, .inl (E 0, 6, .inl xs)), (g2, .inl (E 0, 6, .inl ys))]) [1, 2, 3, 4, 5, 6, 7, 8, 9, 10] rfl) (ci := 2) (q0 := 0) rfl rfl) rfl rfl hl.1 rfl (lv_room (Nat.le_of_ble_eq_true rfl)) dX7_about_101 ⟨Nat.zero_le _, Nat.zero_le _⟩) (fun r_10 H locs hw_11 hP hS => ?_)
          subst hw_11
          subst hQ
          exact W.iret (v := nI (zm_miles N G P X Y t)) hx hb hr (fun tz htz hWz => ⟨⟨nI (zm_miles N G P X Y t), (), rfl, by simp only [cond_true, cond_false, Bool.and_true, Bool.and_false, Bool.true_and, Bool.false_and, e1, q1, hz]; rfl, trivial⟩, hS.F htz⟩) hS.2.2 dX7_about_104
        · skip
          rw [hsw] at hxz; clear hsw hkz
          have hz : zw 7 w = 4 := by rw [hxz]; exact zw_t (by omega)
          refine zr_ti (y := nI 4) (hxz) ?_
          refine lv_tableIn (x := nI 4) (off := 88) (tgt := 105) hx hb dX7_about_17 (by decide +kernel) (by decide +kernel) (by decide +kernel) (by decide) ?_
          obtain ⟨hx1, hx2, hx3, hx4⟩ := hgr t (by omega)
          refine lv_aload_n hx hb dX7_about_105 rfl (lv_at hl 0 rfl) ?_
          refine va_get (D := D) (ci := 5) (v := .ref g0) (C := RX7) (T := TX7) (N := 6) hx hb hts (by decide +kernel) hown hK.1 hP 0 rfl rfl 0 (by decide) (hts (.fieldLink RX7 12 "HomeRounds" "now" "LHomeRounds$Setting;") (by decide +kernel)) (fun _ h9 => h9) rfl dX7_about_106 ?_
          refine va_get (D := D) (ci := 2) (v := .ref g1) (C := RX3) (T := TX3) (N := 9) hx hb hts (by decide +kernel) hown hK.1 hP 1 rfl rfl 1 (by decide) (hts (.fieldLink RX7 59 "HomeRounds$Setting" "xs" "[I") (by decide +kernel)) (fun _ h9 => h9) rfl dX7_about_109 ?_
          refine lv_iload_n hx hb dX7_about_112 rfl (lv_at hl 1 rfl) ?_
          refine va_iald hx hb hK.1 hP 9 0 rfl rfl (vp_in_nI (by omega) (by omega)) dX7_about_113 ?_
          refine zr_ti (y := nI (X t)) ((congrArg xs (nI_clamp (by omega))).trans (hx3)) ?_
          subst hQ
          exact W.iret (v := nI (X t)) hx hb hr (fun tz htz hWz => ⟨⟨nI (X t), (), rfl, by simp only [cond_true, cond_false, Bool.and_true, Bool.and_false, Bool.true_and, Bool.false_and, e1, q1, hz]; rfl, trivial⟩, hS.F htz⟩) hS.2.2 dX7_about_114
        · skip
          rw [hsw] at hxz; clear hsw hkz
          have hz : zw 7 w = 5 := by rw [hxz]; exact zw_t (by omega)
          refine zr_ti (y := nI 5) (hxz) ?_
          refine lv_tableIn (x := nI 5) (off := 98) (tgt := 115) hx hb dX7_about_17 (by decide +kernel) (by decide +kernel) (by decide +kernel) (by decide) ?_
          obtain ⟨hx1, hx2, hx3, hx4⟩ := hgr t (by omega)
          refine lv_aload_n hx hb dX7_about_115 rfl (lv_at hl 0 rfl) ?_
          refine va_get (D := D) (ci := 5) (v := .ref g0) (C := RX7) (T := TX7) (N := 6) hx hb hts (by decide +kernel) hown hK.1 hP 0 rfl rfl 0 (by decide) (hts (.fieldLink RX7 12 "HomeRounds" "now" "LHomeRounds$Setting;") (by decide +kernel)) (fun _ h9 => h9) rfl dX7_about_116 ?_
          refine va_get (D := D) (ci := 2) (v := .ref g2) (C := RX3) (T := TX3) (N := 9) hx hb hts (by decide +kernel) hown hK.1 hP 1 rfl rfl 2 (by decide) (hts (.fieldLink RX7 63 "HomeRounds$Setting" "ys" "[I") (by decide +kernel)) (fun _ h9 => h9) rfl dX7_about_119 ?_
          refine lv_iload_n hx hb dX7_about_122 rfl (lv_at hl 1 rfl) ?_
          refine va_iald hx hb hK.1 hP 10 0 rfl rfl (vp_in_nI (by omega) (by omega)) dX7_about_123 ?_
          refine zr_ti (y := nI (Y t)) ((congrArg ys (nI_clamp (by omega))).trans (hx4)) ?_
          subst hQ
          exact W.iret (v := nI (Y t)) hx hb hr (fun tz htz hWz => ⟨⟨nI (Y t), (), rfl, by simp only [cond_true, cond_false, Bool.and_true, Bool.and_false, Bool.true_and, Bool.false_and, e1, q1, hz]; rfl, trivial⟩, hS.F htz⟩) hS.2.2 dX7_about_124
        · skip
          rw [hsw] at hxz; clear hsw hkz
          have hz : zw 7 w = 6 := by rw [hxz]; exact zw_t (by omega)
          refine zr_ti (y := nI 6) (hxz) ?_
          refine lv_tableIn (x := nI 6) (off := 108) (tgt := 125) hx hb dX7_about_17 (by decide +kernel) (by decide +kernel) (by decide +kernel) (by decide) ?_
          refine lv_aload_n hx hb dX7_about_125 rfl (lv_at hl 0 rfl) ?_
          refine va_get (D := D) (ci := 5) (v := .ref g0) (C := RX7) (T := TX7) (N := 6) hx hb hts (by decide +kernel) hown hK.1 hP 0 rfl rfl 0 (by decide) (hts (.fieldLink RX7 12 "HomeRounds" "now" "LHomeRounds$Setting;") (by decide +kernel)) (fun _ h9 => h9) rfl dX7_about_126 ?_
          refine va_get (D := D) (ci := 2) (v := .ref h0) (C := RX3) (T := TX3) (N := 9) hx hb hts (by decide +kernel) hown hK.1 hP 1 rfl rfl 0 (by decide) (hts (.fieldLink RX7 38 "HomeRounds$Setting" "plan" "LHomeRounds$Plan;") (by decide +kernel)) (fun _ h9 => h9) rfl dX7_about_129 ?_
          refine lv_iload_n hx hb dX7_about_132 rfl (lv_at hl 1 rfl) ?_
          refine lv_aload_n hx hb dX7_about_133 rfl (lv_at hl 0 rfl) ?_
          refine va_get (D := D) (ci := 5) (v := .ref g0) (C := RX7) (T := TX7) (N := 6) hx hb hts (by decide +kernel) hown hK.1 hP 0 rfl rfl 0 (by decide) (hts (.fieldLink RX7 12 "HomeRounds" "now" "LHomeRounds$Setting;") (by decide +kernel)) (fun _ h9 => h9) rfl dX7_about_134 ?_
          refine va_get (D := D) (ci := 2) (v := .int (nI kd)) (C := RX3) (T := TX3) (N := 9) hx hb hts (by decide +kernel) hown hK.1 hP 1 rfl rfl 5 (by decide) (hts (.fieldLink RX7 102 "HomeRounds$Setting" "seasonKind" "I") (by decide +kernel)) (fun _ h9 => h9) rfl dX7_about_137 ?_
          refine zr_ci hP hS (va_runV (As := [.int (nI t), .int (nI kd)]) (rest := []) ⟨hx, hb, hml, hown, hts⟩ (c_X1_seasonBreaks l D E h0 h1 h2 h3 h4 h5 h6 N hm aw rv sd gm ca G P t kd (hpl) (by omega) (by omega)) (cwV 2 hts gX7_about_X1_seasonBreaks rfl rfl rfl (by decide +kernel) ⟨Nat.le_of_ble_eq_true rfl, Nat.le_of_ble_eq_true rfl⟩) (zr_V hK (hP.sub (ws' := [(h0, .inr (0, [.int (nI N), .ref h1, .ref h2, .ref h3, .ref h4, .ref h5, .ref h6])), (h1, .inl (E 0, 15, .inl hm)), (h2, .inl (E 0, 15, .inl aw)), (h3, .inl (E 0, 30, .inl rv)), (h4, .inl (E 0, 30, .inl sd)), (h5, .inl (E 0, 30, .inl gm)), (h6, .inl (E 0, 36, .inl ca))]) [2, 3, 4, 5, 6, 7, 8] rfl) (ci := 0) (q0 := 0) rfl rfl) rfl rfl hl.1 rfl (lv_room (Nat.le_of_ble_eq_true rfl)) dX7_about_140 ⟨Nat.zero_le _, Nat.zero_le _⟩) (fun r_12 H locs hw_13 hP hS => ?_)
          subst hw_13
          subst hQ
          exact W.iret (v := nI (zm_sb N P kd t)) hx hb hr (fun tz htz hWz => ⟨⟨nI (zm_sb N P kd t), (), rfl, by simp only [cond_true, cond_false, Bool.and_true, Bool.and_false, Bool.true_and, Bool.false_and, e1, q1, hz]; rfl, trivial⟩, hS.F htz⟩) hS.2.2 dX7_about_143
      · skip
        have hz : zw 7 w = 7 := zw_o (by omega) (by simpa using hsw)
        refine lv_tableOut (tgt := 144) hx hb dX7_about_17 (by simpa using hsw) (by decide) ?_
        refine lv_iconst (v := (-1)) hx hb dX7_about_144 (by rfl) ?_
        subst hQ
        exact W.iret (v := (-1)) hx hb hr (fun tz htz hWz => ⟨⟨(-1), (), rfl, by simp only [cond_true, cond_false, Bool.and_true, Bool.and_false, Bool.true_and, Bool.false_and, e1, q1, hz]; rfl, trivial⟩, hS.F htz⟩) hS.2.2 dX7_about_145
    · skip
      exact absurd cn_3 (by decide)
  · skip
    have e1 : zi N v = false := zi_f hw_2
    refine zr_ti (y := nI 0) rfl ?_
    refine lv_if_ne (tgt := 16) hx hb dX7_about_11 (by decide) (fun cn_14 => ?_) (fun cn_14 => ?_)
    · skip
      exact absurd cn_14 (by decide)
    · skip
      refine lv_iconst (v := (-1)) hx hb dX7_about_14 (by rfl) ?_
      subst hQ
      exact W.iret (v := (-1)) hx hb hr (fun tz htz hWz => ⟨⟨(-1), (), rfl, by simp only [cond_true, cond_false, Bool.and_true, Bool.and_false, Bool.true_and, Bool.false_and, e1], trivial⟩, hS.F htz⟩) hS.2.2 dX7_about_15

set_option maxHeartbeats 4000000 in
set_option maxRecDepth 100000 in
theorem c_X7_loop (l : Launch) (D : va_G) (E : Nat → ClassId) (x0 : Nat) (xk : Nat) (xt : Nat) (xx : Nat) (xp : Nat) (ik : Int32) (g0 : Nat) (g1 : Nat) (g2 : Nat) (g3 : Nat) (g4 : Nat) (g5 : Nat) (g6 : Nat) (g7 : Nat) (kd : Nat) (h0 : Nat) (h1 : Nat) (h2 : Nat) (h3 : Nat) (h4 : Nat) (h5 : Nat) (h6 : Nat) (N : Nat) (hm : Nat → Int32) (aw : Nat → Int32) (rv : Nat → Int32) (sd : Nat → Int32) (gm : Nat → Int32) (ca : Nat → Int32) (G : Nat → Nat → Nat) (P : Nat → Nat → Nat) (v : Int32) (w : Int32) (y : Int32) (hpl : zm_pl N G P hm aw rv sd gm) : Met l yX7_loop wsX7_loop ({ frames := 3, cells := 0, slots := 0, locals := 69 }) (zr_P D E [.ref x0, .int v, .int w, .int y] [(x0, .inr (5, [.ref g0, .ref xk, .ref xt, .ref xx, .ref xp, .int ik])), (g0, .inr (2, [.ref h0, .ref g1, .ref g2, .ref g3, .ref g4, .int (nI kd), .ref g5, .ref g6, .ref g7])), (h0, .inr (0, [.int (nI N), .ref h1, .ref h2, .ref h3, .ref h4, .ref h5, .ref h6])), (h1, .inl (E 0, 15, .inl hm)), (h2, .inl (E 0, 15, .inl aw)), (h3, .inl (E 0, 30, .inl rv)), (h4, .inl (E 0, 30, .inl sd)), (h5, .inl (E 0, 30, .inl gm)), (h6, .inl (E 0, 36, .inl ca))]) (zr_Qi (fun zv => zv = cond (zi (N - 1) v && zi (N - 1) w && !decide (zq v = zq w) && zi N y) (nI (zm_loop N G P (zq v) (zq w) (zq y))) (-1))) 0 0 (fun _ => False) := by
  refine Met.ofW (cc := cX7_loop) (maxL := 5) (ret := (some .int)) (by decide) rfl ?_
  intro p e s m args below meth c s₁ Bz hml hv
  obtain ⟨rfl, hP, hK⟩ := hv
  have hx := Bz.exec
  have hb := Bz.bytes
  have hr := Bz.returns
  have hts := atoms_spec (ws := wsX7_loop) Bz.pre
  have hown : s.vm.findClass RX7 = some m.cls := findClass_of_methodNamed Bz.named
  have hlocks := Bz.notSynchronized
  have hP : va_P D vwCl [(x0, .inr (5, [.ref g0, .ref xk, .ref xt, .ref xx, .ref xp, .int ik])), (g0, .inr (2, [.ref h0, .ref g1, .ref g2, .ref g3, .ref g4, .int (nI kd), .ref g5, .ref g6, .ref g7])), (h0, .inr (0, [.int (nI N), .ref h1, .ref h2, .ref h3, .ref h4, .ref h5, .ref h6])), (h1, .inl (E 0, 15, .inl hm)), (h2, .inl (E 0, 15, .inl aw)), (h3, .inl (E 0, 30, .inl rv)), (h4, .inl (E 0, 30, .inl sd)), (h5, .inl (E 0, 30, .inl gm)), (h6, .inl (E 0, 36, .inl ca))] s.heap := hP
  have hS : va_S (fun _ : Nat => False) s.heap s.heap [] := va_S.rf
  have hl := lv_entry ([.ref x0, .int v, .int w, .int y]) (n := 5) (Nat.le_of_ble_eq_true rfl)
  rw [lg_entry_eq]
  generalize (lg_sl ([.ref x0, .int v, .int w, .int y]) ++ List.replicate (5 - (lg_sl ([.ref x0, .int v, .int w, .int y])).length) Slot.unset).toArray = ls at hl ⊢
  have hl : lv_has ls 5 [(0, .ref x0), (1, .int v), (2, .int w), (3, .int y)] := hl
  refine zr_nQ (fun Q hQ => ?_)
  have hN := hpl.1.1
  refine lv_aload_n hx hb dX7_loop_0 rfl (lv_at hl 0 rfl) ?_
  refine va_get (D := D) (ci := 5) (v := .ref g0) (C := RX7) (T := TX7) (N := 6) hx hb hts (by decide +kernel) hown hK.1 hP 0 rfl rfl 0 (by decide) (hts (.fieldLink RX7 12 "HomeRounds" "now" "LHomeRounds$Setting;") (by decide +kernel)) (fun _ h9 => h9) rfl dX7_loop_1 ?_
  refine va_get (D := D) (ci := 2) (v := .ref h0) (C := RX3) (T := TX3) (N := 9) hx hb hts (by decide +kernel) hown hK.1 hP 1 rfl rfl 0 (by decide) (hts (.fieldLink RX7 38 "HomeRounds$Setting" "plan" "LHomeRounds$Plan;") (by decide +kernel)) (fun _ h9 => h9) rfl dX7_loop_4 ?_
  refine lv_astore (lv' := [(4, .ref h0), (0, .ref x0), (1, .int v), (2, .int w), (3, .int y)]) hx hb dX7_loop_7 hl (by decide) rfl (fun ls hl => ?_)
  refine lv_aload hx hb dX7_loop_9 (lv_at hl 0 rfl) ?_
  refine lv_iload_n hx hb dX7_loop_11 rfl (lv_at hl 2 rfl) ?_
  refine zr_ci hP hS (va_runV (As := [.int v]) (rest := []) ⟨hx, hb, hml, hown, hts⟩ (c_X1_hasRound l D E h0 h1 h2 h3 h4 h5 h6 N hm aw rv sd gm ca v (hN)) (cwV 1 hts gX7_loop_X1_hasRound rfl rfl rfl (by decide +kernel) ⟨Nat.le_of_ble_eq_true rfl, Nat.le_of_ble_eq_true rfl⟩) (zr_V hK (hP.sub (ws' := [(h0, .inr (0, [.int (nI N), .ref h1, .ref h2, .ref h3, .ref h4, .ref h5, .ref h6])), (h1, .inl (E 0, 15, .inl hm)), (h2, .inl (E 0, 15, .inl aw)), (h3, .inl (E 0, 30, .inl rv)), (h4, .inl (E 0, 30, .inl sd)), (h5, .inl (E 0, 30, .inl gm)), (h6, .inl (E 0, 36, .inl ca))]) [2, 3, 4, 5, 6, 7, 8] rfl) (ci := 0) (q0 := 0) rfl rfl) rfl rfl hl.1 rfl (lv_room (Nat.le_of_ble_eq_true rfl)) dX7_loop_12 ⟨Nat.zero_le _, Nat.zero_le _⟩) (fun r_1 H locs hw_2 hP hS => ?_)
  rcases hw_2 with ⟨rfl, hw_2⟩ | ⟨rfl, hw_2⟩
  · skip
    obtain ⟨t, ht, v_e⟩ := hw_2
    have e1 : zi (N - 1) v = true := v_e ▸ zi_t ht (by omega)
    have q1 : zq v = t := v_e ▸ zq_t (by omega)
    rw [v_e] at hl
    refine zr_ti (y := nI 1) rfl ?_
    refine lv_if_eq (tgt := 41) hx hb dX7_loop_15 (by decide) (fun cn_3 => ?_) (fun cn_3 => ?_)
    · skip
      exact absurd cn_3 (by decide)
    · skip
      refine lv_aload hx hb dX7_loop_18 (lv_at hl 0 rfl) ?_
      refine lv_iload_n hx hb dX7_loop_20 rfl (lv_at hl 3 rfl) ?_
      refine zr_ci hP hS (va_runV (As := [.int w]) (rest := []) ⟨hx, hb, hml, hown, hts⟩ (c_X1_hasRound l D E h0 h1 h2 h3 h4 h5 h6 N hm aw rv sd gm ca w (hN)) (cwV 1 hts gX7_loop_X1_hasRound rfl rfl rfl (by decide +kernel) ⟨Nat.le_of_ble_eq_true rfl, Nat.le_of_ble_eq_true rfl⟩) (zr_V hK (hP.sub (ws' := [(h0, .inr (0, [.int (nI N), .ref h1, .ref h2, .ref h3, .ref h4, .ref h5, .ref h6])), (h1, .inl (E 0, 15, .inl hm)), (h2, .inl (E 0, 15, .inl aw)), (h3, .inl (E 0, 30, .inl rv)), (h4, .inl (E 0, 30, .inl sd)), (h5, .inl (E 0, 30, .inl gm)), (h6, .inl (E 0, 36, .inl ca))]) [2, 3, 4, 5, 6, 7, 8] rfl) (ci := 0) (q0 := 0) rfl rfl) rfl rfl hl.1 rfl (lv_room (Nat.le_of_ble_eq_true rfl)) dX7_loop_21 ⟨Nat.zero_le _, Nat.zero_le _⟩) (fun r_4 H locs hw_5 hP hS => ?_)
      rcases hw_5 with ⟨rfl, hw_5⟩ | ⟨rfl, hw_5⟩
      · skip
        obtain ⟨u, hu, w_e⟩ := hw_5
        have e2 : zi (N - 1) w = true := w_e ▸ zi_t hu (by omega)
        have q2 : zq w = u := w_e ▸ zq_t (by omega)
        rw [w_e] at hl
        refine zr_ti (y := nI 1) rfl ?_
        refine lv_if_eq (tgt := 41) hx hb dX7_loop_24 (by decide) (fun cn_6 => ?_) (fun cn_6 => ?_)
        · skip
          exact absurd cn_6 (by decide)
        · skip
          refine lv_iload_n hx hb dX7_loop_27 rfl (lv_at hl 2 rfl) ?_
          refine lv_iload_n hx hb dX7_loop_28 rfl (lv_at hl 3 rfl) ?_
          refine lv_icmp_eq (tgt := 41) hx hb dX7_loop_29 (by decide) (fun cn_7 => ?_) (fun cn_7 => ?_)
          · skip
            have cn_7 : t = u := (nI_eq (a := t) (b := u) (by omega) (by omega)).mp cn_7
            have e9 : decide (t = u) = true := decide_eq_true cn_7
            refine lv_iconst (v := (-1)) hx hb dX7_loop_41 (by rfl) ?_
            subst hQ
            exact W.iret (v := (-1)) hx hb hr (fun tz htz hWz => ⟨⟨(-1), (), rfl, by first | (simp only [cond_true, cond_false, Bool.and_true, Bool.and_false, Bool.true_and, Bool.false_and, e1]; done) | (simp only [cond_true, cond_false, Bool.and_true, Bool.and_false, Bool.true_and, Bool.false_and, e1, e2]; done) | (simp only [cond_true, cond_false, Bool.and_true, Bool.and_false, Bool.true_and, Bool.false_and, e1, e2, q1, q2, e9, Bool.not_true]; done) | (simp only [cond_true, cond_false, Bool.and_true, Bool.and_false, Bool.true_and, Bool.false_and, e1, e2, q1, q2, e9, e3]; done), trivial⟩, hS.F htz⟩) hS.2.2 dX7_loop_42
          · skip
            have cn_7 : ¬ (t = u) := fun hz => cn_7 ((nI_eq (a := t) (b := u) (by omega) (by omega)).mpr hz)
            have e9 : decide (t = u) = false := decide_eq_false cn_7
            refine lv_aload hx hb dX7_loop_32 (lv_at hl 0 rfl) ?_
            refine lv_iload_n hx hb dX7_loop_34 rfl (lv_at hl 4 rfl) ?_
            refine zr_ci hP hS (va_runV (As := [.int y]) (rest := []) ⟨hx, hb, hml, hown, hts⟩ (c_X1_hasTeam l D E h0 h1 h2 h3 h4 h5 h6 N hm aw rv sd gm ca y (hN)) (cwV 1 hts gX7_loop_X1_hasTeam rfl rfl rfl (by decide +kernel) ⟨Nat.le_of_ble_eq_true rfl, Nat.le_of_ble_eq_true rfl⟩) (zr_V hK (hP.sub (ws' := [(h0, .inr (0, [.int (nI N), .ref h1, .ref h2, .ref h3, .ref h4, .ref h5, .ref h6])), (h1, .inl (E 0, 15, .inl hm)), (h2, .inl (E 0, 15, .inl aw)), (h3, .inl (E 0, 30, .inl rv)), (h4, .inl (E 0, 30, .inl sd)), (h5, .inl (E 0, 30, .inl gm)), (h6, .inl (E 0, 36, .inl ca))]) [2, 3, 4, 5, 6, 7, 8] rfl) (ci := 0) (q0 := 0) rfl rfl) rfl rfl hl.1 rfl (lv_room (Nat.le_of_ble_eq_true rfl)) dX7_loop_35 ⟨Nat.zero_le _, Nat.zero_le _⟩) (fun r_8 H locs hw_9 hP hS => ?_)
            rcases hw_9 with ⟨rfl, hw_9⟩ | ⟨rfl, hw_9⟩
            · skip
              obtain ⟨z, hz, y_e⟩ := hw_9
              have e3 : zi N y = true := y_e ▸ zi_t hz (by omega)
              have q3 : zq y = z := y_e ▸ zq_t (by omega)
              rw [y_e] at hl
              refine zr_ti (y := nI 1) rfl ?_
              refine lv_if_ne (tgt := 43) hx hb dX7_loop_38 (by decide) (fun cn_10 => ?_) (fun cn_10 => ?_)
              · skip
                refine lv_aload hx hb dX7_loop_43 (lv_at hl 0 rfl) ?_
                refine lv_iload_n hx hb dX7_loop_45 rfl (lv_at hl 2 rfl) ?_
                refine lv_iload_n hx hb dX7_loop_46 rfl (lv_at hl 3 rfl) ?_
                refine lv_iload_n hx hb dX7_loop_47 rfl (lv_at hl 4 rfl) ?_
                refine zr_ci hP hS (va_runV (As := [.int (nI t), .int (nI u), .int (nI z)]) (rest := []) ⟨hx, hb, hml, hown, hts⟩ (c_X1_loopOf l D E h0 h1 h2 h3 h4 h5 h6 N hm aw rv sd gm ca G P t u z (hpl) (by omega) (by omega) (by omega)) (cwV 3 hts gX7_loop_X1_loopOf rfl rfl rfl (by decide +kernel) ⟨Nat.le_of_ble_eq_true rfl, Nat.le_of_ble_eq_true rfl⟩) (zr_V hK (hP.sub (ws' := [(h0, .inr (0, [.int (nI N), .ref h1, .ref h2, .ref h3, .ref h4, .ref h5, .ref h6])), (h1, .inl (E 0, 15, .inl hm)), (h2, .inl (E 0, 15, .inl aw)), (h3, .inl (E 0, 30, .inl rv)), (h4, .inl (E 0, 30, .inl sd)), (h5, .inl (E 0, 30, .inl gm)), (h6, .inl (E 0, 36, .inl ca))]) [2, 3, 4, 5, 6, 7, 8] rfl) (ci := 0) (q0 := 0) rfl rfl) rfl rfl hl.1 rfl (lv_room (Nat.le_of_ble_eq_true rfl)) dX7_loop_48 ⟨Nat.zero_le _, Nat.zero_le _⟩) (fun r_11 H locs hw_12 hP hS => ?_)
                subst hw_12
                subst hQ
                exact W.iret (v := nI (zm_loop N G P t u z)) hx hb hr (fun tz htz hWz => ⟨⟨nI (zm_loop N G P t u z), (), rfl, by simp only [cond_true, cond_false, Bool.and_true, Bool.and_false, Bool.true_and, Bool.false_and, e1, e2, e3, e9, q1, q2, q3, Bool.not_false], trivial⟩, hS.F htz⟩) hS.2.2 dX7_loop_51
              · skip
                exact absurd cn_10 (by decide)
            · skip
              have e3 : zi N y = false := zi_f hw_9
              refine zr_ti (y := nI 0) rfl ?_
              refine lv_if_ne (tgt := 43) hx hb dX7_loop_38 (by decide) (fun cn_13 => ?_) (fun cn_13 => ?_)
              · skip
                exact absurd cn_13 (by decide)
              · skip
                refine lv_iconst (v := (-1)) hx hb dX7_loop_41 (by rfl) ?_
                subst hQ
                exact W.iret (v := (-1)) hx hb hr (fun tz htz hWz => ⟨⟨(-1), (), rfl, by first | (simp only [cond_true, cond_false, Bool.and_true, Bool.and_false, Bool.true_and, Bool.false_and, e1]; done) | (simp only [cond_true, cond_false, Bool.and_true, Bool.and_false, Bool.true_and, Bool.false_and, e1, e2]; done) | (simp only [cond_true, cond_false, Bool.and_true, Bool.and_false, Bool.true_and, Bool.false_and, e1, e2, q1, q2, e9, Bool.not_true]; done) | (simp only [cond_true, cond_false, Bool.and_true, Bool.and_false, Bool.true_and, Bool.false_and, e1, e2, q1, q2, e9, e3]; done), trivial⟩, hS.F htz⟩) hS.2.2 dX7_loop_42
      · skip
        have e2 : zi (N - 1) w = false := zi_f hw_5
        refine zr_ti (y := nI 0) rfl ?_
        refine lv_if_eq (tgt := 41) hx hb dX7_loop_24 (by decide) (fun cn_14 => ?_) (fun cn_14 => ?_)
        · skip
          refine lv_iconst (v := (-1)) hx hb dX7_loop_41 (by rfl) ?_
          subst hQ
          exact W.iret (v := (-1)) hx hb hr (fun tz htz hWz => ⟨⟨(-1), (), rfl, by first | (simp only [cond_true, cond_false, Bool.and_true, Bool.and_false, Bool.true_and, Bool.false_and, e1]; done) | (simp only [cond_true, cond_false, Bool.and_true, Bool.and_false, Bool.true_and, Bool.false_and, e1, e2]; done) | (simp only [cond_true, cond_false, Bool.and_true, Bool.and_false, Bool.true_and, Bool.false_and, e1, e2, q1, q2, e9, Bool.not_true]; done) | (simp only [cond_true, cond_false, Bool.and_true, Bool.and_false, Bool.true_and, Bool.false_and, e1, e2, q1, q2, e9, e3]; done), trivial⟩, hS.F htz⟩) hS.2.2 dX7_loop_42
        · skip
          exact absurd cn_14 (by decide)
  · skip
    have e1 : zi (N - 1) v = false := zi_f hw_2
    refine zr_ti (y := nI 0) rfl ?_
    refine lv_if_eq (tgt := 41) hx hb dX7_loop_15 (by decide) (fun cn_15 => ?_) (fun cn_15 => ?_)
    · skip
      refine lv_iconst (v := (-1)) hx hb dX7_loop_41 (by rfl) ?_
      subst hQ
      exact W.iret (v := (-1)) hx hb hr (fun tz htz hWz => ⟨⟨(-1), (), rfl, by first | (simp only [cond_true, cond_false, Bool.and_true, Bool.and_false, Bool.true_and, Bool.false_and, e1]; done) | (simp only [cond_true, cond_false, Bool.and_true, Bool.and_false, Bool.true_and, Bool.false_and, e1, e2]; done) | (simp only [cond_true, cond_false, Bool.and_true, Bool.and_false, Bool.true_and, Bool.false_and, e1, e2, q1, q2, e9, Bool.not_true]; done) | (simp only [cond_true, cond_false, Bool.and_true, Bool.and_false, Bool.true_and, Bool.false_and, e1, e2, q1, q2, e9, e3]; done), trivial⟩, hS.F htz⟩) hS.2.2 dX7_loop_42
    · skip
      exact absurd cn_15 (by decide)

set_option maxHeartbeats 4000000 in
set_option maxRecDepth 100000 in
theorem c_X7_told (l : Launch) (D : va_G) (E : Nat → ClassId) (x0 : Nat) (xk : Nat) (xt : Nat) (xx : Nat) (xp : Nat) (ik : Int32) (g0 : Nat) (g1 : Nat) (g2 : Nat) (g3 : Nat) (g4 : Nat) (g5 : Nat) (g6 : Nat) (g7 : Nat) (kd : Nat) (h0 : Nat) (h1 : Nat) (h2 : Nat) (h3 : Nat) (h4 : Nat) (h5 : Nat) (h6 : Nat) (N : Nat) (hm : Nat → Int32) (aw : Nat → Int32) (rv : Nat → Int32) (sd : Nat → Int32) (gm : Nat → Int32) (ca : Nat → Int32) (G : Nat → Nat → Nat) (P : Nat → Nat → Nat) (xs : Nat → Int32) (ys : Nat → Int32) (X : Nat → Nat) (Y : Nat → Nat) (bz : Nat → Int32) (B : Nat → Nat → Nat) (v : Int32) (hpl : zm_pl N G P hm aw rv sd gm) (hgr : zm_gr X Y xs ys) (hbz : zm_bz B bz) (hkd : kd < 3) : Met l yX7_told wsX7_told ({ frames := 6, cells := 0, slots := 0, locals := 136 }) (zw_P D E [.ref x0, .int v] [(x0, .inr (5, [.ref g0, .ref xk, .ref xt, .ref xx, .ref xp, .int ik])), (g0, .inr (2, [.ref h0, .ref g1, .ref g2, .ref g3, .ref g4, .int (nI kd), .ref g5, .ref g6, .ref g7])), (h0, .inr (0, [.int (nI N), .ref h1, .ref h2, .ref h3, .ref h4, .ref h5, .ref h6])), (h1, .inl (E 0, 15, .inl hm)), (h2, .inl (E 0, 15, .inl aw)), (h3, .inl (E 0, 30, .inl rv)), (h4, .inl (E 0, 30, .inl sd)), (h5, .inl (E 0, 30, .inl gm)), (h6, .inl (E 0, 36, .inl ca)), (g1, .inl (E 0, 6, .inl xs)), (g2, .inl (E 0, 6, .inl ys)), (g3, .inl (E 1, 30, .inl bz))]) (zw_Qi D [(x0, .inr (5, [.ref g0, .ref xk, .ref xt, .ref xx, .ref xp, .int ik])), (g0, .inr (2, [.ref h0, .ref g1, .ref g2, .ref g3, .ref g4, .int (nI kd), .ref g5, .ref g6, .ref g7])), (h0, .inr (0, [.int (nI N), .ref h1, .ref h2, .ref h3, .ref h4, .ref h5, .ref h6])), (h1, .inl (E 0, 15, .inl hm)), (h2, .inl (E 0, 15, .inl aw)), (h3, .inl (E 0, 30, .inl rv)), (h4, .inl (E 0, 30, .inl sd)), (h5, .inl (E 0, 30, .inl gm)), (h6, .inl (E 0, 36, .inl ca)), (g1, .inl (E 0, 6, .inl xs)), (g2, .inl (E 0, 6, .inl ys)), (g3, .inl (E 1, 30, .inl bz))] (fun zv (u : (Nat → Int32)) => zv = zo_told N G P B X Y kd (zw 10 v)) (fun (u : (Nat → Int32)) => [(x0, .inr (5, [.ref g0, .ref xk, .ref xt, .ref xx, .ref xp, .int ik])), (g0, .inr (2, [.ref h0, .ref g1, .ref g2, .ref g3, .ref g4, .int (nI kd), .ref g5, .ref g6, .ref g7])), (h0, .inr (0, [.int (nI N), .ref h1, .ref h2, .ref h3, .ref h4, .ref h5, .ref h6])), (h1, .inl (E 0, 15, .inl hm)), (h2, .inl (E 0, 15, .inl aw)), (h3, .inl (E 0, 30, .inl rv)), (h4, .inl (E 0, 30, .inl sd)), (h5, .inl (E 0, 30, .inl gm)), (h6, .inl (E 0, 36, .inl u)), (g1, .inl (E 0, 6, .inl xs)), (g2, .inl (E 0, 6, .inl ys)), (g3, .inl (E 1, 30, .inl bz))])) 0 0 (zw_A [(x0, .inr (5, [.ref g0, .ref xk, .ref xt, .ref xx, .ref xp, .int ik])), (g0, .inr (2, [.ref h0, .ref g1, .ref g2, .ref g3, .ref g4, .int (nI kd), .ref g5, .ref g6, .ref g7])), (h0, .inr (0, [.int (nI N), .ref h1, .ref h2, .ref h3, .ref h4, .ref h5, .ref h6])), (h1, .inl (E 0, 15, .inl hm)), (h2, .inl (E 0, 15, .inl aw)), (h3, .inl (E 0, 30, .inl rv)), (h4, .inl (E 0, 30, .inl sd)), (h5, .inl (E 0, 30, .inl gm)), (h6, .inl (E 0, 36, .inl ca)), (g1, .inl (E 0, 6, .inl xs)), (g2, .inl (E 0, 6, .inl ys)), (g3, .inl (E 1, 30, .inl bz))]) := by
  refine Met.ofW (cc := cX7_told) (maxL := 2) (ret := (some .int)) (by decide) rfl ?_
  intro p e s m args below meth c s₁ Bz hml hv
  obtain ⟨rfl, hP, hK, hD0⟩ := hv
  have hx := Bz.exec
  have hb := Bz.bytes
  have hr := Bz.returns
  have hts := atoms_spec (ws := wsX7_told) Bz.pre
  have hown : s.vm.findClass RX7 = some m.cls := findClass_of_methodNamed Bz.named
  have hlocks := Bz.notSynchronized
  have hP : va_P D vwCl [(x0, .inr (5, [.ref g0, .ref xk, .ref xt, .ref xx, .ref xp, .int ik])), (g0, .inr (2, [.ref h0, .ref g1, .ref g2, .ref g3, .ref g4, .int (nI kd), .ref g5, .ref g6, .ref g7])), (h0, .inr (0, [.int (nI N), .ref h1, .ref h2, .ref h3, .ref h4, .ref h5, .ref h6])), (h1, .inl (E 0, 15, .inl hm)), (h2, .inl (E 0, 15, .inl aw)), (h3, .inl (E 0, 30, .inl rv)), (h4, .inl (E 0, 30, .inl sd)), (h5, .inl (E 0, 30, .inl gm)), (h6, .inl (E 0, 36, .inl ca)), (g1, .inl (E 0, 6, .inl xs)), (g2, .inl (E 0, 6, .inl ys)), (g3, .inl (E 1, 30, .inl bz))] s.heap := hP
  obtain ⟨A, hAe⟩ : ∃ A : Nat → Prop, A = zw_A [(x0, .inr (5, [.ref g0, .ref xk, .ref xt, .ref xx, .ref xp, .int ik])), (g0, .inr (2, [.ref h0, .ref g1, .ref g2, .ref g3, .ref g4, .int (nI kd), .ref g5, .ref g6, .ref g7])), (h0, .inr (0, [.int (nI N), .ref h1, .ref h2, .ref h3, .ref h4, .ref h5, .ref h6])), (h1, .inl (E 0, 15, .inl hm)), (h2, .inl (E 0, 15, .inl aw)), (h3, .inl (E 0, 30, .inl rv)), (h4, .inl (E 0, 30, .inl sd)), (h5, .inl (E 0, 30, .inl gm)), (h6, .inl (E 0, 36, .inl ca)), (g1, .inl (E 0, 6, .inl xs)), (g2, .inl (E 0, 6, .inl ys)), (g3, .inl (E 1, 30, .inl bz))] := ⟨_, rfl⟩
  have hD : va_D A [(x0, .inr (5, [.ref g0, .ref xk, .ref xt, .ref xx, .ref xp, .int ik])), (g0, .inr (2, [.ref h0, .ref g1, .ref g2, .ref g3, .ref g4, .int (nI kd), .ref g5, .ref g6, .ref g7])), (h0, .inr (0, [.int (nI N), .ref h1, .ref h2, .ref h3, .ref h4, .ref h5, .ref h6])), (h1, .inl (E 0, 15, .inl hm)), (h2, .inl (E 0, 15, .inl aw)), (h3, .inl (E 0, 30, .inl rv)), (h4, .inl (E 0, 30, .inl sd)), (h5, .inl (E 0, 30, .inl gm)), (h6, .inl (E 0, 36, .inl ca)), (g1, .inl (E 0, 6, .inl xs)), (g2, .inl (E 0, 6, .inl ys)), (g3, .inl (E 1, 30, .inl bz))] := hAe ▸ zw_own hD0
  have hS : va_S A s.heap s.heap [] := va_S.rf
  have hl := lv_entry ([.ref x0, .int v]) (n := 2) (Nat.le_of_ble_eq_true rfl)
  rw [lg_entry_eq]
  generalize (lg_sl ([.ref x0, .int v]) ++ List.replicate (2 - (lg_sl ([.ref x0, .int v])).length) Slot.unset).toArray = ls at hl ⊢
  have hl : lv_has ls 2 [(0, .ref x0), (1, .int v)] := hl
  refine zr_nQ (fun Q hQ => ?_)
  have hN := hpl.1.1
  refine lv_iload_n hx hb dX7_told_0 rfl (lv_at hl 1 rfl) ?_
  rcases zn_sw v 10 with hsw | hsw
  · obtain ⟨kz, hkz, hxz⟩ := hsw
    have hsw : kz = 0 ∨ kz = 1 ∨ kz = 2 ∨ kz = 3 ∨ kz = 4 ∨ kz = 5 ∨ kz = 6 ∨ kz = 7 ∨ kz = 8 ∨ kz = 9 := by omega
    rcases hsw with hsw | hsw | hsw | hsw | hsw | hsw | hsw | hsw | hsw | hsw
    · skip
      rw [hsw] at hxz; clear hsw hkz
      have hz : zw 10 v = 0 := by rw [hxz]; exact zw_t (by omega)
      refine zr_ti (y := nI 0) (hxz) ?_
      refine lv_tableIn (x := nI 0) (off := 55) (tgt := 56) hx hb dX7_told_1 (by decide +kernel) (by decide +kernel) (by decide +kernel) (by decide) ?_
      refine lv_aload_n hx hb dX7_told_56 rfl (lv_at hl 0 rfl) ?_
      refine va_get (D := D) (ci := 5) (v := .ref g0) (C := RX7) (T := TX7) (N := 6) hx hb hts (by decide +kernel) hown hK.1 hP 0 rfl rfl 0 (by decide) (hts (.fieldLink RX7 12 "HomeRounds" "now" "LHomeRounds$Setting;") (by decide +kernel)) (fun _ h9 => h9) rfl dX7_told_57 ?_
      refine va_get (D := D) (ci := 2) (v := .ref h0) (C := RX3) (T := TX3) (N := 9) hx hb hts (by decide +kernel) hown hK.1 hP 1 rfl rfl 0 (by decide) (hts (.fieldLink RX7 38 "HomeRounds$Setting" "plan" "LHomeRounds$Plan;") (by decide +kernel)) (fun _ h9 => h9) rfl dX7_told_60 ?_
      refine va_get (D := D) (ci := 0) (v := .int (nI N)) (C := RX1) (T := TX1) (N := 7) hx hb hts (by decide +kernel) hown hK.1 hP 2 rfl rfl 0 (by decide) (hts (.fieldLink RX7 42 "HomeRounds$Plan" "n" "I") (by decide +kernel)) (fun _ h9 => h9) rfl dX7_told_63 ?_
      subst hQ; subst hAe
      exact W.iret (v := nI N) hx hb hr (fun tz htz hWz => ⟨⟨nI N, ca, rfl, by simp only [cond_true, cond_false, Bool.and_true, Bool.and_false, Bool.true_and, Bool.false_and, hz]; rfl, by rw [htz]; exact hP, hD⟩, hS.F htz⟩) hS.2.2 dX7_told_66
    · skip
      rw [hsw] at hxz; clear hsw hkz
      have hz : zw 10 v = 1 := by rw [hxz]; exact zw_t (by omega)
      refine zr_ti (y := nI 1) (hxz) ?_
      refine lv_tableIn (x := nI 1) (off := 66) (tgt := 67) hx hb dX7_told_1 (by decide +kernel) (by decide +kernel) (by decide +kernel) (by decide) ?_
      refine lv_aload_n hx hb dX7_told_67 rfl (lv_at hl 0 rfl) ?_
      refine va_get (D := D) (ci := 5) (v := .ref g0) (C := RX7) (T := TX7) (N := 6) hx hb hts (by decide +kernel) hown hK.1 hP 0 rfl rfl 0 (by decide) (hts (.fieldLink RX7 12 "HomeRounds" "now" "LHomeRounds$Setting;") (by decide +kernel)) (fun _ h9 => h9) rfl dX7_told_68 ?_
      refine va_get (D := D) (ci := 2) (v := .ref h0) (C := RX3) (T := TX3) (N := 9) hx hb hts (by decide +kernel) hown hK.1 hP 1 rfl rfl 0 (by decide) (hts (.fieldLink RX7 38 "HomeRounds$Setting" "plan" "LHomeRounds$Plan;") (by decide +kernel)) (fun _ h9 => h9) rfl dX7_told_71 ?_
      refine zr_ci hP hS (va_runV (As := []) (rest := []) ⟨hx, hb, hml, hown, hts⟩ (c_X1_allBreaks l D E h0 h1 h2 h3 h4 h5 h6 N hm aw rv sd gm ca G P (hpl)) (cwV 0 hts gX7_told_X1_allBreaks rfl rfl rfl (by decide +kernel) ⟨Nat.le_of_ble_eq_true rfl, Nat.le_of_ble_eq_true rfl⟩) (zr_V hK (hP.sub (ws' := [(h0, .inr (0, [.int (nI N), .ref h1, .ref h2, .ref h3, .ref h4, .ref h5, .ref h6])), (h1, .inl (E 0, 15, .inl hm)), (h2, .inl (E 0, 15, .inl aw)), (h3, .inl (E 0, 30, .inl rv)), (h4, .inl (E 0, 30, .inl sd)), (h5, .inl (E 0, 30, .inl gm)), (h6, .inl (E 0, 36, .inl ca))]) [2, 3, 4, 5, 6, 7, 8] rfl) (ci := 0) (q0 := 0) rfl rfl) rfl rfl hl.1 rfl (lv_room (Nat.le_of_ble_eq_true rfl)) dX7_told_74 ⟨Nat.zero_le _, Nat.zero_le _⟩) (fun r_1 H locs hw_2 hP hS => ?_)
      subst hw_2
      subst hQ; subst hAe
      exact W.iret (v := nI (zm_brs N P)) hx hb hr (fun tz htz hWz => ⟨⟨nI (zm_brs N P), ca, rfl, by simp only [cond_true, cond_false, Bool.and_true, Bool.and_false, Bool.true_and, Bool.false_and, hz]; rfl, by rw [htz]; exact hP, hD⟩, hS.F htz⟩) hS.2.2 dX7_told_77
    · skip
      rw [hsw] at hxz; clear hsw hkz
      have hz : zw 10 v = 2 := by rw [hxz]; exact zw_t (by omega)
      refine zr_ti (y := nI 2) (hxz) ?_
      refine lv_tableIn (x := nI 2) (off := 77) (tgt := 78) hx hb dX7_told_1 (by decide +kernel) (by decide +kernel) (by decide +kernel) (by decide) ?_
      refine lv_aload_n hx hb dX7_told_78 rfl (lv_at hl 0 rfl) ?_
      refine va_get (D := D) (ci := 5) (v := .ref g0) (C := RX7) (T := TX7) (N := 6) hx hb hts (by decide +kernel) hown hK.1 hP 0 rfl rfl 0 (by decide) (hts (.fieldLink RX7 12 "HomeRounds" "now" "LHomeRounds$Setting;") (by decide +kernel)) (fun _ h9 => h9) rfl dX7_told_79 ?_
      refine zr_ci hP hS (va_runV (As := []) (rest := []) ⟨hx, hb, hml, hown, hts⟩ (c_X3_violations l D E g0 g1 g2 g3 g4 g5 g6 g7 kd h0 h1 h2 h3 h4 h5 h6 N hm aw rv sd gm ca G P bz B (hpl) (hbz)) (cwV 0 hts gX7_told_X3_violations rfl rfl rfl (by decide +kernel) ⟨Nat.le_of_ble_eq_true rfl, Nat.le_of_ble_eq_true rfl⟩) (zr_V hK (hP.sub (ws' := [(g0, .inr (2, [.ref h0, .ref g1, .ref g2, .ref g3, .ref g4, .int (nI kd), .ref g5, .ref g6, .ref g7])), (h0, .inr (0, [.int (nI N), .ref h1, .ref h2, .ref h3, .ref h4, .ref h5, .ref h6])), (h1, .inl (E 0, 15, .inl hm)), (h2, .inl (E 0, 15, .inl aw)), (h3, .inl (E 0, 30, .inl rv)), (h4, .inl (E 0, 30, .inl sd)), (h5, .inl (E 0, 30, .inl gm)), (h6, .inl (E 0, 36, .inl ca)), (g3, .inl (E 1, 30, .inl bz))]) [1, 2, 3, 4, 5, 6, 7, 8, 11] rfl) (ci := 2) (q0 := 0) rfl rfl) rfl rfl hl.1 rfl (lv_room (Nat.le_of_ble_eq_true rfl)) dX7_told_82 ⟨Nat.zero_le _, Nat.zero_le _⟩) (fun r_3 H locs hw_4 hP hS => ?_)
      subst hw_4
      subst hQ; subst hAe
      exact W.iret (v := nI (zm_vio N G B)) hx hb hr (fun tz htz hWz => ⟨⟨nI (zm_vio N G B), ca, rfl, by simp only [cond_true, cond_false, Bool.and_true, Bool.and_false, Bool.true_and, Bool.false_and, hz]; rfl, by rw [htz]; exact hP, hD⟩, hS.F htz⟩) hS.2.2 dX7_told_85
    · skip
      rw [hsw] at hxz; clear hsw hkz
      have hz : zw 10 v = 3 := by rw [hxz]; exact zw_t (by omega)
      refine zr_ti (y := nI 3) (hxz) ?_
      refine lv_tableIn (x := nI 3) (off := 85) (tgt := 86) hx hb dX7_told_1 (by decide +kernel) (by decide +kernel) (by decide +kernel) (by decide) ?_
      refine lv_aload_n hx hb dX7_told_86 rfl (lv_at hl 0 rfl) ?_
      refine va_get (D := D) (ci := 5) (v := .ref g0) (C := RX7) (T := TX7) (N := 6) hx hb hts (by decide +kernel) hown hK.1 hP 0 rfl rfl 0 (by decide) (hts (.fieldLink RX7 12 "HomeRounds" "now" "LHomeRounds$Setting;") (by decide +kernel)) (fun _ h9 => h9) rfl dX7_told_87 ?_
      refine va_get (D := D) (ci := 2) (v := .ref h0) (C := RX3) (T := TX3) (N := 9) hx hb hts (by decide +kernel) hown hK.1 hP 1 rfl rfl 0 (by decide) (hts (.fieldLink RX7 38 "HomeRounds$Setting" "plan" "LHomeRounds$Plan;") (by decide +kernel)) (fun _ h9 => h9) rfl dX7_told_90 ?_
      have hPc := hP.sub (ws' := [(h0, .inr (0, [.int (nI N), .ref h1, .ref h2, .ref h3, .ref h4, .ref h5, .ref h6])), (h1, .inl (E 0, 15, .inl hm)), (h2, .inl (E 0, 15, .inl aw)), (h3, .inl (E 0, 30, .inl rv)), (h4, .inl (E 0, 30, .inl sd)), (h5, .inl (E 0, 30, .inl gm)), (h6, .inl (E 0, 36, .inl ca))]) [2, 3, 4, 5, 6, 7, 8] rfl
      have hDc := hD.sub (ws' := [(h0, .inr (0, [.int (nI N), .ref h1, .ref h2, .ref h3, .ref h4, .ref h5, .ref h6])), (h1, .inl (E 0, 15, .inl hm)), (h2, .inl (E 0, 15, .inl aw)), (h3, .inl (E 0, 30, .inl rv)), (h4, .inl (E 0, 30, .inl sd)), (h5, .inl (E 0, 30, .inl gm)), (h6, .inl (E 0, 36, .inl ca))]) [2, 3, 4, 5, 6, 7, 8] (by decide +kernel) rfl
      have hAc := zw_AA (wc := [(h0, .inr (0, [.int (nI N), .ref h1, .ref h2, .ref h3, .ref h4, .ref h5, .ref h6])), (h1, .inl (E 0, 15, .inl hm)), (h2, .inl (E 0, 15, .inl aw)), (h3, .inl (E 0, 30, .inl rv)), (h4, .inl (E 0, 30, .inl sd)), (h5, .inl (E 0, 30, .inl gm)), (h6, .inl (E 0, 36, .inl ca))]) hD [2, 3, 4, 5, 6, 7, 8] rfl
      refine zw_ci hAc hS (va_runV (As := []) (rest := []) ⟨hx, hb, hml, hown, hts⟩ (c_X1_carry l D E h0 h1 h2 h3 h4 h5 h6 N hm aw rv sd gm ca G P (hpl)) (cwV 0 hts gX7_told_X1_carry rfl rfl rfl (by decide +kernel) ⟨Nat.le_of_ble_eq_true rfl, Nat.le_of_ble_eq_true rfl⟩) (zw_V hK hPc hDc (ci := 0) (q0 := 0) rfl rfl) rfl rfl hl.1 rfl (lv_room (Nat.le_of_ble_eq_true rfl)) dX7_told_93 ⟨Nat.zero_le _, Nat.zero_le _⟩) (fun r_5 u_7 H locs hw_6 hP1 hD1 hk1 hS => ?_)
      obtain ⟨ca_8, rfl⟩ : ∃ z, z = u_7 := ⟨_, rfl⟩
      try dsimp only at hw_6 hP1 hD1
      obtain ⟨hP, hD⟩ := zw_join (wr := [(x0, .inr (5, [.ref g0, .ref xk, .ref xt, .ref xx, .ref xp, .int ik])), (g0, .inr (2, [.ref h0, .ref g1, .ref g2, .ref g3, .ref g4, .int (nI kd), .ref g5, .ref g6, .ref g7])), (g1, .inl (E 0, 6, .inl xs)), (g2, .inl (E 0, 6, .inl ys)), (g3, .inl (E 1, 30, .inl bz))]) (w1 := [(h0, .inr (0, [.int (nI N), .ref h1, .ref h2, .ref h3, .ref h4, .ref h5, .ref h6])), (h1, .inl (E 0, 15, .inl hm)), (h2, .inl (E 0, 15, .inl aw)), (h3, .inl (E 0, 30, .inl rv)), (h4, .inl (E 0, 30, .inl sd)), (h5, .inl (E 0, 30, .inl gm)), (h6, .inl (E 0, 36, .inl ca_8))]) (ws' := [(x0, .inr (5, [.ref g0, .ref xk, .ref xt, .ref xx, .ref xp, .int ik])), (g0, .inr (2, [.ref h0, .ref g1, .ref g2, .ref g3, .ref g4, .int (nI kd), .ref g5, .ref g6, .ref g7])), (h0, .inr (0, [.int (nI N), .ref h1, .ref h2, .ref h3, .ref h4, .ref h5, .ref h6])), (h1, .inl (E 0, 15, .inl hm)), (h2, .inl (E 0, 15, .inl aw)), (h3, .inl (E 0, 30, .inl rv)), (h4, .inl (E 0, 30, .inl sd)), (h5, .inl (E 0, 30, .inl gm)), (h6, .inl (E 0, 36, .inl ca_8)), (g1, .inl (E 0, 6, .inl xs)), (g2, .inl (E 0, 6, .inl ys)), (g3, .inl (E 1, 30, .inl bz))]) hP hD [2, 3, 4, 5, 6, 7, 8] [0, 1, 9, 10, 11] [0, 1, 5, 6, 7, 8, 9, 10, 11, 2, 3, 4] rfl rfl (by decide +kernel) (by decide +kernel) hAc hk1 hP1 hD1 (by decide +kernel) rfl
      clear hP1 hD1 hk1 hPc hDc hAc
      obtain ⟨rfl, hw_6⟩ := hw_6
      subst hQ; subst hAe
      exact W.iret (v := nI (zm_car N G P)) hx hb hr (fun tz htz hWz => ⟨⟨nI (zm_car N G P), ca_8, rfl, by simp only [cond_true, cond_false, Bool.and_true, Bool.and_false, Bool.true_and, Bool.false_and, hz]; rfl, by rw [htz]; exact hP, hD⟩, hS.F htz⟩) hS.2.2 dX7_told_96
    · skip
      rw [hsw] at hxz; clear hsw hkz
      have hz : zw 10 v = 4 := by rw [hxz]; exact zw_t (by omega)
      refine zr_ti (y := nI 4) (hxz) ?_
      refine lv_tableIn (x := nI 4) (off := 96) (tgt := 97) hx hb dX7_told_1 (by decide +kernel) (by decide +kernel) (by decide +kernel) (by decide) ?_
      refine lv_aload_n hx hb dX7_told_97 rfl (lv_at hl 0 rfl) ?_
      refine va_get (D := D) (ci := 5) (v := .ref g0) (C := RX7) (T := TX7) (N := 6) hx hb hts (by decide +kernel) hown hK.1 hP 0 rfl rfl 0 (by decide) (hts (.fieldLink RX7 12 "HomeRounds" "now" "LHomeRounds$Setting;") (by decide +kernel)) (fun _ h9 => h9) rfl dX7_told_98 ?_
      refine zr_ci hP hS (va_runV (As := []) (rest := []) ⟨hx, hb, hml, hown, hts⟩ (c_X3_allMiles l D E g0 g1 g2 g3 g4 g5 g6 g7 kd h0 h1 h2 h3 h4 h5 h6 N hm aw rv sd gm ca G P xs ys X Y (hpl) (hgr)) (cwV 0 hts gX7_told_X3_allMiles rfl rfl rfl (by decide +kernel) ⟨Nat.le_of_ble_eq_true rfl, Nat.le_of_ble_eq_true rfl⟩) (zr_V hK (hP.sub (ws' := [(g0, .inr (2, [.ref h0, .ref g1, .ref g2, .ref g3, .ref g4, .int (nI kd), .ref g5, .ref g6, .ref g7])), (h0, .inr (0, [.int (nI N), .ref h1, .ref h2, .ref h3, .ref h4, .ref h5, .ref h6])), (h1, .inl (E 0, 15, .inl hm)), (h2, .inl (E 0, 15, .inl aw)), (h3, .inl (E 0, 30, .inl rv)), (h4, .inl (E 0, 30, .inl sd)), (h5, .inl (E 0, 30, .inl gm)), (h6, .inl (E 0, 36, .inl ca)), (g1, .inl (E 0, 6, .inl xs)), (g2, .inl (E 0, 6, .inl ys))]) [1, 2, 3, 4, 5, 6, 7, 8, 9, 10] rfl) (ci := 2) (q0 := 0) rfl rfl) rfl rfl hl.1 rfl (lv_room (Nat.le_of_ble_eq_true rfl)) dX7_told_101 ⟨Nat.zero_le _, Nat.zero_le _⟩) (fun r_9 H locs hw_10 hP hS => ?_)
      subst hw_10
      subst hQ; subst hAe
      exact W.iret (v := nI (zm_amiles N G P X Y)) hx hb hr (fun tz htz hWz => ⟨⟨nI (zm_amiles N G P X Y), ca, rfl, by simp only [cond_true, cond_false, Bool.and_true, Bool.and_false, Bool.true_and, Bool.false_and, hz]; rfl, by rw [htz]; exact hP, hD⟩, hS.F htz⟩) hS.2.2 dX7_told_104
    · skip
      rw [hsw] at hxz; clear hsw hkz
      have hz : zw 10 v = 5 := by rw [hxz]; exact zw_t (by omega)
      refine zr_ti (y := nI 5) (hxz) ?_
      refine lv_tableIn (x := nI 5) (off := 104) (tgt := 105) hx hb dX7_told_1 (by decide +kernel) (by decide +kernel) (by decide +kernel) (by decide) ?_
      refine lv_aload_n hx hb dX7_told_105 rfl (lv_at hl 0 rfl) ?_
      refine va_get (D := D) (ci := 5) (v := .ref g0) (C := RX7) (T := TX7) (N := 6) hx hb hts (by decide +kernel) hown hK.1 hP 0 rfl rfl 0 (by decide) (hts (.fieldLink RX7 12 "HomeRounds" "now" "LHomeRounds$Setting;") (by decide +kernel)) (fun _ h9 => h9) rfl dX7_told_106 ?_
      refine zr_ci hP hS (va_runV (As := []) (rest := []) ⟨hx, hb, hml, hown, hts⟩ (c_X3_mostWorn l D E g0 g1 g2 g3 g4 g5 g6 g7 kd h0 h1 h2 h3 h4 h5 h6 N hm aw rv sd gm ca G P xs ys X Y (hpl) (hgr)) (cwV 0 hts gX7_told_X3_mostWorn rfl rfl rfl (by decide +kernel) ⟨Nat.le_of_ble_eq_true rfl, Nat.le_of_ble_eq_true rfl⟩) (zr_V hK (hP.sub (ws' := [(g0, .inr (2, [.ref h0, .ref g1, .ref g2, .ref g3, .ref g4, .int (nI kd), .ref g5, .ref g6, .ref g7])), (h0, .inr (0, [.int (nI N), .ref h1, .ref h2, .ref h3, .ref h4, .ref h5, .ref h6])), (h1, .inl (E 0, 15, .inl hm)), (h2, .inl (E 0, 15, .inl aw)), (h3, .inl (E 0, 30, .inl rv)), (h4, .inl (E 0, 30, .inl sd)), (h5, .inl (E 0, 30, .inl gm)), (h6, .inl (E 0, 36, .inl ca)), (g1, .inl (E 0, 6, .inl xs)), (g2, .inl (E 0, 6, .inl ys))]) [1, 2, 3, 4, 5, 6, 7, 8, 9, 10] rfl) (ci := 2) (q0 := 0) rfl rfl) rfl rfl hl.1 rfl (lv_room (Nat.le_of_ble_eq_true rfl)) dX7_told_109 ⟨Nat.zero_le _, Nat.zero_le _⟩) (fun r_11 H locs hw_12 hP hS => ?_)
      subst hw_12
      subst hQ; subst hAe
      exact W.iret (v := nI (zf_most (fun t => zf_wear (zm_way G P X Y t) (N - 1)) (N - 1))) hx hb hr (fun tz htz hWz => ⟨⟨nI (zf_most (fun t => zf_wear (zm_way G P X Y t) (N - 1)) (N - 1)), ca, rfl, by simp only [cond_true, cond_false, Bool.and_true, Bool.and_false, Bool.true_and, Bool.false_and, hz]; rfl, by rw [htz]; exact hP, hD⟩, hS.F htz⟩) hS.2.2 dX7_told_112
    · skip
      rw [hsw] at hxz; clear hsw hkz
      have hz : zw 10 v = 6 := by rw [hxz]; exact zw_t (by omega)
      refine zr_ti (y := nI 6) (hxz) ?_
      refine lv_tableIn (x := nI 6) (off := 112) (tgt := 113) hx hb dX7_told_1 (by decide +kernel) (by decide +kernel) (by decide +kernel) (by decide) ?_
      refine lv_aload_n hx hb dX7_told_113 rfl (lv_at hl 0 rfl) ?_
      refine va_get (D := D) (ci := 5) (v := .ref g0) (C := RX7) (T := TX7) (N := 6) hx hb hts (by decide +kernel) hown hK.1 hP 0 rfl rfl 0 (by decide) (hts (.fieldLink RX7 12 "HomeRounds" "now" "LHomeRounds$Setting;") (by decide +kernel)) (fun _ h9 => h9) rfl dX7_told_114 ?_
      refine zr_ci hP hS (va_runV (As := []) (rest := []) ⟨hx, hb, hml, hown, hts⟩ (c_X3_allBars l D E g0 g1 g2 g3 g4 g5 g6 g7 kd h0 bz B (hbz)) (cwV 0 hts gX7_told_X3_allBars rfl rfl rfl (by decide +kernel) ⟨Nat.le_of_ble_eq_true rfl, Nat.le_of_ble_eq_true rfl⟩) (zr_V hK (hP.sub (ws' := [(g0, .inr (2, [.ref h0, .ref g1, .ref g2, .ref g3, .ref g4, .int (nI kd), .ref g5, .ref g6, .ref g7])), (g3, .inl (E 1, 30, .inl bz))]) [1, 11] rfl) (ci := 2) (q0 := 0) rfl rfl) rfl rfl hl.1 rfl (lv_room (Nat.le_of_ble_eq_true rfl)) dX7_told_117 ⟨Nat.zero_le _, Nat.zero_le _⟩) (fun r_13 H locs hw_14 hP hS => ?_)
      subst hw_14
      subst hQ; subst hAe
      exact W.iret (v := nI (zm_allb B)) hx hb hr (fun tz htz hWz => ⟨⟨nI (zm_allb B), ca, rfl, by simp only [cond_true, cond_false, Bool.and_true, Bool.and_false, Bool.true_and, Bool.false_and, hz]; rfl, by rw [htz]; exact hP, hD⟩, hS.F htz⟩) hS.2.2 dX7_told_120
    · skip
      rw [hsw] at hxz; clear hsw hkz
      have hz : zw 10 v = 7 := by rw [hxz]; exact zw_t (by omega)
      refine zr_ti (y := nI 7) (hxz) ?_
      refine lv_tableIn (x := nI 7) (off := 120) (tgt := 121) hx hb dX7_told_1 (by decide +kernel) (by decide +kernel) (by decide +kernel) (by decide) ?_
      refine lv_aload_n hx hb dX7_told_121 rfl (lv_at hl 0 rfl) ?_
      refine va_get (D := D) (ci := 5) (v := .ref g0) (C := RX7) (T := TX7) (N := 6) hx hb hts (by decide +kernel) hown hK.1 hP 0 rfl rfl 0 (by decide) (hts (.fieldLink RX7 12 "HomeRounds" "now" "LHomeRounds$Setting;") (by decide +kernel)) (fun _ h9 => h9) rfl dX7_told_122 ?_
      refine va_get (D := D) (ci := 2) (v := .int (nI kd)) (C := RX3) (T := TX3) (N := 9) hx hb hts (by decide +kernel) hown hK.1 hP 1 rfl rfl 5 (by decide) (hts (.fieldLink RX7 102 "HomeRounds$Setting" "seasonKind" "I") (by decide +kernel)) (fun _ h9 => h9) rfl dX7_told_125 ?_
      subst hQ; subst hAe
      exact W.iret (v := nI kd) hx hb hr (fun tz htz hWz => ⟨⟨nI kd, ca, rfl, by simp only [cond_true, cond_false, Bool.and_true, Bool.and_false, Bool.true_and, Bool.false_and, hz]; rfl, by rw [htz]; exact hP, hD⟩, hS.F htz⟩) hS.2.2 dX7_told_128
    · skip
      rw [hsw] at hxz; clear hsw hkz
      have hz : zw 10 v = 8 := by rw [hxz]; exact zw_t (by omega)
      refine zr_ti (y := nI 8) (hxz) ?_
      refine lv_tableIn (x := nI 8) (off := 128) (tgt := 129) hx hb dX7_told_1 (by decide +kernel) (by decide +kernel) (by decide +kernel) (by decide) ?_
      refine lv_aload_n hx hb dX7_told_129 rfl (lv_at hl 0 rfl) ?_
      refine va_get (D := D) (ci := 5) (v := .ref g0) (C := RX7) (T := TX7) (N := 6) hx hb hts (by decide +kernel) hown hK.1 hP 0 rfl rfl 0 (by decide) (hts (.fieldLink RX7 12 "HomeRounds" "now" "LHomeRounds$Setting;") (by decide +kernel)) (fun _ h9 => h9) rfl dX7_told_130 ?_
      refine va_get (D := D) (ci := 2) (v := .ref h0) (C := RX3) (T := TX3) (N := 9) hx hb hts (by decide +kernel) hown hK.1 hP 1 rfl rfl 0 (by decide) (hts (.fieldLink RX7 38 "HomeRounds$Setting" "plan" "LHomeRounds$Plan;") (by decide +kernel)) (fun _ h9 => h9) rfl dX7_told_133 ?_
      refine lv_aload_n hx hb dX7_told_136 rfl (lv_at hl 0 rfl) ?_
      refine va_get (D := D) (ci := 5) (v := .ref g0) (C := RX7) (T := TX7) (N := 6) hx hb hts (by decide +kernel) hown hK.1 hP 0 rfl rfl 0 (by decide) (hts (.fieldLink RX7 12 "HomeRounds" "now" "LHomeRounds$Setting;") (by decide +kernel)) (fun _ h9 => h9) rfl dX7_told_137 ?_
      refine va_get (D := D) (ci := 2) (v := .int (nI kd)) (C := RX3) (T := TX3) (N := 9) hx hb hts (by decide +kernel) hown hK.1 hP 1 rfl rfl 5 (by decide) (hts (.fieldLink RX7 102 "HomeRounds$Setting" "seasonKind" "I") (by decide +kernel)) (fun _ h9 => h9) rfl dX7_told_140 ?_
      refine zr_ci hP hS (va_runV (As := [.int (nI kd)]) (rest := []) ⟨hx, hb, hml, hown, hts⟩ (c_X1_allSeasonBreaks l D E h0 h1 h2 h3 h4 h5 h6 N hm aw rv sd gm ca G P kd (hpl) (by omega)) (cwV 1 hts gX7_told_X1_allSeasonBreaks rfl rfl rfl (by decide +kernel) ⟨Nat.le_of_ble_eq_true rfl, Nat.le_of_ble_eq_true rfl⟩) (zr_V hK (hP.sub (ws' := [(h0, .inr (0, [.int (nI N), .ref h1, .ref h2, .ref h3, .ref h4, .ref h5, .ref h6])), (h1, .inl (E 0, 15, .inl hm)), (h2, .inl (E 0, 15, .inl aw)), (h3, .inl (E 0, 30, .inl rv)), (h4, .inl (E 0, 30, .inl sd)), (h5, .inl (E 0, 30, .inl gm)), (h6, .inl (E 0, 36, .inl ca))]) [2, 3, 4, 5, 6, 7, 8] rfl) (ci := 0) (q0 := 0) rfl rfl) rfl rfl hl.1 rfl (lv_room (Nat.le_of_ble_eq_true rfl)) dX7_told_143 ⟨Nat.zero_le _, Nat.zero_le _⟩) (fun r_15 H locs hw_16 hP hS => ?_)
      subst hw_16
      subst hQ; subst hAe
      exact W.iret (v := nI (zm_sbs N P kd)) hx hb hr (fun tz htz hWz => ⟨⟨nI (zm_sbs N P kd), ca, rfl, by simp only [cond_true, cond_false, Bool.and_true, Bool.and_false, Bool.true_and, Bool.false_and, hz]; rfl, by rw [htz]; exact hP, hD⟩, hS.F htz⟩) hS.2.2 dX7_told_146
    · skip
      rw [hsw] at hxz; clear hsw hkz
      have hz : zw 10 v = 9 := by rw [hxz]; exact zw_t (by omega)
      refine zr_ti (y := nI 9) (hxz) ?_
      refine lv_tableIn (x := nI 9) (off := 146) (tgt := 147) hx hb dX7_told_1 (by decide +kernel) (by decide +kernel) (by decide +kernel) (by decide) ?_
      refine lv_aload_n hx hb dX7_told_147 rfl (lv_at hl 0 rfl) ?_
      refine va_get (D := D) (ci := 5) (v := .ref g0) (C := RX7) (T := TX7) (N := 6) hx hb hts (by decide +kernel) hown hK.1 hP 0 rfl rfl 0 (by decide) (hts (.fieldLink RX7 12 "HomeRounds" "now" "LHomeRounds$Setting;") (by decide +kernel)) (fun _ h9 => h9) rfl dX7_told_148 ?_
      refine va_get (D := D) (ci := 2) (v := .ref h0) (C := RX3) (T := TX3) (N := 9) hx hb hts (by decide +kernel) hown hK.1 hP 1 rfl rfl 0 (by decide) (hts (.fieldLink RX7 38 "HomeRounds$Setting" "plan" "LHomeRounds$Plan;") (by decide +kernel)) (fun _ h9 => h9) rfl dX7_told_151 ?_
      refine zr_ci hP hS (va_runV (As := []) (rest := []) ⟨hx, hb, hml, hown, hts⟩ (c_X1_allBreaks l D E h0 h1 h2 h3 h4 h5 h6 N hm aw rv sd gm ca G P (hpl)) (cwV 0 hts gX7_told_X1_allBreaks rfl rfl rfl (by decide +kernel) ⟨Nat.le_of_ble_eq_true rfl, Nat.le_of_ble_eq_true rfl⟩) (zr_V hK (hP.sub (ws' := [(h0, .inr (0, [.int (nI N), .ref h1, .ref h2, .ref h3, .ref h4, .ref h5, .ref h6])), (h1, .inl (E 0, 15, .inl hm)), (h2, .inl (E 0, 15, .inl aw)), (h3, .inl (E 0, 30, .inl rv)), (h4, .inl (E 0, 30, .inl sd)), (h5, .inl (E 0, 30, .inl gm)), (h6, .inl (E 0, 36, .inl ca))]) [2, 3, 4, 5, 6, 7, 8] rfl) (ci := 0) (q0 := 0) rfl rfl) rfl rfl hl.1 rfl (lv_room (Nat.le_of_ble_eq_true rfl)) dX7_told_154 ⟨Nat.zero_le _, Nat.zero_le _⟩) (fun r_17 H locs hw_18 hP hS => ?_)
      subst hw_18
      refine lv_aload_n hx hb dX7_told_157 rfl (lv_at hl 0 rfl) ?_
      refine va_get (D := D) (ci := 5) (v := .ref g0) (C := RX7) (T := TX7) (N := 6) hx hb hts (by decide +kernel) hown hK.1 hP 0 rfl rfl 0 (by decide) (hts (.fieldLink RX7 12 "HomeRounds" "now" "LHomeRounds$Setting;") (by decide +kernel)) (fun _ h9 => h9) rfl dX7_told_158 ?_
      refine va_get (D := D) (ci := 2) (v := .ref h0) (C := RX3) (T := TX3) (N := 9) hx hb hts (by decide +kernel) hown hK.1 hP 1 rfl rfl 0 (by decide) (hts (.fieldLink RX7 38 "HomeRounds$Setting" "plan" "LHomeRounds$Plan;") (by decide +kernel)) (fun _ h9 => h9) rfl dX7_told_161 ?_
      refine va_get (D := D) (ci := 0) (v := .int (nI N)) (C := RX1) (T := TX1) (N := 7) hx hb hts (by decide +kernel) hown hK.1 hP 2 rfl rfl 0 (by decide) (hts (.fieldLink RX7 42 "HomeRounds$Plan" "n" "I") (by decide +kernel)) (fun _ h9 => h9) rfl dX7_told_164 ?_
      refine lv_iconst (v := nI 2) hx hb dX7_told_167 (by rfl) ?_
      refine lv_isub hx hb dX7_told_168 ?_
      refine zr_ti (y := nI (N - 2)) (pk_sub (by omega)) ?_
      refine lv_isub hx hb dX7_told_169 ?_
      subst hQ; subst hAe
      exact W.iret (v := nI (zm_brs N P) - nI (N - 2)) hx hb hr (fun tz htz hWz => ⟨⟨nI (zm_brs N P) - nI (N - 2), ca, rfl, by simp only [cond_true, cond_false, Bool.and_true, Bool.and_false, Bool.true_and, Bool.false_and, hz]; rfl, by rw [htz]; exact hP, hD⟩, hS.F htz⟩) hS.2.2 dX7_told_170
  · skip
    have hz : zw 10 v = 10 := zw_o (by omega) (by simpa using hsw)
    refine lv_tableOut (tgt := 171) hx hb dX7_told_1 (by simpa using hsw) (by decide) ?_
    refine lv_iconst (v := (-1)) hx hb dX7_told_171 (by rfl) ?_
    subst hQ; subst hAe
    exact W.iret (v := (-1)) hx hb hr (fun tz htz hWz => ⟨⟨(-1), ca, rfl, by simp only [cond_true, cond_false, Bool.and_true, Bool.and_false, Bool.true_and, Bool.false_and, hz]; rfl, by rw [htz]; exact hP, hD⟩, hS.F htz⟩) hS.2.2 dX7_told_172

set_option maxHeartbeats 4000000 in
set_option maxRecDepth 100000 in
theorem c_X7_rateOf (l : Launch) (D : va_G) (E : Nat → ClassId) (x0 : Nat) (xk : Nat) (xt : Nat) (xx : Nat) (xp : Nat) (ik : Int32) (g0 : Nat) (g1 : Nat) (g2 : Nat) (g3 : Nat) (g4 : Nat) (g5 : Nat) (g6 : Nat) (g7 : Nat) (kd : Nat) (h0 : Nat) (h1 : Nat) (h2 : Nat) (h3 : Nat) (h4 : Nat) (h5 : Nat) (h6 : Nat) (N : Nat) (hm : Nat → Int32) (aw : Nat → Int32) (rv : Nat → Int32) (sd : Nat → Int32) (gm : Nat → Int32) (ca : Nat → Int32) (G : Nat → Nat → Nat) (P : Nat → Nat → Nat) (rt : Nat → Int32) (R : Nat → Nat) (v : Int32) (hpl : zm_pl N G P hm aw rv sd gm) (hrt : zm_rt R rt) : Met l yX7_rateOf wsX7_rateOf ({ frames := 1, cells := 0, slots := 0, locals := 20 }) (zr_P D E [.ref x0, .int v] [(x0, .inr (5, [.ref g0, .ref xk, .ref xt, .ref xx, .ref xp, .int ik])), (g0, .inr (2, [.ref h0, .ref g1, .ref g2, .ref g3, .ref g4, .int (nI kd), .ref g5, .ref g6, .ref g7])), (h0, .inr (0, [.int (nI N), .ref h1, .ref h2, .ref h3, .ref h4, .ref h5, .ref h6])), (h1, .inl (E 0, 15, .inl hm)), (h2, .inl (E 0, 15, .inl aw)), (h3, .inl (E 0, 30, .inl rv)), (h4, .inl (E 0, 30, .inl sd)), (h5, .inl (E 0, 30, .inl gm)), (h6, .inl (E 0, 36, .inl ca)), (g4, .inl (E 0, 4, .inl rt))]) (zr_Qi (fun zv => zv = cond (zi 4 v) (nI (R (zq v))) (-1))) 0 0 (fun _ => False) := by
  refine Met.ofW (cc := cX7_rateOf) (maxL := 2) (ret := (some .int)) (by decide) rfl ?_
  intro p e s m args below meth c s₁ Bz hml hv
  obtain ⟨rfl, hP, hK⟩ := hv
  have hx := Bz.exec
  have hb := Bz.bytes
  have hr := Bz.returns
  have hts := atoms_spec (ws := wsX7_rateOf) Bz.pre
  have hown : s.vm.findClass RX7 = some m.cls := findClass_of_methodNamed Bz.named
  have hlocks := Bz.notSynchronized
  have hP : va_P D vwCl [(x0, .inr (5, [.ref g0, .ref xk, .ref xt, .ref xx, .ref xp, .int ik])), (g0, .inr (2, [.ref h0, .ref g1, .ref g2, .ref g3, .ref g4, .int (nI kd), .ref g5, .ref g6, .ref g7])), (h0, .inr (0, [.int (nI N), .ref h1, .ref h2, .ref h3, .ref h4, .ref h5, .ref h6])), (h1, .inl (E 0, 15, .inl hm)), (h2, .inl (E 0, 15, .inl aw)), (h3, .inl (E 0, 30, .inl rv)), (h4, .inl (E 0, 30, .inl sd)), (h5, .inl (E 0, 30, .inl gm)), (h6, .inl (E 0, 36, .inl ca)), (g4, .inl (E 0, 4, .inl rt))] s.heap := hP
  have hS : va_S (fun _ : Nat => False) s.heap s.heap [] := va_S.rf
  have hl := lv_entry ([.ref x0, .int v]) (n := 2) (Nat.le_of_ble_eq_true rfl)
  rw [lg_entry_eq]
  generalize (lg_sl ([.ref x0, .int v]) ++ List.replicate (2 - (lg_sl ([.ref x0, .int v])).length) Slot.unset).toArray = ls at hl ⊢
  have hl : lv_has ls 2 [(0, .ref x0), (1, .int v)] := hl
  refine zr_nQ (fun Q hQ => ?_)
  have hN := hpl.1.1
  refine lv_iload_n hx hb dX7_rateOf_0 rfl (lv_at hl 1 rfl) ?_
  refine zr_ci hP hS (va_runS (As := [.int v]) (rest := []) ⟨hx, hb, hml, hown, hts⟩ (c_X7_isRate l D E v ) (va_cwS 1 hts gX7_rateOf_X7_isRate rfl rfl rfl (by decide +kernel) ⟨Nat.le_of_ble_eq_true rfl, Nat.le_of_ble_eq_true rfl⟩) (zr_S hK (hP.sub (ws' := []) [] rfl)) rfl rfl hl.1 rfl (lv_room (Nat.le_of_ble_eq_true rfl)) dX7_rateOf_1 ⟨Nat.zero_le _, Nat.zero_le _⟩) (fun r_1 H locs hw_2 hP hS => ?_)
  rcases hw_2 with ⟨rfl, hw_2⟩ | ⟨rfl, hw_2⟩
  · skip
    obtain ⟨t, ht, v_e⟩ := hw_2
    have e1 : zi 4 v = true := v_e ▸ zi_t ht (by omega)
    have q1 : zq v = t := v_e ▸ zq_t (by omega)
    rw [v_e] at hl
    refine zr_ti (y := nI 1) rfl ?_
    refine lv_if_eq (tgt := 19) hx hb dX7_rateOf_4 (by decide) (fun cn_3 => ?_) (fun cn_3 => ?_)
    · skip
      exact absurd cn_3 (by decide)
    · skip
      obtain ⟨hR1, hR2⟩ := hrt t (by omega)
      refine lv_aload_n hx hb dX7_rateOf_7 rfl (lv_at hl 0 rfl) ?_
      refine va_get (D := D) (ci := 5) (v := .ref g0) (C := RX7) (T := TX7) (N := 6) hx hb hts (by decide +kernel) hown hK.1 hP 0 rfl rfl 0 (by decide) (hts (.fieldLink RX7 12 "HomeRounds" "now" "LHomeRounds$Setting;") (by decide +kernel)) (fun _ h9 => h9) rfl dX7_rateOf_8 ?_
      refine va_get (D := D) (ci := 2) (v := .ref g4) (C := RX3) (T := TX3) (N := 9) hx hb hts (by decide +kernel) hown hK.1 hP 1 rfl rfl 4 (by decide) (hts (.fieldLink RX7 99 "HomeRounds$Setting" "rates" "[I") (by decide +kernel)) (fun _ h9 => h9) rfl dX7_rateOf_11 ?_
      refine lv_iload_n hx hb dX7_rateOf_14 rfl (lv_at hl 1 rfl) ?_
      refine va_iald hx hb hK.1 hP 9 0 rfl rfl (vp_in_nI (by omega) (by omega)) dX7_rateOf_15 ?_
      refine zr_ti (y := nI (R t)) ((congrArg rt (nI_clamp (by omega))).trans (hR2)) ?_
      refine lv_goto (tgt := 20) hx hb dX7_rateOf_16 (by decide) ?_
      subst hQ
      exact W.iret (v := nI (R t)) hx hb hr (fun tz htz hWz => ⟨⟨nI (R t), (), rfl, by first | (simp only [cond_true, cond_false, Bool.and_true, Bool.and_false, Bool.true_and, Bool.false_and, e1]; done) | (simp only [cond_true, cond_false, Bool.and_true, Bool.and_false, Bool.true_and, Bool.false_and, e1, q1]; done), trivial⟩, hS.F htz⟩) hS.2.2 dX7_rateOf_20
  · skip
    have e1 : zi 4 v = false := zi_f hw_2
    refine zr_ti (y := nI 0) rfl ?_
    refine lv_if_eq (tgt := 19) hx hb dX7_rateOf_4 (by decide) (fun cn_4 => ?_) (fun cn_4 => ?_)
    · skip
      refine lv_iconst (v := (-1)) hx hb dX7_rateOf_19 (by rfl) ?_
      subst hQ
      exact W.iret (v := (-1)) hx hb hr (fun tz htz hWz => ⟨⟨(-1), (), rfl, by first | (simp only [cond_true, cond_false, Bool.and_true, Bool.and_false, Bool.true_and, Bool.false_and, e1]; done) | (simp only [cond_true, cond_false, Bool.and_true, Bool.and_false, Bool.true_and, Bool.false_and, e1, q1]; done), trivial⟩, hS.F htz⟩) hS.2.2 dX7_rateOf_20
    · skip
      exact absurd cn_4 (by decide)

set_option maxHeartbeats 4000000 in
set_option maxRecDepth 100000 in
theorem c_X7_wear (l : Launch) (D : va_G) (E : Nat → ClassId) (x0 : Nat) (xk : Nat) (xt : Nat) (xx : Nat) (xp : Nat) (ik : Int32) (g0 : Nat) (g1 : Nat) (g2 : Nat) (g3 : Nat) (g4 : Nat) (g5 : Nat) (g6 : Nat) (g7 : Nat) (kd : Nat) (h0 : Nat) (h1 : Nat) (h2 : Nat) (h3 : Nat) (h4 : Nat) (h5 : Nat) (h6 : Nat) (N : Nat) (hm : Nat → Int32) (aw : Nat → Int32) (rv : Nat → Int32) (sd : Nat → Int32) (gm : Nat → Int32) (ca : Nat → Int32) (G : Nat → Nat → Nat) (P : Nat → Nat → Nat) (xs : Nat → Int32) (ys : Nat → Int32) (X : Nat → Nat) (Y : Nat → Nat) (v : Int32) (w : Int32) (hpl : zm_pl N G P hm aw rv sd gm) (hgr : zm_gr X Y xs ys) : Met l yX7_wear wsX7_wear ({ frames := 4, cells := 0, slots := 0, locals := 91 }) (zr_P D E [.ref x0, .int v, .int w] [(x0, .inr (5, [.ref g0, .ref xk, .ref xt, .ref xx, .ref xp, .int ik])), (g0, .inr (2, [.ref h0, .ref g1, .ref g2, .ref g3, .ref g4, .int (nI kd), .ref g5, .ref g6, .ref g7])), (h0, .inr (0, [.int (nI N), .ref h1, .ref h2, .ref h3, .ref h4, .ref h5, .ref h6])), (h1, .inl (E 0, 15, .inl hm)), (h2, .inl (E 0, 15, .inl aw)), (h3, .inl (E 0, 30, .inl rv)), (h4, .inl (E 0, 30, .inl sd)), (h5, .inl (E 0, 30, .inl gm)), (h6, .inl (E 0, 36, .inl ca)), (g1, .inl (E 0, 6, .inl xs)), (g2, .inl (E 0, 6, .inl ys))]) (zr_Ql (fun zv => zv = cond (zi N v && zi (N - 1) w) (lN (zf_wear (zm_way G P X Y (zq v)) (zq w + 1)).toNat) (-9223372036854775808))) 0 0 (fun _ => False) := by
  refine Met.ofW (cc := cX7_wear) (maxL := 3) (ret := (some .long)) (by decide) rfl ?_
  intro p e s m args below meth c s₁ Bz hml hv
  obtain ⟨rfl, hP, hK⟩ := hv
  have hx := Bz.exec
  have hb := Bz.bytes
  have hr := Bz.returns
  have hts := atoms_spec (ws := wsX7_wear) Bz.pre
  have hown : s.vm.findClass RX7 = some m.cls := findClass_of_methodNamed Bz.named
  have hlocks := Bz.notSynchronized
  have hP : va_P D vwCl [(x0, .inr (5, [.ref g0, .ref xk, .ref xt, .ref xx, .ref xp, .int ik])), (g0, .inr (2, [.ref h0, .ref g1, .ref g2, .ref g3, .ref g4, .int (nI kd), .ref g5, .ref g6, .ref g7])), (h0, .inr (0, [.int (nI N), .ref h1, .ref h2, .ref h3, .ref h4, .ref h5, .ref h6])), (h1, .inl (E 0, 15, .inl hm)), (h2, .inl (E 0, 15, .inl aw)), (h3, .inl (E 0, 30, .inl rv)), (h4, .inl (E 0, 30, .inl sd)), (h5, .inl (E 0, 30, .inl gm)), (h6, .inl (E 0, 36, .inl ca)), (g1, .inl (E 0, 6, .inl xs)), (g2, .inl (E 0, 6, .inl ys))] s.heap := hP
  have hS : va_S (fun _ : Nat => False) s.heap s.heap [] := va_S.rf
  have hl := lv_entry ([.ref x0, .int v, .int w]) (n := 3) (Nat.le_of_ble_eq_true rfl)
  rw [lg_entry_eq]
  generalize (lg_sl ([.ref x0, .int v, .int w]) ++ List.replicate (3 - (lg_sl ([.ref x0, .int v, .int w])).length) Slot.unset).toArray = ls at hl ⊢
  have hl : lv_has ls 3 [(0, .ref x0), (1, .int v), (2, .int w)] := hl
  refine zr_nQ (fun Q hQ => ?_)
  have hN := hpl.1.1
  have hok := hpl.1
  refine lv_aload_n hx hb dX7_wear_0 rfl (lv_at hl 0 rfl) ?_
  refine va_get (D := D) (ci := 5) (v := .ref g0) (C := RX7) (T := TX7) (N := 6) hx hb hts (by decide +kernel) hown hK.1 hP 0 rfl rfl 0 (by decide) (hts (.fieldLink RX7 12 "HomeRounds" "now" "LHomeRounds$Setting;") (by decide +kernel)) (fun _ h9 => h9) rfl dX7_wear_1 ?_
  refine va_get (D := D) (ci := 2) (v := .ref h0) (C := RX3) (T := TX3) (N := 9) hx hb hts (by decide +kernel) hown hK.1 hP 1 rfl rfl 0 (by decide) (hts (.fieldLink RX7 38 "HomeRounds$Setting" "plan" "LHomeRounds$Plan;") (by decide +kernel)) (fun _ h9 => h9) rfl dX7_wear_4 ?_
  refine lv_iload_n hx hb dX7_wear_7 rfl (lv_at hl 1 rfl) ?_
  refine lv_iload_n hx hb dX7_wear_8 rfl (lv_at hl 2 rfl) ?_
  refine zr_ci hP hS (va_runV (As := [.int v, .int w]) (rest := []) ⟨hx, hb, hml, hown, hts⟩ (c_X1_hasPlace l D E h0 h1 h2 h3 h4 h5 h6 N hm aw rv sd gm ca v w (hN)) (cwV 2 hts gX7_wear_X1_hasPlace rfl rfl rfl (by decide +kernel) ⟨Nat.le_of_ble_eq_true rfl, Nat.le_of_ble_eq_true rfl⟩) (zr_V hK (hP.sub (ws' := [(h0, .inr (0, [.int (nI N), .ref h1, .ref h2, .ref h3, .ref h4, .ref h5, .ref h6])), (h1, .inl (E 0, 15, .inl hm)), (h2, .inl (E 0, 15, .inl aw)), (h3, .inl (E 0, 30, .inl rv)), (h4, .inl (E 0, 30, .inl sd)), (h5, .inl (E 0, 30, .inl gm)), (h6, .inl (E 0, 36, .inl ca))]) [2, 3, 4, 5, 6, 7, 8] rfl) (ci := 0) (q0 := 0) rfl rfl) rfl rfl hl.1 rfl (lv_room (Nat.le_of_ble_eq_true rfl)) dX7_wear_9 ⟨Nat.zero_le _, Nat.zero_le _⟩) (fun r_1 H locs hw_2 hP hS => ?_)
  rcases hw_2 with ⟨rfl, hw_2⟩ | ⟨rfl, hw_2⟩
  · skip
    obtain ⟨⟨t, ht, v_e⟩, ⟨u, hu, w_e⟩⟩ := hw_2
    have e1 : zi N v = true := v_e ▸ zi_t ht (by omega)
    have q1 : zq v = t := v_e ▸ zq_t (by omega)
    rw [v_e] at hl
    have e2 : zi (N - 1) w = true := w_e ▸ zi_t hu (by omega)
    have q2 : zq w = u := w_e ▸ zq_t (by omega)
    rw [w_e] at hl
    have e0 : (zi N v && zi (N - 1) w) = true := by rw [e1, e2]; rfl
    refine zr_ti (y := nI 1) rfl ?_
    refine lv_if_ne (tgt := 19) hx hb dX7_wear_12 (by decide) (fun cn_3 => ?_) (fun cn_3 => ?_)
    · skip
      refine lv_aload_n hx hb dX7_wear_19 rfl (lv_at hl 0 rfl) ?_
      refine va_get (D := D) (ci := 5) (v := .ref g0) (C := RX7) (T := TX7) (N := 6) hx hb hts (by decide +kernel) hown hK.1 hP 0 rfl rfl 0 (by decide) (hts (.fieldLink RX7 12 "HomeRounds" "now" "LHomeRounds$Setting;") (by decide +kernel)) (fun _ h9 => h9) rfl dX7_wear_20 ?_
      refine lv_iload_n hx hb dX7_wear_23 rfl (lv_at hl 1 rfl) ?_
      refine lv_iload_n hx hb dX7_wear_24 rfl (lv_at hl 2 rfl) ?_
      refine zr_cf hP hS (va_runV (As := [.int (nI t), .int (nI u)]) (rest := []) ⟨hx, hb, hml, hown, hts⟩ (c_X3_wearBehind l D E g0 g1 g2 g3 g4 g5 g6 g7 kd h0 h1 h2 h3 h4 h5 h6 N hm aw rv sd gm ca G P xs ys X Y t u (hpl) (hgr) (by omega) (by omega)) (cwV 2 hts gX7_wear_X3_wearBehind rfl rfl rfl (by decide +kernel) ⟨Nat.le_of_ble_eq_true rfl, Nat.le_of_ble_eq_true rfl⟩) (zr_V hK (hP.sub (ws' := [(g0, .inr (2, [.ref h0, .ref g1, .ref g2, .ref g3, .ref g4, .int (nI kd), .ref g5, .ref g6, .ref g7])), (h0, .inr (0, [.int (nI N), .ref h1, .ref h2, .ref h3, .ref h4, .ref h5, .ref h6])), (h1, .inl (E 0, 15, .inl hm)), (h2, .inl (E 0, 15, .inl aw)), (h3, .inl (E 0, 30, .inl rv)), (h4, .inl (E 0, 30, .inl sd)), (h5, .inl (E 0, 30, .inl gm)), (h6, .inl (E 0, 36, .inl ca)), (g1, .inl (E 0, 6, .inl xs)), (g2, .inl (E 0, 6, .inl ys))]) [1, 2, 3, 4, 5, 6, 7, 8, 9, 10] rfl) (ci := 2) (q0 := 0) rfl rfl) rfl rfl hl.1 rfl (lv_room (Nat.le_of_ble_eq_true rfl)) dX7_wear_25 ⟨Nat.zero_le _, Nat.zero_le _⟩) (fun r_4 H locs hw_5 hP hS => ?_)
      subst hw_5
      refine zr_cl hP hS (va_runS (As := [.float (zf_wear (zm_way G P X Y t) (u + 1))]) (rest := []) ⟨hx, hb, hml, hown, hts⟩ (c_X7_bitsOfFloat l D E (zf_wear (zm_way G P X Y t) (u + 1)) 120 150 ((zf_wearF (w := zm_way G P X Y t) (u + 1) (by omega) (fun j hj => zm_way_le hok hgr (t := t) (r := j) (by omega) (by omega))).mono (by omega) (by omega))) (va_cwS 1 hts gX7_wear_X7_bitsOfFloat rfl rfl rfl (by decide +kernel) ⟨Nat.le_of_ble_eq_true rfl, Nat.le_of_ble_eq_true rfl⟩) (zr_S hK (hP.sub (ws' := []) [] rfl)) rfl rfl hl.1 rfl (lv_room (Nat.le_of_ble_eq_true rfl)) dX7_wear_28 ⟨Nat.zero_le _, Nat.zero_le _⟩) (fun r_6 H locs hw_7 hP hS => ?_)
      subst hw_7
      subst hQ
      exact W.lret (v := lN (zf_wear (zm_way G P X Y t) (u + 1)).toNat) hx hb hr (fun tz htz hWz => ⟨⟨lN (zf_wear (zm_way G P X Y t) (u + 1)).toNat, (), rfl, by simp only [cond_true, cond_false, Bool.and_true, Bool.and_false, Bool.true_and, Bool.false_and, e0, q1, q2], trivial⟩, hS.F htz⟩) hS.2.2 dX7_wear_31
    · skip
      exact absurd cn_3 (by decide)
  · skip
    have e0 : (zi N v && zi (N - 1) w) = false := zi_f2 hw_2
    refine zr_ti (y := nI 0) rfl ?_
    refine lv_if_ne (tgt := 19) hx hb dX7_wear_12 (by decide) (fun cn_8 => ?_) (fun cn_8 => ?_)
    · skip
      exact absurd cn_8 (by decide)
    · skip
      refine lv_ldc2 (v := (-9223372036854775808)) hx hb hown (hts (.constantLong RX7 204 (-9223372036854775808)) (by decide +kernel)) dX7_wear_15 ?_
      subst hQ
      exact W.lret (v := (-9223372036854775808)) hx hb hr (fun tz htz hWz => ⟨⟨(-9223372036854775808), (), rfl, by simp only [cond_true, cond_false, Bool.and_true, Bool.and_false, Bool.true_and, Bool.false_and, e0], trivial⟩, hS.F htz⟩) hS.2.2 dX7_wear_18

set_option maxHeartbeats 4000000 in
set_option maxRecDepth 100000 in
theorem c_X7_cost (l : Launch) (D : va_G) (E : Nat → ClassId) (x0 : Nat) (xk : Nat) (xt : Nat) (xx : Nat) (xp : Nat) (ik : Int32) (g0 : Nat) (g1 : Nat) (g2 : Nat) (g3 : Nat) (g4 : Nat) (g5 : Nat) (g6 : Nat) (g7 : Nat) (kd : Nat) (h0 : Nat) (h1 : Nat) (h2 : Nat) (h3 : Nat) (h4 : Nat) (h5 : Nat) (h6 : Nat) (N : Nat) (hm : Nat → Int32) (aw : Nat → Int32) (rv : Nat → Int32) (sd : Nat → Int32) (gm : Nat → Int32) (ca : Nat → Int32) (G : Nat → Nat → Nat) (P : Nat → Nat → Nat) (xs : Nat → Int32) (ys : Nat → Int32) (X : Nat → Nat) (Y : Nat → Nat) (bz : Nat → Int32) (B : Nat → Nat → Nat) (rt : Nat → Int32) (R : Nat → Nat) (hpl : zm_pl N G P hm aw rv sd gm) (hgr : zm_gr X Y xs ys) (hbz : zm_bz B bz) (hrt : zm_rt R rt) : Met l yX7_cost wsX7_cost ({ frames := 5, cells := 0, slots := 0, locals := 113 }) (zw_P D E [.ref x0] [(x0, .inr (5, [.ref g0, .ref xk, .ref xt, .ref xx, .ref xp, .int ik])), (g0, .inr (2, [.ref h0, .ref g1, .ref g2, .ref g3, .ref g4, .int (nI kd), .ref g5, .ref g6, .ref g7])), (h0, .inr (0, [.int (nI N), .ref h1, .ref h2, .ref h3, .ref h4, .ref h5, .ref h6])), (h1, .inl (E 0, 15, .inl hm)), (h2, .inl (E 0, 15, .inl aw)), (h3, .inl (E 0, 30, .inl rv)), (h4, .inl (E 0, 30, .inl sd)), (h5, .inl (E 0, 30, .inl gm)), (h6, .inl (E 0, 36, .inl ca)), (g1, .inl (E 0, 6, .inl xs)), (g2, .inl (E 0, 6, .inl ys)), (g3, .inl (E 1, 30, .inl bz)), (g4, .inl (E 0, 4, .inl rt))]) (zw_Ql D [(x0, .inr (5, [.ref g0, .ref xk, .ref xt, .ref xx, .ref xp, .int ik])), (g0, .inr (2, [.ref h0, .ref g1, .ref g2, .ref g3, .ref g4, .int (nI kd), .ref g5, .ref g6, .ref g7])), (h0, .inr (0, [.int (nI N), .ref h1, .ref h2, .ref h3, .ref h4, .ref h5, .ref h6])), (h1, .inl (E 0, 15, .inl hm)), (h2, .inl (E 0, 15, .inl aw)), (h3, .inl (E 0, 30, .inl rv)), (h4, .inl (E 0, 30, .inl sd)), (h5, .inl (E 0, 30, .inl gm)), (h6, .inl (E 0, 36, .inl ca)), (g1, .inl (E 0, 6, .inl xs)), (g2, .inl (E 0, 6, .inl ys)), (g3, .inl (E 1, 30, .inl bz)), (g4, .inl (E 0, 4, .inl rt))] (fun zv (u : (Nat → Int32)) => zv = lN (zm_cost R B X Y N G P).toNat) (fun (u : (Nat → Int32)) => [(x0, .inr (5, [.ref g0, .ref xk, .ref xt, .ref xx, .ref xp, .int ik])), (g0, .inr (2, [.ref h0, .ref g1, .ref g2, .ref g3, .ref g4, .int (nI kd), .ref g5, .ref g6, .ref g7])), (h0, .inr (0, [.int (nI N), .ref h1, .ref h2, .ref h3, .ref h4, .ref h5, .ref h6])), (h1, .inl (E 0, 15, .inl hm)), (h2, .inl (E 0, 15, .inl aw)), (h3, .inl (E 0, 30, .inl rv)), (h4, .inl (E 0, 30, .inl sd)), (h5, .inl (E 0, 30, .inl gm)), (h6, .inl (E 0, 36, .inl u)), (g1, .inl (E 0, 6, .inl xs)), (g2, .inl (E 0, 6, .inl ys)), (g3, .inl (E 1, 30, .inl bz)), (g4, .inl (E 0, 4, .inl rt))])) 0 0 (zw_A [(x0, .inr (5, [.ref g0, .ref xk, .ref xt, .ref xx, .ref xp, .int ik])), (g0, .inr (2, [.ref h0, .ref g1, .ref g2, .ref g3, .ref g4, .int (nI kd), .ref g5, .ref g6, .ref g7])), (h0, .inr (0, [.int (nI N), .ref h1, .ref h2, .ref h3, .ref h4, .ref h5, .ref h6])), (h1, .inl (E 0, 15, .inl hm)), (h2, .inl (E 0, 15, .inl aw)), (h3, .inl (E 0, 30, .inl rv)), (h4, .inl (E 0, 30, .inl sd)), (h5, .inl (E 0, 30, .inl gm)), (h6, .inl (E 0, 36, .inl ca)), (g1, .inl (E 0, 6, .inl xs)), (g2, .inl (E 0, 6, .inl ys)), (g3, .inl (E 1, 30, .inl bz)), (g4, .inl (E 0, 4, .inl rt))]) := by
  refine Met.ofW (cc := cX7_cost) (maxL := 1) (ret := (some .long)) (by decide) rfl ?_
  intro p e s m args below meth c s₁ Bz hml hv
  obtain ⟨rfl, hP, hK, hD0⟩ := hv
  have hx := Bz.exec
  have hb := Bz.bytes
  have hr := Bz.returns
  have hts := atoms_spec (ws := wsX7_cost) Bz.pre
  have hown : s.vm.findClass RX7 = some m.cls := findClass_of_methodNamed Bz.named
  have hlocks := Bz.notSynchronized
  have hP : va_P D vwCl [(x0, .inr (5, [.ref g0, .ref xk, .ref xt, .ref xx, .ref xp, .int ik])), (g0, .inr (2, [.ref h0, .ref g1, .ref g2, .ref g3, .ref g4, .int (nI kd), .ref g5, .ref g6, .ref g7])), (h0, .inr (0, [.int (nI N), .ref h1, .ref h2, .ref h3, .ref h4, .ref h5, .ref h6])), (h1, .inl (E 0, 15, .inl hm)), (h2, .inl (E 0, 15, .inl aw)), (h3, .inl (E 0, 30, .inl rv)), (h4, .inl (E 0, 30, .inl sd)), (h5, .inl (E 0, 30, .inl gm)), (h6, .inl (E 0, 36, .inl ca)), (g1, .inl (E 0, 6, .inl xs)), (g2, .inl (E 0, 6, .inl ys)), (g3, .inl (E 1, 30, .inl bz)), (g4, .inl (E 0, 4, .inl rt))] s.heap := hP
  obtain ⟨A, hAe⟩ : ∃ A : Nat → Prop, A = zw_A [(x0, .inr (5, [.ref g0, .ref xk, .ref xt, .ref xx, .ref xp, .int ik])), (g0, .inr (2, [.ref h0, .ref g1, .ref g2, .ref g3, .ref g4, .int (nI kd), .ref g5, .ref g6, .ref g7])), (h0, .inr (0, [.int (nI N), .ref h1, .ref h2, .ref h3, .ref h4, .ref h5, .ref h6])), (h1, .inl (E 0, 15, .inl hm)), (h2, .inl (E 0, 15, .inl aw)), (h3, .inl (E 0, 30, .inl rv)), (h4, .inl (E 0, 30, .inl sd)), (h5, .inl (E 0, 30, .inl gm)), (h6, .inl (E 0, 36, .inl ca)), (g1, .inl (E 0, 6, .inl xs)), (g2, .inl (E 0, 6, .inl ys)), (g3, .inl (E 1, 30, .inl bz)), (g4, .inl (E 0, 4, .inl rt))] := ⟨_, rfl⟩
  have hD : va_D A [(x0, .inr (5, [.ref g0, .ref xk, .ref xt, .ref xx, .ref xp, .int ik])), (g0, .inr (2, [.ref h0, .ref g1, .ref g2, .ref g3, .ref g4, .int (nI kd), .ref g5, .ref g6, .ref g7])), (h0, .inr (0, [.int (nI N), .ref h1, .ref h2, .ref h3, .ref h4, .ref h5, .ref h6])), (h1, .inl (E 0, 15, .inl hm)), (h2, .inl (E 0, 15, .inl aw)), (h3, .inl (E 0, 30, .inl rv)), (h4, .inl (E 0, 30, .inl sd)), (h5, .inl (E 0, 30, .inl gm)), (h6, .inl (E 0, 36, .inl ca)), (g1, .inl (E 0, 6, .inl xs)), (g2, .inl (E 0, 6, .inl ys)), (g3, .inl (E 1, 30, .inl bz)), (g4, .inl (E 0, 4, .inl rt))] := hAe ▸ zw_own hD0
  have hS : va_S A s.heap s.heap [] := va_S.rf
  have hl := lv_entry ([.ref x0]) (n := 1) (Nat.le_of_ble_eq_true rfl)
  rw [lg_entry_eq]
  generalize (lg_sl ([.ref x0]) ++ List.replicate (1 - (lg_sl ([.ref x0])).length) Slot.unset).toArray = ls at hl ⊢
  have hl : lv_has ls 1 [(0, .ref x0)] := hl
  refine zr_nQ (fun Q hQ => ?_)
  have hN := hpl.1.1
  have hok := hpl.1
  have hRR : ∀ k, k < 4 → R k ≤ 99 := fun k hk => (hrt k hk).1
  refine lv_aload_n hx hb dX7_cost_0 rfl (lv_at hl 0 rfl) ?_
  refine va_get (D := D) (ci := 5) (v := .ref g0) (C := RX7) (T := TX7) (N := 6) hx hb hts (by decide +kernel) hown hK.1 hP 0 rfl rfl 0 (by decide) (hts (.fieldLink RX7 12 "HomeRounds" "now" "LHomeRounds$Setting;") (by decide +kernel)) (fun _ h9 => h9) rfl dX7_cost_1 ?_
  have hPc := hP.sub (ws' := [(g0, .inr (2, [.ref h0, .ref g1, .ref g2, .ref g3, .ref g4, .int (nI kd), .ref g5, .ref g6, .ref g7])), (h0, .inr (0, [.int (nI N), .ref h1, .ref h2, .ref h3, .ref h4, .ref h5, .ref h6])), (h1, .inl (E 0, 15, .inl hm)), (h2, .inl (E 0, 15, .inl aw)), (h3, .inl (E 0, 30, .inl rv)), (h4, .inl (E 0, 30, .inl sd)), (h5, .inl (E 0, 30, .inl gm)), (h6, .inl (E 0, 36, .inl ca)), (g1, .inl (E 0, 6, .inl xs)), (g2, .inl (E 0, 6, .inl ys)), (g3, .inl (E 1, 30, .inl bz)), (g4, .inl (E 0, 4, .inl rt))]) [1, 2, 3, 4, 5, 6, 7, 8, 9, 10, 11, 12] rfl
  have hDc := hD.sub (ws' := [(g0, .inr (2, [.ref h0, .ref g1, .ref g2, .ref g3, .ref g4, .int (nI kd), .ref g5, .ref g6, .ref g7])), (h0, .inr (0, [.int (nI N), .ref h1, .ref h2, .ref h3, .ref h4, .ref h5, .ref h6])), (h1, .inl (E 0, 15, .inl hm)), (h2, .inl (E 0, 15, .inl aw)), (h3, .inl (E 0, 30, .inl rv)), (h4, .inl (E 0, 30, .inl sd)), (h5, .inl (E 0, 30, .inl gm)), (h6, .inl (E 0, 36, .inl ca)), (g1, .inl (E 0, 6, .inl xs)), (g2, .inl (E 0, 6, .inl ys)), (g3, .inl (E 1, 30, .inl bz)), (g4, .inl (E 0, 4, .inl rt))]) [1, 2, 3, 4, 5, 6, 7, 8, 9, 10, 11, 12] (by decide +kernel) rfl
  have hAc := zw_AA (wc := [(g0, .inr (2, [.ref h0, .ref g1, .ref g2, .ref g3, .ref g4, .int (nI kd), .ref g5, .ref g6, .ref g7])), (h0, .inr (0, [.int (nI N), .ref h1, .ref h2, .ref h3, .ref h4, .ref h5, .ref h6])), (h1, .inl (E 0, 15, .inl hm)), (h2, .inl (E 0, 15, .inl aw)), (h3, .inl (E 0, 30, .inl rv)), (h4, .inl (E 0, 30, .inl sd)), (h5, .inl (E 0, 30, .inl gm)), (h6, .inl (E 0, 36, .inl ca)), (g1, .inl (E 0, 6, .inl xs)), (g2, .inl (E 0, 6, .inl ys)), (g3, .inl (E 1, 30, .inl bz)), (g4, .inl (E 0, 4, .inl rt))]) hD [1, 2, 3, 4, 5, 6, 7, 8, 9, 10, 11, 12] rfl
  refine zw_cf hAc hS (va_runV (As := []) (rest := []) ⟨hx, hb, hml, hown, hts⟩ (c_X3_fullCost l D E g0 g1 g2 g3 g4 g5 g6 g7 kd h0 h1 h2 h3 h4 h5 h6 N hm aw rv sd gm ca G P xs ys X Y bz B rt R (hpl) (hgr) (hbz) (hrt)) (cwV 0 hts gX7_cost_X3_fullCost rfl rfl rfl (by decide +kernel) ⟨Nat.le_of_ble_eq_true rfl, Nat.le_of_ble_eq_true rfl⟩) (zw_V hK hPc hDc (ci := 2) (q0 := 0) rfl rfl) rfl rfl hl.1 rfl (lv_room (Nat.le_of_ble_eq_true rfl)) dX7_cost_4 ⟨Nat.zero_le _, Nat.zero_le _⟩) (fun r_1 u_3 H locs hw_2 hP1 hD1 hk1 hS => ?_)
  obtain ⟨ca_4, rfl⟩ : ∃ z, z = u_3 := ⟨_, rfl⟩
  try dsimp only at hw_2 hP1 hD1
  obtain ⟨hP, hD⟩ := zw_join (wr := [(x0, .inr (5, [.ref g0, .ref xk, .ref xt, .ref xx, .ref xp, .int ik]))]) (w1 := [(g0, .inr (2, [.ref h0, .ref g1, .ref g2, .ref g3, .ref g4, .int (nI kd), .ref g5, .ref g6, .ref g7])), (h0, .inr (0, [.int (nI N), .ref h1, .ref h2, .ref h3, .ref h4, .ref h5, .ref h6])), (h1, .inl (E 0, 15, .inl hm)), (h2, .inl (E 0, 15, .inl aw)), (h3, .inl (E 0, 30, .inl rv)), (h4, .inl (E 0, 30, .inl sd)), (h5, .inl (E 0, 30, .inl gm)), (h6, .inl (E 0, 36, .inl ca_4)), (g1, .inl (E 0, 6, .inl xs)), (g2, .inl (E 0, 6, .inl ys)), (g3, .inl (E 1, 30, .inl bz)), (g4, .inl (E 0, 4, .inl rt))]) (ws' := [(x0, .inr (5, [.ref g0, .ref xk, .ref xt, .ref xx, .ref xp, .int ik])), (g0, .inr (2, [.ref h0, .ref g1, .ref g2, .ref g3, .ref g4, .int (nI kd), .ref g5, .ref g6, .ref g7])), (h0, .inr (0, [.int (nI N), .ref h1, .ref h2, .ref h3, .ref h4, .ref h5, .ref h6])), (h1, .inl (E 0, 15, .inl hm)), (h2, .inl (E 0, 15, .inl aw)), (h3, .inl (E 0, 30, .inl rv)), (h4, .inl (E 0, 30, .inl sd)), (h5, .inl (E 0, 30, .inl gm)), (h6, .inl (E 0, 36, .inl ca_4)), (g1, .inl (E 0, 6, .inl xs)), (g2, .inl (E 0, 6, .inl ys)), (g3, .inl (E 1, 30, .inl bz)), (g4, .inl (E 0, 4, .inl rt))]) hP hD [1, 2, 3, 4, 5, 6, 7, 8, 9, 10, 11, 12] [0] [0, 1, 2, 3, 4, 5, 6, 7, 8, 9, 10, 11, 12] rfl rfl (by decide +kernel) (by decide +kernel) hAc hk1 hP1 hD1 (by decide +kernel) rfl
  clear hP1 hD1 hk1 hPc hDc hAc
  obtain ⟨rfl, hw_2⟩ := hw_2
  refine zr_cl hP hS (va_runS (As := [.float (zf_cost R (zm_brs N P) (zm_vio N G B) (zm_car N G P) (zm_amiles N G P X Y))]) (rest := []) ⟨hx, hb, hml, hown, hts⟩ (c_X7_bitsOfFloat l D E (zf_cost R (zm_brs N P) (zm_vio N G B) (zm_car N G P) (zm_amiles N G P X Y)) 123 153 ((by have q1 := zm_brs_le (P := P) hN; have q2 := zm_vio_le5 (B := B) hok (fun t r h1 h2 => (hbz r t h2 h1).1); have q3 := zm_car_le (G := G) (P := P) hN; have q4 := zm_amiles_le hok hgr; exact zf_costF hRR (by omega) (by omega) (by omega) (by omega)))) (va_cwS 1 hts gX7_cost_X7_bitsOfFloat rfl rfl rfl (by decide +kernel) ⟨Nat.le_of_ble_eq_true rfl, Nat.le_of_ble_eq_true rfl⟩) (zr_S hK (hP.sub (ws' := []) [] rfl)) rfl rfl hl.1 rfl (lv_room (Nat.le_of_ble_eq_true rfl)) dX7_cost_7 ⟨Nat.zero_le _, Nat.zero_le _⟩) (fun r_5 H locs hw_6 hP hS => ?_)
  subst hw_6
  subst hQ; subst hAe
  exact W.lret (v := lN (zf_cost R (zm_brs N P) (zm_vio N G B) (zm_car N G P) (zm_amiles N G P X Y)).toNat) hx hb hr (fun tz htz hWz => ⟨⟨lN (zf_cost R (zm_brs N P) (zm_vio N G B) (zm_car N G P) (zm_amiles N G P X Y)).toNat, ca_4, rfl, rfl, by rw [htz]; exact hP, hD⟩, hS.F htz⟩) hS.2.2 dX7_cost_10

set_option maxHeartbeats 4000000 in
set_option maxRecDepth 100000 in
theorem c_X7_would (l : Launch) (D : va_G) (E : Nat → ClassId) (x0 : Nat) (xk : Nat) (xt : Nat) (xx : Nat) (xp : Nat) (ik : Int32) (g0 : Nat) (g1 : Nat) (g2 : Nat) (g3 : Nat) (g4 : Nat) (g5 : Nat) (g6 : Nat) (g7 : Nat) (kd : Nat) (h0 : Nat) (h1 : Nat) (h2 : Nat) (h3 : Nat) (h4 : Nat) (h5 : Nat) (h6 : Nat) (N : Nat) (hm : Nat → Int32) (aw : Nat → Int32) (rv : Nat → Int32) (sd : Nat → Int32) (gm : Nat → Int32) (ca : Nat → Int32) (G : Nat → Nat → Nat) (P : Nat → Nat → Nat) (xs : Nat → Int32) (ys : Nat → Int32) (X : Nat → Nat) (Y : Nat → Nat) (bz : Nat → Int32) (B : Nat → Nat → Nat) (rt : Nat → Int32) (R : Nat → Nat) (v : Int32) (w : Int32) (hpl : zm_pl N G P hm aw rv sd gm) (hgr : zm_gr X Y xs ys) (hbz : zm_bz B bz) (hrt : zm_rt R rt) : Met l yX7_would wsX7_would ({ frames := 6, cells := 0, slots := 0, locals := 137 }) (zw_P D E [.ref x0, .int v, .int w] [(x0, .inr (5, [.ref g0, .ref xk, .ref xt, .ref xx, .ref xp, .int ik])), (g0, .inr (2, [.ref h0, .ref g1, .ref g2, .ref g3, .ref g4, .int (nI kd), .ref g5, .ref g6, .ref g7])), (h0, .inr (0, [.int (nI N), .ref h1, .ref h2, .ref h3, .ref h4, .ref h5, .ref h6])), (h1, .inl (E 0, 15, .inl hm)), (h2, .inl (E 0, 15, .inl aw)), (h3, .inl (E 0, 30, .inl rv)), (h4, .inl (E 0, 30, .inl sd)), (h5, .inl (E 0, 30, .inl gm)), (h6, .inl (E 0, 36, .inl ca)), (g1, .inl (E 0, 6, .inl xs)), (g2, .inl (E 0, 6, .inl ys)), (g3, .inl (E 1, 30, .inl bz)), (g4, .inl (E 0, 4, .inl rt))]) (zw_Ql D [(x0, .inr (5, [.ref g0, .ref xk, .ref xt, .ref xx, .ref xp, .int ik])), (g0, .inr (2, [.ref h0, .ref g1, .ref g2, .ref g3, .ref g4, .int (nI kd), .ref g5, .ref g6, .ref g7])), (h0, .inr (0, [.int (nI N), .ref h1, .ref h2, .ref h3, .ref h4, .ref h5, .ref h6])), (h1, .inl (E 0, 15, .inl hm)), (h2, .inl (E 0, 15, .inl aw)), (h3, .inl (E 0, 30, .inl rv)), (h4, .inl (E 0, 30, .inl sd)), (h5, .inl (E 0, 30, .inl gm)), (h6, .inl (E 0, 36, .inl ca)), (g1, .inl (E 0, 6, .inl xs)), (g2, .inl (E 0, 6, .inl ys)), (g3, .inl (E 1, 30, .inl bz)), (g4, .inl (E 0, 4, .inl rt))] (fun zv (u : (Nat → Int32) × (Nat → Int32) × (Nat → Int32) × (Nat → Int32) × (Nat → Int32) × (Nat → Int32)) => zv = cond (zi (N - 1) v && zi (N / 2) w) (lN (zm_cost R B X Y N (zm_tuG G (zq v) (zq w)) (zm_tuP P (zq v) (zq w))).toNat) (-9223372036854775808) ∧ zm_pl N G P u.1 u.2.1 u.2.2.1 u.2.2.2.1 u.2.2.2.2.1) (fun (u : (Nat → Int32) × (Nat → Int32) × (Nat → Int32) × (Nat → Int32) × (Nat → Int32) × (Nat → Int32)) => [(x0, .inr (5, [.ref g0, .ref xk, .ref xt, .ref xx, .ref xp, .int ik])), (g0, .inr (2, [.ref h0, .ref g1, .ref g2, .ref g3, .ref g4, .int (nI kd), .ref g5, .ref g6, .ref g7])), (h0, .inr (0, [.int (nI N), .ref h1, .ref h2, .ref h3, .ref h4, .ref h5, .ref h6])), (h1, .inl (E 0, 15, .inl u.1)), (h2, .inl (E 0, 15, .inl u.2.1)), (h3, .inl (E 0, 30, .inl u.2.2.1)), (h4, .inl (E 0, 30, .inl u.2.2.2.1)), (h5, .inl (E 0, 30, .inl u.2.2.2.2.1)), (h6, .inl (E 0, 36, .inl u.2.2.2.2.2)), (g1, .inl (E 0, 6, .inl xs)), (g2, .inl (E 0, 6, .inl ys)), (g3, .inl (E 1, 30, .inl bz)), (g4, .inl (E 0, 4, .inl rt))])) 0 0 (zw_A [(x0, .inr (5, [.ref g0, .ref xk, .ref xt, .ref xx, .ref xp, .int ik])), (g0, .inr (2, [.ref h0, .ref g1, .ref g2, .ref g3, .ref g4, .int (nI kd), .ref g5, .ref g6, .ref g7])), (h0, .inr (0, [.int (nI N), .ref h1, .ref h2, .ref h3, .ref h4, .ref h5, .ref h6])), (h1, .inl (E 0, 15, .inl hm)), (h2, .inl (E 0, 15, .inl aw)), (h3, .inl (E 0, 30, .inl rv)), (h4, .inl (E 0, 30, .inl sd)), (h5, .inl (E 0, 30, .inl gm)), (h6, .inl (E 0, 36, .inl ca)), (g1, .inl (E 0, 6, .inl xs)), (g2, .inl (E 0, 6, .inl ys)), (g3, .inl (E 1, 30, .inl bz)), (g4, .inl (E 0, 4, .inl rt))]) := by
  refine Met.ofW (cc := cX7_would) (maxL := 3) (ret := (some .long)) (by decide) rfl ?_
  intro p e s m args below meth c s₁ Bz hml hv
  obtain ⟨rfl, hP, hK, hD0⟩ := hv
  have hx := Bz.exec
  have hb := Bz.bytes
  have hr := Bz.returns
  have hts := atoms_spec (ws := wsX7_would) Bz.pre
  have hown : s.vm.findClass RX7 = some m.cls := findClass_of_methodNamed Bz.named
  have hlocks := Bz.notSynchronized
  have hP : va_P D vwCl [(x0, .inr (5, [.ref g0, .ref xk, .ref xt, .ref xx, .ref xp, .int ik])), (g0, .inr (2, [.ref h0, .ref g1, .ref g2, .ref g3, .ref g4, .int (nI kd), .ref g5, .ref g6, .ref g7])), (h0, .inr (0, [.int (nI N), .ref h1, .ref h2, .ref h3, .ref h4, .ref h5, .ref h6])), (h1, .inl (E 0, 15, .inl hm)), (h2, .inl (E 0, 15, .inl aw)), (h3, .inl (E 0, 30, .inl rv)), (h4, .inl (E 0, 30, .inl sd)), (h5, .inl (E 0, 30, .inl gm)), (h6, .inl (E 0, 36, .inl ca)), (g1, .inl (E 0, 6, .inl xs)), (g2, .inl (E 0, 6, .inl ys)), (g3, .inl (E 1, 30, .inl bz)), (g4, .inl (E 0, 4, .inl rt))] s.heap := hP
  obtain ⟨A, hAe⟩ : ∃ A : Nat → Prop, A = zw_A [(x0, .inr (5, [.ref g0, .ref xk, .ref xt, .ref xx, .ref xp, .int ik])), (g0, .inr (2, [.ref h0, .ref g1, .ref g2, .ref g3, .ref g4, .int (nI kd), .ref g5, .ref g6, .ref g7])), (h0, .inr (0, [.int (nI N), .ref h1, .ref h2, .ref h3, .ref h4, .ref h5, .ref h6])), (h1, .inl (E 0, 15, .inl hm)), (h2, .inl (E 0, 15, .inl aw)), (h3, .inl (E 0, 30, .inl rv)), (h4, .inl (E 0, 30, .inl sd)), (h5, .inl (E 0, 30, .inl gm)), (h6, .inl (E 0, 36, .inl ca)), (g1, .inl (E 0, 6, .inl xs)), (g2, .inl (E 0, 6, .inl ys)), (g3, .inl (E 1, 30, .inl bz)), (g4, .inl (E 0, 4, .inl rt))] := ⟨_, rfl⟩
  have hD : va_D A [(x0, .inr (5, [.ref g0, .ref xk, .ref xt, .ref xx, .ref xp, .int ik])), (g0, .inr (2, [.ref h0, .ref g1, .ref g2, .ref g3, .ref g4, .int (nI kd), .ref g5, .ref g6, .ref g7])), (h0, .inr (0, [.int (nI N), .ref h1, .ref h2, .ref h3, .ref h4, .ref h5, .ref h6])), (h1, .inl (E 0, 15, .inl hm)), (h2, .inl (E 0, 15, .inl aw)), (h3, .inl (E 0, 30, .inl rv)), (h4, .inl (E 0, 30, .inl sd)), (h5, .inl (E 0, 30, .inl gm)), (h6, .inl (E 0, 36, .inl ca)), (g1, .inl (E 0, 6, .inl xs)), (g2, .inl (E 0, 6, .inl ys)), (g3, .inl (E 1, 30, .inl bz)), (g4, .inl (E 0, 4, .inl rt))] := hAe ▸ zw_own hD0
  have hS : va_S A s.heap s.heap [] := va_S.rf
  have hl := lv_entry ([.ref x0, .int v, .int w]) (n := 3) (Nat.le_of_ble_eq_true rfl)
  rw [lg_entry_eq]
  generalize (lg_sl ([.ref x0, .int v, .int w]) ++ List.replicate (3 - (lg_sl ([.ref x0, .int v, .int w])).length) Slot.unset).toArray = ls at hl ⊢
  have hl : lv_has ls 3 [(0, .ref x0), (1, .int v), (2, .int w)] := hl
  refine zr_nQ (fun Q hQ => ?_)
  have hN := hpl.1.1
  have hok := hpl.1
  have hRR : ∀ k, k < 4 → R k ≤ 99 := fun k hk => (hrt k hk).1
  refine lv_aload_n hx hb dX7_would_0 rfl (lv_at hl 0 rfl) ?_
  refine va_get (D := D) (ci := 5) (v := .ref g0) (C := RX7) (T := TX7) (N := 6) hx hb hts (by decide +kernel) hown hK.1 hP 0 rfl rfl 0 (by decide) (hts (.fieldLink RX7 12 "HomeRounds" "now" "LHomeRounds$Setting;") (by decide +kernel)) (fun _ h9 => h9) rfl dX7_would_1 ?_
  refine lv_iconst (v := nI 1) hx hb dX7_would_4 (by rfl) ?_
  refine lv_iload_n hx hb dX7_would_5 rfl (lv_at hl 1 rfl) ?_
  refine lv_iload_n hx hb dX7_would_6 rfl (lv_at hl 2 rfl) ?_
  refine zr_ci hP hS (va_runV (As := [.int (nI 1), .int v, .int w]) (rest := []) ⟨hx, hb, hml, hown, hts⟩ (c_X3_mayChange_1 l D E g0 g1 g2 g3 g4 g5 g6 g7 kd h0 h1 h2 h3 h4 h5 h6 N hm aw rv sd gm ca v w (hN)) (cwV 3 hts gX7_would_X3_mayChange rfl rfl rfl (by decide +kernel) ⟨Nat.le_of_ble_eq_true rfl, Nat.le_of_ble_eq_true rfl⟩) (zr_V hK (hP.sub (ws' := [(g0, .inr (2, [.ref h0, .ref g1, .ref g2, .ref g3, .ref g4, .int (nI kd), .ref g5, .ref g6, .ref g7])), (h0, .inr (0, [.int (nI N), .ref h1, .ref h2, .ref h3, .ref h4, .ref h5, .ref h6])), (h1, .inl (E 0, 15, .inl hm)), (h2, .inl (E 0, 15, .inl aw)), (h3, .inl (E 0, 30, .inl rv)), (h4, .inl (E 0, 30, .inl sd)), (h5, .inl (E 0, 30, .inl gm)), (h6, .inl (E 0, 36, .inl ca))]) [1, 2, 3, 4, 5, 6, 7, 8] rfl) (ci := 2) (q0 := 0) rfl rfl) rfl rfl hl.1 rfl (lv_room (Nat.le_of_ble_eq_true rfl)) dX7_would_7 ⟨Nat.zero_le _, Nat.zero_le _⟩) (fun r_1 H locs hw_2 hP hS => ?_)
  rcases hw_2 with ⟨rfl, hw_2⟩ | ⟨rfl, hw_2⟩
  · skip
    obtain ⟨⟨t, ht, v_e⟩, ⟨u, hu, w_e⟩⟩ := hw_2
    have e1 : zi (N - 1) v = true := v_e ▸ zi_t ht (by omega)
    have q1 : zq v = t := v_e ▸ zq_t (by omega)
    rw [v_e] at hl
    have e2 : zi (N / 2) w = true := w_e ▸ zi_t hu (by omega)
    have q2 : zq w = u := w_e ▸ zq_t (by omega)
    rw [w_e] at hl
    have e0 : (zi (N - 1) v && zi (N / 2) w) = true := by rw [e1, e2]; rfl
    refine zr_ti (y := nI 1) rfl ?_
    refine lv_if_ne (tgt := 17) hx hb dX7_would_10 (by decide) (fun cn_3 => ?_) (fun cn_3 => ?_)
    · skip
      refine lv_aload_n hx hb dX7_would_17 rfl (lv_at hl 0 rfl) ?_
      refine va_get (D := D) (ci := 5) (v := .ref g0) (C := RX7) (T := TX7) (N := 6) hx hb hts (by decide +kernel) hown hK.1 hP 0 rfl rfl 0 (by decide) (hts (.fieldLink RX7 12 "HomeRounds" "now" "LHomeRounds$Setting;") (by decide +kernel)) (fun _ h9 => h9) rfl dX7_would_18 ?_
      refine lv_iconst (v := nI 1) hx hb dX7_would_21 (by rfl) ?_
      refine lv_iload_n hx hb dX7_would_22 rfl (lv_at hl 1 rfl) ?_
      refine lv_iload_n hx hb dX7_would_23 rfl (lv_at hl 2 rfl) ?_
      have hPc := hP.sub (ws' := [(g0, .inr (2, [.ref h0, .ref g1, .ref g2, .ref g3, .ref g4, .int (nI kd), .ref g5, .ref g6, .ref g7])), (h0, .inr (0, [.int (nI N), .ref h1, .ref h2, .ref h3, .ref h4, .ref h5, .ref h6])), (h1, .inl (E 0, 15, .inl hm)), (h2, .inl (E 0, 15, .inl aw)), (h3, .inl (E 0, 30, .inl rv)), (h4, .inl (E 0, 30, .inl sd)), (h5, .inl (E 0, 30, .inl gm)), (h6, .inl (E 0, 36, .inl ca)), (g1, .inl (E 0, 6, .inl xs)), (g2, .inl (E 0, 6, .inl ys)), (g3, .inl (E 1, 30, .inl bz)), (g4, .inl (E 0, 4, .inl rt))]) [1, 2, 3, 4, 5, 6, 7, 8, 9, 10, 11, 12] rfl
      have hDc := hD.sub (ws' := [(g0, .inr (2, [.ref h0, .ref g1, .ref g2, .ref g3, .ref g4, .int (nI kd), .ref g5, .ref g6, .ref g7])), (h0, .inr (0, [.int (nI N), .ref h1, .ref h2, .ref h3, .ref h4, .ref h5, .ref h6])), (h1, .inl (E 0, 15, .inl hm)), (h2, .inl (E 0, 15, .inl aw)), (h3, .inl (E 0, 30, .inl rv)), (h4, .inl (E 0, 30, .inl sd)), (h5, .inl (E 0, 30, .inl gm)), (h6, .inl (E 0, 36, .inl ca)), (g1, .inl (E 0, 6, .inl xs)), (g2, .inl (E 0, 6, .inl ys)), (g3, .inl (E 1, 30, .inl bz)), (g4, .inl (E 0, 4, .inl rt))]) [1, 2, 3, 4, 5, 6, 7, 8, 9, 10, 11, 12] (by decide +kernel) rfl
      have hAc := zw_AA (wc := [(g0, .inr (2, [.ref h0, .ref g1, .ref g2, .ref g3, .ref g4, .int (nI kd), .ref g5, .ref g6, .ref g7])), (h0, .inr (0, [.int (nI N), .ref h1, .ref h2, .ref h3, .ref h4, .ref h5, .ref h6])), (h1, .inl (E 0, 15, .inl hm)), (h2, .inl (E 0, 15, .inl aw)), (h3, .inl (E 0, 30, .inl rv)), (h4, .inl (E 0, 30, .inl sd)), (h5, .inl (E 0, 30, .inl gm)), (h6, .inl (E 0, 36, .inl ca)), (g1, .inl (E 0, 6, .inl xs)), (g2, .inl (E 0, 6, .inl ys)), (g3, .inl (E 1, 30, .inl bz)), (g4, .inl (E 0, 4, .inl rt))]) hD [1, 2, 3, 4, 5, 6, 7, 8, 9, 10, 11, 12] rfl
      refine zw_cf hAc hS (va_runV (As := [.int (nI 1), .int (nI t), .int (nI u)]) (rest := []) ⟨hx, hb, hml, hown, hts⟩ (c_X3_costIf_1 l D E g0 g1 g2 g3 g4 g5 g6 g7 kd h0 h1 h2 h3 h4 h5 h6 N hm aw rv sd gm ca G P xs ys X Y bz B rt R t u (hpl) (hgr) (hbz) (hrt) (by omega) (by omega)) (cwV 3 hts gX7_would_X3_costIf rfl rfl rfl (by decide +kernel) ⟨Nat.le_of_ble_eq_true rfl, Nat.le_of_ble_eq_true rfl⟩) (zw_V hK hPc hDc (ci := 2) (q0 := 0) rfl rfl) rfl rfl hl.1 rfl (lv_room (Nat.le_of_ble_eq_true rfl)) dX7_would_24 ⟨Nat.zero_le _, Nat.zero_le _⟩) (fun r_4 u_6 H locs hw_5 hP1 hD1 hk1 hS => ?_)
      obtain ⟨hm_7, aw_8, rv_9, sd_10, gm_11, ca_12⟩ := u_6
      try dsimp only at hw_5 hP1 hD1
      obtain ⟨hP, hD⟩ := zw_join (wr := [(x0, .inr (5, [.ref g0, .ref xk, .ref xt, .ref xx, .ref xp, .int ik]))]) (w1 := [(g0, .inr (2, [.ref h0, .ref g1, .ref g2, .ref g3, .ref g4, .int (nI kd), .ref g5, .ref g6, .ref g7])), (h0, .inr (0, [.int (nI N), .ref h1, .ref h2, .ref h3, .ref h4, .ref h5, .ref h6])), (h1, .inl (E 0, 15, .inl hm_7)), (h2, .inl (E 0, 15, .inl aw_8)), (h3, .inl (E 0, 30, .inl rv_9)), (h4, .inl (E 0, 30, .inl sd_10)), (h5, .inl (E 0, 30, .inl gm_11)), (h6, .inl (E 0, 36, .inl ca_12)), (g1, .inl (E 0, 6, .inl xs)), (g2, .inl (E 0, 6, .inl ys)), (g3, .inl (E 1, 30, .inl bz)), (g4, .inl (E 0, 4, .inl rt))]) (ws' := [(x0, .inr (5, [.ref g0, .ref xk, .ref xt, .ref xx, .ref xp, .int ik])), (g0, .inr (2, [.ref h0, .ref g1, .ref g2, .ref g3, .ref g4, .int (nI kd), .ref g5, .ref g6, .ref g7])), (h0, .inr (0, [.int (nI N), .ref h1, .ref h2, .ref h3, .ref h4, .ref h5, .ref h6])), (h1, .inl (E 0, 15, .inl hm_7)), (h2, .inl (E 0, 15, .inl aw_8)), (h3, .inl (E 0, 30, .inl rv_9)), (h4, .inl (E 0, 30, .inl sd_10)), (h5, .inl (E 0, 30, .inl gm_11)), (h6, .inl (E 0, 36, .inl ca_12)), (g1, .inl (E 0, 6, .inl xs)), (g2, .inl (E 0, 6, .inl ys)), (g3, .inl (E 1, 30, .inl bz)), (g4, .inl (E 0, 4, .inl rt))]) hP hD [1, 2, 3, 4, 5, 6, 7, 8, 9, 10, 11, 12] [0] [0, 1, 2, 3, 4, 5, 6, 7, 8, 9, 10, 11, 12] rfl rfl (by decide +kernel) (by decide +kernel) hAc hk1 hP1 hD1 (by decide +kernel) rfl
      clear hP1 hD1 hk1 hPc hDc hAc
      obtain ⟨rfl, hw_5⟩ := hw_5
      have hnew := hw_5
      have hokt := zm_tu_ok hok ht hu
      refine zr_cl hP hS (va_runS (As := [.float (zm_cost R B X Y N (zm_tuG G t u) (zm_tuP P t u))]) (rest := []) ⟨hx, hb, hml, hown, hts⟩ (c_X7_bitsOfFloat l D E (zm_cost R B X Y N (zm_tuG G t u) (zm_tuP P t u)) 123 153 ((by have q1 := zm_brs_le (P := zm_tuP P t u) hN; have q2 := zm_vio_le5 (B := B) hokt (fun t r h1 h2 => (hbz r t h2 h1).1); have q3 := zm_car_le (G := zm_tuG G t u) (P := zm_tuP P t u) hN; have q4 := zm_amiles_le hokt hgr; exact zf_costF hRR (by omega) (by omega) (by omega) (by omega)))) (va_cwS 1 hts gX7_would_X7_bitsOfFloat rfl rfl rfl (by decide +kernel) ⟨Nat.le_of_ble_eq_true rfl, Nat.le_of_ble_eq_true rfl⟩) (zr_S hK (hP.sub (ws' := []) [] rfl)) rfl rfl hl.1 rfl (lv_room (Nat.le_of_ble_eq_true rfl)) dX7_would_27 ⟨Nat.zero_le _, Nat.zero_le _⟩) (fun r_13 H locs hw_14 hP hS => ?_)
      subst hw_14
      subst hQ; subst hAe
      exact W.lret (v := lN (zm_cost R B X Y N (zm_tuG G t u) (zm_tuP P t u)).toNat) hx hb hr (fun tz htz hWz => ⟨⟨lN (zm_cost R B X Y N (zm_tuG G t u) (zm_tuP P t u)).toNat, (hm_7, aw_8, rv_9, sd_10, gm_11, ca_12), rfl, ⟨by simp only [cond_true, cond_false, Bool.and_true, Bool.and_false, Bool.true_and, Bool.false_and, e0, q1, q2], hnew⟩, by rw [htz]; exact hP, hD⟩, hS.F htz⟩) hS.2.2 dX7_would_30
    · skip
      exact absurd cn_3 (by decide)
  · skip
    have e0 : (zi (N - 1) v && zi (N / 2) w) = false := zi_n2 hw_2
    refine zr_ti (y := nI 0) rfl ?_
    refine lv_if_ne (tgt := 17) hx hb dX7_would_10 (by decide) (fun cn_15 => ?_) (fun cn_15 => ?_)
    · skip
      exact absurd cn_15 (by decide)
    · skip
      refine lv_ldc2 (v := (-9223372036854775808)) hx hb hown (hts (.constantLong RX7 204 (-9223372036854775808)) (by decide +kernel)) dX7_would_13 ?_
      subst hQ; subst hAe
      exact W.lret (v := (-9223372036854775808)) hx hb hr (fun tz htz hWz => ⟨⟨(-9223372036854775808), (hm, aw, rv, sd, gm, ca), rfl, ⟨by simp only [cond_true, cond_false, Bool.and_true, Bool.and_false, Bool.true_and, Bool.false_and, e0], hpl⟩, by rw [htz]; exact hP, hD⟩, hS.F htz⟩) hS.2.2 dX7_would_16

set_option maxHeartbeats 4000000 in
set_option maxRecDepth 100000 in
theorem c_X7_spread (l : Launch) (D : va_G) (E : Nat → ClassId) (x0 : Nat) (xk : Nat) (xt : Nat) (xx : Nat) (xp : Nat) (ik : Int32) (g0 : Nat) (g1 : Nat) (g2 : Nat) (g3 : Nat) (g4 : Nat) (g5 : Nat) (g6 : Nat) (g7 : Nat) (kd : Nat) (h0 : Nat) (h1 : Nat) (h2 : Nat) (h3 : Nat) (h4 : Nat) (h5 : Nat) (h6 : Nat) (N : Nat) (hm : Nat → Int32) (aw : Nat → Int32) (rv : Nat → Int32) (sd : Nat → Int32) (gm : Nat → Int32) (ca : Nat → Int32) (G : Nat → Nat → Nat) (P : Nat → Nat → Nat) (xs : Nat → Int32) (ys : Nat → Int32) (X : Nat → Nat) (Y : Nat → Nat) (v : Int32) (hpl : zm_pl N G P hm aw rv sd gm) (hgr : zm_gr X Y xs ys) : Met l yX7_spread wsX7_spread ({ frames := 6, cells := 0, slots := 0, locals := 143 }) (zr_P D E [.ref x0, .int v] [(x0, .inr (5, [.ref g0, .ref xk, .ref xt, .ref xx, .ref xp, .int ik])), (g0, .inr (2, [.ref h0, .ref g1, .ref g2, .ref g3, .ref g4, .int (nI kd), .ref g5, .ref g6, .ref g7])), (h0, .inr (0, [.int (nI N), .ref h1, .ref h2, .ref h3, .ref h4, .ref h5, .ref h6])), (h1, .inl (E 0, 15, .inl hm)), (h2, .inl (E 0, 15, .inl aw)), (h3, .inl (E 0, 30, .inl rv)), (h4, .inl (E 0, 30, .inl sd)), (h5, .inl (E 0, 30, .inl gm)), (h6, .inl (E 0, 36, .inl ca)), (g1, .inl (E 0, 6, .inl xs)), (g2, .inl (E 0, 6, .inl ys))]) (zr_Ql (fun zv => zv = cond (zi 2 v) (zo_part (zf_spread (fun t => zf_wear (zm_way G P X Y t) (N - 1)) N) (zq v)) (-9223372036854775808))) 0 0 (fun _ => False) := by
  refine Met.ofW (cc := cX7_spread) (maxL := 4) (ret := (some .long)) (by decide) rfl ?_
  intro p e s m args below meth c s₁ Bz hml hv
  obtain ⟨rfl, hP, hK⟩ := hv
  have hx := Bz.exec
  have hb := Bz.bytes
  have hr := Bz.returns
  have hts := atoms_spec (ws := wsX7_spread) Bz.pre
  have hown : s.vm.findClass RX7 = some m.cls := findClass_of_methodNamed Bz.named
  have hlocks := Bz.notSynchronized
  have hP : va_P D vwCl [(x0, .inr (5, [.ref g0, .ref xk, .ref xt, .ref xx, .ref xp, .int ik])), (g0, .inr (2, [.ref h0, .ref g1, .ref g2, .ref g3, .ref g4, .int (nI kd), .ref g5, .ref g6, .ref g7])), (h0, .inr (0, [.int (nI N), .ref h1, .ref h2, .ref h3, .ref h4, .ref h5, .ref h6])), (h1, .inl (E 0, 15, .inl hm)), (h2, .inl (E 0, 15, .inl aw)), (h3, .inl (E 0, 30, .inl rv)), (h4, .inl (E 0, 30, .inl sd)), (h5, .inl (E 0, 30, .inl gm)), (h6, .inl (E 0, 36, .inl ca)), (g1, .inl (E 0, 6, .inl xs)), (g2, .inl (E 0, 6, .inl ys))] s.heap := hP
  have hS : va_S (fun _ : Nat => False) s.heap s.heap [] := va_S.rf
  have hl := lv_entry ([.ref x0, .int v]) (n := 4) (Nat.le_of_ble_eq_true rfl)
  rw [lg_entry_eq]
  generalize (lg_sl ([.ref x0, .int v]) ++ List.replicate (4 - (lg_sl ([.ref x0, .int v])).length) Slot.unset).toArray = ls at hl ⊢
  have hl : lv_has ls 4 [(0, .ref x0), (1, .int v)] := hl
  refine zr_nQ (fun Q hQ => ?_)
  have hN := hpl.1.1
  have hok := hpl.1
  have hu : ∀ j, j < N → zf_F 120 150 ((fun t => zf_wear (zm_way G P X Y t) (N - 1)) j) := fun j hj => (zf_wearF (w := zm_way G P X Y j) (N - 1) (by omega) (fun r hr => zm_way_le hok hgr (t := j) (r := r) hj (by omega))).mono (by omega) (by omega)
  refine lv_iload_n hx hb dX7_spread_0 rfl (lv_at hl 1 rfl) ?_
  refine zr_ci hP hS (va_runS (As := [.int v]) (rest := []) ⟨hx, hb, hml, hown, hts⟩ (c_X7_isPart l D E v ) (va_cwS 1 hts gX7_spread_X7_isPart rfl rfl rfl (by decide +kernel) ⟨Nat.le_of_ble_eq_true rfl, Nat.le_of_ble_eq_true rfl⟩) (zr_S hK (hP.sub (ws' := []) [] rfl)) rfl rfl hl.1 rfl (lv_room (Nat.le_of_ble_eq_true rfl)) dX7_spread_1 ⟨Nat.zero_le _, Nat.zero_le _⟩) (fun r_1 H locs hw_2 hP hS => ?_)
  rcases hw_2 with ⟨rfl, hw_2⟩ | ⟨rfl, hw_2⟩
  · skip
    have e1 : zi 2 v = true := by rcases hw_2 with h | h <;> rw [h] <;> decide +kernel
    have hv01 := hw_2
    refine zr_ti (y := nI 1) rfl ?_
    refine lv_if_ne (tgt := 11) hx hb dX7_spread_4 (by decide) (fun cn_3 => ?_) (fun cn_3 => ?_)
    · skip
      refine lv_aload_n hx hb dX7_spread_11 rfl (lv_at hl 0 rfl) ?_
      refine va_get (D := D) (ci := 5) (v := .ref g0) (C := RX7) (T := TX7) (N := 6) hx hb hts (by decide +kernel) hown hK.1 hP 0 rfl rfl 0 (by decide) (hts (.fieldLink RX7 12 "HomeRounds" "now" "LHomeRounds$Setting;") (by decide +kernel)) (fun _ h9 => h9) rfl dX7_spread_12 ?_
      refine zr_cd hP hS (va_runV (As := []) (rest := []) ⟨hx, hb, hml, hown, hts⟩ (c_X3_spreadOfWear l D E g0 g1 g2 g3 g4 g5 g6 g7 kd h0 h1 h2 h3 h4 h5 h6 N hm aw rv sd gm ca G P xs ys X Y (hpl) (hgr)) (cwV 0 hts gX7_spread_X3_spreadOfWear rfl rfl rfl (by decide +kernel) ⟨Nat.le_of_ble_eq_true rfl, Nat.le_of_ble_eq_true rfl⟩) (zr_V hK (hP.sub (ws' := [(g0, .inr (2, [.ref h0, .ref g1, .ref g2, .ref g3, .ref g4, .int (nI kd), .ref g5, .ref g6, .ref g7])), (h0, .inr (0, [.int (nI N), .ref h1, .ref h2, .ref h3, .ref h4, .ref h5, .ref h6])), (h1, .inl (E 0, 15, .inl hm)), (h2, .inl (E 0, 15, .inl aw)), (h3, .inl (E 0, 30, .inl rv)), (h4, .inl (E 0, 30, .inl sd)), (h5, .inl (E 0, 30, .inl gm)), (h6, .inl (E 0, 36, .inl ca)), (g1, .inl (E 0, 6, .inl xs)), (g2, .inl (E 0, 6, .inl ys))]) [1, 2, 3, 4, 5, 6, 7, 8, 9, 10] rfl) (ci := 2) (q0 := 0) rfl rfl) rfl rfl hl.1 rfl (lv_room (Nat.le_of_ble_eq_true rfl)) dX7_spread_15 ⟨Nat.zero_le _, Nat.zero_le _⟩) (fun r_4 H locs hw_5 hP hS => ?_)
      subst hw_5
      refine zr_cl hP hS (va_runS (As := [.double (zf_spread (fun t => zf_wear (zm_way G P X Y t) (N - 1)) N)]) (rest := []) ⟨hx, hb, hml, hown, hts⟩ (c_X7_bitsOfDouble l D E (zf_spread (fun t => zf_wear (zm_way G P X Y t) (N - 1)) N) 894 1108 ((zf_spreadD (u := (fun t => zf_wear (zm_way G P X Y t) (N - 1))) hN hu))) (va_cwS 1 hts gX7_spread_X7_bitsOfDouble rfl rfl rfl (by decide +kernel) ⟨Nat.le_of_ble_eq_true rfl, Nat.le_of_ble_eq_true rfl⟩) (zr_S hK (hP.sub (ws' := []) [] rfl)) rfl rfl hl.1 rfl (lv_room (Nat.le_of_ble_eq_true rfl)) dX7_spread_18 ⟨Nat.zero_le _, Nat.zero_le _⟩) (fun r_6 H locs hw_7 hP hS => ?_)
      subst hw_7
      refine lv_lstore_n (lv' := [(2, .long (lN (zf_spread (fun t => zf_wear (zm_way G P X Y t) (N - 1)) N).toNat)), (0, .ref x0), (1, .int v)]) hx hb dX7_spread_21 rfl hl (by decide) rfl (fun ls hl => ?_)
      refine lv_iload_n hx hb dX7_spread_22 rfl (lv_at hl 2 rfl) ?_
      refine lv_if_ne (tgt := 33) hx hb dX7_spread_23 (by decide) (fun cn_8 => ?_) (fun cn_8 => ?_)
      · skip
        have q1 : zq v = 1 := by rcases hv01 with h | h; exact absurd h cn_8; rw [h]; exact zq_t (by omega)
        refine lv_lload_n hx hb dX7_spread_33 rfl (lv_at hl 0 rfl) ?_
        refine lv_ldc2 (v := (4294967295)) hx hb hown (hts (.constantLong RX7 233 (4294967295)) (by decide +kernel)) dX7_spread_34 ?_
        refine lv_land hx hb dX7_spread_37 ?_
        subst hQ
        exact W.lret (v := (lN (zf_spread (fun t => zf_wear (zm_way G P X Y t) (N - 1)) N).toNat) &&& (4294967295)) hx hb hr (fun tz htz hWz => ⟨⟨(lN (zf_spread (fun t => zf_wear (zm_way G P X Y t) (N - 1)) N).toNat) &&& (4294967295), (), rfl, by simp only [cond_true, cond_false, Bool.and_true, Bool.and_false, Bool.true_and, Bool.false_and, e1, q1]; rfl, trivial⟩, hS.F htz⟩) hS.2.2 dX7_spread_38
      · skip
        have q1 : zq v = 0 := by rw [cn_8, ← nI_0]; exact zq_t (by omega)
        refine lv_lload_n hx hb dX7_spread_26 rfl (lv_at hl 0 rfl) ?_
        refine lv_bipush (v := nI 32) hx hb dX7_spread_27 (by rfl) ?_
        refine lv_lushr (v := ((lN (zf_spread (fun t => zf_wear (zm_way G P X Y t) (N - 1)) N).toNat).toUInt64 >>> ((nI 32).toInt64.toUInt64 &&& Int64.toUInt64 63)).toInt64) hx hb dX7_spread_29 (rfl) ?_
        refine lv_goto (tgt := 38) hx hb dX7_spread_30 (by decide) ?_
        subst hQ
        exact W.lret (v := ((lN (zf_spread (fun t => zf_wear (zm_way G P X Y t) (N - 1)) N).toNat).toUInt64 >>> ((nI 32).toInt64.toUInt64 &&& Int64.toUInt64 63)).toInt64) hx hb hr (fun tz htz hWz => ⟨⟨((lN (zf_spread (fun t => zf_wear (zm_way G P X Y t) (N - 1)) N).toNat).toUInt64 >>> ((nI 32).toInt64.toUInt64 &&& Int64.toUInt64 63)).toInt64, (), rfl, by simp only [cond_true, cond_false, Bool.and_true, Bool.and_false, Bool.true_and, Bool.false_and, e1, q1]; rfl, trivial⟩, hS.F htz⟩) hS.2.2 dX7_spread_38
    · skip
      exact absurd cn_3 (by decide)
  · skip
    have e1 : zi 2 v = false := zi_2f hw_2
    refine zr_ti (y := nI 0) rfl ?_
    refine lv_if_ne (tgt := 11) hx hb dX7_spread_4 (by decide) (fun cn_9 => ?_) (fun cn_9 => ?_)
    · skip
      exact absurd cn_9 (by decide)
    · skip
      refine lv_ldc2 (v := (-9223372036854775808)) hx hb hown (hts (.constantLong RX7 204 (-9223372036854775808)) (by decide +kernel)) dX7_spread_7 ?_
      subst hQ
      exact W.lret (v := (-9223372036854775808)) hx hb hr (fun tz htz hWz => ⟨⟨(-9223372036854775808), (), rfl, by simp only [cond_true, cond_false, Bool.and_true, Bool.and_false, Bool.true_and, Bool.false_and, e1], trivial⟩, hS.F htz⟩) hS.2.2 dX7_spread_10

