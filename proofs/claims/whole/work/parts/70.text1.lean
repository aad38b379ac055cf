set_option maxHeartbeats 4000000 in
set_option maxRecDepth 100000 in
theorem c_X7_feed (l : Launch) (D : va_G) (E : Nat → ClassId) (x0 : Nat) (xk : Nat) (xt : Nat) (xx : Nat) (xp : Nat) (ik : Int32) (g0 : Nat) (x1 : Nat) (x2 : Nat) (x3 : Nat) (tx : Nat) (pl : Nat) (sg : Nat → Int32) (T : Nat → Nat) (v : Int32) (htx : zx_T tx T sg) : Met l yX7_feed wsX7_feed ({ frames := 0, cells := 0, slots := 0, locals := 0 }) (zw_P D E [.ref x0, .int v] [(x0, .inr (5, [.ref g0, .ref xk, .ref xt, .ref xx, .ref xp, .int ik])), (xx, .inr (4, [.ref x1, .ref x2, .ref x3, .int (nI tx), .int (nI pl)])), (x1, .inl (E 2, 100, .inl sg))]) (zw_Qi D [(x0, .inr (5, [.ref g0, .ref xk, .ref xt, .ref xx, .ref xp, .int ik])), (xx, .inr (4, [.ref x1, .ref x2, .ref x3, .int (nI tx), .int (nI pl)])), (x1, .inl (E 2, 100, .inl sg))] (fun zv (u : (Nat) × (Nat → Int32)) => zv = zo_feed tx v ∧ u.1 = cond (zc_feed tx v) (tx + 1) tx ∧ zx_T u.1 (cond (zc_feed tx v) (zm_up T tx (zq v)) T) u.2) (fun (u : (Nat) × (Nat → Int32)) => [(x0, .inr (5, [.ref g0, .ref xk, .ref xt, .ref xx, .ref xp, .int ik])), (xx, .inr (4, [.ref x1, .ref x2, .ref x3, .int (nI u.1), .int (nI pl)])), (x1, .inl (E 2, 100, .inl u.2))])) 0 0 (zw_A [(x0, .inr (5, [.ref g0, .ref xk, .ref xt, .ref xx, .ref xp, .int ik])), (xx, .inr (4, [.ref x1, .ref x2, .ref x3, .int (nI tx), .int (nI pl)])), (x1, .inl (E 2, 100, .inl sg))]) := by
  refine Met.ofW (cc := cX7_feed) (maxL := 2) (ret := (some .int)) (by decide) rfl ?_
  intro p e s m args below meth c s₁ Bz hml hv
  obtain ⟨rfl, hP, hK, hD0⟩ := hv
  have hx := Bz.exec
  have hb := Bz.bytes
  have hr := Bz.returns
  have hts := atoms_spec (ws := wsX7_feed) Bz.pre
  have hown : s.vm.findClass RX7 = some m.cls := findClass_of_methodNamed Bz.named
  have hlocks := Bz.notSynchronized
  have hP : va_P D vwCl [(x0, .inr (5, [.ref g0, .ref xk, .ref xt, .ref xx, .ref xp, .int ik])), (xx, .inr (4, [.ref x1, .ref x2, .ref x3, .int (nI tx), .int (nI pl)])), (x1, .inl (E 2, 100, .inl sg))] s.heap := hP
  obtain ⟨A, hAe⟩ : ∃ A : Nat → Prop, A = zw_A [(x0, .inr (5, [.ref g0, .ref xk, .ref xt, .ref xx, .ref xp, .int ik])), (xx, .inr (4, [.ref x1, .ref x2, .ref x3, .int (nI tx), .int (nI pl)])), (x1, .inl (E 2, 100, .inl sg))] := ⟨_, rfl⟩
  have hD : va_D A [(x0, .inr (5, [.ref g0, .ref xk, .ref xt, .ref xx, .ref xp, .int ik])), (xx, .inr (4, [.ref x1, .ref x2, .ref x3, .int (nI tx), .int (nI pl)])), (x1, .inl (E 2, 100, .inl sg))] := hAe ▸ zw_own hD0
  have hS : va_S A s.heap s.heap [] := va_S.rf
  have hl := lv_entry ([.ref x0, .int v]) (n := 2) (Nat.le_of_ble_eq_true rfl)
  rw [lg_entry_eq]
  generalize (lg_sl ([.ref x0, .int v]) ++ List.replicate (2 - (lg_sl ([.ref x0, .int v])).length) Slot.unset).toArray = ls at hl ⊢
  have hl : lv_has ls 2 [(0, .ref x0), (1, .int v)] := hl
  refine zr_nQ (fun Q hQ => ?_)
  have htx1 := htx.1
  refine lv_iload_n hx hb dX7_feed_0 rfl (lv_at hl 1 rfl) ?_
  refine lv_if_lt (tgt := 10) hx hb dX7_feed_1 (by decide) (fun cn_1 => ?_) (fun cn_1 => ?_)
  · skip
    have e1 : zi 128 v = false := zi_f (zn_lo (n := 128) cn_1 (by omega))
    refine lv_bipush (v := (-2)) hx hb dX7_feed_10 (by rfl) ?_
    subst hQ; subst hAe
    exact W.iret (v := (-2)) hx hb hr (fun tz htz hWz => ⟨⟨(-2), (tx, sg), rfl, ⟨by unfold zo_feed; simp only [cond_true, cond_false, Bool.and_true, Bool.and_false, Bool.true_and, Bool.false_and, e1], by unfold zc_feed; simp only [cond_true, cond_false, Bool.and_true, Bool.and_false, Bool.true_and, Bool.false_and, e1], by unfold zc_feed; simp only [cond_true, cond_false, Bool.and_true, Bool.and_false, Bool.true_and, Bool.false_and, e1]; exact htx⟩, by rw [htz]; exact hP, hD⟩, hS.F htz⟩) hS.2.2 dX7_feed_12
  · skip
    have gz1 := cn_1
    refine lv_iload_n hx hb dX7_feed_4 rfl (lv_at hl 1 rfl) ?_
    refine lv_bipush (v := nI 127) hx hb dX7_feed_5 (by rfl) ?_
    refine lv_icmp_le (tgt := 13) hx hb dX7_feed_7 (by decide) (fun cn_2 => ?_) (fun cn_2 => ?_)
    · skip
      obtain ⟨t, ht, v_e⟩ := zn_in (n := 128) gz1 (fun q => absurd (zn_lt_of (n := 127) (by omega) q) (Int32.not_lt.mpr cn_2)) (by omega)
      have e1 : zi 128 v = true := v_e ▸ zi_t ht (by omega)
      have q1 : zq v = t := v_e ▸ zq_t (by omega)
      rw [v_e] at hl
      refine lv_aload_n hx hb dX7_feed_13 rfl (lv_at hl 0 rfl) ?_
      refine va_get (D := D) (ci := 5) (v := .ref xx) (C := RX7) (T := TX7) (N := 6) hx hb hts (by decide +kernel) hown hK.1 hP 0 rfl rfl 3 (by decide) (hts (.fieldLink RX7 27 "HomeRounds" "text" "LHomeRounds$Text;") (by decide +kernel)) (fun _ h9 => h9) rfl dX7_feed_14 ?_
      refine va_get (D := D) (ci := 4) (v := .int (nI tx)) (C := RX5) (T := TX5) (N := 5) hx hb hts (by decide +kernel) hown hK.1 hP 1 rfl rfl 3 (by decide) (hts (.fieldLink RX7 105 "HomeRounds$Text" "length" "I") (by decide +kernel)) (fun _ h9 => h9) rfl dX7_feed_17 ?_
      refine lv_bipush (v := nI 100) hx hb dX7_feed_20 (by rfl) ?_
      refine lv_icmp_lt (tgt := 28) hx hb dX7_feed_22 (by decide) (fun cn_3 => ?_) (fun cn_3 => ?_)
      · skip
        have cn_3 : tx < 100 := (nI_ltI (a := tx) (b := 100) (by omega) (by omega)).mp cn_3
        have e2 : decide (tx < 100) = true := decide_eq_true (by omega)
        refine lv_aload_n hx hb dX7_feed_28 rfl (lv_at hl 0 rfl) ?_
        refine va_get (D := D) (ci := 5) (v := .ref xx) (C := RX7) (T := TX7) (N := 6) hx hb hts (by decide +kernel) hown hK.1 hP 0 rfl rfl 3 (by decide) (hts (.fieldLink RX7 27 "HomeRounds" "text" "LHomeRounds$Text;") (by decide +kernel)) (fun _ h9 => h9) rfl dX7_feed_29 ?_
        refine va_get (D := D) (ci := 4) (v := .ref x1) (C := RX5) (T := TX5) (N := 5) hx hb hts (by decide +kernel) hown hK.1 hP 1 rfl rfl 0 (by decide) (hts (.fieldLink RX7 108 "HomeRounds$Text" "signs" "[B") (by decide +kernel)) (fun _ h9 => h9) rfl dX7_feed_32 ?_
        refine lv_aload_n hx hb dX7_feed_35 rfl (lv_at hl 0 rfl) ?_
        refine va_get (D := D) (ci := 5) (v := .ref xx) (C := RX7) (T := TX7) (N := 6) hx hb hts (by decide +kernel) hown hK.1 hP 0 rfl rfl 3 (by decide) (hts (.fieldLink RX7 27 "HomeRounds" "text" "LHomeRounds$Text;") (by decide +kernel)) (fun _ h9 => h9) rfl dX7_feed_36 ?_
        refine va_get (D := D) (ci := 4) (v := .int (nI tx)) (C := RX5) (T := TX5) (N := 5) hx hb hts (by decide +kernel) hown hK.1 hP 1 rfl rfl 3 (by decide) (hts (.fieldLink RX7 105 "HomeRounds$Text" "length" "I") (by decide +kernel)) (fun _ h9 => h9) rfl dX7_feed_39 ?_
        refine lv_iload_n hx hb dX7_feed_42 rfl (lv_at hl 1 rfl) ?_
        refine lv_i2b (v := nI t) hx hb dX7_feed_43 (zn_b8 t ht) ?_
        refine va_bast hx hb hK.1 hP hD hS 2 2 rfl rfl (vp_in_nI (by omega) (by omega)) dX7_feed_44 (fun H locs hP hD hS => ?_)
        have hP : va_P D vwCl [(x0, .inr (5, [.ref g0, .ref xk, .ref xt, .ref xx, .ref xp, .int ik])), (xx, .inr (4, [.ref x1, .ref x2, .ref x3, .int (nI tx), .int (nI pl)])), (x1, .inl (E 2, 100, .inl (upd sg (nI tx).toNatClampNeg (vp_nar .byte (nI t)))))] H := hP
        have hD : va_D A [(x0, .inr (5, [.ref g0, .ref xk, .ref xt, .ref xx, .ref xp, .int ik])), (xx, .inr (4, [.ref x1, .ref x2, .ref x3, .int (nI tx), .int (nI pl)])), (x1, .inl (E 2, 100, .inl (upd sg (nI tx).toNatClampNeg (vp_nar .byte (nI t)))))] := hD
        have hcz : (upd sg (nI tx).toNatClampNeg (vp_nar .byte (nI t))) = (upd sg tx (nI t)) := by rw [nI_clamp (n := tx) (by omega), show vp_nar .byte (nI t) = nI t from zn_nb t ht]
        rw [hcz] at hP hD
        refine lv_aload_n hx hb dX7_feed_45 rfl (lv_at hl 0 rfl) ?_
        refine va_get (D := D) (ci := 5) (v := .ref xx) (C := RX7) (T := TX7) (N := 6) hx hb hts (by decide +kernel) hown hK.1 hP 0 rfl rfl 3 (by decide) (hts (.fieldLink RX7 27 "HomeRounds" "text" "LHomeRounds$Text;") (by decide +kernel)) (fun _ h9 => h9) rfl dX7_feed_46 ?_
        refine lv_dup hx hb dX7_feed_49 rfl ?_
        refine va_get (D := D) (ci := 4) (v := .int (nI tx)) (C := RX5) (T := TX5) (N := 5) hx hb hts (by decide +kernel) hown hK.1 hP 1 rfl rfl 3 (by decide) (hts (.fieldLink RX7 105 "HomeRounds$Text" "length" "I") (by decide +kernel)) (fun _ h9 => h9) rfl dX7_feed_50 ?_
        refine lv_iconst (v := nI 1) hx hb dX7_feed_53 (by rfl) ?_
        refine lv_iadd hx hb dX7_feed_54 ?_
        refine zr_ti (y := nI (tx + 1)) (nI_add _ _) ?_
        refine va_put (D := D) (ci := 4) (v := .int (nI (tx + 1))) (ty := .int) (C := RX5) (T := TX5) (N := 5) hx hb hts (by decide +kernel) tyX5 tyX5_ok nmX5 hown hK.1 hP hD hS 1 rfl rfl 3 (by decide) (hts (.fieldLink RX7 105 "HomeRounds$Text" "length" "I") (by decide +kernel)) (fun _ h9 => h9) rfl (by decide +kernel) rfl rfl (Nat.le_of_ble_eq_true rfl) dX7_feed_55 (fun H locs hP hD hS => ?_)
        have hP : va_P D vwCl [(x0, .inr (5, [.ref g0, .ref xk, .ref xt, .ref xx, .ref xp, .int ik])), (xx, .inr (4, [.ref x1, .ref x2, .ref x3, .int (nI (tx + 1)), .int (nI pl)])), (x1, .inl (E 2, 100, .inl (upd sg tx (nI t))))] H := hP
        have hD : va_D A [(x0, .inr (5, [.ref g0, .ref xk, .ref xt, .ref xx, .ref xp, .int ik])), (xx, .inr (4, [.ref x1, .ref x2, .ref x3, .int (nI (tx + 1)), .int (nI pl)])), (x1, .inl (E 2, 100, .inl (upd sg tx (nI t))))] := hD
        refine lv_aload_n hx hb dX7_feed_58 rfl (lv_at hl 0 rfl) ?_
        refine va_get (D := D) (ci := 5) (v := .ref xx) (C := RX7) (T := TX7) (N := 6) hx hb hts (by decide +kernel) hown hK.1 hP 0 rfl rfl 3 (by decide) (hts (.fieldLink RX7 27 "HomeRounds" "text" "LHomeRounds$Text;") (by decide +kernel)) (fun _ h9 => h9) rfl dX7_feed_59 ?_
        refine va_get (D := D) (ci := 4) (v := .int (nI (tx + 1))) (C := RX5) (T := TX5) (N := 5) hx hb hts (by decide +kernel) hown hK.1 hP 1 rfl rfl 3 (by decide) (hts (.fieldLink RX7 105 "HomeRounds$Text" "length" "I") (by decide +kernel)) (fun _ h9 => h9) rfl dX7_feed_62 ?_
        subst hQ; subst hAe
        exact W.iret (v := nI (tx + 1)) hx hb hr (fun tz htz hWz => ⟨⟨nI (tx + 1), (tx + 1, (upd sg tx (nI t))), rfl, ⟨by unfold zo_feed; simp only [cond_true, cond_false, Bool.and_true, Bool.and_false, Bool.true_and, Bool.false_and, e1, e2, q1], by unfold zc_feed; simp only [cond_true, cond_false, Bool.and_true, Bool.and_false, Bool.true_and, Bool.false_and, e1, e2, q1], by unfold zc_feed; simp only [cond_true, cond_false, Bool.and_true, Bool.and_false, Bool.true_and, Bool.false_and, e1, e2, q1]; exact (zx_T_up htx (by omega) ht)⟩, by rw [htz]; exact hP, hD⟩, hS.F htz⟩) hS.2.2 dX7_feed_65
      · skip
        have cn_3 : ¬ (tx < 100) := fun hz => cn_3 ((nI_ltI (a := tx) (b := 100) (by omega) (by omega)).mpr hz)
        have e2 : decide (tx < 100) = false := decide_eq_false (by omega)
        refine lv_bipush (v := (-4)) hx hb dX7_feed_25 (by rfl) ?_
        subst hQ; subst hAe
        exact W.iret (v := (-4)) hx hb hr (fun tz htz hWz => ⟨⟨(-4), (tx, sg), rfl, ⟨by unfold zo_feed; simp only [cond_true, cond_false, Bool.and_true, Bool.and_false, Bool.true_and, Bool.false_and, e1, e2], by unfold zc_feed; simp only [cond_true, cond_false, Bool.and_true, Bool.and_false, Bool.true_and, Bool.false_and, e1, e2], by unfold zc_feed; simp only [cond_true, cond_false, Bool.and_true, Bool.and_false, Bool.true_and, Bool.false_and, e1, e2]; exact htx⟩, by rw [htz]; exact hP, hD⟩, hS.F htz⟩) hS.2.2 dX7_feed_27
    · skip
      have e1 : zi 128 v = false := zi_f (zn_hi (n := 128) (zn_gt (n := 127) (by omega) (Int32.not_le.mp cn_2)) (by omega))
      refine lv_bipush (v := (-2)) hx hb dX7_feed_10 (by rfl) ?_
      subst hQ; subst hAe
      exact W.iret (v := (-2)) hx hb hr (fun tz htz hWz => ⟨⟨(-2), (tx, sg), rfl, ⟨by unfold zo_feed; simp only [cond_true, cond_false, Bool.and_true, Bool.and_false, Bool.true_and, Bool.false_and, e1], by unfold zc_feed; simp only [cond_true, cond_false, Bool.and_true, Bool.and_false, Bool.true_and, Bool.false_and, e1], by unfold zc_feed; simp only [cond_true, cond_false, Bool.and_true, Bool.and_false, Bool.true_and, Bool.false_and, e1]; exact htx⟩, by rw [htz]; exact hP, hD⟩, hS.F htz⟩) hS.2.2 dX7_feed_12

set_option maxHeartbeats 4000000 in
set_option maxRecDepth 100000 in
theorem c_X8_feed (l : Launch) (D : va_G) (E : Nat → ClassId) (m0 : Nat) (w0 : Nat) (w1 : Nat) (w2 : Nat) (w3 : Nat) (w4 : Nat) (w5 : Nat) (w6 : Nat) (w7 : Nat) (w8 : Nat) (w9 : Nat) (ik : Int32) (tx : Nat) (he : Int32) (fa : Int32) (cl : Nat) (wv : Nat → Int32) (tg : Nat → Int32) (T : Nat → Nat) (v : Int32) (htx : zx_T tx T tg) : Met l yX8_feed wsX8_feed ({ frames := 1, cells := 0, slots := 0, locals := 22 }) (zw_P D E [.ref m0, .int v] [(m0, .inr (6, [.ref w0, .ref w1, .ref w2, .int ik, .ref w3, .int (nI tx), .int he, .int fa, .ref w4, .ref w5, .int (nI cl), .ref w6, .ref w7, .ref w8, .ref w9])), (w3, .inl (E 0, 100, .inl tg))]) (zw_Qi D [(m0, .inr (6, [.ref w0, .ref w1, .ref w2, .int ik, .ref w3, .int (nI tx), .int he, .int fa, .ref w4, .ref w5, .int (nI cl), .ref w6, .ref w7, .ref w8, .ref w9])), (w3, .inl (E 0, 100, .inl tg))] (fun zv (u : (Nat) × (Nat → Int32)) => zv = zo_feed tx v ∧ u.1 = cond (zc_feed tx v) (tx + 1) tx ∧ zx_T u.1 (cond (zc_feed tx v) (zm_up T tx (zq v)) T) u.2) (fun (u : (Nat) × (Nat → Int32)) => [(m0, .inr (6, [.ref w0, .ref w1, .ref w2, .int ik, .ref w3, .int (nI u.1), .int he, .int fa, .ref w4, .ref w5, .int (nI cl), .ref w6, .ref w7, .ref w8, .ref w9])), (w3, .inl (E 0, 100, .inl u.2))])) 0 0 (zw_A [(m0, .inr (6, [.ref w0, .ref w1, .ref w2, .int ik, .ref w3, .int (nI tx), .int he, .int fa, .ref w4, .ref w5, .int (nI cl), .ref w6, .ref w7, .ref w8, .ref w9])), (w3, .inl (E 0, 100, .inl tg))]) := by
  refine Met.ofW (cc := cX8_feed) (maxL := 2) (ret := (some .int)) (by decide) rfl ?_
  intro p e s m args below meth c s₁ Bz hml hv
  obtain ⟨rfl, hP, hK, hD0⟩ := hv
  have hx := Bz.exec
  have hb := Bz.bytes
  have hr := Bz.returns
  have hts := atoms_spec (ws := wsX8_feed) Bz.pre
  have hown : s.vm.findClass RX8 = some m.cls := findClass_of_methodNamed Bz.named
  have hlocks := Bz.notSynchronized
  have hP : va_P D vwCl [(m0, .inr (6, [.ref w0, .ref w1, .ref w2, .int ik, .ref w3, .int (nI tx), .int he, .int fa, .ref w4, .ref w5, .int (nI cl), .ref w6, .ref w7, .ref w8, .ref w9])), (w3, .inl (E 0, 100, .inl tg))] s.heap := hP
  obtain ⟨A, hAe⟩ : ∃ A : Nat → Prop, A = zw_A [(m0, .inr (6, [.ref w0, .ref w1, .ref w2, .int ik, .ref w3, .int (nI tx), .int he, .int fa, .ref w4, .ref w5, .int (nI cl), .ref w6, .ref w7, .ref w8, .ref w9])), (w3, .inl (E 0, 100, .inl tg))] := ⟨_, rfl⟩
  have hD : va_D A [(m0, .inr (6, [.ref w0, .ref w1, .ref w2, .int ik, .ref w3, .int (nI tx), .int he, .int fa, .ref w4, .ref w5, .int (nI cl), .ref w6, .ref w7, .ref w8, .ref w9])), (w3, .inl (E 0, 100, .inl tg))] := hAe ▸ zw_own hD0
  have hS : va_S A s.heap s.heap [] := va_S.rf
  have hl := lv_entry ([.ref m0, .int v]) (n := 2) (Nat.le_of_ble_eq_true rfl)
  rw [lg_entry_eq]
  generalize (lg_sl ([.ref m0, .int v]) ++ List.replicate (2 - (lg_sl ([.ref m0, .int v])).length) Slot.unset).toArray = ls at hl ⊢
  have hl : lv_has ls 2 [(0, .ref m0), (1, .int v)] := hl
  refine zr_nQ (fun Q hQ => ?_)
  have htx1 := htx.1
  refine lv_iload_n hx hb dX8_feed_0 rfl (lv_at hl 1 rfl) ?_
  refine lv_iconst (v := nI 0) hx hb dX8_feed_1 (by rfl) ?_
  refine lv_bipush (v := nI 127) hx hb dX8_feed_2 (by rfl) ?_
  refine zr_ci hP hS (va_runS (As := [.int v, .int (nI 0), .int (nI 127)]) (rest := []) ⟨hx, hb, hml, hown, hts⟩ (c_X8_isIn l D E v (nI 0) (nI 127) ) (va_cwS 3 hts gX8_feed_X8_isIn rfl rfl rfl (by decide +kernel) ⟨Nat.le_of_ble_eq_true rfl, Nat.le_of_ble_eq_true rfl⟩) (zr_S hK (hP.sub (ws' := []) [] rfl)) rfl rfl hl.1 rfl (lv_room (Nat.le_of_ble_eq_true rfl)) dX8_feed_4 ⟨Nat.zero_le _, Nat.zero_le _⟩) (fun r_1 H locs hw_2 hP hS => ?_)
  rcases hw_2 with ⟨rfl, hw_2⟩ | ⟨rfl, hw_2⟩
  · skip
    obtain ⟨t, ht, v_e⟩ := zn_in3 (n := 128) (by omega) (by omega) hw_2.1 hw_2.2
    have e1 : zi 128 v = true := v_e ▸ zi_t ht (by omega)
    have q1 : zq v = t := v_e ▸ zq_t (by omega)
    rw [v_e] at hl
    refine zr_ti (y := nI 1) rfl ?_
    refine lv_if_ne (tgt := 13) hx hb dX8_feed_7 (by decide) (fun cn_3 => ?_) (fun cn_3 => ?_)
    · skip
      refine lv_aload_n hx hb dX8_feed_13 rfl (lv_at hl 0 rfl) ?_
      refine va_get (D := D) (ci := 6) (v := .int (nI tx)) (C := RX8) (T := TX8) (N := 15) hx hb hts (by decide +kernel) hown hK.1 hP 0 rfl rfl 5 (by decide) (hts (.fieldLink RX8 99 "HomeRoundsModel" "texted" "I") (by decide +kernel)) (fun _ h9 => h9) rfl dX8_feed_14 ?_
      refine lv_bipush (v := nI 100) hx hb dX8_feed_17 (by rfl) ?_
      refine lv_icmp_ne (tgt := 25) hx hb dX8_feed_19 (by decide) (fun cn_4 => ?_) (fun cn_4 => ?_)
      · skip
        have cn_4 : ¬ (tx = 100) := fun hz => cn_4 ((nI_eq (a := tx) (b := 100) (by omega) (by omega)).mpr hz)
        have e2 : decide (tx < 100) = true := decide_eq_true (by omega)
        refine lv_aload_n hx hb dX8_feed_25 rfl (lv_at hl 0 rfl) ?_
        refine va_get (D := D) (ci := 6) (v := .ref w3) (C := RX8) (T := TX8) (N := 15) hx hb hts (by decide +kernel) hown hK.1 hP 0 rfl rfl 4 (by decide) (hts (.fieldLink RX8 21 "HomeRoundsModel" "text" "[I") (by decide +kernel)) (fun _ h9 => h9) rfl dX8_feed_26 ?_
        refine lv_aload_n hx hb dX8_feed_29 rfl (lv_at hl 0 rfl) ?_
        refine va_get (D := D) (ci := 6) (v := .int (nI tx)) (C := RX8) (T := TX8) (N := 15) hx hb hts (by decide +kernel) hown hK.1 hP 0 rfl rfl 5 (by decide) (hts (.fieldLink RX8 99 "HomeRoundsModel" "texted" "I") (by decide +kernel)) (fun _ h9 => h9) rfl dX8_feed_30 ?_
        refine lv_iload_n hx hb dX8_feed_33 rfl (lv_at hl 1 rfl) ?_
        refine va_iast hx hb hK.1 hP hD hS 1 0 rfl rfl (vp_in_nI (by omega) (by omega)) dX8_feed_34 (fun H locs hP hD hS => ?_)
        have hP : va_P D vwCl [(m0, .inr (6, [.ref w0, .ref w1, .ref w2, .int ik, .ref w3, .int (nI tx), .int he, .int fa, .ref w4, .ref w5, .int (nI cl), .ref w6, .ref w7, .ref w8, .ref w9])), (w3, .inl (E 0, 100, .inl (upd tg (nI tx).toNatClampNeg (nI t))))] H := hP
        have hD : va_D A [(m0, .inr (6, [.ref w0, .ref w1, .ref w2, .int ik, .ref w3, .int (nI tx), .int he, .int fa, .ref w4, .ref w5, .int (nI cl), .ref w6, .ref w7, .ref w8, .ref w9])), (w3, .inl (E 0, 100, .inl (upd tg (nI tx).toNatClampNeg (nI t))))] := hD
        have hcz : (upd tg (nI tx).toNatClampNeg (nI t)) = (upd tg tx (nI t)) := by rw [nI_clamp (n := tx) (by omega)]
        rw [hcz] at hP hD
        refine lv_aload_n hx hb dX8_feed_35 rfl (lv_at hl 0 rfl) ?_
        refine lv_dup hx hb dX8_feed_36 rfl ?_
        refine va_get (D := D) (ci := 6) (v := .int (nI tx)) (C := RX8) (T := TX8) (N := 15) hx hb hts (by decide +kernel) hown hK.1 hP 0 rfl rfl 5 (by decide) (hts (.fieldLink RX8 99 "HomeRoundsModel" "texted" "I") (by decide +kernel)) (fun _ h9 => h9) rfl dX8_feed_37 ?_
        refine lv_iconst (v := nI 1) hx hb dX8_feed_40 (by rfl) ?_
        refine lv_iadd hx hb dX8_feed_41 ?_
        refine zr_ti (y := nI (tx + 1)) (nI_add _ _) ?_
        refine va_put (D := D) (ci := 6) (v := .int (nI (tx + 1))) (ty := .int) (C := RX8) (T := TX8) (N := 15) hx hb hts (by decide +kernel) tyX8 tyX8_ok nmX8 hown hK.1 hP hD hS 0 rfl rfl 5 (by decide) (hts (.fieldLink RX8 99 "HomeRoundsModel" "texted" "I") (by decide +kernel)) (fun _ h9 => h9) rfl (by decide +kernel) rfl rfl (Nat.le_of_ble_eq_true rfl) dX8_feed_42 (fun H locs hP hD hS => ?_)
        have hP : va_P D vwCl [(m0, .inr (6, [.ref w0, .ref w1, .ref w2, .int ik, .ref w3, .int (nI (tx + 1)), .int he, .int fa, .ref w4, .ref w5, .int (nI cl), .ref w6, .ref w7, .ref w8, .ref w9])), (w3, .inl (E 0, 100, .inl (upd tg tx (nI t))))] H := hP
        have hD : va_D A [(m0, .inr (6, [.ref w0, .ref w1, .ref w2, .int ik, .ref w3, .int (nI (tx + 1)), .int he, .int fa, .ref w4, .ref w5, .int (nI cl), .ref w6, .ref w7, .ref w8, .ref w9])), (w3, .inl (E 0, 100, .inl (upd tg tx (nI t))))] := hD
        refine lv_aload_n hx hb dX8_feed_45 rfl (lv_at hl 0 rfl) ?_
        refine va_get (D := D) (ci := 6) (v := .int (nI (tx + 1))) (C := RX8) (T := TX8) (N := 15) hx hb hts (by decide +kernel) hown hK.1 hP 0 rfl rfl 5 (by decide) (hts (.fieldLink RX8 99 "HomeRoundsModel" "texted" "I") (by decide +kernel)) (fun _ h9 => h9) rfl dX8_feed_46 ?_
        subst hQ; subst hAe
        exact W.iret (v := nI (tx + 1)) hx hb hr (fun tz htz hWz => ⟨⟨nI (tx + 1), (tx + 1, (upd tg tx (nI t))), rfl, ⟨by unfold zo_feed; simp only [cond_true, cond_false, Bool.and_true, Bool.and_false, Bool.true_and, Bool.false_and, e1, e2, q1], by unfold zc_feed; simp only [cond_true, cond_false, Bool.and_true, Bool.and_false, Bool.true_and, Bool.false_and, e1, e2, q1], by unfold zc_feed; simp only [cond_true, cond_false, Bool.and_true, Bool.and_false, Bool.true_and, Bool.false_and, e1, e2, q1]; exact (zx_T_up htx (by omega) ht)⟩, by rw [htz]; exact hP, hD⟩, hS.F htz⟩) hS.2.2 dX8_feed_49
      · skip
        have cn_4 : tx = 100 := (nI_eq (a := tx) (b := 100) (by omega) (by omega)).mp cn_4
        have e2 : decide (tx < 100) = false := decide_eq_false (by omega)
        refine lv_bipush (v := (-4)) hx hb dX8_feed_22 (by rfl) ?_
        subst hQ; subst hAe
        exact W.iret (v := (-4)) hx hb hr (fun tz htz hWz => ⟨⟨(-4), (tx, tg), rfl, ⟨by unfold zo_feed; simp only [cond_true, cond_false, Bool.and_true, Bool.and_false, Bool.true_and, Bool.false_and, e1, e2], by unfold zc_feed; simp only [cond_true, cond_false, Bool.and_true, Bool.and_false, Bool.true_and, Bool.false_and, e1, e2], by unfold zc_feed; simp only [cond_true, cond_false, Bool.and_true, Bool.and_false, Bool.true_and, Bool.false_and, e1, e2]; exact htx⟩, by rw [htz]; exact hP, hD⟩, hS.F htz⟩) hS.2.2 dX8_feed_24
    · skip
      exact absurd cn_3 (by decide)
  · skip
    have e1 : zi 128 v = false := zi_f (zn_out3 (n := 128) (by omega) hw_2)
    refine zr_ti (y := nI 0) rfl ?_
    refine lv_if_ne (tgt := 13) hx hb dX8_feed_7 (by decide) (fun cn_5 => ?_) (fun cn_5 => ?_)
    · skip
      exact absurd cn_5 (by decide)
    · skip
      refine lv_bipush (v := (-2)) hx hb dX8_feed_10 (by rfl) ?_
      subst hQ; subst hAe
      exact W.iret (v := (-2)) hx hb hr (fun tz htz hWz => ⟨⟨(-2), (tx, tg), rfl, ⟨by unfold zo_feed; simp only [cond_true, cond_false, Bool.and_true, Bool.and_false, Bool.true_and, Bool.false_and, e1], by unfold zc_feed; simp only [cond_true, cond_false, Bool.and_true, Bool.and_false, Bool.true_and, Bool.false_and, e1], by unfold zc_feed; simp only [cond_true, cond_false, Bool.and_true, Bool.and_false, Bool.true_and, Bool.false_and, e1]; exact htx⟩, by rw [htz]; exact hP, hD⟩, hS.F htz⟩) hS.2.2 dX8_feed_12

