set_option maxHeartbeats 4000000 in
set_option maxRecDepth 100000 in
theorem c_X8_peek (l : Launch) (D : va_G) (E : Nat → ClassId) (m0 : Nat) (w0 : Nat) (w1 : Nat) (w2 : Nat) (w3 : Nat) (w4 : Nat) (w5 : Nat) (w6 : Nat) (w7 : Nat) (w8 : Nat) (w9 : Nat) (ik : Int32) (tx : Nat) (cl : Nat) (wv : Nat → Int32) (hp : Nat) (tg : Nat → Int32) (T : Nat → Nat) (fa : Int32) (htx : zx_T tx T tg) (hpt8 : hp ≤ tx) : Met l yX8_peek wsX8_peek ({ frames := 0, cells := 0, slots := 0, locals := 0 }) (zr_P D E [.ref m0] [(m0, .inr (6, [.ref w0, .ref w1, .ref w2, .int ik, .ref w3, .int (nI tx), .int (nI hp), .int fa, .ref w4, .ref w5, .int (nI cl), .ref w6, .ref w7, .ref w8, .ref w9])), (w3, .inl (E 0, 100, .inl tg))]) (zr_Qi (fun zv => zv = zx_sg T tx hp)) 0 0 (fun _ => False) := by
  refine Met.ofW (cc := cX8_peek) (maxL := 1) (ret := (some .int)) (by decide) rfl ?_
  intro p e s m args below meth c s₁ Bz hml hv
  obtain ⟨rfl, hP, hK⟩ := hv
  have hx := Bz.exec
  have hb := Bz.bytes
  have hr := Bz.returns
  have hts := atoms_spec (ws := wsX8_peek) Bz.pre
  have hown : s.vm.findClass RX8 = some m.cls := findClass_of_methodNamed Bz.named
  have hlocks := Bz.notSynchronized
  have hP : va_P D vwCl [(m0, .inr (6, [.ref w0, .ref w1, .ref w2, .int ik, .ref w3, .int (nI tx), .int (nI hp), .int fa, .ref w4, .ref w5, .int (nI cl), .ref w6, .ref w7, .ref w8, .ref w9])), (w3, .inl (E 0, 100, .inl tg))] s.heap := hP
  have hS : va_S (fun _ : Nat => False) s.heap s.heap [] := va_S.rf
  have hl := lv_entry ([.ref m0]) (n := 1) (Nat.le_of_ble_eq_true rfl)
  rw [lg_entry_eq]
  generalize (lg_sl ([.ref m0]) ++ List.replicate (1 - (lg_sl ([.ref m0])).length) Slot.unset).toArray = ls at hl ⊢
  have hl : lv_has ls 1 [(0, .ref m0)] := hl
  refine zr_nQ (fun Q hQ => ?_)
  have htx1 := htx.1
  have htx2 := htx.2
  refine lv_aload_n hx hb dX8_peek_0 rfl (lv_at hl 0 rfl) ?_
  refine va_get (D := D) (ci := 6) (v := .int (nI hp)) (C := RX8) (T := TX8) (N := 15) hx hb hts (by decide +kernel) hown hK.1 hP 0 rfl rfl 6 (by decide) (hts (.fieldLink RX8 103 "HomeRoundsModel" "here" "I") (by decide +kernel)) (fun _ h9 => h9) rfl dX8_peek_1 ?_
  refine lv_aload_n hx hb dX8_peek_4 rfl (lv_at hl 0 rfl) ?_
  refine va_get (D := D) (ci := 6) (v := .int (nI tx)) (C := RX8) (T := TX8) (N := 15) hx hb hts (by decide +kernel) hown hK.1 hP 0 rfl rfl 5 (by decide) (hts (.fieldLink RX8 99 "HomeRoundsModel" "texted" "I") (by decide +kernel)) (fun _ h9 => h9) rfl dX8_peek_5 ?_
  refine lv_icmp_ge (tgt := 23) hx hb dX8_peek_8 (by decide) (fun cn_1 => ?_) (fun cn_1 => ?_)
  · skip
    have cn_1 : tx ≤ hp := (nI_leI (a := tx) (b := hp) (by omega) (by omega)).mp cn_1
    refine lv_iconst (v := (-1)) hx hb dX8_peek_23 (by rfl) ?_
    subst hQ
    exact W.iret (v := (-1)) hx hb hr (fun tz htz hWz => ⟨⟨(-1), (), rfl, by first | exact (zx_sg_f (by omega)).symm | exact (zx_sg_t (by omega)).symm, trivial⟩, hS.F htz⟩) hS.2.2 dX8_peek_24
  · skip
    have cn_1 : ¬ (tx ≤ hp) := fun hz => cn_1 ((nI_leI (a := tx) (b := hp) (by omega) (by omega)).mpr hz)
    obtain ⟨ht1, ht2⟩ := htx2 hp (by omega)
    refine lv_aload_n hx hb dX8_peek_11 rfl (lv_at hl 0 rfl) ?_
    refine va_get (D := D) (ci := 6) (v := .ref w3) (C := RX8) (T := TX8) (N := 15) hx hb hts (by decide +kernel) hown hK.1 hP 0 rfl rfl 4 (by decide) (hts (.fieldLink RX8 21 "HomeRoundsModel" "text" "[I") (by decide +kernel)) (fun _ h9 => h9) rfl dX8_peek_12 ?_
    refine lv_aload_n hx hb dX8_peek_15 rfl (lv_at hl 0 rfl) ?_
    refine va_get (D := D) (ci := 6) (v := .int (nI hp)) (C := RX8) (T := TX8) (N := 15) hx hb hts (by decide +kernel) hown hK.1 hP 0 rfl rfl 6 (by decide) (hts (.fieldLink RX8 103 "HomeRoundsModel" "here" "I") (by decide +kernel)) (fun _ h9 => h9) rfl dX8_peek_16 ?_
    refine va_iald hx hb hK.1 hP 1 0 rfl rfl (vp_in_nI (by omega) (by omega)) dX8_peek_19 ?_
    refine zr_ti (y := nI (T hp)) ((congrArg tg (nI_clamp (by omega))).trans (ht2)) ?_
    refine lv_goto (tgt := 24) hx hb dX8_peek_20 (by decide) ?_
    subst hQ
    exact W.iret (v := nI (T hp)) hx hb hr (fun tz htz hWz => ⟨⟨nI (T hp), (), rfl, by first | exact (zx_sg_f (by omega)).symm | exact (zx_sg_t (by omega)).symm, trivial⟩, hS.F htz⟩) hS.2.2 dX8_peek_24

set_option maxHeartbeats 4000000 in
set_option maxRecDepth 100000 in
theorem c_X8_fails_n (l : Launch) (D : va_G) (E : Nat → ClassId) (m0 : Nat) (w0 : Nat) (w1 : Nat) (w2 : Nat) (w3 : Nat) (w4 : Nat) (w5 : Nat) (w6 : Nat) (w7 : Nat) (w8 : Nat) (w9 : Nat) (ik : Int32) (tx : Nat) (cl : Nat) (wv : Nat → Int32) (hp : Nat) (tg : Nat → Int32) (T : Nat → Nat) (q9 : Nat) (htx : zx_T tx T tg) (hpt8 : hp ≤ tx) : Met l yX8_fails wsX8_fails ({ frames := 0, cells := 0, slots := 0, locals := 0 }) (zw_P D E [.ref m0, .int (nI q9)] [(m0, .inr (6, [.ref w0, .ref w1, .ref w2, .int ik, .ref w3, .int (nI tx), .int (nI hp), .int (-1), .ref w4, .ref w5, .int (nI cl), .ref w6, .ref w7, .ref w8, .ref w9])), (w3, .inl (E 0, 100, .inl tg))]) (zw_Qv D [(m0, .inr (6, [.ref w0, .ref w1, .ref w2, .int ik, .ref w3, .int (nI tx), .int (nI hp), .int (-1), .ref w4, .ref w5, .int (nI cl), .ref w6, .ref w7, .ref w8, .ref w9])), (w3, .inl (E 0, 100, .inl tg))] (fun (u : Unit) => True) (fun (u : Unit) => [(m0, .inr (6, [.ref w0, .ref w1, .ref w2, .int ik, .ref w3, .int (nI tx), .int (nI hp), .int (nI q9), .ref w4, .ref w5, .int (nI cl), .ref w6, .ref w7, .ref w8, .ref w9])), (w3, .inl (E 0, 100, .inl tg))])) 0 0 (zw_A [(m0, .inr (6, [.ref w0, .ref w1, .ref w2, .int ik, .ref w3, .int (nI tx), .int (nI hp), .int (-1), .ref w4, .ref w5, .int (nI cl), .ref w6, .ref w7, .ref w8, .ref w9])), (w3, .inl (E 0, 100, .inl tg))]) := by
  refine Met.ofW (cc := cX8_fails) (maxL := 2) (ret := none) (by decide) rfl ?_
  intro p e s m args below meth c s₁ Bz hml hv
  obtain ⟨rfl, hP, hK, hD0⟩ := hv
  have hx := Bz.exec
  have hb := Bz.bytes
  have hr := Bz.returns
  have hts := atoms_spec (ws := wsX8_fails) Bz.pre
  have hown : s.vm.findClass RX8 = some m.cls := findClass_of_methodNamed Bz.named
  have hlocks := Bz.notSynchronized
  have hP : va_P D vwCl [(m0, .inr (6, [.ref w0, .ref w1, .ref w2, .int ik, .ref w3, .int (nI tx), .int (nI hp), .int (-1), .ref w4, .ref w5, .int (nI cl), .ref w6, .ref w7, .ref w8, .ref w9])), (w3, .inl (E 0, 100, .inl tg))] s.heap := hP
  obtain ⟨A, hAe⟩ : ∃ A : Nat → Prop, A = zw_A [(m0, .inr (6, [.ref w0, .ref w1, .ref w2, .int ik, .ref w3, .int (nI tx), .int (nI hp), .int (-1), .ref w4, .ref w5, .int (nI cl), .ref w6, .ref w7, .ref w8, .ref w9])), (w3, .inl (E 0, 100, .inl tg))] := ⟨_, rfl⟩
  have hD : va_D A [(m0, .inr (6, [.ref w0, .ref w1, .ref w2, .int ik, .ref w3, .int (nI tx), .int (nI hp), .int (-1), .ref w4, .ref w5, .int (nI cl), .ref w6, .ref w7, .ref w8, .ref w9])), (w3, .inl (E 0, 100, .inl tg))] := hAe ▸ zw_own hD0
  have hS : va_S A s.heap s.heap [] := va_S.rf
  have hl := lv_entry ([.ref m0, .int (nI q9)]) (n := 2) (Nat.le_of_ble_eq_true rfl)
  rw [lg_entry_eq]
  generalize (lg_sl ([.ref m0, .int (nI q9)]) ++ List.replicate (2 - (lg_sl ([.ref m0, .int (nI q9)])).length) Slot.unset).toArray = ls at hl ⊢
  have hl : lv_has ls 2 [(0, .ref m0), (1, .int (nI q9))] := hl
  refine zr_nQ (fun Q hQ => ?_)
  refine lv_aload_n hx hb dX8_fails_0 rfl (lv_at hl 0 rfl) ?_
  refine lv_aload_n hx hb dX8_fails_1 rfl (lv_at hl 0 rfl) ?_
  refine va_get (D := D) (ci := 6) (v := .int (-1)) (C := RX8) (T := TX8) (N := 15) hx hb hts (by decide +kernel) hown hK.1 hP 0 rfl rfl 7 (by decide) (hts (.fieldLink RX8 106 "HomeRoundsModel" "fault" "I") (by decide +kernel)) (fun _ h9 => h9) rfl dX8_fails_2 ?_
  refine lv_if_ge (tgt := 12) hx hb dX8_fails_5 (by decide) (fun cn_1 => ?_) (fun cn_1 => ?_)
  · skip
    exact absurd cn_1 (by decide)
  · skip
    refine lv_iload_n hx hb dX8_fails_8 rfl (lv_at hl 1 rfl) ?_
    refine lv_goto (tgt := 16) hx hb dX8_fails_9 (by decide) ?_
    refine va_put (D := D) (ci := 6) (v := .int (nI q9)) (ty := .int) (C := RX8) (T := TX8) (N := 15) hx hb hts (by decide +kernel) tyX8 tyX8_ok nmX8 hown hK.1 hP hD hS 0 rfl rfl 7 (by decide) (hts (.fieldLink RX8 106 "HomeRoundsModel" "fault" "I") (by decide +kernel)) (fun _ h9 => h9) rfl (by decide +kernel) rfl rfl (Nat.le_of_ble_eq_true rfl) dX8_fails_16 (fun H locs hP hD hS => ?_)
    have hP : va_P D vwCl [(m0, .inr (6, [.ref w0, .ref w1, .ref w2, .int ik, .ref w3, .int (nI tx), .int (nI hp), .int (nI q9), .ref w4, .ref w5, .int (nI cl), .ref w6, .ref w7, .ref w8, .ref w9])), (w3, .inl (E 0, 100, .inl tg))] H := hP
    have hD : va_D A [(m0, .inr (6, [.ref w0, .ref w1, .ref w2, .int ik, .ref w3, .int (nI tx), .int (nI hp), .int (nI q9), .ref w4, .ref w5, .int (nI cl), .ref w6, .ref w7, .ref w8, .ref w9])), (w3, .inl (E 0, 100, .inl tg))] := hD
    subst hQ; subst hAe
    exact W.vret hx hb hr (fun tz htz hWz => ⟨⟨(), rfl, trivial, by rw [htz]; exact hP, hD⟩, hS.F htz⟩) hS.2.2 dX8_fails_19

set_option maxHeartbeats 4000000 in
set_option maxRecDepth 100000 in
theorem c_X8_fails_f (l : Launch) (D : va_G) (E : Nat → ClassId) (m0 : Nat) (w0 : Nat) (w1 : Nat) (w2 : Nat) (w3 : Nat) (w4 : Nat) (w5 : Nat) (w6 : Nat) (w7 : Nat) (w8 : Nat) (w9 : Nat) (ik : Int32) (tx : Nat) (cl : Nat) (wv : Nat → Int32) (hp : Nat) (tg : Nat → Int32) (T : Nat → Nat) (q9 : Nat) (f9 : Nat) (htx : zx_T tx T tg) (hpt8 : hp ≤ tx) (hf9 : f9 ≤ 1000) : Met l yX8_fails wsX8_fails ({ frames := 0, cells := 0, slots := 0, locals := 0 }) (zw_P D E [.ref m0, .int (nI q9)] [(m0, .inr (6, [.ref w0, .ref w1, .ref w2, .int ik, .ref w3, .int (nI tx), .int (nI hp), .int (nI f9), .ref w4, .ref w5, .int (nI cl), .ref w6, .ref w7, .ref w8, .ref w9])), (w3, .inl (E 0, 100, .inl tg))]) (zw_Qv D [(m0, .inr (6, [.ref w0, .ref w1, .ref w2, .int ik, .ref w3, .int (nI tx), .int (nI hp), .int (nI f9), .ref w4, .ref w5, .int (nI cl), .ref w6, .ref w7, .ref w8, .ref w9])), (w3, .inl (E 0, 100, .inl tg))] (fun (u : Unit) => True) (fun (u : Unit) => [(m0, .inr (6, [.ref w0, .ref w1, .ref w2, .int ik, .ref w3, .int (nI tx), .int (nI hp), .int (nI f9), .ref w4, .ref w5, .int (nI cl), .ref w6, .ref w7, .ref w8, .ref w9])), (w3, .inl (E 0, 100, .inl tg))])) 0 0 (zw_A [(m0, .inr (6, [.ref w0, .ref w1, .ref w2, .int ik, .ref w3, .int (nI tx), .int (nI hp), .int (nI f9), .ref w4, .ref w5, .int (nI cl), .ref w6, .ref w7, .ref w8, .ref w9])), (w3, .inl (E 0, 100, .inl tg))]) := by
  refine Met.ofW (cc := cX8_fails) (maxL := 2) (ret := none) (by decide) rfl ?_
  intro p e s m args below meth c s₁ Bz hml hv
  obtain ⟨rfl, hP, hK, hD0⟩ := hv
  have hx := Bz.exec
  have hb := Bz.bytes
  have hr := Bz.returns
  have hts := atoms_spec (ws := wsX8_fails) Bz.pre
  have hown : s.vm.findClass RX8 = some m.cls := findClass_of_methodNamed Bz.named
  have hlocks := Bz.notSynchronized
  have hP : va_P D vwCl [(m0, .inr (6, [.ref w0, .ref w1, .ref w2, .int ik, .ref w3, .int (nI tx), .int (nI hp), .int (nI f9), .ref w4, .ref w5, .int (nI cl), .ref w6, .ref w7, .ref w8, .ref w9])), (w3, .inl (E 0, 100, .inl tg))] s.heap := hP
  obtain ⟨A, hAe⟩ : ∃ A : Nat → Prop, A = zw_A [(m0, .inr (6, [.ref w0, .ref w1, .ref w2, .int ik, .ref w3, .int (nI tx), .int (nI hp), .int (nI f9), .ref w4, .ref w5, .int (nI cl), .ref w6, .ref w7, .ref w8, .ref w9])), (w3, .inl (E 0, 100, .inl tg))] := ⟨_, rfl⟩
  have hD : va_D A [(m0, .inr (6, [.ref w0, .ref w1, .ref w2, .int ik, .ref w3, .int (nI tx), .int (nI hp), .int (nI f9), .ref w4, .ref w5, .int (nI cl), .ref w6, .ref w7, .ref w8, .ref w9])), (w3, .inl (E 0, 100, .inl tg))] := hAe ▸ zw_own hD0
  have hS : va_S A s.heap s.heap [] := va_S.rf
  have hl := lv_entry ([.ref m0, .int (nI q9)]) (n := 2) (Nat.le_of_ble_eq_true rfl)
  rw [lg_entry_eq]
  generalize (lg_sl ([.ref m0, .int (nI q9)]) ++ List.replicate (2 - (lg_sl ([.ref m0, .int (nI q9)])).length) Slot.unset).toArray = ls at hl ⊢
  have hl : lv_has ls 2 [(0, .ref m0), (1, .int (nI q9))] := hl
  refine zr_nQ (fun Q hQ => ?_)
  refine lv_aload_n hx hb dX8_fails_0 rfl (lv_at hl 0 rfl) ?_
  refine lv_aload_n hx hb dX8_fails_1 rfl (lv_at hl 0 rfl) ?_
  refine va_get (D := D) (ci := 6) (v := .int (nI f9)) (C := RX8) (T := TX8) (N := 15) hx hb hts (by decide +kernel) hown hK.1 hP 0 rfl rfl 7 (by decide) (hts (.fieldLink RX8 106 "HomeRoundsModel" "fault" "I") (by decide +kernel)) (fun _ h9 => h9) rfl dX8_fails_2 ?_
  refine lv_if_ge (tgt := 12) hx hb dX8_fails_5 (by decide) (fun cn_1 => ?_) (fun cn_1 => ?_)
  · skip
    have cn_1 : 0 ≤ f9 := (nI_leI (a := 0) (b := f9) (by omega) (by omega)).mp cn_1
    refine lv_aload_n hx hb dX8_fails_12 rfl (lv_at hl 0 rfl) ?_
    refine va_get (D := D) (ci := 6) (v := .int (nI f9)) (C := RX8) (T := TX8) (N := 15) hx hb hts (by decide +kernel) hown hK.1 hP 0 rfl rfl 7 (by decide) (hts (.fieldLink RX8 106 "HomeRoundsModel" "fault" "I") (by decide +kernel)) (fun _ h9 => h9) rfl dX8_fails_13 ?_
    refine va_put (D := D) (ci := 6) (v := .int (nI f9)) (ty := .int) (C := RX8) (T := TX8) (N := 15) hx hb hts (by decide +kernel) tyX8 tyX8_ok nmX8 hown hK.1 hP hD hS 0 rfl rfl 7 (by decide) (hts (.fieldLink RX8 106 "HomeRoundsModel" "fault" "I") (by decide +kernel)) (fun _ h9 => h9) rfl (by decide +kernel) rfl rfl (Nat.le_of_ble_eq_true rfl) dX8_fails_16 (fun H locs hP hD hS => ?_)
    have hP : va_P D vwCl [(m0, .inr (6, [.ref w0, .ref w1, .ref w2, .int ik, .ref w3, .int (nI tx), .int (nI hp), .int (nI f9), .ref w4, .ref w5, .int (nI cl), .ref w6, .ref w7, .ref w8, .ref w9])), (w3, .inl (E 0, 100, .inl tg))] H := hP
    have hD : va_D A [(m0, .inr (6, [.ref w0, .ref w1, .ref w2, .int ik, .ref w3, .int (nI tx), .int (nI hp), .int (nI f9), .ref w4, .ref w5, .int (nI cl), .ref w6, .ref w7, .ref w8, .ref w9])), (w3, .inl (E 0, 100, .inl tg))] := hD
    subst hQ; subst hAe
    exact W.vret hx hb hr (fun tz htz hWz => ⟨⟨(), rfl, trivial, by rw [htz]; exact hP, hD⟩, hS.F htz⟩) hS.2.2 dX8_fails_19
  · skip
    have cn_1 : ¬ (0 ≤ f9) := fun hz => cn_1 ((nI_leI (a := 0) (b := f9) (by omega) (by omega)).mpr hz)
    exfalso; omega

set_option maxHeartbeats 4000000 in
set_option maxRecDepth 100000 in
theorem c_X8_takes_n (l : Launch) (D : va_G) (E : Nat → ClassId) (m0 : Nat) (w0 : Nat) (w1 : Nat) (w2 : Nat) (w3 : Nat) (w4 : Nat) (w5 : Nat) (w6 : Nat) (w7 : Nat) (w8 : Nat) (w9 : Nat) (ik : Int32) (tx : Nat) (cl : Nat) (wv : Nat → Int32) (hp : Nat) (tg : Nat → Int32) (T : Nat → Nat) (c9 : Nat) (htx : zx_T tx T tg) (hpt8 : hp ≤ tx) (hc9 : c9 < 128) : Met l yX8_takes wsX8_takes ({ frames := 1, cells := 0, slots := 0, locals := 21 }) (zw_P D E [.ref m0, .int (nI c9)] [(m0, .inr (6, [.ref w0, .ref w1, .ref w2, .int ik, .ref w3, .int (nI tx), .int (nI hp), .int (-1), .ref w4, .ref w5, .int (nI cl), .ref w6, .ref w7, .ref w8, .ref w9])), (w3, .inl (E 0, 100, .inl tg))]) (zw_Qv D [(m0, .inr (6, [.ref w0, .ref w1, .ref w2, .int ik, .ref w3, .int (nI tx), .int (nI hp), .int (-1), .ref w4, .ref w5, .int (nI cl), .ref w6, .ref w7, .ref w8, .ref w9])), (w3, .inl (E 0, 100, .inl tg))] (fun (u : (Nat) × (Int32)) => (zx_at T tx hp c9 = true ∧ u.1 = hp + 1 ∧ u.2 = -1 ∧ u.1 ≤ tx) ∨ (zx_at T tx hp c9 = false ∧ u.1 = hp ∧ u.2 = nI hp)) (fun (u : (Nat) × (Int32)) => [(m0, .inr (6, [.ref w0, .ref w1, .ref w2, .int ik, .ref w3, .int (nI tx), .int (nI u.1), .int u.2, .ref w4, .ref w5, .int (nI cl), .ref w6, .ref w7, .ref w8, .ref w9])), (w3, .inl (E 0, 100, .inl tg))])) 0 0 (zw_A [(m0, .inr (6, [.ref w0, .ref w1, .ref w2, .int ik, .ref w3, .int (nI tx), .int (nI hp), .int (-1), .ref w4, .ref w5, .int (nI cl), .ref w6, .ref w7, .ref w8, .ref w9])), (w3, .inl (E 0, 100, .inl tg))]) := by
  refine Met.ofW (cc := cX8_takes) (maxL := 2) (ret := none) (by decide) rfl ?_
  intro p e s m args below meth c s₁ Bz hml hv
  obtain ⟨rfl, hP, hK, hD0⟩ := hv
  have hx := Bz.exec
  have hb := Bz.bytes
  have hr := Bz.returns
  have hts := atoms_spec (ws := wsX8_takes) Bz.pre
  have hown : s.vm.findClass RX8 = some m.cls := findClass_of_methodNamed Bz.named
  have hlocks := Bz.notSynchronized
  have hP : va_P D vwCl [(m0, .inr (6, [.ref w0, .ref w1, .ref w2, .int ik, .ref w3, .int (nI tx), .int (nI hp), .int (-1), .ref w4, .ref w5, .int (nI cl), .ref w6, .ref w7, .ref w8, .ref w9])), (w3, .inl (E 0, 100, .inl tg))] s.heap := hP
  obtain ⟨A, hAe⟩ : ∃ A : Nat → Prop, A = zw_A [(m0, .inr (6, [.ref w0, .ref w1, .ref w2, .int ik, .ref w3, .int (nI tx), .int (nI hp), .int (-1), .ref w4, .ref w5, .int (nI cl), .ref w6, .ref w7, .ref w8, .ref w9])), (w3, .inl (E 0, 100, .inl tg))] := ⟨_, rfl⟩
  have hD : va_D A [(m0, .inr (6, [.ref w0, .ref w1, .ref w2, .int ik, .ref w3, .int (nI tx), .int (nI hp), .int (-1), .ref w4, .ref w5, .int (nI cl), .ref w6, .ref w7, .ref w8, .ref w9])), (w3, .inl (E 0, 100, .inl tg))] := hAe ▸ zw_own hD0
  have hS : va_S A s.heap s.heap [] := va_S.rf
  have hl := lv_entry ([.ref m0, .int (nI c9)]) (n := 2) (Nat.le_of_ble_eq_true rfl)
  rw [lg_entry_eq]
  generalize (lg_sl ([.ref m0, .int (nI c9)]) ++ List.replicate (2 - (lg_sl ([.ref m0, .int (nI c9)])).length) Slot.unset).toArray = ls at hl ⊢
  have hl : lv_has ls 2 [(0, .ref m0), (1, .int (nI c9))] := hl
  refine zr_nQ (fun Q hQ => ?_)
  have htx1 := htx.1
  have htx2 := htx.2
  refine lv_aload_n hx hb dX8_takes_0 rfl (lv_at hl 0 rfl) ?_
  refine va_get (D := D) (ci := 6) (v := .int (-1)) (C := RX8) (T := TX8) (N := 15) hx hb hts (by decide +kernel) hown hK.1 hP 0 rfl rfl 7 (by decide) (hts (.fieldLink RX8 106 "HomeRoundsModel" "fault" "I") (by decide +kernel)) (fun _ h9 => h9) rfl dX8_takes_1 ?_
  refine lv_if_ge (tgt := 28) hx hb dX8_takes_4 (by decide) (fun cn_1 => ?_) (fun cn_1 => ?_)
  · skip
    exact absurd cn_1 (by decide)
  · skip
    refine lv_aload_n hx hb dX8_takes_7 rfl (lv_at hl 0 rfl) ?_
    refine zr_ci hP hS (va_runV (As := []) (rest := []) ⟨hx, hb, hml, hown, hts⟩ (c_X8_peek l D E m0 w0 w1 w2 w3 w4 w5 w6 w7 w8 w9 ik tx cl wv hp tg T (-1) (htx) (by omega)) (cwV 0 hts gX8_takes_X8_peek rfl rfl rfl (by decide +kernel) ⟨Nat.le_of_ble_eq_true rfl, Nat.le_of_ble_eq_true rfl⟩) (zr_V hK (hP.sub (ws' := [(m0, .inr (6, [.ref w0, .ref w1, .ref w2, .int ik, .ref w3, .int (nI tx), .int (nI hp), .int (-1), .ref w4, .ref w5, .int (nI cl), .ref w6, .ref w7, .ref w8, .ref w9])), (w3, .inl (E 0, 100, .inl tg))]) [0, 1] rfl) (ci := 6) (q0 := 0) rfl rfl) rfl rfl hl.1 rfl (lv_room (Nat.le_of_ble_eq_true rfl)) dX8_takes_8 ⟨Nat.zero_le _, Nat.zero_le _⟩) (fun r_2 H locs hw_3 hP hS => ?_)
    subst hw_3
    rcases Nat.lt_or_ge hp tx with hpt | hpt
    · skip
      refine zr_ti (y := nI (T hp)) (zx_sg_t hpt) ?_
      obtain ⟨ht1, -⟩ := htx2 _ hpt
      refine lv_iload_n hx hb dX8_takes_11 rfl (lv_at hl 1 rfl) ?_
      refine lv_icmp_ne (tgt := 28) hx hb dX8_takes_12 (by decide) (fun cn_4 => ?_) (fun cn_4 => ?_)
      · skip
        have cn_4 : ¬ (T hp = c9) := fun hz => cn_4 ((nI_eq (a := T hp) (b := c9) (by omega) (by omega)).mpr hz)
        refine lv_aload_n hx hb dX8_takes_28 rfl (lv_at hl 0 rfl) ?_
        refine lv_aload_n hx hb dX8_takes_29 rfl (lv_at hl 0 rfl) ?_
        refine va_get (D := D) (ci := 6) (v := .int (nI hp)) (C := RX8) (T := TX8) (N := 15) hx hb hts (by decide +kernel) hown hK.1 hP 0 rfl rfl 6 (by decide) (hts (.fieldLink RX8 103 "HomeRoundsModel" "here" "I") (by decide +kernel)) (fun _ h9 => h9) rfl dX8_takes_30 ?_
        have hPc := hP.sub (ws' := [(m0, .inr (6, [.ref w0, .ref w1, .ref w2, .int ik, .ref w3, .int (nI tx), .int (nI hp), .int (-1), .ref w4, .ref w5, .int (nI cl), .ref w6, .ref w7, .ref w8, .ref w9])), (w3, .inl (E 0, 100, .inl tg))]) [0, 1] rfl
        have hDc := hD.sub (ws' := [(m0, .inr (6, [.ref w0, .ref w1, .ref w2, .int ik, .ref w3, .int (nI tx), .int (nI hp), .int (-1), .ref w4, .ref w5, .int (nI cl), .ref w6, .ref w7, .ref w8, .ref w9])), (w3, .inl (E 0, 100, .inl tg))]) [0, 1] (by decide +kernel) rfl
        have hAc := zw_AA (wc := [(m0, .inr (6, [.ref w0, .ref w1, .ref w2, .int ik, .ref w3, .int (nI tx), .int (nI hp), .int (-1), .ref w4, .ref w5, .int (nI cl), .ref w6, .ref w7, .ref w8, .ref w9])), (w3, .inl (E 0, 100, .inl tg))]) hD [0, 1] rfl
        refine zw_cv hAc hS (va_runV (As := [.int (nI hp)]) (rest := []) ⟨hx, hb, hml, hown, hts⟩ (c_X8_fails_n l D E m0 w0 w1 w2 w3 w4 w5 w6 w7 w8 w9 ik tx cl wv hp tg T hp (htx) (by omega)) (cwV 1 hts gX8_takes_X8_fails rfl rfl rfl (by decide +kernel) ⟨Nat.le_of_ble_eq_true rfl, Nat.le_of_ble_eq_true rfl⟩) (zw_V hK hPc hDc (ci := 6) (q0 := 0) rfl rfl) rfl rfl hl.1 rfl (lv_room (Nat.le_of_ble_eq_true rfl)) dX8_takes_33 ⟨Nat.zero_le _, Nat.zero_le _⟩) (fun u_7 H locs hw_6 hP1 hD1 hk1 hS => ?_)
        obtain ⟨hP, hD⟩ := zw_join (wr := []) (w1 := [(m0, .inr (6, [.ref w0, .ref w1, .ref w2, .int ik, .ref w3, .int (nI tx), .int (nI hp), .int (nI hp), .ref w4, .ref w5, .int (nI cl), .ref w6, .ref w7, .ref w8, .ref w9])), (w3, .inl (E 0, 100, .inl tg))]) (ws' := [(m0, .inr (6, [.ref w0, .ref w1, .ref w2, .int ik, .ref w3, .int (nI tx), .int (nI hp), .int (nI hp), .ref w4, .ref w5, .int (nI cl), .ref w6, .ref w7, .ref w8, .ref w9])), (w3, .inl (E 0, 100, .inl tg))]) hP hD [0, 1] [] [0, 1] rfl rfl (by decide +kernel) (by decide +kernel) hAc hk1 hP1 hD1 (by decide +kernel) rfl
        clear hP1 hD1 hk1 hPc hDc hAc
        subst hQ; subst hAe
        exact W.vret hx hb hr (fun tz htz hWz => ⟨⟨(hp, nI hp), rfl, by first | exact Or.inl ⟨zx_at_t hpt (by assumption), rfl, rfl, by omega⟩ | exact Or.inr ⟨zx_at_f (by omega), rfl, rfl⟩, by rw [htz]; exact hP, hD⟩, hS.F htz⟩) hS.2.2 dX8_takes_36
      · skip
        have cn_4 : T hp = c9 := (nI_eq (a := T hp) (b := c9) (by omega) (by omega)).mp cn_4
        refine lv_aload_n hx hb dX8_takes_15 rfl (lv_at hl 0 rfl) ?_
        refine lv_dup hx hb dX8_takes_16 rfl ?_
        refine va_get (D := D) (ci := 6) (v := .int (nI hp)) (C := RX8) (T := TX8) (N := 15) hx hb hts (by decide +kernel) hown hK.1 hP 0 rfl rfl 6 (by decide) (hts (.fieldLink RX8 103 "HomeRoundsModel" "here" "I") (by decide +kernel)) (fun _ h9 => h9) rfl dX8_takes_17 ?_
        refine lv_iconst (v := nI 1) hx hb dX8_takes_20 (by rfl) ?_
        refine lv_iadd hx hb dX8_takes_21 ?_
        refine zr_ti (y := nI (hp + 1)) (nI_add _ _) ?_
        refine va_put (D := D) (ci := 6) (v := .int (nI (hp + 1))) (ty := .int) (C := RX8) (T := TX8) (N := 15) hx hb hts (by decide +kernel) tyX8 tyX8_ok nmX8 hown hK.1 hP hD hS 0 rfl rfl 6 (by decide) (hts (.fieldLink RX8 103 "HomeRoundsModel" "here" "I") (by decide +kernel)) (fun _ h9 => h9) rfl (by decide +kernel) rfl rfl (Nat.le_of_ble_eq_true rfl) dX8_takes_22 (fun H locs hP hD hS => ?_)
        have hP : va_P D vwCl [(m0, .inr (6, [.ref w0, .ref w1, .ref w2, .int ik, .ref w3, .int (nI tx), .int (nI (hp + 1)), .int (-1), .ref w4, .ref w5, .int (nI cl), .ref w6, .ref w7, .ref w8, .ref w9])), (w3, .inl (E 0, 100, .inl tg))] H := hP
        have hD : va_D A [(m0, .inr (6, [.ref w0, .ref w1, .ref w2, .int ik, .ref w3, .int (nI tx), .int (nI (hp + 1)), .int (-1), .ref w4, .ref w5, .int (nI cl), .ref w6, .ref w7, .ref w8, .ref w9])), (w3, .inl (E 0, 100, .inl tg))] := hD
        refine lv_goto (tgt := 36) hx hb dX8_takes_25 (by decide) ?_
        subst hQ; subst hAe
        exact W.vret hx hb hr (fun tz htz hWz => ⟨⟨(hp + 1, (-1)), rfl, by first | exact Or.inl ⟨zx_at_t hpt (by assumption), rfl, rfl, by omega⟩ | exact Or.inr ⟨zx_at_f (by omega), rfl, rfl⟩, by rw [htz]; exact hP, hD⟩, hS.F htz⟩) hS.2.2 dX8_takes_36
    · skip
      refine zr_ti (y := -1) (zx_sg_f hpt) ?_
      refine lv_iload_n hx hb dX8_takes_11 rfl (lv_at hl 1 rfl) ?_
      refine lv_icmp_ne (tgt := 28) hx hb dX8_takes_12 (by decide) (fun cn_8 => ?_) (fun cn_8 => ?_)
      · skip
        refine lv_aload_n hx hb dX8_takes_28 rfl (lv_at hl 0 rfl) ?_
        refine lv_aload_n hx hb dX8_takes_29 rfl (lv_at hl 0 rfl) ?_
        refine va_get (D := D) (ci := 6) (v := .int (nI hp)) (C := RX8) (T := TX8) (N := 15) hx hb hts (by decide +kernel) hown hK.1 hP 0 rfl rfl 6 (by decide) (hts (.fieldLink RX8 103 "HomeRoundsModel" "here" "I") (by decide +kernel)) (fun _ h9 => h9) rfl dX8_takes_30 ?_
        have hPc := hP.sub (ws' := [(m0, .inr (6, [.ref w0, .ref w1, .ref w2, .int ik, .ref w3, .int (nI tx), .int (nI hp), .int (-1), .ref w4, .ref w5, .int (nI cl), .ref w6, .ref w7, .ref w8, .ref w9])), (w3, .inl (E 0, 100, .inl tg))]) [0, 1] rfl
        have hDc := hD.sub (ws' := [(m0, .inr (6, [.ref w0, .ref w1, .ref w2, .int ik, .ref w3, .int (nI tx), .int (nI hp), .int (-1), .ref w4, .ref w5, .int (nI cl), .ref w6, .ref w7, .ref w8, .ref w9])), (w3, .inl (E 0, 100, .inl tg))]) [0, 1] (by decide +kernel) rfl
        have hAc := zw_AA (wc := [(m0, .inr (6, [.ref w0, .ref w1, .ref w2, .int ik, .ref w3, .int (nI tx), .int (nI hp), .int (-1), .ref w4, .ref w5, .int (nI cl), .ref w6, .ref w7, .ref w8, .ref w9])), (w3, .inl (E 0, 100, .inl tg))]) hD [0, 1] rfl
        refine zw_cv hAc hS (va_runV (As := [.int (nI hp)]) (rest := []) ⟨hx, hb, hml, hown, hts⟩ (c_X8_fails_n l D E m0 w0 w1 w2 w3 w4 w5 w6 w7 w8 w9 ik tx cl wv hp tg T hp (htx) (by omega)) (cwV 1 hts gX8_takes_X8_fails rfl rfl rfl (by decide +kernel) ⟨Nat.le_of_ble_eq_true rfl, Nat.le_of_ble_eq_true rfl⟩) (zw_V hK hPc hDc (ci := 6) (q0 := 0) rfl rfl) rfl rfl hl.1 rfl (lv_room (Nat.le_of_ble_eq_true rfl)) dX8_takes_33 ⟨Nat.zero_le _, Nat.zero_le _⟩) (fun u_11 H locs hw_10 hP1 hD1 hk1 hS => ?_)
        obtain ⟨hP, hD⟩ := zw_join (wr := []) (w1 := [(m0, .inr (6, [.ref w0, .ref w1, .ref w2, .int ik, .ref w3, .int (nI tx), .int (nI hp), .int (nI hp), .ref w4, .ref w5, .int (nI cl), .ref w6, .ref w7, .ref w8, .ref w9])), (w3, .inl (E 0, 100, .inl tg))]) (ws' := [(m0, .inr (6, [.ref w0, .ref w1, .ref w2, .int ik, .ref w3, .int (nI tx), .int (nI hp), .int (nI hp), .ref w4, .ref w5, .int (nI cl), .ref w6, .ref w7, .ref w8, .ref w9])), (w3, .inl (E 0, 100, .inl tg))]) hP hD [0, 1] [] [0, 1] rfl rfl (by decide +kernel) (by decide +kernel) hAc hk1 hP1 hD1 (by decide +kernel) rfl
        clear hP1 hD1 hk1 hPc hDc hAc
        subst hQ; subst hAe
        exact W.vret hx hb hr (fun tz htz hWz => ⟨⟨(hp, nI hp), rfl, by first | exact Or.inl ⟨zx_at_t hpt (by assumption), rfl, rfl, by omega⟩ | exact Or.inr ⟨zx_at_f (by omega), rfl, rfl⟩, by rw [htz]; exact hP, hD⟩, hS.F htz⟩) hS.2.2 dX8_takes_36
      · skip
        exact absurd cn_8 (zx_m1 (by omega))

set_option maxHeartbeats 4000000 in
set_option maxRecDepth 100000 in
theorem c_X8_takes_f (l : Launch) (D : va_G) (E : Nat → ClassId) (m0 : Nat) (w0 : Nat) (w1 : Nat) (w2 : Nat) (w3 : Nat) (w4 : Nat) (w5 : Nat) (w6 : Nat) (w7 : Nat) (w8 : Nat) (w9 : Nat) (ik : Int32) (tx : Nat) (cl : Nat) (wv : Nat → Int32) (hp : Nat) (tg : Nat → Int32) (T : Nat → Nat) (c9 : Nat) (f9 : Nat) (htx : zx_T tx T tg) (hpt8 : hp ≤ tx) (hf9 : f9 ≤ 1000) : Met l yX8_takes wsX8_takes ({ frames := 1, cells := 0, slots := 0, locals := 21 }) (zw_P D E [.ref m0, .int (nI c9)] [(m0, .inr (6, [.ref w0, .ref w1, .ref w2, .int ik, .ref w3, .int (nI tx), .int (nI hp), .int (nI f9), .ref w4, .ref w5, .int (nI cl), .ref w6, .ref w7, .ref w8, .ref w9])), (w3, .inl (E 0, 100, .inl tg))]) (zw_Qv D [(m0, .inr (6, [.ref w0, .ref w1, .ref w2, .int ik, .ref w3, .int (nI tx), .int (nI hp), .int (nI f9), .ref w4, .ref w5, .int (nI cl), .ref w6, .ref w7, .ref w8, .ref w9])), (w3, .inl (E 0, 100, .inl tg))] (fun (u : Unit) => True) (fun (u : Unit) => [(m0, .inr (6, [.ref w0, .ref w1, .ref w2, .int ik, .ref w3, .int (nI tx), .int (nI hp), .int (nI f9), .ref w4, .ref w5, .int (nI cl), .ref w6, .ref w7, .ref w8, .ref w9])), (w3, .inl (E 0, 100, .inl tg))])) 0 0 (zw_A [(m0, .inr (6, [.ref w0, .ref w1, .ref w2, .int ik, .ref w3, .int (nI tx), .int (nI hp), .int (nI f9), .ref w4, .ref w5, .int (nI cl), .ref w6, .ref w7, .ref w8, .ref w9])), (w3, .inl (E 0, 100, .inl tg))]) := by
  refine Met.ofW (cc := cX8_takes) (maxL := 2) (ret := none) (by decide) rfl ?_
  intro p e s m args below meth c s₁ Bz hml hv
  obtain ⟨rfl, hP, hK, hD0⟩ := hv
  have hx := Bz.exec
  have hb := Bz.bytes
  have hr := Bz.returns
  have hts := atoms_spec (ws := wsX8_takes) Bz.pre
  have hown : s.vm.findClass RX8 = some m.cls := findClass_of_methodNamed Bz.named
  have hlocks := Bz.notSynchronized
  have hP : va_P D vwCl [(m0, .inr (6, [.ref w0, .ref w1, .ref w2, .int ik, .ref w3, .int (nI tx), .int (nI hp), .int (nI f9), .ref w4, .ref w5, .int (nI cl), .ref w6, .ref w7, .ref w8, .ref w9])), (w3, .inl (E 0, 100, .inl tg))] s.heap := hP
  obtain ⟨A, hAe⟩ : ∃ A : Nat → Prop, A = zw_A [(m0, .inr (6, [.ref w0, .ref w1, .ref w2, .int ik, .ref w3, .int (nI tx), .int (nI hp), .int (nI f9), .ref w4, .ref w5, .int (nI cl), .ref w6, .ref w7, .ref w8, .ref w9])), (w3, .inl (E 0, 100, .inl tg))] := ⟨_, rfl⟩
  have hD : va_D A [(m0, .inr (6, [.ref w0, .ref w1, .ref w2, .int ik, .ref w3, .int (nI tx), .int (nI hp), .int (nI f9), .ref w4, .ref w5, .int (nI cl), .ref w6, .ref w7, .ref w8, .ref w9])), (w3, .inl (E 0, 100, .inl tg))] := hAe ▸ zw_own hD0
  have hS : va_S A s.heap s.heap [] := va_S.rf
  have hl := lv_entry ([.ref m0, .int (nI c9)]) (n := 2) (Nat.le_of_ble_eq_true rfl)
  rw [lg_entry_eq]
  generalize (lg_sl ([.ref m0, .int (nI c9)]) ++ List.replicate (2 - (lg_sl ([.ref m0, .int (nI c9)])).length) Slot.unset).toArray = ls at hl ⊢
  have hl : lv_has ls 2 [(0, .ref m0), (1, .int (nI c9))] := hl
  refine zr_nQ (fun Q hQ => ?_)
  refine lv_aload_n hx hb dX8_takes_0 rfl (lv_at hl 0 rfl) ?_
  refine va_get (D := D) (ci := 6) (v := .int (nI f9)) (C := RX8) (T := TX8) (N := 15) hx hb hts (by decide +kernel) hown hK.1 hP 0 rfl rfl 7 (by decide) (hts (.fieldLink RX8 106 "HomeRoundsModel" "fault" "I") (by decide +kernel)) (fun _ h9 => h9) rfl dX8_takes_1 ?_
  refine lv_if_ge (tgt := 28) hx hb dX8_takes_4 (by decide) (fun cn_1 => ?_) (fun cn_1 => ?_)
  · skip
    have cn_1 : 0 ≤ f9 := (nI_leI (a := 0) (b := f9) (by omega) (by omega)).mp cn_1
    refine lv_aload_n hx hb dX8_takes_28 rfl (lv_at hl 0 rfl) ?_
    refine lv_aload_n hx hb dX8_takes_29 rfl (lv_at hl 0 rfl) ?_
    refine va_get (D := D) (ci := 6) (v := .int (nI hp)) (C := RX8) (T := TX8) (N := 15) hx hb hts (by decide +kernel) hown hK.1 hP 0 rfl rfl 6 (by decide) (hts (.fieldLink RX8 103 "HomeRoundsModel" "here" "I") (by decide +kernel)) (fun _ h9 => h9) rfl dX8_takes_30 ?_
    have hPc := hP.sub (ws' := [(m0, .inr (6, [.ref w0, .ref w1, .ref w2, .int ik, .ref w3, .int (nI tx), .int (nI hp), .int (nI f9), .ref w4, .ref w5, .int (nI cl), .ref w6, .ref w7, .ref w8, .ref w9])), (w3, .inl (E 0, 100, .inl tg))]) [0, 1] rfl
    have hDc := hD.sub (ws' := [(m0, .inr (6, [.ref w0, .ref w1, .ref w2, .int ik, .ref w3, .int (nI tx), .int (nI hp), .int (nI f9), .ref w4, .ref w5, .int (nI cl), .ref w6, .ref w7, .ref w8, .ref w9])), (w3, .inl (E 0, 100, .inl tg))]) [0, 1] (by decide +kernel) rfl
    have hAc := zw_AA (wc := [(m0, .inr (6, [.ref w0, .ref w1, .ref w2, .int ik, .ref w3, .int (nI tx), .int (nI hp), .int (nI f9), .ref w4, .ref w5, .int (nI cl), .ref w6, .ref w7, .ref w8, .ref w9])), (w3, .inl (E 0, 100, .inl tg))]) hD [0, 1] rfl
    refine zw_cv hAc hS (va_runV (As := [.int (nI hp)]) (rest := []) ⟨hx, hb, hml, hown, hts⟩ (c_X8_fails_f l D E m0 w0 w1 w2 w3 w4 w5 w6 w7 w8 w9 ik tx cl wv hp tg T hp f9 (htx) (by omega) (by omega)) (cwV 1 hts gX8_takes_X8_fails rfl rfl rfl (by decide +kernel) ⟨Nat.le_of_ble_eq_true rfl, Nat.le_of_ble_eq_true rfl⟩) (zw_V hK hPc hDc (ci := 6) (q0 := 0) rfl rfl) rfl rfl hl.1 rfl (lv_room (Nat.le_of_ble_eq_true rfl)) dX8_takes_33 ⟨Nat.zero_le _, Nat.zero_le _⟩) (fun u_4 H locs hw_3 hP1 hD1 hk1 hS => ?_)
    obtain ⟨hP, hD⟩ := zw_join (wr := []) (w1 := [(m0, .inr (6, [.ref w0, .ref w1, .ref w2, .int ik, .ref w3, .int (nI tx), .int (nI hp), .int (nI f9), .ref w4, .ref w5, .int (nI cl), .ref w6, .ref w7, .ref w8, .ref w9])), (w3, .inl (E 0, 100, .inl tg))]) (ws' := [(m0, .inr (6, [.ref w0, .ref w1, .ref w2, .int ik, .ref w3, .int (nI tx), .int (nI hp), .int (nI f9), .ref w4, .ref w5, .int (nI cl), .ref w6, .ref w7, .ref w8, .ref w9])), (w3, .inl (E 0, 100, .inl tg))]) hP hD [0, 1] [] [0, 1] rfl rfl (by decide +kernel) (by decide +kernel) hAc hk1 hP1 hD1 (by decide +kernel) rfl
    clear hP1 hD1 hk1 hPc hDc hAc
    subst hQ; subst hAe
    exact W.vret hx hb hr (fun tz htz hWz => ⟨⟨(), rfl, trivial, by rw [htz]; exact hP, hD⟩, hS.F htz⟩) hS.2.2 dX8_takes_36
  · skip
    have cn_1 : ¬ (0 ≤ f9) := fun hz => cn_1 ((nI_leI (a := 0) (b := f9) (by omega) (by omega)).mpr hz)
    exfalso; omega

set_option maxHeartbeats 4000000 in
set_option maxRecDepth 100000 in
theorem c_X8_word (l : Launch) (D : va_G) (E : Nat → ClassId) (adK adV ad : Nat → Nat) (wa sa : Nat) (m0 : Nat) (w0 : Nat) (w1 : Nat) (w2 : Nat) (w3 : Nat) (w4 : Nat) (w5 : Nat) (w6 : Nat) (w7 : Nat) (w8 : Nat) (w9 : Nat) (ik : Int32) (tx : Nat) (cl : Nat) (wv : Nat → Int32) (hp : Nat) (tg : Nat → Int32) (T : Nat → Nat) (htx : zx_T tx T tg) (hpt8 : hp ≤ tx) : Met l yX8_word wsX8_word ({ frames := 5, cells := 0, slots := 0, locals := 106 }) (zwE_P D E adK adV ad wa sa [.ref m0] [(m0, .inr (6, [.ref w0, .ref w1, .ref w2, .int ik, .ref w3, .int (nI tx), .int (nI hp), .int (-1), .ref w4, .ref w5, .int (nI cl), .ref w6, .ref w7, .ref w8, .ref w9])), (w3, .inl (E 0, 100, .inl tg))]) (zw_Qi D [(m0, .inr (6, [.ref w0, .ref w1, .ref w2, .int ik, .ref w3, .int (nI tx), .int (nI hp), .int (-1), .ref w4, .ref w5, .int (nI cl), .ref w6, .ref w7, .ref w8, .ref w9])), (w3, .inl (E 0, 100, .inl tg))] (fun zv (u : (Nat) × (Int32)) => zv = zx_wz (zx_cw T tx hp) ∧ u.1 = zx_we T tx 100 hp ∧ u.2 = (if zx_cw T tx hp < 8 then -1 else nI hp)) (fun (u : (Nat) × (Int32)) => [(m0, .inr (6, [.ref w0, .ref w1, .ref w2, .int ik, .ref w3, .int (nI tx), .int (nI u.1), .int u.2, .ref w4, .ref w5, .int (nI cl), .ref w6, .ref w7, .ref w8, .ref w9])), (w3, .inl (E 0, 100, .inl tg))])) 0 0 (zw_A [(m0, .inr (6, [.ref w0, .ref w1, .ref w2, .int ik, .ref w3, .int (nI tx), .int (nI hp), .int (-1), .ref w4, .ref w5, .int (nI cl), .ref w6, .ref w7, .ref w8, .ref w9])), (w3, .inl (E 0, 100, .inl tg))]) := by
  refine Met.ofW (cc := cX8_word) (maxL := 7) (ret := (some .int)) (by decide) rfl ?_
  intro p e s m args below meth c s₁ Bz hml hv
  obtain ⟨rfl, hP, hK, hD0, hE, hR⟩ := hv
  have hx := Bz.exec
  have hb := Bz.bytes
  have hr := Bz.returns
  have hts := atoms_spec (ws := wsX8_word) Bz.pre
  have hown : s.vm.findClass RX8 = some m.cls := findClass_of_methodNamed Bz.named
  have hlocks := Bz.notSynchronized
  have hP : va_P D vwCl [(m0, .inr (6, [.ref w0, .ref w1, .ref w2, .int ik, .ref w3, .int (nI tx), .int (nI hp), .int (-1), .ref w4, .ref w5, .int (nI cl), .ref w6, .ref w7, .ref w8, .ref w9])), (w3, .inl (E 0, 100, .inl tg))] s.heap := hP
  obtain ⟨A, hAe⟩ : ∃ A : Nat → Prop, A = zw_A [(m0, .inr (6, [.ref w0, .ref w1, .ref w2, .int ik, .ref w3, .int (nI tx), .int (nI hp), .int (-1), .ref w4, .ref w5, .int (nI cl), .ref w6, .ref w7, .ref w8, .ref w9])), (w3, .inl (E 0, 100, .inl tg))] := ⟨_, rfl⟩
  have hD : va_D A [(m0, .inr (6, [.ref w0, .ref w1, .ref w2, .int ik, .ref w3, .int (nI tx), .int (nI hp), .int (-1), .ref w4, .ref w5, .int (nI cl), .ref w6, .ref w7, .ref w8, .ref w9])), (w3, .inl (E 0, 100, .inl tg))] := hAe ▸ zw_own hD0
  have hE : zc_E adK adV ad wa sa A s s.heap := by rw [hAe]; exact hE
  have hS : va_S A s.heap s.heap [] := va_S.rf
  have hl := lv_entry ([.ref m0]) (n := 7) (Nat.le_of_ble_eq_true rfl)
  rw [lg_entry_eq]
  generalize (lg_sl ([.ref m0]) ++ List.replicate (7 - (lg_sl ([.ref m0])).length) Slot.unset).toArray = ls at hl ⊢
  have hl : lv_has ls 7 [(0, .ref m0)] := hl
  refine zr_nQ (fun Q hQ => ?_)
  have htx1 := htx.1
  have htx2 := htx.2
  refine lv_aload_n hx hb dX8_word_0 rfl (lv_at hl 0 rfl) ?_
  refine va_get (D := D) (ci := 6) (v := .int (nI hp)) (C := RX8) (T := TX8) (N := 15) hx hb hts (by decide +kernel) hown hK.1 hP 0 rfl rfl 6 (by decide) (hts (.fieldLink RX8 103 "HomeRoundsModel" "here" "I") (by decide +kernel)) (fun _ h9 => h9) rfl dX8_word_1 ?_
  refine lv_istore_n (lv' := [(1, .int (nI hp)), (0, .ref m0)]) hx hb dX8_word_4 rfl hl (by decide) rfl (fun ls hl => ?_)
  suffices KL5 : ∀ (kz : Nat) (i : Nat) (p8 : Nat) (H : Heap) (locs : List Loc) (ls : Array Slot), (101 - i) < kz → (zx_we T tx 100 hp = zx_we T tx (100 - i) p8) → (p8 = hp + i) → (p8 ≤ tx) → va_P D vwCl [(m0, .inr (6, [.ref w0, .ref w1, .ref w2, .int ik, .ref w3, .int (nI tx), .int (nI p8), .int (-1), .ref w4, .ref w5, .int (nI cl), .ref w6, .ref w7, .ref w8, .ref w9])), (w3, .inl (E 0, 100, .inl tg))] H → va_D A [(m0, .inr (6, [.ref w0, .ref w1, .ref w2, .int ik, .ref w3, .int (nI tx), .int (nI p8), .int (-1), .ref w4, .ref w5, .int (nI cl), .ref w6, .ref w7, .ref w8, .ref w9])), (w3, .inl (E 0, 100, .inl tg))] → va_S A s.heap H locs → lv_has ls 7 [(0, .ref m0), (1, .int (nI hp))] → W p l e (headSpec wsX8_word ({ frames := 5, cells := 0, slots := 0, locals := 106 })).room s m ([.ref m0] : List Value).toArray below meth c H locs 0 0 Q (F0 m 5 ls []) from
    KL5 _ 0 hp _ _ ls (Nat.lt_succ_self _) (rfl) (rfl) (by omega) hP hD hS (lv_sub hl [1, 0] rfl)
  clear hP hS hl hD
  intro kz
  induction kz with
  | zero => intro i p8 H locs ls hkz; exact absurd hkz (Nat.not_lt_zero _)
  | succ kz ih5 =>
    intro i p8 H locs ls hkz hI hp8 hpx hP hD hS hl
    refine lv_aload_n hx hb dX8_word_5 rfl (lv_at hl 0 rfl) ?_
    refine zr_ci hP hS (va_runV (As := []) (rest := []) ⟨hx, hb, hml, hown, hts⟩ (c_X8_peek l D E m0 w0 w1 w2 w3 w4 w5 w6 w7 w8 w9 ik tx cl wv p8 tg T (-1) (htx) (by omega)) (cwV 0 hts gX8_word_X8_peek rfl rfl rfl (by decide +kernel) ⟨Nat.le_of_ble_eq_true rfl, Nat.le_of_ble_eq_true rfl⟩) (zr_V hK (hP.sub (ws' := [(m0, .inr (6, [.ref w0, .ref w1, .ref w2, .int ik, .ref w3, .int (nI tx), .int (nI p8), .int (-1), .ref w4, .ref w5, .int (nI cl), .ref w6, .ref w7, .ref w8, .ref w9])), (w3, .inl (E 0, 100, .inl tg))]) [0, 1] rfl) (ci := 6) (q0 := 0) rfl rfl) rfl rfl hl.1 rfl (lv_room (Nat.le_of_ble_eq_true rfl)) dX8_word_6 ⟨Nat.zero_le _, Nat.zero_le _⟩) (fun r_1 H locs hw_2 hP hS => ?_)
    subst hw_2
    rcases Nat.lt_or_ge p8 tx with hpt | hpt
    · skip
      refine zr_ti (y := nI (T p8)) (zx_sg_t hpt) ?_
      obtain ⟨ht1, -⟩ := htx2 _ hpt
      refine lv_bipush (v := nI 97) hx hb dX8_word_9 (by rfl) ?_
      refine lv_bipush (v := nI 122) hx hb dX8_word_11 (by rfl) ?_
      refine zr_ci hP hS (va_runS (As := [.int (nI (T p8)), .int (nI 97), .int (nI 122)]) (rest := []) ⟨hx, hb, hml, hown, hts⟩ (c_X8_isIn l D E (nI (T p8)) (nI 97) (nI 122) ) (va_cwS 3 hts gX8_word_X8_isIn rfl rfl rfl (by decide +kernel) ⟨Nat.le_of_ble_eq_true rfl, Nat.le_of_ble_eq_true rfl⟩) (zr_S hK (hP.sub (ws' := []) [] rfl)) rfl rfl hl.1 rfl (lv_room (Nat.le_of_ble_eq_true rfl)) dX8_word_13 ⟨Nat.zero_le _, Nat.zero_le _⟩) (fun r_3 H locs hw_4 hP hS => ?_)
      rcases hw_4 with ⟨rfl, hw_4⟩ | ⟨rfl, hw_4⟩
      · skip
        have hA := hw_4
        refine zr_ti (y := nI 1) rfl ?_
        refine lv_if_eq (tgt := 32) hx hb dX8_word_16 (by decide) (fun cn_5 => ?_) (fun cn_5 => ?_)
        · skip
          exact absurd cn_5 (by decide)
        · skip
          have hlet : zx_let T tx p8 = true := by first | exact zx_in_t hpt (zx_n_ge hA.1) (zx_n_le hA.2) | exact absurd hA.1 (by decide)
          have hplt := (zx_in_x hlet).1
          refine lv_aload_n hx hb dX8_word_19 rfl (lv_at hl 0 rfl) ?_
          refine lv_dup hx hb dX8_word_20 rfl ?_
          refine va_get (D := D) (ci := 6) (v := .int (nI p8)) (C := RX8) (T := TX8) (N := 15) hx hb hts (by decide +kernel) hown hK.1 hP 0 rfl rfl 6 (by decide) (hts (.fieldLink RX8 103 "HomeRoundsModel" "here" "I") (by decide +kernel)) (fun _ h9 => h9) rfl dX8_word_21 ?_
          refine lv_iconst (v := nI 1) hx hb dX8_word_24 (by rfl) ?_
          refine lv_iadd hx hb dX8_word_25 ?_
          refine zr_ti (y := nI (p8 + 1)) (nI_add _ _) ?_
          refine va_put (D := D) (ci := 6) (v := .int (nI (p8 + 1))) (ty := .int) (C := RX8) (T := TX8) (N := 15) hx hb hts (by decide +kernel) tyX8 tyX8_ok nmX8 hown hK.1 hP hD hS 0 rfl rfl 6 (by decide) (hts (.fieldLink RX8 103 "HomeRoundsModel" "here" "I") (by decide +kernel)) (fun _ h9 => h9) rfl (by decide +kernel) rfl rfl (Nat.le_of_ble_eq_true rfl) dX8_word_26 (fun H locs hP hD hS => ?_)
          have hP : va_P D vwCl [(m0, .inr (6, [.ref w0, .ref w1, .ref w2, .int ik, .ref w3, .int (nI tx), .int (nI (p8 + 1)), .int (-1), .ref w4, .ref w5, .int (nI cl), .ref w6, .ref w7, .ref w8, .ref w9])), (w3, .inl (E 0, 100, .inl tg))] H := hP
          have hD : va_D A [(m0, .inr (6, [.ref w0, .ref w1, .ref w2, .int ik, .ref w3, .int (nI tx), .int (nI (p8 + 1)), .int (-1), .ref w4, .ref w5, .int (nI cl), .ref w6, .ref w7, .ref w8, .ref w9])), (w3, .inl (E 0, 100, .inl tg))] := hD
          refine lv_goto (tgt := 5) hx hb dX8_word_29 (by decide) ?_
          have hl : lv_has ls 7 [(0, .ref m0), (1, .int (nI hp))] := lv_sub hl [0, 1] rfl
          exact ih5 (i + 1) (p8 + 1) H locs ls (by omega) (by rw [hI, zx_we_s (by omega) hlet]) (by omega) (by omega) hP hD hS hl
      · skip
        have hnA := hw_4
        refine zr_ti (y := nI 0) rfl ?_
        refine lv_if_eq (tgt := 32) hx hb dX8_word_16 (by decide) (fun cn_6 => ?_) (fun cn_6 => ?_)
        · skip
          have hnl : zx_let T tx p8 = false := by first | exact zx_in_f (by omega) | exact zx_in_f (fun q => zx_n_no hnA q.2.1 q.2.2)
          have hpe : p8 = zx_we T tx 100 hp := (hI.trans (zx_we_e hnl)).symm
          have hle1 := zx_we_ge (T := T) (L := tx) 100 hp
          have hle2 := zx_we_le (T := T) (L := tx) 100 hp hpt8
          rw [hpe] at hP hD
          refine lv_iconst (v := nI 0) hx hb dX8_word_32 (by rfl) ?_
          refine lv_istore_n (lv' := [(2, .int (nI 0)), (0, .ref m0), (1, .int (nI hp))]) hx hb dX8_word_33 rfl hl (by decide) rfl (fun ls hl => ?_)
          refine lv_iconst (v := nI 0) hx hb dX8_word_34 (by rfl) ?_
          refine lv_istore_n (lv' := [(3, .int (nI 0)), (2, .int (nI 0)), (0, .ref m0), (1, .int (nI hp))]) hx hb dX8_word_35 rfl hl (by decide) rfl (fun ls hl => ?_)
          suffices KL36 : ∀ (kz : Nat) (wd8 : Nat) (H : Heap) (locs : List Loc) (ls : Array Slot), (8 - wd8) < kz → (zx_cw T tx hp = zx_wf T hp (zx_we T tx 100 hp) (8 - wd8) wd8) → (wd8 ≤ 8) → va_P D vwCl [(m0, .inr (6, [.ref w0, .ref w1, .ref w2, .int ik, .ref w3, .int (nI tx), .int (nI (zx_we T tx 100 hp)), .int (-1), .ref w4, .ref w5, .int (nI cl), .ref w6, .ref w7, .ref w8, .ref w9])), (w3, .inl (E 0, 100, .inl tg))] H → va_D A [(m0, .inr (6, [.ref w0, .ref w1, .ref w2, .int ik, .ref w3, .int (nI tx), .int (nI (zx_we T tx 100 hp)), .int (-1), .ref w4, .ref w5, .int (nI cl), .ref w6, .ref w7, .ref w8, .ref w9])), (w3, .inl (E 0, 100, .inl tg))] → va_S A s.heap H locs → lv_has ls 7 [(0, .ref m0), (1, .int (nI hp)), (2, .int (nI (zx_bg wd8))), (3, .int (nI wd8))] → W p l e (headSpec wsX8_word ({ frames := 5, cells := 0, slots := 0, locals := 106 })).room s m ([.ref m0] : List Value).toArray below meth c H locs 0 0 Q (F0 m 36 ls []) from
            KL36 _ 0 _ _ ls (Nat.lt_succ_self _) (rfl) (by omega) hP hD hS (lv_sub hl [2, 3, 1, 0] rfl)
          clear hP hS hl hD
          intro kz
          induction kz with
          | zero => intro wd8 H locs ls hkz; exact absurd hkz (Nat.not_lt_zero _)
          | succ kz ih36 =>
            intro wd8 H locs ls hkz hJ hw8 hP hD hS hl
            refine lv_iload_n hx hb dX8_word_36 rfl (lv_at hl 3 rfl) ?_
            refine lv_bipush (v := nI 8) hx hb dX8_word_37 (by rfl) ?_
            refine lv_icmp_ge (tgt := 143) hx hb dX8_word_39 (by decide) (fun cn_7 => ?_) (fun cn_7 => ?_)
            · skip
              have cn_7 : 8 ≤ wd8 := (nI_leI (a := 8) (b := wd8) (by omega) (by omega)).mp cn_7
              have hwe8 : wd8 = 8 := by omega
              refine lv_aload_n hx hb dX8_word_143 rfl (lv_at hl 0 rfl) ?_
              refine lv_iload_n hx hb dX8_word_144 rfl (lv_at hl 1 rfl) ?_
              have hPc := hP.sub (ws' := [(m0, .inr (6, [.ref w0, .ref w1, .ref w2, .int ik, .ref w3, .int (nI tx), .int (nI (zx_we T tx 100 hp)), .int (-1), .ref w4, .ref w5, .int (nI cl), .ref w6, .ref w7, .ref w8, .ref w9])), (w3, .inl (E 0, 100, .inl tg))]) [0, 1] rfl
              have hDc := hD.sub (ws' := [(m0, .inr (6, [.ref w0, .ref w1, .ref w2, .int ik, .ref w3, .int (nI tx), .int (nI (zx_we T tx 100 hp)), .int (-1), .ref w4, .ref w5, .int (nI cl), .ref w6, .ref w7, .ref w8, .ref w9])), (w3, .inl (E 0, 100, .inl tg))]) [0, 1] (by decide +kernel) rfl
              have hAc := zw_AA (wc := [(m0, .inr (6, [.ref w0, .ref w1, .ref w2, .int ik, .ref w3, .int (nI tx), .int (nI (zx_we T tx 100 hp)), .int (-1), .ref w4, .ref w5, .int (nI cl), .ref w6, .ref w7, .ref w8, .ref w9])), (w3, .inl (E 0, 100, .inl tg))]) hD [0, 1] rfl
              refine zw_cv hAc hS (va_runV (As := [.int (nI hp)]) (rest := []) ⟨hx, hb, hml, hown, hts⟩ (c_X8_fails_n l D E m0 w0 w1 w2 w3 w4 w5 w6 w7 w8 w9 ik tx cl wv (zx_we T tx 100 hp) tg T hp (htx) (by omega)) (cwV 1 hts gX8_word_X8_fails rfl rfl rfl (by decide +kernel) ⟨Nat.le_of_ble_eq_true rfl, Nat.le_of_ble_eq_true rfl⟩) (zw_V hK hPc hDc (ci := 6) (q0 := 0) rfl rfl) rfl rfl hl.1 rfl (lv_room (Nat.le_of_ble_eq_true rfl)) dX8_word_145 ⟨Nat.zero_le _, Nat.zero_le _⟩) (fun u_10 H locs hw_9 hP1 hD1 hk1 hS => ?_)
              obtain ⟨hP, hD⟩ := zw_join (wr := []) (w1 := [(m0, .inr (6, [.ref w0, .ref w1, .ref w2, .int ik, .ref w3, .int (nI tx), .int (nI (zx_we T tx 100 hp)), .int (nI hp), .ref w4, .ref w5, .int (nI cl), .ref w6, .ref w7, .ref w8, .ref w9])), (w3, .inl (E 0, 100, .inl tg))]) (ws' := [(m0, .inr (6, [.ref w0, .ref w1, .ref w2, .int ik, .ref w3, .int (nI tx), .int (nI (zx_we T tx 100 hp)), .int (nI hp), .ref w4, .ref w5, .int (nI cl), .ref w6, .ref w7, .ref w8, .ref w9])), (w3, .inl (E 0, 100, .inl tg))]) hP hD [0, 1] [] [0, 1] rfl rfl (by decide +kernel) (by decide +kernel) hAc hk1 hP1 hD1 (by decide +kernel) rfl
              clear hP1 hD1 hk1 hPc hDc hAc
              refine lv_iconst (v := (-1)) hx hb dX8_word_148 (by rfl) ?_
              subst hQ; subst hAe
              exact W.iret (v := (-1)) hx hb hr (fun tz htz hWz => ⟨⟨(-1), (zx_we T tx 100 hp, nI hp), rfl, ⟨by rw [hJ, hwe8]; rfl, rfl, by rw [hJ, hwe8]; rfl⟩, by rw [htz]; exact hP, hD⟩, hS.F htz⟩) hS.2.2 dX8_word_149
            · skip
              have cn_7 : ¬ (8 ≤ wd8) := fun hz => cn_7 ((nI_leI (a := 8) (b := wd8) (by omega) (by omega)).mpr hz)
              have hw : wd8 < 8 := by omega
              obtain ⟨hg1, hg2, hg3, hg4⟩ := zx_bgE wd8 hw
              have hlnw := zc_lnS wd8 (by show wd8 < 13; omega)
              refine va_ldcS hx hb hown hR dX8_word_42 ?_
              refine lv_bipush (v := nI 32) hx hb dX8_word_44 (by rfl) ?_
              refine lv_iload_n hx hb dX8_word_46 rfl (lv_at hl 2 rfl) ?_
              refine zr_ci hP hS (va_runV (As := [.int (nI 32), .int (nI (zx_bg wd8))]) (rest := []) ⟨hx, hb, hml, hown, hts⟩ (c_J0_indexOf_7cf53 l D E adK adV ad wa sa 12 32 (zx_bg wd8) ((by decide)) (by omega) (hg2)) (cwV 2 hts gX8_word_J0_indexOf_7cf53 rfl rfl rfl (by decide +kernel) ⟨Nat.le_of_ble_eq_true rfl, Nat.le_of_ble_eq_true rfl⟩) (zrE_VK (i := 12) (by decide) hE hR hS hK (hP.sub (ws' := []) [] rfl)) rfl rfl hl.1 rfl (lv_room (Nat.le_of_ble_eq_true rfl)) dX8_word_47 ⟨Nat.zero_le _, Nat.zero_le _⟩) (fun r_11 H locs hw_12 hP hS => ?_)
              subst hw_12
              refine zr_ti (y := nI (zx_bg wd8 + zc_len.getD wd8 0)) (hg1) ?_
              refine lv_istore (lv' := [(4, .int (nI (zx_bg wd8 + zc_len.getD wd8 0))), (0, .ref m0), (1, .int (nI hp)), (2, .int (nI (zx_bg wd8))), (3, .int (nI wd8))]) hx hb dX8_word_50 hl (by decide) rfl (fun ls hl => ?_)
              refine lv_iload hx hb dX8_word_52 (lv_at hl 0 rfl) ?_
              refine lv_iload_n hx hb dX8_word_54 rfl (lv_at hl 3 rfl) ?_
              refine lv_isub hx hb dX8_word_55 ?_
              refine zr_ti (y := nI (zc_len.getD wd8 0)) ((pk_sub (by omega)).trans (congrArg nI (by omega))) ?_
              refine lv_aload_n hx hb dX8_word_56 rfl (lv_at hl 1 rfl) ?_
              refine va_get (D := D) (ci := 6) (v := .int (nI (zx_we T tx 100 hp))) (C := RX8) (T := TX8) (N := 15) hx hb hts (by decide +kernel) hown hK.1 hP 0 rfl rfl 6 (by decide) (hts (.fieldLink RX8 103 "HomeRoundsModel" "here" "I") (by decide +kernel)) (fun _ h9 => h9) rfl dX8_word_57 ?_
              refine lv_iload_n hx hb dX8_word_60 rfl (lv_at hl 2 rfl) ?_
              refine lv_isub hx hb dX8_word_61 ?_
              refine zr_ti (y := nI ((zx_we T tx 100 hp) - hp)) (pk_sub (by omega)) ?_
              refine lv_icmp_ne (tgt := 69) hx hb dX8_word_62 (by decide) (fun cn_13 => ?_) (fun cn_13 => ?_)
              · skip
                have cn_13 : ¬ (zc_len.getD wd8 0 = (zx_we T tx 100 hp) - hp) := fun hz => cn_13 ((nI_eq (a := zc_len.getD wd8 0) (b := (zx_we T tx 100 hp) - hp) (by omega) (by omega)).mpr hz)
                have hlq : ¬ zc_len.getD wd8 0 = (zx_we T tx 100 hp) - hp := cn_13
                refine lv_iconst (v := nI 0) hx hb dX8_word_69 (by rfl) ?_
                refine lv_istore (lv' := [(5, .int (nI 0)), (4, .int (nI (zx_bg wd8 + zc_len.getD wd8 0))), (0, .ref m0), (1, .int (nI hp)), (2, .int (nI (zx_bg wd8))), (3, .int (nI wd8))]) hx hb dX8_word_70 hl (by decide) rfl (fun ls hl => ?_)
                refine lv_iconst (v := nI 0) hx hb dX8_word_72 (by rfl) ?_
                refine lv_istore (lv' := [(6, .int (nI 0)), (5, .int (nI 0)), (4, .int (nI (zx_bg wd8 + zc_len.getD wd8 0))), (0, .ref m0), (1, .int (nI hp)), (2, .int (nI (zx_bg wd8))), (3, .int (nI wd8))]) hx hb dX8_word_73 hl (by decide) rfl (fun ls hl => ?_)
                suffices KL75 : ∀ (kz : Nat) (k8 : Nat) (b8 : Nat) (H : Heap) (locs : List Loc) (ls : Array Slot), ((zx_we T tx 100 hp) - hp - k8) < kz → (b8 = (decide (zc_len.getD wd8 0 = (zx_we T tx 100 hp) - hp) && zx_eq wd8 T hp k8).toNat) → (k8 ≤ (zx_we T tx 100 hp) - hp) → (b8 ≤ 1) → va_P D vwCl [(m0, .inr (6, [.ref w0, .ref w1, .ref w2, .int ik, .ref w3, .int (nI tx), .int (nI (zx_we T tx 100 hp)), .int (-1), .ref w4, .ref w5, .int (nI cl), .ref w6, .ref w7, .ref w8, .ref w9])), (w3, .inl (E 0, 100, .inl tg))] H → va_D A [(m0, .inr (6, [.ref w0, .ref w1, .ref w2, .int ik, .ref w3, .int (nI tx), .int (nI (zx_we T tx 100 hp)), .int (-1), .ref w4, .ref w5, .int (nI cl), .ref w6, .ref w7, .ref w8, .ref w9])), (w3, .inl (E 0, 100, .inl tg))] → va_S A s.heap H locs → lv_has ls 7 [(0, .ref m0), (1, .int (nI hp)), (2, .int (nI (zx_bg wd8))), (3, .int (nI wd8)), (4, .int (nI (zx_bg wd8 + zc_len.getD wd8 0))), (5, .int (nI b8)), (6, .int (nI k8))] → W p l e (headSpec wsX8_word ({ frames := 5, cells := 0, slots := 0, locals := 106 })).room s m ([.ref m0] : List Value).toArray below meth c H locs 0 0 Q (F0 m 75 ls []) from
                  KL75 _ 0 0 _ _ ls (Nat.lt_succ_self _) (by first | (rw [decide_eq_true hlq]; rfl) | (rw [decide_eq_false hlq]; rfl)) (Nat.zero_le _) (by omega) hP hD hS (lv_sub hl [3, 4, 5, 6, 2, 1, 0] rfl)
                clear hP hS hl hD
                intro kz
                induction kz with
                | zero => intro k8 b8 H locs ls hkz; exact absurd hkz (Nat.not_lt_zero _)
                | succ kz ih75 =>
                  intro k8 b8 H locs ls hkz hB hk8 hb8 hP hD hS hl
                  refine lv_iload hx hb dX8_word_75 (lv_at hl 6 rfl) ?_
                  refine lv_aload_n hx hb dX8_word_77 rfl (lv_at hl 0 rfl) ?_
                  refine va_get (D := D) (ci := 6) (v := .int (nI (zx_we T tx 100 hp))) (C := RX8) (T := TX8) (N := 15) hx hb hts (by decide +kernel) hown hK.1 hP 0 rfl rfl 6 (by decide) (hts (.fieldLink RX8 103 "HomeRoundsModel" "here" "I") (by decide +kernel)) (fun _ h9 => h9) rfl dX8_word_78 ?_
                  refine lv_iload_n hx hb dX8_word_81 rfl (lv_at hl 1 rfl) ?_
                  refine lv_isub hx hb dX8_word_82 ?_
                  refine zr_ti (y := nI ((zx_we T tx 100 hp) - hp)) (pk_sub (by omega)) ?_
                  refine lv_icmp_ge (tgt := 125) hx hb dX8_word_83 (by decide) (fun cn_14 => ?_) (fun cn_14 => ?_)
                  · skip
                    have cn_14 : (zx_we T tx 100 hp) - hp ≤ k8 := (nI_leI (a := (zx_we T tx 100 hp) - hp) (b := k8) (by omega) (by omega)).mp cn_14
                    have hke : k8 = (zx_we T tx 100 hp) - hp := by omega
                    have hst9 : zx_st wd8 T hp (zx_we T tx 100 hp) = decide (b8 = 1) := zx_st_b hB hk8 (by omega)
                    refine lv_iload hx hb dX8_word_125 (lv_at hl 5 rfl) ?_
                    refine lv_if_eq (tgt := 132) hx hb dX8_word_127 (by decide) (fun cn_15 => ?_) (fun cn_15 => ?_)
                    · skip
                      have cn_15 : b8 = 0 := (nI_eq (a := b8) (b := 0) (by omega) (by omega)).mp cn_15
                      have hst : zx_st wd8 T hp (zx_we T tx 100 hp) = false := hst9.trans (decide_eq_false (by omega))
                      refine lv_iload hx hb dX8_word_132 (lv_at hl 4 rfl) ?_
                      refine lv_iconst (v := nI 1) hx hb dX8_word_134 (by rfl) ?_
                      refine lv_iadd hx hb dX8_word_135 ?_
                      refine zr_ti (y := nI (zx_bg (wd8 + 1))) ((nI_add _ _).trans (congrArg nI hg4.symm)) ?_
                      refine lv_istore_n (lv' := [(2, .int (nI (zx_bg (wd8 + 1)))), (0, .ref m0), (1, .int (nI hp)), (3, .int (nI wd8)), (4, .int (nI (zx_bg wd8 + zc_len.getD wd8 0))), (5, .int (nI b8)), (6, .int (nI k8))]) hx hb dX8_word_136 rfl hl (by decide) rfl (fun ls hl => ?_)
                      refine lv_iinc (v := nI (wd8 + 1)) (lv' := [(3, .int (nI (wd8 + 1))), (2, .int (nI (zx_bg (wd8 + 1)))), (0, .ref m0), (1, .int (nI hp)), (4, .int (nI (zx_bg wd8 + zc_len.getD wd8 0))), (5, .int (nI b8)), (6, .int (nI k8))]) hx hb dX8_word_137 hl (k := 3) rfl (nI_add _ _) (by decide) rfl (fun ls hl => ?_)
                      refine lv_goto (tgt := 36) hx hb dX8_word_140 (by decide) ?_
                      have hl : lv_has ls 7 [(0, .ref m0), (1, .int (nI hp)), (2, .int (nI (zx_bg (wd8 + 1)))), (3, .int (nI (wd8 + 1)))] := lv_sub hl [2, 3, 1, 0] rfl
                      exact ih36 (wd8 + 1) H locs ls (by omega) (by rw [hJ, zx_wf_s hw]; exact if_neg (by rw [hst]; exact Bool.noConfusion)) (by omega) hP hD hS hl
                    · skip
                      have cn_15 : ¬ (b8 = 0) := fun hz => cn_15 ((nI_eq (a := b8) (b := 0) (by omega) (by omega)).mpr hz)
                      have hst : zx_st wd8 T hp (zx_we T tx 100 hp) = true := hst9.trans (decide_eq_true (by omega))
                      refine lv_iload_n hx hb dX8_word_130 rfl (lv_at hl 3 rfl) ?_
                      subst hQ; subst hAe
                      exact W.iret (v := nI wd8) hx hb hr (fun tz htz hWz => ⟨⟨nI wd8, (zx_we T tx 100 hp, (-1)), rfl, ⟨by rw [hJ, zx_wf_s hw, if_pos hst]; exact (if_pos hw).symm, rfl, by rw [hJ, zx_wf_s hw, if_pos hst, if_pos hw]⟩, by rw [htz]; exact hP, hD⟩, hS.F htz⟩) hS.2.2 dX8_word_131
                  · skip
                    have cn_14 : ¬ ((zx_we T tx 100 hp) - hp ≤ k8) := fun hz => cn_14 ((nI_leI (a := (zx_we T tx 100 hp) - hp) (b := k8) (by omega) (by omega)).mpr hz)
                    refine lv_iload hx hb dX8_word_86 (lv_at hl 5 rfl) ?_
                    refine lv_if_eq (tgt := 125) hx hb dX8_word_88 (by decide) (fun cn_16 => ?_) (fun cn_16 => ?_)
                    · skip
                      have cn_16 : b8 = 0 := (nI_eq (a := b8) (b := 0) (by omega) (by omega)).mp cn_16
                      have hb0 : b8 = 0 := by omega
                      have hst9 : zx_st wd8 T hp (zx_we T tx 100 hp) = decide (b8 = 1) := zx_st_b hB hk8 (by omega)
                      refine lv_iload hx hb dX8_word_125 (lv_at hl 5 rfl) ?_
                      refine lv_if_eq (tgt := 132) hx hb dX8_word_127 (by decide) (fun cn_17 => ?_) (fun cn_17 => ?_)
                      · skip
                        have cn_17 : b8 = 0 := (nI_eq (a := b8) (b := 0) (by omega) (by omega)).mp cn_17
                        have hst : zx_st wd8 T hp (zx_we T tx 100 hp) = false := hst9.trans (decide_eq_false (by omega))
                        refine lv_iload hx hb dX8_word_132 (lv_at hl 4 rfl) ?_
                        refine lv_iconst (v := nI 1) hx hb dX8_word_134 (by rfl) ?_
                        refine lv_iadd hx hb dX8_word_135 ?_
                        refine zr_ti (y := nI (zx_bg (wd8 + 1))) ((nI_add _ _).trans (congrArg nI hg4.symm)) ?_
                        refine lv_istore_n (lv' := [(2, .int (nI (zx_bg (wd8 + 1)))), (0, .ref m0), (1, .int (nI hp)), (3, .int (nI wd8)), (4, .int (nI (zx_bg wd8 + zc_len.getD wd8 0))), (5, .int (nI b8)), (6, .int (nI k8))]) hx hb dX8_word_136 rfl hl (by decide) rfl (fun ls hl => ?_)
                        refine lv_iinc (v := nI (wd8 + 1)) (lv' := [(3, .int (nI (wd8 + 1))), (2, .int (nI (zx_bg (wd8 + 1)))), (0, .ref m0), (1, .int (nI hp)), (4, .int (nI (zx_bg wd8 + zc_len.getD wd8 0))), (5, .int (nI b8)), (6, .int (nI k8))]) hx hb dX8_word_137 hl (k := 3) rfl (nI_add _ _) (by decide) rfl (fun ls hl => ?_)
                        refine lv_goto (tgt := 36) hx hb dX8_word_140 (by decide) ?_
                        have hl : lv_has ls 7 [(0, .ref m0), (1, .int (nI hp)), (2, .int (nI (zx_bg (wd8 + 1)))), (3, .int (nI (wd8 + 1)))] := lv_sub hl [2, 3, 1, 0] rfl
                        exact ih36 (wd8 + 1) H locs ls (by omega) (by rw [hJ, zx_wf_s hw]; exact if_neg (by rw [hst]; exact Bool.noConfusion)) (by omega) hP hD hS hl
                      · skip
                        have cn_17 : ¬ (b8 = 0) := fun hz => cn_17 ((nI_eq (a := b8) (b := 0) (by omega) (by omega)).mpr hz)
                        have hst : zx_st wd8 T hp (zx_we T tx 100 hp) = true := hst9.trans (decide_eq_true (by omega))
                        refine lv_iload_n hx hb dX8_word_130 rfl (lv_at hl 3 rfl) ?_
                        subst hQ; subst hAe
                        exact W.iret (v := nI wd8) hx hb hr (fun tz htz hWz => ⟨⟨nI wd8, (zx_we T tx 100 hp, (-1)), rfl, ⟨by rw [hJ, zx_wf_s hw, if_pos hst]; exact (if_pos hw).symm, rfl, by rw [hJ, zx_wf_s hw, if_pos hst, if_pos hw]⟩, by rw [htz]; exact hP, hD⟩, hS.F htz⟩) hS.2.2 dX8_word_131
                    · skip
                      have cn_16 : ¬ (b8 = 0) := fun hz => cn_16 ((nI_eq (a := b8) (b := 0) (by omega) (by omega)).mpr hz)
                      obtain ⟨hB1, hB2⟩ := zx_b1 hB (by omega)
                      have hkl : k8 < zc_len.getD wd8 0 := by have := of_decide_eq_true hB1; omega
                      obtain ⟨ht1, ht2⟩ := htx2 (hp + k8) (by omega)
                      have hch := zx_bgC wd8 hw k8 hkl
                      obtain ⟨-, hc2⟩ := zc_chE wd8 (by show wd8 < 13; omega) k8 hkl
                      refine va_ldcS hx hb hown hR dX8_word_91 ?_
                      refine lv_iload_n hx hb dX8_word_93 rfl (lv_at hl 2 rfl) ?_
                      refine lv_iload hx hb dX8_word_94 (lv_at hl 6 rfl) ?_
                      refine lv_iadd hx hb dX8_word_96 ?_
                      refine zr_ti (y := nI ((zx_bg wd8) + k8)) (nI_add _ _) ?_
                      refine zr_ci hP hS (va_runV (As := [.int (nI ((zx_bg wd8) + k8))]) (rest := []) ⟨hx, hb, hml, hown, hts⟩ (c_J0_charAt_5068e l D E adK adV ad wa sa 12 (zx_bg wd8 + k8) ((by decide)) ((by show zx_bg wd8 + k8 < 38; omega))) (cwV 1 hts gX8_word_J0_charAt_5068e rfl rfl rfl (by decide +kernel) ⟨Nat.le_of_ble_eq_true rfl, Nat.le_of_ble_eq_true rfl⟩) (zrE_VK (i := 12) (by decide) hE hR hS hK (hP.sub (ws' := []) [] rfl)) rfl rfl hl.1 rfl (lv_room (Nat.le_of_ble_eq_true rfl)) dX8_word_97 ⟨Nat.zero_le _, Nat.zero_le _⟩) (fun r_18 H locs hw_19 hP hS => ?_)
                      subst hw_19
                      refine zr_ti (y := nI (zc_ch wd8 k8)) (congrArg nI hch) ?_
                      refine lv_aload_n hx hb dX8_word_100 rfl (lv_at hl 0 rfl) ?_
                      refine va_get (D := D) (ci := 6) (v := .ref w3) (C := RX8) (T := TX8) (N := 15) hx hb hts (by decide +kernel) hown hK.1 hP 0 rfl rfl 4 (by decide) (hts (.fieldLink RX8 21 "HomeRoundsModel" "text" "[I") (by decide +kernel)) (fun _ h9 => h9) rfl dX8_word_101 ?_
                      refine lv_iload_n hx hb dX8_word_104 rfl (lv_at hl 1 rfl) ?_
                      refine lv_iload hx hb dX8_word_105 (lv_at hl 6 rfl) ?_
                      refine lv_iadd hx hb dX8_word_107 ?_
                      refine zr_ti (y := nI (hp + k8)) (nI_add _ _) ?_
                      refine va_iald hx hb hK.1 hP 1 0 rfl rfl (vp_in_nI (by omega) (by omega)) dX8_word_108 ?_
                      refine zr_ti (y := nI (T (hp + k8))) ((congrArg tg (nI_clamp (by omega))).trans (ht2)) ?_
                      refine lv_icmp_ne (tgt := 116) hx hb dX8_word_109 (by decide) (fun cn_20 => ?_) (fun cn_20 => ?_)
                      · skip
                        have cn_20 : ¬ (zc_ch wd8 k8 = T (hp + k8)) := fun hz => cn_20 ((nI_eq (a := zc_ch wd8 k8) (b := T (hp + k8)) (by omega) (by omega)).mpr hz)
                        have hbr := cn_20
                        refine lv_iconst (v := nI 0) hx hb dX8_word_116 (by rfl) ?_
                        refine lv_istore (lv' := [(5, .int (nI 0)), (0, .ref m0), (1, .int (nI hp)), (2, .int (nI (zx_bg wd8))), (3, .int (nI wd8)), (4, .int (nI (zx_bg wd8 + zc_len.getD wd8 0))), (6, .int (nI k8))]) hx hb dX8_word_117 hl (by decide) rfl (fun ls hl => ?_)
                        refine lv_iinc (v := nI (k8 + 1)) (lv' := [(6, .int (nI (k8 + 1))), (5, .int (nI 0)), (0, .ref m0), (1, .int (nI hp)), (2, .int (nI (zx_bg wd8))), (3, .int (nI wd8)), (4, .int (nI (zx_bg wd8 + zc_len.getD wd8 0)))]) hx hb dX8_word_119 hl (k := 6) rfl (nI_add _ _) (by decide) rfl (fun ls hl => ?_)
                        refine lv_goto (tgt := 75) hx hb dX8_word_122 (by decide) ?_
                        have hl : lv_has ls 7 [(0, .ref m0), (1, .int (nI hp)), (2, .int (nI (zx_bg wd8))), (3, .int (nI wd8)), (4, .int (nI (zx_bg wd8 + zc_len.getD wd8 0))), (5, .int (nI 0)), (6, .int (nI (k8 + 1)))] := lv_sub hl [2, 3, 4, 5, 6, 1, 0] rfl
                        exact ih75 (k8 + 1) 0 H locs ls (by omega) (by rw [zx_eq]; first | (rw [hB1, hB2, decide_eq_true hbr]; rfl) | (rw [hB1, decide_eq_false hbr, Bool.and_false, Bool.and_false]; rfl)) (by omega) (by omega) hP hD hS hl
                      · skip
                        have cn_20 : zc_ch wd8 k8 = T (hp + k8) := (nI_eq (a := zc_ch wd8 k8) (b := T (hp + k8)) (by omega) (by omega)).mp cn_20
                        have hbr := cn_20
                        refine lv_iconst (v := nI 1) hx hb dX8_word_112 (by rfl) ?_
                        refine lv_goto (tgt := 117) hx hb dX8_word_113 (by decide) ?_
                        refine lv_istore (lv' := [(5, .int (nI 1)), (0, .ref m0), (1, .int (nI hp)), (2, .int (nI (zx_bg wd8))), (3, .int (nI wd8)), (4, .int (nI (zx_bg wd8 + zc_len.getD wd8 0))), (6, .int (nI k8))]) hx hb dX8_word_117 hl (by decide) rfl (fun ls hl => ?_)
                        refine lv_iinc (v := nI (k8 + 1)) (lv' := [(6, .int (nI (k8 + 1))), (5, .int (nI 1)), (0, .ref m0), (1, .int (nI hp)), (2, .int (nI (zx_bg wd8))), (3, .int (nI wd8)), (4, .int (nI (zx_bg wd8 + zc_len.getD wd8 0)))]) hx hb dX8_word_119 hl (k := 6) rfl (nI_add _ _) (by decide) rfl (fun ls hl => ?_)
                        refine lv_goto (tgt := 75) hx hb dX8_word_122 (by decide) ?_
                        have hl : lv_has ls 7 [(0, .ref m0), (1, .int (nI hp)), (2, .int (nI (zx_bg wd8))), (3, .int (nI wd8)), (4, .int (nI (zx_bg wd8 + zc_len.getD wd8 0))), (5, .int (nI 1)), (6, .int (nI (k8 + 1)))] := lv_sub hl [2, 3, 4, 5, 6, 1, 0] rfl
                        exact ih75 (k8 + 1) 1 H locs ls (by omega) (by rw [zx_eq]; first | (rw [hB1, hB2, decide_eq_true hbr]; rfl) | (rw [hB1, decide_eq_false hbr, Bool.and_false, Bool.and_false]; rfl)) (by omega) (by omega) hP hD hS hl
              · skip
                have cn_13 : zc_len.getD wd8 0 = (zx_we T tx 100 hp) - hp := (nI_eq (a := zc_len.getD wd8 0) (b := (zx_we T tx 100 hp) - hp) (by omega) (by omega)).mp cn_13
                have hlq : zc_len.getD wd8 0 = (zx_we T tx 100 hp) - hp := cn_13
                refine lv_iconst (v := nI 1) hx hb dX8_word_65 (by rfl) ?_
                refine lv_goto (tgt := 70) hx hb dX8_word_66 (by decide) ?_
                refine lv_istore (lv' := [(5, .int (nI 1)), (4, .int (nI (zx_bg wd8 + zc_len.getD wd8 0))), (0, .ref m0), (1, .int (nI hp)), (2, .int (nI (zx_bg wd8))), (3, .int (nI wd8))]) hx hb dX8_word_70 hl (by decide) rfl (fun ls hl => ?_)
                refine lv_iconst (v := nI 0) hx hb dX8_word_72 (by rfl) ?_
                refine lv_istore (lv' := [(6, .int (nI 0)), (5, .int (nI 1)), (4, .int (nI (zx_bg wd8 + zc_len.getD wd8 0))), (0, .ref m0), (1, .int (nI hp)), (2, .int (nI (zx_bg wd8))), (3, .int (nI wd8))]) hx hb dX8_word_73 hl (by decide) rfl (fun ls hl => ?_)
                suffices KL75 : ∀ (kz : Nat) (k8 : Nat) (b8 : Nat) (H : Heap) (locs : List Loc) (ls : Array Slot), ((zx_we T tx 100 hp) - hp - k8) < kz → (b8 = (decide (zc_len.getD wd8 0 = (zx_we T tx 100 hp) - hp) && zx_eq wd8 T hp k8).toNat) → (k8 ≤ (zx_we T tx 100 hp) - hp) → (b8 ≤ 1) → va_P D vwCl [(m0, .inr (6, [.ref w0, .ref w1, .ref w2, .int ik, .ref w3, .int (nI tx), .int (nI (zx_we T tx 100 hp)), .int (-1), .ref w4, .ref w5, .int (nI cl), .ref w6, .ref w7, .ref w8, .ref w9])), (w3, .inl (E 0, 100, .inl tg))] H → va_D A [(m0, .inr (6, [.ref w0, .ref w1, .ref w2, .int ik, .ref w3, .int (nI tx), .int (nI (zx_we T tx 100 hp)), .int (-1), .ref w4, .ref w5, .int (nI cl), .ref w6, .ref w7, .ref w8, .ref w9])), (w3, .inl (E 0, 100, .inl tg))] → va_S A s.heap H locs → lv_has ls 7 [(0, .ref m0), (1, .int (nI hp)), (2, .int (nI (zx_bg wd8))), (3, .int (nI wd8)), (4, .int (nI (zx_bg wd8 + zc_len.getD wd8 0))), (5, .int (nI b8)), (6, .int (nI k8))] → W p l e (headSpec wsX8_word ({ frames := 5, cells := 0, slots := 0, locals := 106 })).room s m ([.ref m0] : List Value).toArray below meth c H locs 0 0 Q (F0 m 75 ls []) from
                  KL75 _ 0 1 _ _ ls (Nat.lt_succ_self _) (by first | (rw [decide_eq_true hlq]; rfl) | (rw [decide_eq_false hlq]; rfl)) (Nat.zero_le _) (by omega) hP hD hS (lv_sub hl [3, 4, 5, 6, 2, 1, 0] rfl)
                clear hP hS hl hD
                intro kz
                induction kz with
                | zero => intro k8 b8 H locs ls hkz; exact absurd hkz (Nat.not_lt_zero _)
                | succ kz ih75 =>
                  intro k8 b8 H locs ls hkz hB hk8 hb8 hP hD hS hl
                  refine lv_iload hx hb dX8_word_75 (lv_at hl 6 rfl) ?_
                  refine lv_aload_n hx hb dX8_word_77 rfl (lv_at hl 0 rfl) ?_
                  refine va_get (D := D) (ci := 6) (v := .int (nI (zx_we T tx 100 hp))) (C := RX8) (T := TX8) (N := 15) hx hb hts (by decide +kernel) hown hK.1 hP 0 rfl rfl 6 (by decide) (hts (.fieldLink RX8 103 "HomeRoundsModel" "here" "I") (by decide +kernel)) (fun _ h9 => h9) rfl dX8_word_78 ?_
                  refine lv_iload_n hx hb dX8_word_81 rfl (lv_at hl 1 rfl) ?_
                  refine lv_isub hx hb dX8_word_82 ?_
                  refine zr_ti (y := nI ((zx_we T tx 100 hp) - hp)) (pk_sub (by omega)) ?_
                  refine lv_icmp_ge (tgt := 125) hx hb dX8_word_83 (by decide) (fun cn_21 => ?_) (fun cn_21 => ?_)
                  · skip
                    have cn_21 : (zx_we T tx 100 hp) - hp ≤ k8 := (nI_leI (a := (zx_we T tx 100 hp) - hp) (b := k8) (by omega) (by omega)).mp cn_21
                    have hke : k8 = (zx_we T tx 100 hp) - hp := by omega
                    have hst9 : zx_st wd8 T hp (zx_we T tx 100 hp) = decide (b8 = 1) := zx_st_b hB hk8 (by omega)
                    refine lv_iload hx hb dX8_word_125 (lv_at hl 5 rfl) ?_
                    refine lv_if_eq (tgt := 132) hx hb dX8_word_127 (by decide) (fun cn_22 => ?_) (fun cn_22 => ?_)
                    · skip
                      have cn_22 : b8 = 0 := (nI_eq (a := b8) (b := 0) (by omega) (by omega)).mp cn_22
                      have hst : zx_st wd8 T hp (zx_we T tx 100 hp) = false := hst9.trans (decide_eq_false (by omega))
                      refine lv_iload hx hb dX8_word_132 (lv_at hl 4 rfl) ?_
                      refine lv_iconst (v := nI 1) hx hb dX8_word_134 (by rfl) ?_
                      refine lv_iadd hx hb dX8_word_135 ?_
                      refine zr_ti (y := nI (zx_bg (wd8 + 1))) ((nI_add _ _).trans (congrArg nI hg4.symm)) ?_
                      refine lv_istore_n (lv' := [(2, .int (nI (zx_bg (wd8 + 1)))), (0, .ref m0), (1, .int (nI hp)), (3, .int (nI wd8)), (4, .int (nI (zx_bg wd8 + zc_len.getD wd8 0))), (5, .int (nI b8)), (6, .int (nI k8))]) hx hb dX8_word_136 rfl hl (by decide) rfl (fun ls hl => ?_)
                      refine lv_iinc (v := nI (wd8 + 1)) (lv' := [(3, .int (nI (wd8 + 1))), (2, .int (nI (zx_bg (wd8 + 1)))), (0, .ref m0), (1, .int (nI hp)), (4, .int (nI (zx_bg wd8 + zc_len.getD wd8 0))), (5, .int (nI b8)), (6, .int (nI k8))]) hx hb dX8_word_137 hl (k := 3) rfl (nI_add _ _) (by decide) rfl (fun ls hl => ?_)
                      refine lv_goto (tgt := 36) hx hb dX8_word_140 (by decide) ?_
                      have hl : lv_has ls 7 [(0, .ref m0), (1, .int (nI hp)), (2, .int (nI (zx_bg (wd8 + 1)))), (3, .int (nI (wd8 + 1)))] := lv_sub hl [2, 3, 1, 0] rfl
                      exact ih36 (wd8 + 1) H locs ls (by omega) (by rw [hJ, zx_wf_s hw]; exact if_neg (by rw [hst]; exact Bool.noConfusion)) (by omega) hP hD hS hl
                    · skip
                      have cn_22 : ¬ (b8 = 0) := fun hz => cn_22 ((nI_eq (a := b8) (b := 0) (by omega) (by omega)).mpr hz)
                      have hst : zx_st wd8 T hp (zx_we T tx 100 hp) = true := hst9.trans (decide_eq_true (by omega))
                      refine lv_iload_n hx hb dX8_word_130 rfl (lv_at hl 3 rfl) ?_
                      subst hQ; subst hAe
                      exact W.iret (v := nI wd8) hx hb hr (fun tz htz hWz => ⟨⟨nI wd8, (zx_we T tx 100 hp, (-1)), rfl, ⟨by rw [hJ, zx_wf_s hw, if_pos hst]; exact (if_pos hw).symm, rfl, by rw [hJ, zx_wf_s hw, if_pos hst, if_pos hw]⟩, by rw [htz]; exact hP, hD⟩, hS.F htz⟩) hS.2.2 dX8_word_131
                  · skip
                    have cn_21 : ¬ ((zx_we T tx 100 hp) - hp ≤ k8) := fun hz => cn_21 ((nI_leI (a := (zx_we T tx 100 hp) - hp) (b := k8) (by omega) (by omega)).mpr hz)
                    refine lv_iload hx hb dX8_word_86 (lv_at hl 5 rfl) ?_
                    refine lv_if_eq (tgt := 125) hx hb dX8_word_88 (by decide) (fun cn_23 => ?_) (fun cn_23 => ?_)
                    · skip
                      have cn_23 : b8 = 0 := (nI_eq (a := b8) (b := 0) (by omega) (by omega)).mp cn_23
                      have hb0 : b8 = 0 := by omega
                      have hst9 : zx_st wd8 T hp (zx_we T tx 100 hp) = decide (b8 = 1) := zx_st_b hB hk8 (by omega)
                      refine lv_iload hx hb dX8_word_125 (lv_at hl 5 rfl) ?_
                      refine lv_if_eq (tgt := 132) hx hb dX8_word_127 (by decide) (fun cn_24 => ?_) (fun cn_24 => ?_)
                      · skip
                        have cn_24 : b8 = 0 := (nI_eq (a := b8) (b := 0) (by omega) (by omega)).mp cn_24
                        have hst : zx_st wd8 T hp (zx_we T tx 100 hp) = false := hst9.trans (decide_eq_false (by omega))
                        refine lv_iload hx hb dX8_word_132 (lv_at hl 4 rfl) ?_
                        refine lv_iconst (v := nI 1) hx hb dX8_word_134 (by rfl) ?_
                        refine lv_iadd hx hb dX8_word_135 ?_
                        refine zr_ti (y := nI (zx_bg (wd8 + 1))) ((nI_add _ _).trans (congrArg nI hg4.symm)) ?_
                        refine lv_istore_n (lv' := [(2, .int (nI (zx_bg (wd8 + 1)))), (0, .ref m0), (1, .int (nI hp)), (3, .int (nI wd8)), (4, .int (nI (zx_bg wd8 + zc_len.getD wd8 0))), (5, .int (nI b8)), (6, .int (nI k8))]) hx hb dX8_word_136 rfl hl (by decide) rfl (fun ls hl => ?_)
                        refine lv_iinc (v := nI (wd8 + 1)) (lv' := [(3, .int (nI (wd8 + 1))), (2, .int (nI (zx_bg (wd8 + 1)))), (0, .ref m0), (1, .int (nI hp)), (4, .int (nI (zx_bg wd8 + zc_len.getD wd8 0))), (5, .int (nI b8)), (6, .int (nI k8))]) hx hb dX8_word_137 hl (k := 3) rfl (nI_add _ _) (by decide) rfl (fun ls hl => ?_)
                        refine lv_goto (tgt := 36) hx hb dX8_word_140 (by decide) ?_
                        have hl : lv_has ls 7 [(0, .ref m0), (1, .int (nI hp)), (2, .int (nI (zx_bg (wd8 + 1)))), (3, .int (nI (wd8 + 1)))] := lv_sub hl [2, 3, 1, 0] rfl
                        exact ih36 (wd8 + 1) H locs ls (by omega) (by rw [hJ, zx_wf_s hw]; exact if_neg (by rw [hst]; exact Bool.noConfusion)) (by omega) hP hD hS hl
                      · skip
                        have cn_24 : ¬ (b8 = 0) := fun hz => cn_24 ((nI_eq (a := b8) (b := 0) (by omega) (by omega)).mpr hz)
                        have hst : zx_st wd8 T hp (zx_we T tx 100 hp) = true := hst9.trans (decide_eq_true (by omega))
                        refine lv_iload_n hx hb dX8_word_130 rfl (lv_at hl 3 rfl) ?_
                        subst hQ; subst hAe
                        exact W.iret (v := nI wd8) hx hb hr (fun tz htz hWz => ⟨⟨nI wd8, (zx_we T tx 100 hp, (-1)), rfl, ⟨by rw [hJ, zx_wf_s hw, if_pos hst]; exact (if_pos hw).symm, rfl, by rw [hJ, zx_wf_s hw, if_pos hst, if_pos hw]⟩, by rw [htz]; exact hP, hD⟩, hS.F htz⟩) hS.2.2 dX8_word_131
                    · skip
                      have cn_23 : ¬ (b8 = 0) := fun hz => cn_23 ((nI_eq (a := b8) (b := 0) (by omega) (by omega)).mpr hz)
                      obtain ⟨hB1, hB2⟩ := zx_b1 hB (by omega)
                      have hkl : k8 < zc_len.getD wd8 0 := by have := of_decide_eq_true hB1; omega
                      obtain ⟨ht1, ht2⟩ := htx2 (hp + k8) (by omega)
                      have hch := zx_bgC wd8 hw k8 hkl
                      obtain ⟨-, hc2⟩ := zc_chE wd8 (by show wd8 < 13; omega) k8 hkl
                      refine va_ldcS hx hb hown hR dX8_word_91 ?_
                      refine lv_iload_n hx hb dX8_word_93 rfl (lv_at hl 2 rfl) ?_
                      refine lv_iload hx hb dX8_word_94 (lv_at hl 6 rfl) ?_
                      refine lv_iadd hx hb dX8_word_96 ?_
                      refine zr_ti (y := nI ((zx_bg wd8) + k8)) (nI_add _ _) ?_
                      refine zr_ci hP hS (va_runV (As := [.int (nI ((zx_bg wd8) + k8))]) (rest := []) ⟨hx, hb, hml, hown, hts⟩ (c_J0_charAt_5068e l D E adK adV ad wa sa 12 (zx_bg wd8 + k8) ((by decide)) ((by show zx_bg wd8 + k8 < 38; omega))) (cwV 1 hts gX8_word_J0_charAt_5068e rfl rfl rfl (by decide +kernel) ⟨Nat.le_of_ble_eq_true rfl, Nat.le_of_ble_eq_true rfl⟩) (zrE_VK (i := 12) (by decide) hE hR hS hK (hP.sub (ws' := []) [] rfl)) rfl rfl hl.1 rfl (lv_room (Nat.le_of_ble_eq_true rfl)) dX8_word_97 ⟨Nat.zero_le _, Nat.zero_le _⟩) (fun r_25 H locs hw_26 hP hS => ?_)
                      subst hw_26
                      refine zr_ti (y := nI (zc_ch wd8 k8)) (congrArg nI hch) ?_
                      refine lv_aload_n hx hb dX8_word_100 rfl (lv_at hl 0 rfl) ?_
                      refine va_get (D := D) (ci := 6) (v := .ref w3) (C := RX8) (T := TX8) (N := 15) hx hb hts (by decide +kernel) hown hK.1 hP 0 rfl rfl 4 (by decide) (hts (.fieldLink RX8 21 "HomeRoundsModel" "text" "[I") (by decide +kernel)) (fun _ h9 => h9) rfl dX8_word_101 ?_
                      refine lv_iload_n hx hb dX8_word_104 rfl (lv_at hl 1 rfl) ?_
                      refine lv_iload hx hb dX8_word_105 (lv_at hl 6 rfl) ?_
                      refine lv_iadd hx hb dX8_word_107 ?_
                      refine zr_ti (y := nI (hp + k8)) (nI_add _ _) ?_
                      refine va_iald hx hb hK.1 hP 1 0 rfl rfl (vp_in_nI (by omega) (by omega)) dX8_word_108 ?_
                      refine zr_ti (y := nI (T (hp + k8))) ((congrArg tg (nI_clamp (by omega))).trans (ht2)) ?_
                      refine lv_icmp_ne (tgt := 116) hx hb dX8_word_109 (by decide) (fun cn_27 => ?_) (fun cn_27 => ?_)
                      · skip
                        have cn_27 : ¬ (zc_ch wd8 k8 = T (hp + k8)) := fun hz => cn_27 ((nI_eq (a := zc_ch wd8 k8) (b := T (hp + k8)) (by omega) (by omega)).mpr hz)
                        have hbr := cn_27
                        refine lv_iconst (v := nI 0) hx hb dX8_word_116 (by rfl) ?_
                        refine lv_istore (lv' := [(5, .int (nI 0)), (0, .ref m0), (1, .int (nI hp)), (2, .int (nI (zx_bg wd8))), (3, .int (nI wd8)), (4, .int (nI (zx_bg wd8 + zc_len.getD wd8 0))), (6, .int (nI k8))]) hx hb dX8_word_117 hl (by decide) rfl (fun ls hl => ?_)
                        refine lv_iinc (v := nI (k8 + 1)) (lv' := [(6, .int (nI (k8 + 1))), (5, .int (nI 0)), (0, .ref m0), (1, .int (nI hp)), (2, .int (nI (zx_bg wd8))), (3, .int (nI wd8)), (4, .int (nI (zx_bg wd8 + zc_len.getD wd8 0)))]) hx hb dX8_word_119 hl (k := 6) rfl (nI_add _ _) (by decide) rfl (fun ls hl => ?_)
                        refine lv_goto (tgt := 75) hx hb dX8_word_122 (by decide) ?_
                        have hl : lv_has ls 7 [(0, .ref m0), (1, .int (nI hp)), (2, .int (nI (zx_bg wd8))), (3, .int (nI wd8)), (4, .int (nI (zx_bg wd8 + zc_len.getD wd8 0))), (5, .int (nI 0)), (6, .int (nI (k8 + 1)))] := lv_sub hl [2, 3, 4, 5, 6, 1, 0] rfl
                        exact ih75 (k8 + 1) 0 H locs ls (by omega) (by rw [zx_eq]; first | (rw [hB1, hB2, decide_eq_true hbr]; rfl) | (rw [hB1, decide_eq_false hbr, Bool.and_false, Bool.and_false]; rfl)) (by omega) (by omega) hP hD hS hl
                      · skip
                        have cn_27 : zc_ch wd8 k8 = T (hp + k8) := (nI_eq (a := zc_ch wd8 k8) (b := T (hp + k8)) (by omega) (by omega)).mp cn_27
                        have hbr := cn_27
                        refine lv_iconst (v := nI 1) hx hb dX8_word_112 (by rfl) ?_
                        refine lv_goto (tgt := 117) hx hb dX8_word_113 (by decide) ?_
                        refine lv_istore (lv' := [(5, .int (nI 1)), (0, .ref m0), (1, .int (nI hp)), (2, .int (nI (zx_bg wd8))), (3, .int (nI wd8)), (4, .int (nI (zx_bg wd8 + zc_len.getD wd8 0))), (6, .int (nI k8))]) hx hb dX8_word_117 hl (by decide) rfl (fun ls hl => ?_)
                        refine lv_iinc (v := nI (k8 + 1)) (lv' := [(6, .int (nI (k8 + 1))), (5, .int (nI 1)), (0, .ref m0), (1, .int (nI hp)), (2, .int (nI (zx_bg wd8))), (3, .int (nI wd8)), (4, .int (nI (zx_bg wd8 + zc_len.getD wd8 0)))]) hx hb dX8_word_119 hl (k := 6) rfl (nI_add _ _) (by decide) rfl (fun ls hl => ?_)
                        refine lv_goto (tgt := 75) hx hb dX8_word_122 (by decide) ?_
                        have hl : lv_has ls 7 [(0, .ref m0), (1, .int (nI hp)), (2, .int (nI (zx_bg wd8))), (3, .int (nI wd8)), (4, .int (nI (zx_bg wd8 + zc_len.getD wd8 0))), (5, .int (nI 1)), (6, .int (nI (k8 + 1)))] := lv_sub hl [2, 3, 4, 5, 6, 1, 0] rfl
                        exact ih75 (k8 + 1) 1 H locs ls (by omega) (by rw [zx_eq]; first | (rw [hB1, hB2, decide_eq_true hbr]; rfl) | (rw [hB1, decide_eq_false hbr, Bool.and_false, Bool.and_false]; rfl)) (by omega) (by omega) hP hD hS hl
        · skip
          exact absurd cn_6 (by decide)
    · skip
      refine zr_ti (y := -1) (zx_sg_f hpt) ?_
      refine lv_bipush (v := nI 97) hx hb dX8_word_9 (by rfl) ?_
      refine lv_bipush (v := nI 122) hx hb dX8_word_11 (by rfl) ?_
      refine zr_ci hP hS (va_runS (As := [.int (-1), .int (nI 97), .int (nI 122)]) (rest := []) ⟨hx, hb, hml, hown, hts⟩ (c_X8_isIn l D E (-1) (nI 97) (nI 122) ) (va_cwS 3 hts gX8_word_X8_isIn rfl rfl rfl (by decide +kernel) ⟨Nat.le_of_ble_eq_true rfl, Nat.le_of_ble_eq_true rfl⟩) (zr_S hK (hP.sub (ws' := []) [] rfl)) rfl rfl hl.1 rfl (lv_room (Nat.le_of_ble_eq_true rfl)) dX8_word_13 ⟨Nat.zero_le _, Nat.zero_le _⟩) (fun r_28 H locs hw_29 hP hS => ?_)
      rcases hw_29 with ⟨rfl, hw_29⟩ | ⟨rfl, hw_29⟩
      · skip
        have hA := hw_29
        refine zr_ti (y := nI 1) rfl ?_
        refine lv_if_eq (tgt := 32) hx hb dX8_word_16 (by decide) (fun cn_30 => ?_) (fun cn_30 => ?_)
        · skip
          exact absurd cn_30 (by decide)
        · skip
          have hlet : zx_let T tx p8 = true := by first | exact zx_in_t hpt (zx_n_ge hA.1) (zx_n_le hA.2) | exact absurd hA.1 (by decide)
          have hplt := (zx_in_x hlet).1
          refine lv_aload_n hx hb dX8_word_19 rfl (lv_at hl 0 rfl) ?_
          refine lv_dup hx hb dX8_word_20 rfl ?_
          refine va_get (D := D) (ci := 6) (v := .int (nI p8)) (C := RX8) (T := TX8) (N := 15) hx hb hts (by decide +kernel) hown hK.1 hP 0 rfl rfl 6 (by decide) (hts (.fieldLink RX8 103 "HomeRoundsModel" "here" "I") (by decide +kernel)) (fun _ h9 => h9) rfl dX8_word_21 ?_
          refine lv_iconst (v := nI 1) hx hb dX8_word_24 (by rfl) ?_
          refine lv_iadd hx hb dX8_word_25 ?_
          refine zr_ti (y := nI (p8 + 1)) (nI_add _ _) ?_
          refine va_put (D := D) (ci := 6) (v := .int (nI (p8 + 1))) (ty := .int) (C := RX8) (T := TX8) (N := 15) hx hb hts (by decide +kernel) tyX8 tyX8_ok nmX8 hown hK.1 hP hD hS 0 rfl rfl 6 (by decide) (hts (.fieldLink RX8 103 "HomeRoundsModel" "here" "I") (by decide +kernel)) (fun _ h9 => h9) rfl (by decide +kernel) rfl rfl (Nat.le_of_ble_eq_true rfl) dX8_word_26 (fun H locs hP hD hS => ?_)
          have hP : va_P D vwCl [(m0, .inr (6, [.ref w0, .ref w1, .ref w2, .int ik, .ref w3, .int (nI tx), .int (nI (p8 + 1)), .int (-1), .ref w4, .ref w5, .int (nI cl), .ref w6, .ref w7, .ref w8, .ref w9])), (w3, .inl (E 0, 100, .inl tg))] H := hP
          have hD : va_D A [(m0, .inr (6, [.ref w0, .ref w1, .ref w2, .int ik, .ref w3, .int (nI tx), .int (nI (p8 + 1)), .int (-1), .ref w4, .ref w5, .int (nI cl), .ref w6, .ref w7, .ref w8, .ref w9])), (w3, .inl (E 0, 100, .inl tg))] := hD
          refine lv_goto (tgt := 5) hx hb dX8_word_29 (by decide) ?_
          have hl : lv_has ls 7 [(0, .ref m0), (1, .int (nI hp))] := lv_sub hl [0, 1] rfl
          exact ih5 (i + 1) (p8 + 1) H locs ls (by omega) (by rw [hI, zx_we_s (by omega) hlet]) (by omega) (by omega) hP hD hS hl
      · skip
        have hnA := hw_29
        refine zr_ti (y := nI 0) rfl ?_
        refine lv_if_eq (tgt := 32) hx hb dX8_word_16 (by decide) (fun cn_31 => ?_) (fun cn_31 => ?_)
        · skip
          have hnl : zx_let T tx p8 = false := by first | exact zx_in_f (by omega) | exact zx_in_f (fun q => zx_n_no hnA q.2.1 q.2.2)
          have hpe : p8 = zx_we T tx 100 hp := (hI.trans (zx_we_e hnl)).symm
          have hle1 := zx_we_ge (T := T) (L := tx) 100 hp
          have hle2 := zx_we_le (T := T) (L := tx) 100 hp hpt8
          rw [hpe] at hP hD
          refine lv_iconst (v := nI 0) hx hb dX8_word_32 (by rfl) ?_
          refine lv_istore_n (lv' := [(2, .int (nI 0)), (0, .ref m0), (1, .int (nI hp))]) hx hb dX8_word_33 rfl hl (by decide) rfl (fun ls hl => ?_)
          refine lv_iconst (v := nI 0) hx hb dX8_word_34 (by rfl) ?_
          refine lv_istore_n (lv' := [(3, .int (nI 0)), (2, .int (nI 0)), (0, .ref m0), (1, .int (nI hp))]) hx hb dX8_word_35 rfl hl (by decide) rfl (fun ls hl => ?_)
          suffices KL36 : ∀ (kz : Nat) (wd8 : Nat) (H : Heap) (locs : List Loc) (ls : Array Slot), (8 - wd8) < kz → (zx_cw T tx hp = zx_wf T hp (zx_we T tx 100 hp) (8 - wd8) wd8) → (wd8 ≤ 8) → va_P D vwCl [(m0, .inr (6, [.ref w0, .ref w1, .ref w2, .int ik, .ref w3, .int (nI tx), .int (nI (zx_we T tx 100 hp)), .int (-1), .ref w4, .ref w5, .int (nI cl), .ref w6, .ref w7, .ref w8, .ref w9])), (w3, .inl (E 0, 100, .inl tg))] H → va_D A [(m0, .inr (6, [.ref w0, .ref w1, .ref w2, .int ik, .ref w3, .int (nI tx), .int (nI (zx_we T tx 100 hp)), .int (-1), .ref w4, .ref w5, .int (nI cl), .ref w6, .ref w7, .ref w8, .ref w9])), (w3, .inl (E 0, 100, .inl tg))] → va_S A s.heap H locs → lv_has ls 7 [(0, .ref m0), (1, .int (nI hp)), (2, .int (nI (zx_bg wd8))), (3, .int (nI wd8))] → W p l e (headSpec wsX8_word ({ frames := 5, cells := 0, slots := 0, locals := 106 })).room s m ([.ref m0] : List Value).toArray below meth c H locs 0 0 Q (F0 m 36 ls []) from
            KL36 _ 0 _ _ ls (Nat.lt_succ_self _) (rfl) (by omega) hP hD hS (lv_sub hl [2, 3, 1, 0] rfl)
          clear hP hS hl hD
          intro kz
          induction kz with
          | zero => intro wd8 H locs ls hkz; exact absurd hkz (Nat.not_lt_zero _)
          | succ kz ih36 =>
            intro wd8 H locs ls hkz hJ hw8 hP hD hS hl
            refine lv_iload_n hx hb dX8_word_36 rfl (lv_at hl 3 rfl) ?_
            refine lv_bipush (v := nI 8) hx hb dX8_word_37 (by rfl) ?_
            refine lv_icmp_ge (tgt := 143) hx hb dX8_word_39 (by decide) (fun cn_32 => ?_) (fun cn_32 => ?_)
            · skip
              have cn_32 : 8 ≤ wd8 := (nI_leI (a := 8) (b := wd8) (by omega) (by omega)).mp cn_32
              have hwe8 : wd8 = 8 := by omega
              refine lv_aload_n hx hb dX8_word_143 rfl (lv_at hl 0 rfl) ?_
              refine lv_iload_n hx hb dX8_word_144 rfl (lv_at hl 1 rfl) ?_
              have hPc := hP.sub (ws' := [(m0, .inr (6, [.ref w0, .ref w1, .ref w2, .int ik, .ref w3, .int (nI tx), .int (nI (zx_we T tx 100 hp)), .int (-1), .ref w4, .ref w5, .int (nI cl), .ref w6, .ref w7, .ref w8, .ref w9])), (w3, .inl (E 0, 100, .inl tg))]) [0, 1] rfl
              have hDc := hD.sub (ws' := [(m0, .inr (6, [.ref w0, .ref w1, .ref w2, .int ik, .ref w3, .int (nI tx), .int (nI (zx_we T tx 100 hp)), .int (-1), .ref w4, .ref w5, .int (nI cl), .ref w6, .ref w7, .ref w8, .ref w9])), (w3, .inl (E 0, 100, .inl tg))]) [0, 1] (by decide +kernel) rfl
              have hAc := zw_AA (wc := [(m0, .inr (6, [.ref w0, .ref w1, .ref w2, .int ik, .ref w3, .int (nI tx), .int (nI (zx_we T tx 100 hp)), .int (-1), .ref w4, .ref w5, .int (nI cl), .ref w6, .ref w7, .ref w8, .ref w9])), (w3, .inl (E 0, 100, .inl tg))]) hD [0, 1] rfl
              refine zw_cv hAc hS (va_runV (As := [.int (nI hp)]) (rest := []) ⟨hx, hb, hml, hown, hts⟩ (c_X8_fails_n l D E m0 w0 w1 w2 w3 w4 w5 w6 w7 w8 w9 ik tx cl wv (zx_we T tx 100 hp) tg T hp (htx) (by omega)) (cwV 1 hts gX8_word_X8_fails rfl rfl rfl (by decide +kernel) ⟨Nat.le_of_ble_eq_true rfl, Nat.le_of_ble_eq_true rfl⟩) (zw_V hK hPc hDc (ci := 6) (q0 := 0) rfl rfl) rfl rfl hl.1 rfl (lv_room (Nat.le_of_ble_eq_true rfl)) dX8_word_145 ⟨Nat.zero_le _, Nat.zero_le _⟩) (fun u_35 H locs hw_34 hP1 hD1 hk1 hS => ?_)
              obtain ⟨hP, hD⟩ := zw_join (wr := []) (w1 := [(m0, .inr (6, [.ref w0, .ref w1, .ref w2, .int ik, .ref w3, .int (nI tx), .int (nI (zx_we T tx 100 hp)), .int (nI hp), .ref w4, .ref w5, .int (nI cl), .ref w6, .ref w7, .ref w8, .ref w9])), (w3, .inl (E 0, 100, .inl tg))]) (ws' := [(m0, .inr (6, [.ref w0, .ref w1, .ref w2, .int ik, .ref w3, .int (nI tx), .int (nI (zx_we T tx 100 hp)), .int (nI hp), .ref w4, .ref w5, .int (nI cl), .ref w6, .ref w7, .ref w8, .ref w9])), (w3, .inl (E 0, 100, .inl tg))]) hP hD [0, 1] [] [0, 1] rfl rfl (by decide +kernel) (by decide +kernel) hAc hk1 hP1 hD1 (by decide +kernel) rfl
              clear hP1 hD1 hk1 hPc hDc hAc
              refine lv_iconst (v := (-1)) hx hb dX8_word_148 (by rfl) ?_
              subst hQ; subst hAe
              exact W.iret (v := (-1)) hx hb hr (fun tz htz hWz => ⟨⟨(-1), (zx_we T tx 100 hp, nI hp), rfl, ⟨by rw [hJ, hwe8]; rfl, rfl, by rw [hJ, hwe8]; rfl⟩, by rw [htz]; exact hP, hD⟩, hS.F htz⟩) hS.2.2 dX8_word_149
            · skip
              have cn_32 : ¬ (8 ≤ wd8) := fun hz => cn_32 ((nI_leI (a := 8) (b := wd8) (by omega) (by omega)).mpr hz)
              have hw : wd8 < 8 := by omega
              obtain ⟨hg1, hg2, hg3, hg4⟩ := zx_bgE wd8 hw
              have hlnw := zc_lnS wd8 (by show wd8 < 13; omega)
              refine va_ldcS hx hb hown hR dX8_word_42 ?_
              refine lv_bipush (v := nI 32) hx hb dX8_word_44 (by rfl) ?_
              refine lv_iload_n hx hb dX8_word_46 rfl (lv_at hl 2 rfl) ?_
              refine zr_ci hP hS (va_runV (As := [.int (nI 32), .int (nI (zx_bg wd8))]) (rest := []) ⟨hx, hb, hml, hown, hts⟩ (c_J0_indexOf_7cf53 l D E adK adV ad wa sa 12 32 (zx_bg wd8) ((by decide)) (by omega) (hg2)) (cwV 2 hts gX8_word_J0_indexOf_7cf53 rfl rfl rfl (by decide +kernel) ⟨Nat.le_of_ble_eq_true rfl, Nat.le_of_ble_eq_true rfl⟩) (zrE_VK (i := 12) (by decide) hE hR hS hK (hP.sub (ws' := []) [] rfl)) rfl rfl hl.1 rfl (lv_room (Nat.le_of_ble_eq_true rfl)) dX8_word_47 ⟨Nat.zero_le _, Nat.zero_le _⟩) (fun r_36 H locs hw_37 hP hS => ?_)
              subst hw_37
              refine zr_ti (y := nI (zx_bg wd8 + zc_len.getD wd8 0)) (hg1) ?_
              refine lv_istore (lv' := [(4, .int (nI (zx_bg wd8 + zc_len.getD wd8 0))), (0, .ref m0), (1, .int (nI hp)), (2, .int (nI (zx_bg wd8))), (3, .int (nI wd8))]) hx hb dX8_word_50 hl (by decide) rfl (fun ls hl => ?_)
              refine lv_iload hx hb dX8_word_52 (lv_at hl 0 rfl) ?_
              refine lv_iload_n hx hb dX8_word_54 rfl (lv_at hl 3 rfl) ?_
              refine lv_isub hx hb dX8_word_55 ?_
              refine zr_ti (y := nI (zc_len.getD wd8 0)) ((pk_sub (by omega)).trans (congrArg nI (by omega))) ?_
              refine lv_aload_n hx hb dX8_word_56 rfl (lv_at hl 1 rfl) ?_
              refine va_get (D := D) (ci := 6) (v := .int (nI (zx_we T tx 100 hp))) (C := RX8) (T := TX8) (N := 15) hx hb hts (by decide +kernel) hown hK.1 hP 0 rfl rfl 6 (by decide) (hts (.fieldLink RX8 103 "HomeRoundsModel" "here" "I") (by decide +kernel)) (fun _ h9 => h9) rfl dX8_word_57 ?_
              refine lv_iload_n hx hb dX8_word_60 rfl (lv_at hl 2 rfl) ?_
              refine lv_isub hx hb dX8_word_61 ?_
              refine zr_ti (y := nI ((zx_we T tx 100 hp) - hp)) (pk_sub (by omega)) ?_
              refine lv_icmp_ne (tgt := 69) hx hb dX8_word_62 (by decide) (fun cn_38 => ?_) (fun cn_38 => ?_)
              · skip
                have cn_38 : ¬ (zc_len.getD wd8 0 = (zx_we T tx 100 hp) - hp) := fun hz => cn_38 ((nI_eq (a := zc_len.getD wd8 0) (b := (zx_we T tx 100 hp) - hp) (by omega) (by omega)).mpr hz)
                have hlq : ¬ zc_len.getD wd8 0 = (zx_we T tx 100 hp) - hp := cn_38
                refine lv_iconst (v := nI 0) hx hb dX8_word_69 (by rfl) ?_
                refine lv_istore (lv' := [(5, .int (nI 0)), (4, .int (nI (zx_bg wd8 + zc_len.getD wd8 0))), (0, .ref m0), (1, .int (nI hp)), (2, .int (nI (zx_bg wd8))), (3, .int (nI wd8))]) hx hb dX8_word_70 hl (by decide) rfl (fun ls hl => ?_)
                refine lv_iconst (v := nI 0) hx hb dX8_word_72 (by rfl) ?_
                refine lv_istore (lv' := [(6, .int (nI 0)), (5, .int (nI 0)), (4, .int (nI (zx_bg wd8 + zc_len.getD wd8 0))), (0, .ref m0), (1, .int (nI hp)), (2, .int (nI (zx_bg wd8))), (3, .int (nI wd8))]) hx hb dX8_word_73 hl (by decide) rfl (fun ls hl => ?_)
                suffices KL75 : ∀ (kz : Nat) (k8 : Nat) (b8 : Nat) (H : Heap) (locs : List Loc) (ls : Array Slot), ((zx_we T tx 100 hp) - hp - k8) < kz → (b8 = (decide (zc_len.getD wd8 0 = (zx_we T tx 100 hp) - hp) && zx_eq wd8 T hp k8).toNat) → (k8 ≤ (zx_we T tx 100 hp) - hp) → (b8 ≤ 1) → va_P D vwCl [(m0, .inr (6, [.ref w0, .ref w1, .ref w2, .int ik, .ref w3, .int (nI tx), .int (nI (zx_we T tx 100 hp)), .int (-1), .ref w4, .ref w5, .int (nI cl), .ref w6, .ref w7, .ref w8, .ref w9])), (w3, .inl (E 0, 100, .inl tg))] H → va_D A [(m0, .inr (6, [.ref w0, .ref w1, .ref w2, .int ik, .ref w3, .int (nI tx), .int (nI (zx_we T tx 100 hp)), .int (-1), .ref w4, .ref w5, .int (nI cl), .ref w6, .ref w7, .ref w8, .ref w9])), (w3, .inl (E 0, 100, .inl tg))] → va_S A s.heap H locs → lv_has ls 7 [(0, .ref m0), (1, .int (nI hp)), (2, .int (nI (zx_bg wd8))), (3, .int (nI wd8)), (4, .int (nI (zx_bg wd8 + zc_len.getD wd8 0))), (5, .int (nI b8)), (6, .int (nI k8))] → W p l e (headSpec wsX8_word ({ frames := 5, cells := 0, slots := 0, locals := 106 })).room s m ([.ref m0] : List Value).toArray below meth c H locs 0 0 Q (F0 m 75 ls []) from
                  KL75 _ 0 0 _ _ ls (Nat.lt_succ_self _) (by first | (rw [decide_eq_true hlq]; rfl) | (rw [decide_eq_false hlq]; rfl)) (Nat.zero_le _) (by omega) hP hD hS (lv_sub hl [3, 4, 5, 6, 2, 1, 0] rfl)
                clear hP hS hl hD
                intro kz
                induction kz with
                | zero => intro k8 b8 H locs ls hkz; exact absurd hkz (Nat.not_lt_zero _)
                | succ kz ih75 =>
                  intro k8 b8 H locs ls hkz hB hk8 hb8 hP hD hS hl
                  refine lv_iload hx hb dX8_word_75 (lv_at hl 6 rfl) ?_
                  refine lv_aload_n hx hb dX8_word_77 rfl (lv_at hl 0 rfl) ?_
                  refine va_get (D := D) (ci := 6) (v := .int (nI (zx_we T tx 100 hp))) (C := RX8) (T := TX8) (N := 15) hx hb hts (by decide +kernel) hown hK.1 hP 0 rfl rfl 6 (by decide) (hts (.fieldLink RX8 103 "HomeRoundsModel" "here" "I") (by decide +kernel)) (fun _ h9 => h9) rfl dX8_word_78 ?_
                  refine lv_iload_n hx hb dX8_word_81 rfl (lv_at hl 1 rfl) ?_
                  refine lv_isub hx hb dX8_word_82 ?_
                  refine zr_ti (y := nI ((zx_we T tx 100 hp) - hp)) (pk_sub (by omega)) ?_
                  refine lv_icmp_ge (tgt := 125) hx hb dX8_word_83 (by decide) (fun cn_39 => ?_) (fun cn_39 => ?_)
                  · skip
                    have cn_39 : (zx_we T tx 100 hp) - hp ≤ k8 := (nI_leI (a := (zx_we T tx 100 hp) - hp) (b := k8) (by omega) (by omega)).mp cn_39
                    have hke : k8 = (zx_we T tx 100 hp) - hp := by omega
                    have hst9 : zx_st wd8 T hp (zx_we T tx 100 hp) = decide (b8 = 1) := zx_st_b hB hk8 (by omega)
                    refine lv_iload hx hb dX8_word_125 (lv_at hl 5 rfl) ?_
                    refine lv_if_eq (tgt := 132) hx hb dX8_word_127 (by decide) (fun cn_40 => ?_) (fun cn_40 => ?_)
                    · skip
                      have cn_40 : b8 = 0 := (nI_eq (a := b8) (b := 0) (by omega) (by omega)).mp cn_40
                      have hst : zx_st wd8 T hp (zx_we T tx 100 hp) = false := hst9.trans (decide_eq_false (by omega))
                      refine lv_iload hx hb dX8_word_132 (lv_at hl 4 rfl) ?_
                      refine lv_iconst (v := nI 1) hx hb dX8_word_134 (by rfl) ?_
                      refine lv_iadd hx hb dX8_word_135 ?_
                      refine zr_ti (y := nI (zx_bg (wd8 + 1))) ((nI_add _ _).trans (congrArg nI hg4.symm)) ?_
                      refine lv_istore_n (lv' := [(2, .int (nI (zx_bg (wd8 + 1)))), (0, .ref m0), (1, .int (nI hp)), (3, .int (nI wd8)), (4, .int (nI (zx_bg wd8 + zc_len.getD wd8 0))), (5, .int (nI b8)), (6, .int (nI k8))]) hx hb dX8_word_136 rfl hl (by decide) rfl (fun ls hl => ?_)
                      refine lv_iinc (v := nI (wd8 + 1)) (lv' := [(3, .int (nI (wd8 + 1))), (2, .int (nI (zx_bg (wd8 + 1)))), (0, .ref m0), (1, .int (nI hp)), (4, .int (nI (zx_bg wd8 + zc_len.getD wd8 0))), (5, .int (nI b8)), (6, .int (nI k8))]) hx hb dX8_word_137 hl (k := 3) rfl (nI_add _ _) (by decide) rfl (fun ls hl => ?_)
                      refine lv_goto (tgt := 36) hx hb dX8_word_140 (by decide) ?_
                      have hl : lv_has ls 7 [(0, .ref m0), (1, .int (nI hp)), (2, .int (nI (zx_bg (wd8 + 1)))), (3, .int (nI (wd8 + 1)))] := lv_sub hl [2, 3, 1, 0] rfl
                      exact ih36 (wd8 + 1) H locs ls (by omega) (by rw [hJ, zx_wf_s hw]; exact if_neg (by rw [hst]; exact Bool.noConfusion)) (by omega) hP hD hS hl
                    · skip
                      have cn_40 : ¬ (b8 = 0) := fun hz => cn_40 ((nI_eq (a := b8) (b := 0) (by omega) (by omega)).mpr hz)
                      have hst : zx_st wd8 T hp (zx_we T tx 100 hp) = true := hst9.trans (decide_eq_true (by omega))
                      refine lv_iload_n hx hb dX8_word_130 rfl (lv_at hl 3 rfl) ?_
                      subst hQ; subst hAe
                      exact W.iret (v := nI wd8) hx hb hr (fun tz htz hWz => ⟨⟨nI wd8, (zx_we T tx 100 hp, (-1)), rfl, ⟨by rw [hJ, zx_wf_s hw, if_pos hst]; exact (if_pos hw).symm, rfl, by rw [hJ, zx_wf_s hw, if_pos hst, if_pos hw]⟩, by rw [htz]; exact hP, hD⟩, hS.F htz⟩) hS.2.2 dX8_word_131
                  · skip
                    have cn_39 : ¬ ((zx_we T tx 100 hp) - hp ≤ k8) := fun hz => cn_39 ((nI_leI (a := (zx_we T tx 100 hp) - hp) (b := k8) (by omega) (by omega)).mpr hz)
                    refine lv_iload hx hb dX8_word_86 (lv_at hl 5 rfl) ?_
                    refine lv_if_eq (tgt := 125) hx hb dX8_word_88 (by decide) (fun cn_41 => ?_) (fun cn_41 => ?_)
                    · skip
                      have cn_41 : b8 = 0 := (nI_eq (a := b8) (b := 0) (by omega) (by omega)).mp cn_41
                      have hb0 : b8 = 0 := by omega
                      have hst9 : zx_st wd8 T hp (zx_we T tx 100 hp) = decide (b8 = 1) := zx_st_b hB hk8 (by omega)
                      refine lv_iload hx hb dX8_word_125 (lv_at hl 5 rfl) ?_
                      refine lv_if_eq (tgt := 132) hx hb dX8_word_127 (by decide) (fun cn_42 => ?_) (fun cn_42 => ?_)
                      · skip
                        have cn_42 : b8 = 0 := (nI_eq (a := b8) (b := 0) (by omega) (by omega)).mp cn_42
                        have hst : zx_st wd8 T hp (zx_we T tx 100 hp) = false := hst9.trans (decide_eq_false (by omega))
                        refine lv_iload hx hb dX8_word_132 (lv_at hl 4 rfl) ?_
                        refine lv_iconst (v := nI 1) hx hb dX8_word_134 (by rfl) ?_
                        refine lv_iadd hx hb dX8_word_135 ?_
                        refine zr_ti (y := nI (zx_bg (wd8 + 1))) ((nI_add _ _).trans (congrArg nI hg4.symm)) ?_
                        refine lv_istore_n (lv' := [(2, .int (nI (zx_bg (wd8 + 1)))), (0, .ref m0), (1, .int (nI hp)), (3, .int (nI wd8)), (4, .int (nI (zx_bg wd8 + zc_len.getD wd8 0))), (5, .int (nI b8)), (6, .int (nI k8))]) hx hb dX8_word_136 rfl hl (by decide) rfl (fun ls hl => ?_)
                        refine lv_iinc (v := nI (wd8 + 1)) (lv' := [(3, .int (nI (wd8 + 1))), (2, .int (nI (zx_bg (wd8 + 1)))), (0, .ref m0), (1, .int (nI hp)), (4, .int (nI (zx_bg wd8 + zc_len.getD wd8 0))), (5, .int (nI b8)), (6, .int (nI k8))]) hx hb dX8_word_137 hl (k := 3) rfl (nI_add _ _) (by decide) rfl (fun ls hl => ?_)
                        refine lv_goto (tgt := 36) hx hb dX8_word_140 (by decide) ?_
                        have hl : lv_has ls 7 [(0, .ref m0), (1, .int (nI hp)), (2, .int (nI (zx_bg (wd8 + 1)))), (3, .int (nI (wd8 + 1)))] := lv_sub hl [2, 3, 1, 0] rfl
                        exact ih36 (wd8 + 1) H locs ls (by omega) (by rw [hJ, zx_wf_s hw]; exact if_neg (by rw [hst]; exact Bool.noConfusion)) (by omega) hP hD hS hl
                      · skip
                        have cn_42 : ¬ (b8 = 0) := fun hz => cn_42 ((nI_eq (a := b8) (b := 0) (by omega) (by omega)).mpr hz)
                        have hst : zx_st wd8 T hp (zx_we T tx 100 hp) = true := hst9.trans (decide_eq_true (by omega))
                        refine lv_iload_n hx hb dX8_word_130 rfl (lv_at hl 3 rfl) ?_
                        subst hQ; subst hAe
                        exact W.iret (v := nI wd8) hx hb hr (fun tz htz hWz => ⟨⟨nI wd8, (zx_we T tx 100 hp, (-1)), rfl, ⟨by rw [hJ, zx_wf_s hw, if_pos hst]; exact (if_pos hw).symm, rfl, by rw [hJ, zx_wf_s hw, if_pos hst, if_pos hw]⟩, by rw [htz]; exact hP, hD⟩, hS.F htz⟩) hS.2.2 dX8_word_131
                    · skip
                      have cn_41 : ¬ (b8 = 0) := fun hz => cn_41 ((nI_eq (a := b8) (b := 0) (by omega) (by omega)).mpr hz)
                      obtain ⟨hB1, hB2⟩ := zx_b1 hB (by omega)
                      have hkl : k8 < zc_len.getD wd8 0 := by have := of_decide_eq_true hB1; omega
                      obtain ⟨ht1, ht2⟩ := htx2 (hp + k8) (by omega)
                      have hch := zx_bgC wd8 hw k8 hkl
                      obtain ⟨-, hc2⟩ := zc_chE wd8 (by show wd8 < 13; omega) k8 hkl
                      refine va_ldcS hx hb hown hR dX8_word_91 ?_
                      refine lv_iload_n hx hb dX8_word_93 rfl (lv_at hl 2 rfl) ?_
                      refine lv_iload hx hb dX8_word_94 (lv_at hl 6 rfl) ?_
                      refine lv_iadd hx hb dX8_word_96 ?_
                      refine zr_ti (y := nI ((zx_bg wd8) + k8)) (nI_add _ _) ?_
                      refine zr_ci hP hS (va_runV (As := [.int (nI ((zx_bg wd8) + k8))]) (rest := []) ⟨hx, hb, hml, hown, hts⟩ (c_J0_charAt_5068e l D E adK adV ad wa sa 12 (zx_bg wd8 + k8) ((by decide)) ((by show zx_bg wd8 + k8 < 38; omega))) (cwV 1 hts gX8_word_J0_charAt_5068e rfl rfl rfl (by decide +kernel) ⟨Nat.le_of_ble_eq_true rfl, Nat.le_of_ble_eq_true rfl⟩) (zrE_VK (i := 12) (by decide) hE hR hS hK (hP.sub (ws' := []) [] rfl)) rfl rfl hl.1 rfl (lv_room (Nat.le_of_ble_eq_true rfl)) dX8_word_97 ⟨Nat.zero_le _, Nat.zero_le _⟩) (fun r_43 H locs hw_44 hP hS => ?_)
                      subst hw_44
                      refine zr_ti (y := nI (zc_ch wd8 k8)) (congrArg nI hch) ?_
                      refine lv_aload_n hx hb dX8_word_100 rfl (lv_at hl 0 rfl) ?_
                      refine va_get (D := D) (ci := 6) (v := .ref w3) (C := RX8) (T := TX8) (N := 15) hx hb hts (by decide +kernel) hown hK.1 hP 0 rfl rfl 4 (by decide) (hts (.fieldLink RX8 21 "HomeRoundsModel" "text" "[I") (by decide +kernel)) (fun _ h9 => h9) rfl dX8_word_101 ?_
                      refine lv_iload_n hx hb dX8_word_104 rfl (lv_at hl 1 rfl) ?_
                      refine lv_iload hx hb dX8_word_105 (lv_at hl 6 rfl) ?_
                      refine lv_iadd hx hb dX8_word_107 ?_
                      refine zr_ti (y := nI (hp + k8)) (nI_add _ _) ?_
                      refine va_iald hx hb hK.1 hP 1 0 rfl rfl (vp_in_nI (by omega) (by omega)) dX8_word_108 ?_
                      refine zr_ti (y := nI (T (hp + k8))) ((congrArg tg (nI_clamp (by omega))).trans (ht2)) ?_
                      refine lv_icmp_ne (tgt := 116) hx hb dX8_word_109 (by decide) (fun cn_45 => ?_) (fun cn_45 => ?_)
                      · skip
                        have cn_45 : ¬ (zc_ch wd8 k8 = T (hp + k8)) := fun hz => cn_45 ((nI_eq (a := zc_ch wd8 k8) (b := T (hp + k8)) (by omega) (by omega)).mpr hz)
                        have hbr := cn_45
                        refine lv_iconst (v := nI 0) hx hb dX8_word_116 (by rfl) ?_
                        refine lv_istore (lv' := [(5, .int (nI 0)), (0, .ref m0), (1, .int (nI hp)), (2, .int (nI (zx_bg wd8))), (3, .int (nI wd8)), (4, .int (nI (zx_bg wd8 + zc_len.getD wd8 0))), (6, .int (nI k8))]) hx hb dX8_word_117 hl (by decide) rfl (fun ls hl => ?_)
                        refine lv_iinc (v := nI (k8 + 1)) (lv' := [(6, .int (nI (k8 + 1))), (5, .int (nI 0)), (0, .ref m0), (1, .int (nI hp)), (2, .int (nI (zx_bg wd8))), (3, .int (nI wd8)), (4, .int (nI (zx_bg wd8 + zc_len.getD wd8 0)))]) hx hb dX8_word_119 hl (k := 6) rfl (nI_add _ _) (by decide) rfl (fun ls hl => ?_)
                        refine lv_goto (tgt := 75) hx hb dX8_word_122 (by decide) ?_
                        have hl : lv_has ls 7 [(0, .ref m0), (1, .int (nI hp)), (2, .int (nI (zx_bg wd8))), (3, .int (nI wd8)), (4, .int (nI (zx_bg wd8 + zc_len.getD wd8 0))), (5, .int (nI 0)), (6, .int (nI (k8 + 1)))] := lv_sub hl [2, 3, 4, 5, 6, 1, 0] rfl
                        exact ih75 (k8 + 1) 0 H locs ls (by omega) (by rw [zx_eq]; first | (rw [hB1, hB2, decide_eq_true hbr]; rfl) | (rw [hB1, decide_eq_false hbr, Bool.and_false, Bool.and_false]; rfl)) (by omega) (by omega) hP hD hS hl
                      · skip
                        have cn_45 : zc_ch wd8 k8 = T (hp + k8) := (nI_eq (a := zc_ch wd8 k8) (b := T (hp + k8)) (by omega) (by omega)).mp cn_45
                        have hbr := cn_45
                        refine lv_iconst (v := nI 1) hx hb dX8_word_112 (by rfl) ?_
                        refine lv_goto (tgt := 117) hx hb dX8_word_113 (by decide) ?_
                        refine lv_istore (lv' := [(5, .int (nI 1)), (0, .ref m0), (1, .int (nI hp)), (2, .int (nI (zx_bg wd8))), (3, .int (nI wd8)), (4, .int (nI (zx_bg wd8 + zc_len.getD wd8 0))), (6, .int (nI k8))]) hx hb dX8_word_117 hl (by decide) rfl (fun ls hl => ?_)
                        refine lv_iinc (v := nI (k8 + 1)) (lv' := [(6, .int (nI (k8 + 1))), (5, .int (nI 1)), (0, .ref m0), (1, .int (nI hp)), (2, .int (nI (zx_bg wd8))), (3, .int (nI wd8)), (4, .int (nI (zx_bg wd8 + zc_len.getD wd8 0)))]) hx hb dX8_word_119 hl (k := 6) rfl (nI_add _ _) (by decide) rfl (fun ls hl => ?_)
                        refine lv_goto (tgt := 75) hx hb dX8_word_122 (by decide) ?_
                        have hl : lv_has ls 7 [(0, .ref m0), (1, .int (nI hp)), (2, .int (nI (zx_bg wd8))), (3, .int (nI wd8)), (4, .int (nI (zx_bg wd8 + zc_len.getD wd8 0))), (5, .int (nI 1)), (6, .int (nI (k8 + 1)))] := lv_sub hl [2, 3, 4, 5, 6, 1, 0] rfl
                        exact ih75 (k8 + 1) 1 H locs ls (by omega) (by rw [zx_eq]; first | (rw [hB1, hB2, decide_eq_true hbr]; rfl) | (rw [hB1, decide_eq_false hbr, Bool.and_false, Bool.and_false]; rfl)) (by omega) (by omega) hP hD hS hl
              · skip
                have cn_38 : zc_len.getD wd8 0 = (zx_we T tx 100 hp) - hp := (nI_eq (a := zc_len.getD wd8 0) (b := (zx_we T tx 100 hp) - hp) (by omega) (by omega)).mp cn_38
                have hlq : zc_len.getD wd8 0 = (zx_we T tx 100 hp) - hp := cn_38
                refine lv_iconst (v := nI 1) hx hb dX8_word_65 (by rfl) ?_
                refine lv_goto (tgt := 70) hx hb dX8_word_66 (by decide) ?_
                refine lv_istore (lv' := [(5, .int (nI 1)), (4, .int (nI (zx_bg wd8 + zc_len.getD wd8 0))), (0, .ref m0), (1, .int (nI hp)), (2, .int (nI (zx_bg wd8))), (3, .int (nI wd8))]) hx hb dX8_word_70 hl (by decide) rfl (fun ls hl => ?_)
                refine lv_iconst (v := nI 0) hx hb dX8_word_72 (by rfl) ?_
                refine lv_istore (lv' := [(6, .int (nI 0)), (5, .int (nI 1)), (4, .int (nI (zx_bg wd8 + zc_len.getD wd8 0))), (0, .ref m0), (1, .int (nI hp)), (2, .int (nI (zx_bg wd8))), (3, .int (nI wd8))]) hx hb dX8_word_73 hl (by decide) rfl (fun ls hl => ?_)
                suffices KL75 : ∀ (kz : Nat) (k8 : Nat) (b8 : Nat) (H : Heap) (locs : List Loc) (ls : Array Slot), ((zx_we T tx 100 hp) - hp - k8) < kz → (b8 = (decide (zc_len.getD wd8 0 = (zx_we T tx 100 hp) - hp) && zx_eq wd8 T hp k8).toNat) → (k8 ≤ (zx_we T tx 100 hp) - hp) → (b8 ≤ 1) → va_P D vwCl [(m0, .inr (6, [.ref w0, .ref w1, .ref w2, .int ik, .ref w3, .int (nI tx), .int (nI (zx_we T tx 100 hp)), .int (-1), .ref w4, .ref w5, .int (nI cl), .ref w6, .ref w7, .ref w8, .ref w9])), (w3, .inl (E 0, 100, .inl tg))] H → va_D A [(m0, .inr (6, [.ref w0, .ref w1, .ref w2, .int ik, .ref w3, .int (nI tx), .int (nI (zx_we T tx 100 hp)), .int (-1), .ref w4, .ref w5, .int (nI cl), .ref w6, .ref w7, .ref w8, .ref w9])), (w3, .inl (E 0, 100, .inl tg))] → va_S A s.heap H locs → lv_has ls 7 [(0, .ref m0), (1, .int (nI hp)), (2, .int (nI (zx_bg wd8))), (3, .int (nI wd8)), (4, .int (nI (zx_bg wd8 + zc_len.getD wd8 0))), (5, .int (nI b8)), (6, .int (nI k8))] → W p l e (headSpec wsX8_word ({ frames := 5, cells := 0, slots := 0, locals := 106 })).room s m ([.ref m0] : List Value).toArray below meth c H locs 0 0 Q (F0 m 75 ls []) from
                  KL75 _ 0 1 _ _ ls (Nat.lt_succ_self _) (by first | (rw [decide_eq_true hlq]; rfl) | (rw [decide_eq_false hlq]; rfl)) (Nat.zero_le _) (by omega) hP hD hS (lv_sub hl [3, 4, 5, 6, 2, 1, 0] rfl)
                clear hP hS hl hD
                intro kz
                induction kz with
                | zero => intro k8 b8 H locs ls hkz; exact absurd hkz (Nat.not_lt_zero _)
                | succ kz ih75 =>
                  intro k8 b8 H locs ls hkz hB hk8 hb8 hP hD hS hl
                  refine lv_iload hx hb dX8_word_75 (lv_at hl 6 rfl) ?_
                  refine lv_aload_n hx hb dX8_word_77 rfl (lv_at hl 0 rfl) ?_
                  refine va_get (D := D) (ci := 6) (v := .int (nI (zx_we T tx 100 hp))) (C := RX8) (T := TX8) (N := 15) hx hb hts (by decide +kernel) hown hK.1 hP 0 rfl rfl 6 (by decide) (hts (.fieldLink RX8 103 "HomeRoundsModel" "here" "I") (by decide +kernel)) (fun _ h9 => h9) rfl dX8_word_78 ?_
                  refine lv_iload_n hx hb dX8_word_81 rfl (lv_at hl 1 rfl) ?_
                  refine lv_isub hx hb dX8_word_82 ?_
                  refine zr_ti (y := nI ((zx_we T tx 100 hp) - hp)) (pk_sub (by omega)) ?_
                  refine lv_icmp_ge (tgt := 125) hx hb dX8_word_83 (by decide) (fun cn_46 => ?_) (fun cn_46 => ?_)
                  · skip
                    have cn_46 : (zx_we T tx 100 hp) - hp ≤ k8 := (nI_leI (a := (zx_we T tx 100 hp) - hp) (b := k8) (by omega) (by omega)).mp cn_46
                    have hke : k8 = (zx_we T tx 100 hp) - hp := by omega
                    have hst9 : zx_st wd8 T hp (zx_we T tx 100 hp) = decide (b8 = 1) := zx_st_b hB hk8 (by omega)
                    refine lv_iload hx hb dX8_word_125 (lv_at hl 5 rfl) ?_
                    refine lv_if_eq (tgt := 132) hx hb dX8_word_127 (by decide) (fun cn_47 => ?_) (fun cn_47 => ?_)
                    · skip
                      have cn_47 : b8 = 0 := (nI_eq (a := b8) (b := 0) (by omega) (by omega)).mp cn_47
                      have hst : zx_st wd8 T hp (zx_we T tx 100 hp) = false := hst9.trans (decide_eq_false (by omega))
                      refine lv_iload hx hb dX8_word_132 (lv_at hl 4 rfl) ?_
                      refine lv_iconst (v := nI 1) hx hb dX8_word_134 (by rfl) ?_
                      refine lv_iadd hx hb dX8_word_135 ?_
                      refine zr_ti (y := nI (zx_bg (wd8 + 1))) ((nI_add _ _).trans (congrArg nI hg4.symm)) ?_
                      refine lv_istore_n (lv' := [(2, .int (nI (zx_bg (wd8 + 1)))), (0, .ref m0), (1, .int (nI hp)), (3, .int (nI wd8)), (4, .int (nI (zx_bg wd8 + zc_len.getD wd8 0))), (5, .int (nI b8)), (6, .int (nI k8))]) hx hb dX8_word_136 rfl hl (by decide) rfl (fun ls hl => ?_)
                      refine lv_iinc (v := nI (wd8 + 1)) (lv' := [(3, .int (nI (wd8 + 1))), (2, .int (nI (zx_bg (wd8 + 1)))), (0, .ref m0), (1, .int (nI hp)), (4, .int (nI (zx_bg wd8 + zc_len.getD wd8 0))), (5, .int (nI b8)), (6, .int (nI k8))]) hx hb dX8_word_137 hl (k := 3) rfl (nI_add _ _) (by decide) rfl (fun ls hl => ?_)
                      refine lv_goto (tgt := 36) hx hb dX8_word_140 (by decide) ?_
                      have hl : lv_has ls 7 [(0, .ref m0), (1, .int (nI hp)), (2, .int (nI (zx_bg (wd8 + 1)))), (3, .int (nI (wd8 + 1)))] := lv_sub hl [2, 3, 1, 0] rfl
                      exact ih36 (wd8 + 1) H locs ls (by omega) (by rw [hJ, zx_wf_s hw]; exact if_neg (by rw [hst]; exact Bool.noConfusion)) (by omega) hP hD hS hl
                    · skip
                      have cn_47 : ¬ (b8 = 0) := fun hz => cn_47 ((nI_eq (a := b8) (b := 0) (by omega) (by omega)).mpr hz)
                      have hst : zx_st wd8 T hp (zx_we T tx 100 hp) = true := hst9.trans (decide_eq_true (by omega))
                      refine lv_iload_n hx hb dX8_word_130 rfl (lv_at hl 3 rfl) ?_
                      subst hQ; subst hAe
                      exact W.iret (v := nI wd8) hx hb hr (fun tz htz hWz => ⟨⟨nI wd8, (zx_we T tx 100 hp, (-1)), rfl, ⟨by rw [hJ, zx_wf_s hw, if_pos hst]; exact (if_pos hw).symm, rfl, by rw [hJ, zx_wf_s hw, if_pos hst, if_pos hw]⟩, by rw [htz]; exact hP, hD⟩, hS.F htz⟩) hS.2.2 dX8_word_131
                  · skip
                    have cn_46 : ¬ ((zx_we T tx 100 hp) - hp ≤ k8) := fun hz => cn_46 ((nI_leI (a := (zx_we T tx 100 hp) - hp) (b := k8) (by omega) (by omega)).mpr hz)
                    refine lv_iload hx hb dX8_word_86 (lv_at hl 5 rfl) ?_
                    refine lv_if_eq (tgt := 125) hx hb dX8_word_88 (by decide) (fun cn_48 => ?_) (fun cn_48 => ?_)
                    · skip
                      have cn_48 : b8 = 0 := (nI_eq (a := b8) (b := 0) (by omega) (by omega)).mp cn_48
                      have hb0 : b8 = 0 := by omega
                      have hst9 : zx_st wd8 T hp (zx_we T tx 100 hp) = decide (b8 = 1) := zx_st_b hB hk8 (by omega)
                      refine lv_iload hx hb dX8_word_125 (lv_at hl 5 rfl) ?_
                      refine lv_if_eq (tgt := 132) hx hb dX8_word_127 (by decide) (fun cn_49 => ?_) (fun cn_49 => ?_)
                      · skip
                        have cn_49 : b8 = 0 := (nI_eq (a := b8) (b := 0) (by omega) (by omega)).mp cn_49
                        have hst : zx_st wd8 T hp (zx_we T tx 100 hp) = false := hst9.trans (decide_eq_false (by omega))
                        refine lv_iload hx hb dX8_word_132 (lv_at hl 4 rfl) ?_
                        refine lv_iconst (v := nI 1) hx hb dX8_word_134 (by rfl) ?_
                        refine lv_iadd hx hb dX8_word_135 ?_
                        refine zr_ti (y := nI (zx_bg (wd8 + 1))) ((nI_add _ _).trans (congrArg nI hg4.symm)) ?_
                        refine lv_istore_n (lv' := [(2, .int (nI (zx_bg (wd8 + 1)))), (0, .ref m0), (1, .int (nI hp)), (3, .int (nI wd8)), (4, .int (nI (zx_bg wd8 + zc_len.getD wd8 0))), (5, .int (nI b8)), (6, .int (nI k8))]) hx hb dX8_word_136 rfl hl (by decide) rfl (fun ls hl => ?_)
                        refine lv_iinc (v := nI (wd8 + 1)) (lv' := [(3, .int (nI (wd8 + 1))), (2, .int (nI (zx_bg (wd8 + 1)))), (0, .ref m0), (1, .int (nI hp)), (4, .int (nI (zx_bg wd8 + zc_len.getD wd8 0))), (5, .int (nI b8)), (6, .int (nI k8))]) hx hb dX8_word_137 hl (k := 3) rfl (nI_add _ _) (by decide) rfl (fun ls hl => ?_)
                        refine lv_goto (tgt := 36) hx hb dX8_word_140 (by decide) ?_
                        have hl : lv_has ls 7 [(0, .ref m0), (1, .int (nI hp)), (2, .int (nI (zx_bg (wd8 + 1)))), (3, .int (nI (wd8 + 1)))] := lv_sub hl [2, 3, 1, 0] rfl
                        exact ih36 (wd8 + 1) H locs ls (by omega) (by rw [hJ, zx_wf_s hw]; exact if_neg (by rw [hst]; exact Bool.noConfusion)) (by omega) hP hD hS hl
                      · skip
                        have cn_49 : ¬ (b8 = 0) := fun hz => cn_49 ((nI_eq (a := b8) (b := 0) (by omega) (by omega)).mpr hz)
                        have hst : zx_st wd8 T hp (zx_we T tx 100 hp) = true := hst9.trans (decide_eq_true (by omega))
                        refine lv_iload_n hx hb dX8_word_130 rfl (lv_at hl 3 rfl) ?_
                        subst hQ; subst hAe
                        exact W.iret (v := nI wd8) hx hb hr (fun tz htz hWz => ⟨⟨nI wd8, (zx_we T tx 100 hp, (-1)), rfl, ⟨by rw [hJ, zx_wf_s hw, if_pos hst]; exact (if_pos hw).symm, rfl, by rw [hJ, zx_wf_s hw, if_pos hst, if_pos hw]⟩, by rw [htz]; exact hP, hD⟩, hS.F htz⟩) hS.2.2 dX8_word_131
                    · skip
                      have cn_48 : ¬ (b8 = 0) := fun hz => cn_48 ((nI_eq (a := b8) (b := 0) (by omega) (by omega)).mpr hz)
                      obtain ⟨hB1, hB2⟩ := zx_b1 hB (by omega)
                      have hkl : k8 < zc_len.getD wd8 0 := by have := of_decide_eq_true hB1; omega
                      obtain ⟨ht1, ht2⟩ := htx2 (hp + k8) (by omega)
                      have hch := zx_bgC wd8 hw k8 hkl
                      obtain ⟨-, hc2⟩ := zc_chE wd8 (by show wd8 < 13; omega) k8 hkl
                      refine va_ldcS hx hb hown hR dX8_word_91 ?_
                      refine lv_iload_n hx hb dX8_word_93 rfl (lv_at hl 2 rfl) ?_
                      refine lv_iload hx hb dX8_word_94 (lv_at hl 6 rfl) ?_
                      refine lv_iadd hx hb dX8_word_96 ?_
                      refine zr_ti (y := nI ((zx_bg wd8) + k8)) (nI_add _ _) ?_
                      refine zr_ci hP hS (va_runV (As := [.int (nI ((zx_bg wd8) + k8))]) (rest := []) ⟨hx, hb, hml, hown, hts⟩ (c_J0_charAt_5068e l D E adK adV ad wa sa 12 (zx_bg wd8 + k8) ((by decide)) ((by show zx_bg wd8 + k8 < 38; omega))) (cwV 1 hts gX8_word_J0_charAt_5068e rfl rfl rfl (by decide +kernel) ⟨Nat.le_of_ble_eq_true rfl, Nat.le_of_ble_eq_true rfl⟩) (zrE_VK (i := 12) (by decide) hE hR hS hK (hP.sub (ws' := []) [] rfl)) rfl rfl hl.1 rfl (lv_room (Nat.le_of_ble_eq_true rfl)) dX8_word_97 ⟨Nat.zero_le _, Nat.zero_le _⟩) (fun r_50 H locs hw_51 hP hS => ?_)
                      subst hw_51
                      refine zr_ti (y := nI (zc_ch wd8 k8)) (congrArg nI hch) ?_
                      refine lv_aload_n hx hb dX8_word_100 rfl (lv_at hl 0 rfl) ?_
                      refine va_get (D := D) (ci := 6) (v := .ref w3) (C := RX8) (T := TX8) (N := 15) hx hb hts (by decide +kernel) hown hK.1 hP 0 rfl rfl 4 (by decide) (hts (.fieldLink RX8 21 "HomeRoundsModel" "text" "[I") (by decide +kernel)) (fun _ h9 => h9) rfl dX8_word_101 ?_
                      refine lv_iload_n hx hb dX8_word_104 rfl (lv_at hl 1 rfl) ?_
                      refine lv_iload hx hb dX8_word_105 (lv_at hl 6 rfl) ?_
                      refine lv_iadd hx hb dX8_word_107 ?_
                      refine zr_ti (y := nI (hp + k8)) (nI_add _ _) ?_
                      refine va_iald hx hb hK.1 hP 1 0 rfl rfl (vp_in_nI (by omega) (by omega)) dX8_word_108 ?_
                      refine zr_ti (y := nI (T (hp + k8))) ((congrArg tg (nI_clamp (by omega))).trans (ht2)) ?_
                      refine lv_icmp_ne (tgt := 116) hx hb dX8_word_109 (by decide) (fun cn_52 => ?_) (fun cn_52 => ?_)
                      · skip
                        have cn_52 : ¬ (zc_ch wd8 k8 = T (hp + k8)) := fun hz => cn_52 ((nI_eq (a := zc_ch wd8 k8) (b := T (hp + k8)) (by omega) (by omega)).mpr hz)
                        have hbr := cn_52
                        refine lv_iconst (v := nI 0) hx hb dX8_word_116 (by rfl) ?_
                        refine lv_istore (lv' := [(5, .int (nI 0)), (0, .ref m0), (1, .int (nI hp)), (2, .int (nI (zx_bg wd8))), (3, .int (nI wd8)), (4, .int (nI (zx_bg wd8 + zc_len.getD wd8 0))), (6, .int (nI k8))]) hx hb dX8_word_117 hl (by decide) rfl (fun ls hl => ?_)
                        refine lv_iinc (v := nI (k8 + 1)) (lv' := [(6, .int (nI (k8 + 1))), (5, .int (nI 0)), (0, .ref m0), (1, .int (nI hp)), (2, .int (nI (zx_bg wd8))), (3, .int (nI wd8)), (4, .int (nI (zx_bg wd8 + zc_len.getD wd8 0)))]) hx hb dX8_word_119 hl (k := 6) rfl (nI_add _ _) (by decide) rfl (fun ls hl => ?_)
                        refine lv_goto (tgt := 75) hx hb dX8_word_122 (by decide) ?_
                        have hl : lv_has ls 7 [(0, .ref m0), (1, .int (nI hp)), (2, .int (nI (zx_bg wd8))), (3, .int (nI wd8)), (4, .int (nI (zx_bg wd8 + zc_len.getD wd8 0))), (5, .int (nI 0)), (6, .int (nI (k8 + 1)))] := lv_sub hl [2, 3, 4, 5, 6, 1, 0] rfl
                        exact ih75 (k8 + 1) 0 H locs ls (by omega) (by rw [zx_eq]; first | (rw [hB1, hB2, decide_eq_true hbr]; rfl) | (rw [hB1, decide_eq_false hbr, Bool.and_false, Bool.and_false]; rfl)) (by omega) (by omega) hP hD hS hl
                      · skip
                        have cn_52 : zc_ch wd8 k8 = T (hp + k8) := (nI_eq (a := zc_ch wd8 k8) (b := T (hp + k8)) (by omega) (by omega)).mp cn_52
                        have hbr := cn_52
                        refine lv_iconst (v := nI 1) hx hb dX8_word_112 (by rfl) ?_
                        refine lv_goto (tgt := 117) hx hb dX8_word_113 (by decide) ?_
                        refine lv_istore (lv' := [(5, .int (nI 1)), (0, .ref m0), (1, .int (nI hp)), (2, .int (nI (zx_bg wd8))), (3, .int (nI wd8)), (4, .int (nI (zx_bg wd8 + zc_len.getD wd8 0))), (6, .int (nI k8))]) hx hb dX8_word_117 hl (by decide) rfl (fun ls hl => ?_)
                        refine lv_iinc (v := nI (k8 + 1)) (lv' := [(6, .int (nI (k8 + 1))), (5, .int (nI 1)), (0, .ref m0), (1, .int (nI hp)), (2, .int (nI (zx_bg wd8))), (3, .int (nI wd8)), (4, .int (nI (zx_bg wd8 + zc_len.getD wd8 0)))]) hx hb dX8_word_119 hl (k := 6) rfl (nI_add _ _) (by decide) rfl (fun ls hl => ?_)
                        refine lv_goto (tgt := 75) hx hb dX8_word_122 (by decide) ?_
                        have hl : lv_has ls 7 [(0, .ref m0), (1, .int (nI hp)), (2, .int (nI (zx_bg wd8))), (3, .int (nI wd8)), (4, .int (nI (zx_bg wd8 + zc_len.getD wd8 0))), (5, .int (nI 1)), (6, .int (nI (k8 + 1)))] := lv_sub hl [2, 3, 4, 5, 6, 1, 0] rfl
                        exact ih75 (k8 + 1) 1 H locs ls (by omega) (by rw [zx_eq]; first | (rw [hB1, hB2, decide_eq_true hbr]; rfl) | (rw [hB1, decide_eq_false hbr, Bool.and_false, Bool.and_false]; rfl)) (by omega) (by omega) hP hD hS hl
        · skip
          exact absurd cn_31 (by decide)

